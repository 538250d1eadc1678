/-! FROM 36.read.b00.lean.txt -/
section
set_option maxRecDepth 100000 in
set_option maxHeartbeats 4000000 in
theorem c_X12_toldOf (l : Launch) (X : XW) (σ : ST) (a : Nat) (v1 : Int32) (ha : q_kd X a = 12) (h0 : 0 ≤ v1.toInt) (h1 : v1.toInt ≤ 9) (hN : m_N (m_c X σ a)) : Met l yX12_toldOf (q_ws yX12_toldOf cX12_toldOf 4 (some .int)) (q_rm 0 0) (q_P X σ [.ref a, .int v1]) (q_Qi X 9 σ (fun (r : Int32) (σ' : ST) => σ' = σ ∧ (r.toInt = m_sum (m_c X σ a) 3720 v1.toInt) ∧ r = F_X12_toldOf X σ a v1)) 0 0 (q_reg X) := by
  refine q_met 9 (by first | exact rfl | decide +kernel) rfl (Nat.le_of_ble_eq_true rfl) (fun p e s m below meth c E hml hr hlk hI ls hl => ?_)
  have hx := E.1
  have hb := E.2.1
  have hl : lv_has ls 4 [(0, .ref a), (1, .int v1)] := hl
  obtain ⟨out, hout⟩ : ∃ o, o = F_X12_toldOf X σ a v1 := ⟨_, rfl⟩
  have hF := hout.symm
  unfold F_X12_toldOf at hF
  refine lv_iconst (v := 0) hx hb dX12_toldOf_0 zki_0 ?_
  refine lv_istore_n (lv' := [(2, .int 0), (0, .ref a), (1, .int v1)]) hx hb dX12_toldOf_1 rfl hl (by decide) rfl (fun ls hl => ?_)
  refine lv_iconst (v := 0) hx hb dX12_toldOf_2 zki_0 ?_
  refine lv_istore_n (lv' := [(3, .int 0), (2, .int 0), (0, .ref a), (1, .int v1)]) hx hb dX12_toldOf_3 rfl hl (by decide) rfl (fun ls hl => ?_)
  have L_4_3 : ∀ (k_3 : Nat) (x_1 : Int32) (x_2 : Int32) (H : Heap) (locs : List Loc) (ls : Array Slot), (2147483647 - x_2.toInt).toNat < k_3 → (0 ≤ x_2.toInt ∧ x_2.toInt ≤ 6) → (x_1.toInt = m_ps (m_c X σ a) v1.toInt x_2.toInt.toNat) → (F_X12_toldOf_L4_1 X v1 σ a k_3 x_1 x_2 = out) → q_I X 9 σ s.heap locs σ H → lv_has ls 4 [(0, .ref a), (1, .int v1), (2, .int x_1), (3, .int x_2)] → W p l e (q_rm 0 0) s m ([.ref a, .int v1] : List Value).toArray below meth c H locs 0 0 (MQ below (q_Qi X 9 σ (fun (r : Int32) (σ' : ST) => σ' = σ ∧ (r.toInt = m_sum (m_c X σ a) 3720 v1.toInt) ∧ r = F_X12_toldOf X σ a v1)) ([.ref a, .int v1] : List Value).toArray s 0 0 (q_reg X)) (F0 m 4 ls []) := by
    clear hF
    intro k_3
    induction k_3 with
    | zero =>
      intro x_1 x_2 H locs ls hms
      exact absurd hms (Nat.not_lt_zero _)
    | succ k_3 ih4 =>
      intro x_1 x_2 H locs ls hm4 hge4 hps hF hI hl
      replace hF := (F_X12_toldOf_L4_1_s).symm.trans hF
      unfold F_X12_toldOf_B4_1 at hF
      have pb := m_ps_bd hN ⟨h0, by omega⟩ x_2.toInt.toNat (by first | (clear h0 h1 hm4; omega) | omega)
      have pc := fun h => m_ps_bd hN ⟨h0, by omega⟩ (x_2.toInt + 1).toNat h
      have ps := m_ps_succ (m_c X σ a) v1.toInt x_2.toInt hge4.1
      refine lv_iload_n hx hb dX12_toldOf_4 rfl (lv_at hl 3 rfl) ?_
      refine lv_bipush (v := 6) hx hb dX12_toldOf_5 zkb_6 ?_
      have gc_4_x_2 := q_rng x_2
      refine q_icmp_ge (A := x_2.toInt) (B := 6) E rfl (by decide) (tgt := 34) dX12_toldOf_7 (by decide) (fun c_4 => ?_) (fun c_4 => ?_)
      · skip
        replace hF := q_ifn hF (Int.not_lt.mpr c_4)
        skip
        refine lv_iload_n hx hb dX12_toldOf_34 rfl (lv_at hl 2 rfl) ?_
        exact q_reti E hr hlk hI ⟨rfl, (by rw [← m_ps_6]; have q : x_2.toInt.toNat = 6 := (by first | (clear h0 h1 hm4 pc ps gc_4_x_2; omega) | omega); rw [q] at hps; exact hps), (hF.trans hout)⟩ dX12_toldOf_35
      · skip
        replace hF := q_ifp hF c_4
        refine lv_iload_n hx hb dX12_toldOf_10 rfl (lv_at hl 2 rfl) ?_
        refine lv_aload_n hx hb dX12_toldOf_11 rfl (lv_at hl 0 rfl) ?_
        refine gs_X12_35_12 E hI ha dX12_toldOf_12 ?_
        refine lv_sipush (v := 3754) hx hb dX12_toldOf_15 zks_3754 ?_
        refine lv_bipush (v := 10) hx hb dX12_toldOf_18 zkb_10 ?_
        refine lv_iload_n hx hb dX12_toldOf_20 rfl (lv_at hl 3 rfl) ?_
        refine lv_imul hx hb dX12_toldOf_21 ?_
        refine lv_topi (fun z_5 ez_5 => ?_)
        replace hF := q_letX hF ez_5
        have iz_5 := q_mulI (A := 10) (B := x_2.toInt) ez_5 (by decide) rfl (by first | (clear h0 h1 hm4 pc ps gc_4_x_2; omega) | omega) (by first | (clear h0 h1 hm4 pc ps gc_4_x_2; omega) | omega)
        refine lv_iadd hx hb dX12_toldOf_22 ?_
        refine lv_topi (fun z_6 ez_6 => ?_)
        replace hF := q_letX hF ez_6
        have iz_6 := q_addI (A := 3754) (B := (10 * x_2.toInt)) ez_6 (by decide) iz_5 (by first | (clear h0 h1 hm4 pc ps gc_4_x_2 iz_5; omega) | omega) (by first | (clear h0 h1 hm4 pc ps gc_4_x_2 iz_5; omega) | omega)
        refine lv_iload_n hx hb dX12_toldOf_23 rfl (lv_at hl 1 rfl) ?_
        refine lv_iadd hx hb dX12_toldOf_24 ?_
        refine lv_topi (fun z_7 ez_7 => ?_)
        replace hF := q_letX hF ez_7
        have iz_7 := q_addI (A := (3754 + (10 * x_2.toInt))) (B := v1.toInt) ez_7 iz_6 rfl (by first | (clear h0 h1 hm4 pc ps gc_4_x_2 iz_5 iz_6; omega) | omega) (by first | (clear h0 h1 hm4 pc ps gc_4_x_2 iz_5 iz_6; omega) | omega)
        refine q_iald E hI (q_tk (k' := 34) hI ha rfl (Nat.succ_ne_zero _)) ⟨by decide, rfl⟩ (by first | (clear h0 h1 hm4 pc ps gc_4_x_2 iz_5 iz_6; omega) | omega) (by rw [q_lnk (v := 4650) hI (q_tk (k' := 34) hI ha rfl (Nat.succ_ne_zero _)) rfl (by decide)]; omega) dX12_toldOf_25 ?_
        refine lv_topi (fun f_8 ef_8 => ?_)
        replace hF := q_letX hF ef_8
        have if_8 : f_8.toInt = m_c X σ a ((3754 + (10 * x_2.toInt)) + v1.toInt) := m_rd ef_8 iz_7
        have pcx := pc (by first | (clear h0 h1 hm4 pc ps gc_4_x_2 iz_5 iz_6 iz_7 if_8; omega) | omega)
        rw [ps] at pcx
        refine lv_iadd hx hb dX12_toldOf_26 ?_
        refine lv_topi (fun z_9 ez_9 => ?_)
        replace hF := q_letX hF ez_9
        have iz_9 := q_addI (A := x_1.toInt) (B := (m_c X σ a ((3754 + (10 * x_2.toInt)) + v1.toInt))) ez_9 rfl if_8 (by first | (clear h0 h1 hm4 hge4 pc gc_4_x_2 c_4 iz_5 iz_6 iz_7 if_8; omega) | omega) (by first | (clear h0 h1 hm4 hge4 pc gc_4_x_2 c_4 iz_5 iz_6 iz_7 if_8; omega) | omega)
        refine lv_istore_n (lv' := [(2, .int z_9), (0, .ref a), (1, .int v1), (3, .int x_2)]) hx hb dX12_toldOf_27 rfl hl (by decide) rfl (fun ls hl => ?_)
        obtain ⟨z_10, ez_10⟩ : ∃ y : Int32, y = x_2 + 1 := ⟨_, rfl⟩
        replace hF := q_letX hF ez_10
        refine lv_iinc (v := z_10) (lv' := [(3, .int z_10), (2, .int z_9), (0, .ref a), (1, .int v1)]) hx hb dX12_toldOf_28 hl (k := 3) rfl (by rw [ez_10]; rfl) (by decide) rfl (fun ls hl => ?_)
        have iz_10 : z_10.toInt = x_2.toInt + 1 := q_inc ez_10 (by first | (clear h0 h1 hm4 pc ps gc_4_x_2 iz_5 iz_6 iz_7 if_8 pcx iz_9; omega) | omega)
        have pz := ps
        rw [← iz_10] at pz
        refine lv_goto (tgt := 4) hx hb dX12_toldOf_31 (by decide) ?_
        exact ih4 z_9 z_10 _ _ ls (by first | (clear h0 h1 ps gc_4_x_2 iz_5 iz_6 iz_7 if_8 pcx iz_9 pz; omega) | omega) (by first | (clear h0 h1 hm4 pc ps gc_4_x_2 iz_5 iz_6 iz_7 if_8 pcx iz_9 pz; omega) | omega) (by first | (clear h0 h1 hm4 hge4 pc gc_4_x_2 c_4 iz_5 iz_6 iz_7 if_8 pcx iz_10; omega) | omega) hF hI (lv_sub hl [2, 3, 1, 0] rfl)
  exact L_4_3 ((2147483647 - (0 : Int32).toInt).toNat + 1) 0 0 _ _ ls (Nat.lt_succ_self _) (by decide) rfl hF hI (lv_sub hl [2, 3, 1, 0] rfl)

set_option maxRecDepth 100000 in
set_option maxHeartbeats 4000000 in
theorem c_X12_readLaw (l : Launch) (X : XW) (σ : ST) (a : Nat) (ha : q_kd X a = 12) (hs : 0 ≤ (σ.1 a 15).toInt ∧ (σ.1 a 15).toInt ≤ (σ.1 a 16).toInt ∧ (σ.1 a 16).toInt ≤ (σ.1 a 9).toInt ∧ (σ.1 a 9).toInt ≤ 900 ∧ 0 ≤ (σ.1 a 14).toInt ∧ (σ.1 a 14).toInt ≤ 4 ∧ (σ.1 a 14).toInt ≤ 4 * ((σ.1 a 16).toInt - (σ.1 a 15).toInt) ∧ (σ.1 a 14).toInt ≤ 4 * ((σ.1 a 9).toInt - (σ.1 a 15).toInt) ∧ 0 ≤ (σ.1 a 12).toInt) (hN : m_N (m_c X σ a)) (hz : (σ.1 a 12).toInt = 0) (hk : 2 ≤ m_c X σ a 3720) (h4 : 1 ≤ m_c X σ a 3724) : Met l yX12_readLaw (q_ws yX12_readLaw cX12_readLaw 1 none) (q_rm 3 63) (q_P X σ [.ref a]) (q_Qv X 1 σ (fun (σ' : ST) => (m_N (m_c X σ' a)) ∧ (∀ j, 0 ≤ j → j < 3720 → m_c X σ' a j = m_c X σ a j) ∧ (0 ≤ (σ'.1 a 15).toInt ∧ (σ'.1 a 15).toInt ≤ (σ'.1 a 16).toInt ∧ (σ'.1 a 16).toInt ≤ (σ'.1 a 9).toInt ∧ (σ'.1 a 9).toInt ≤ 900 ∧ 0 ≤ (σ'.1 a 14).toInt ∧ (σ'.1 a 14).toInt ≤ 4 ∧ (σ'.1 a 14).toInt ≤ 4 * ((σ'.1 a 16).toInt - (σ'.1 a 15).toInt) ∧ (σ'.1 a 14).toInt ≤ 4 * ((σ'.1 a 9).toInt - (σ'.1 a 15).toInt) ∧ 0 ≤ (σ'.1 a 12).toInt ∧ (σ'.1 a 9).toInt = (σ.1 a 9).toInt ∧ (σ.1 a 15).toInt ≤ (σ'.1 a 15).toInt ∧ (σ.1 a 12).toInt ≤ (σ'.1 a 12).toInt) ∧ ((σ.1 a 16).toInt ≤ (σ'.1 a 15).toInt + 1000 * (σ'.1 a 12).toInt) ∧ (m_c X σ' a 3720 = m_c X σ a 3720 ∧ m_c X σ' a 3721 = m_c X σ a 3721) ∧ (1 ≤ m_c X σ' a 3724 + 10 * (σ'.1 a 12).toInt) ∧ σ' = F_X12_readLaw X σ a ∧ q_ow [(12, 12), (12, 13), (12, 14), (12, 15), (12, 16), (12, 17), (12, 18), (12, 25), (34, 99)] [(12, 19)] X σ σ')) 0 0 (q_reg X) := by
  refine q_met 1 (by first | exact rfl | decide +kernel) rfl (Nat.le_of_ble_eq_true rfl) (fun p e s m below meth c E hml hr hlk hI ls hl => ?_)
  have hx := E.1
  have hb := E.2.1
  have hl : lv_has ls 1 [(0, .ref a)] := hl
  have nnσ : m_N (m_c X σ a) := hN
  have kpσ : ∀ j, 0 ≤ j → j < 3720 → m_c X σ a j = m_c X σ a j := fun _ _ _ => rfl
  have k3σ : m_c X σ a 3720 = m_c X σ a 3720 ∧ m_c X σ a 3721 = m_c X σ a 3721 := ⟨rfl, rfl⟩
  have k4σ : 1 ≤ m_c X σ a 3724 + 10 * (σ.1 a 12).toInt := (by first | (clear hs hk h4 k3σ; omega) | omega)
  have smσ : 0 ≤ (σ.1 a 15).toInt ∧ (σ.1 a 15).toInt ≤ (σ.1 a 16).toInt ∧ (σ.1 a 16).toInt ≤ (σ.1 a 9).toInt ∧ (σ.1 a 9).toInt ≤ 900 ∧ 0 ≤ (σ.1 a 14).toInt ∧ (σ.1 a 14).toInt ≤ 4 ∧ (σ.1 a 14).toInt ≤ 4 * ((σ.1 a 16).toInt - (σ.1 a 15).toInt) ∧ (σ.1 a 14).toInt ≤ 4 * ((σ.1 a 9).toInt - (σ.1 a 15).toInt) ∧ 0 ≤ (σ.1 a 12).toInt ∧ (σ.1 a 9).toInt = (σ.1 a 9).toInt ∧ (σ.1 a 15).toInt ≤ (σ.1 a 15).toInt ∧ (σ.1 a 12).toInt ≤ (σ.1 a 12).toInt := (by first | (clear hk h4 k3σ k4σ; omega) | omega)
  have beσ : (σ.1 a 16).toInt = (σ.1 a 16).toInt := rfl
  have fr_σ : q_ow [(12, 12), (12, 13), (12, 14), (12, 15), (12, 16), (12, 17), (12, 18), (12, 25), (34, 99)] [(12, 19)] X σ σ := q_ow.rf
  obtain ⟨out, hout⟩ : ∃ o, o = F_X12_readLaw X σ a := ⟨_, rfl⟩
  have hF := hout.symm
  unfold F_X12_readLaw at hF
  refine lv_aload_n hx hb dX12_readLaw_0 rfl (lv_at hl 0 rfl) ?_
  refine gs_X12_232_12 E hI ha dX12_readLaw_1 ?_
  refine lv_topi (fun f_1 ef_1 => ?_)
  replace hF := q_letX hF ef_1
  have if_1 : f_1.toInt = (σ.1 a 25).toInt := congrArg Int32.toInt ef_1
  have bf_1 : 0 ≤ f_1.toInt ∧ f_1.toInt ≤ 1 := by rw [ef_1]; exact q_bd hI ha rfl
  refine q_if_eq (A := f_1.toInt) E rfl (tgt := 16) dX12_readLaw_4 (by decide) (fun c_2 => ?_) (fun c_2 => ?_)
  · skip
    replace hF := q_ifp hF c_2
    refine lv_aload_n hx hb dX12_readLaw_16 rfl (lv_at hl 0 rfl) ?_
    refine gs_X12_187_12 E hI ha dX12_readLaw_17 ?_
    refine lv_topi (fun f_3 ef_3 => ?_)
    replace hF := q_letX hF ef_3
    have if_3 : f_3.toInt = (σ.1 a 12).toInt := congrArg Int32.toInt ef_3
    refine q_if_le (A := f_3.toInt) E rfl (tgt := 24) dX12_readLaw_20 (by decide) (fun c_4 => ?_) (fun c_4 => ?_)
    · skip
      replace hF := q_ifn hF (Int.not_lt.mpr c_4)
      refine lv_aload_n hx hb dX12_readLaw_24 rfl (lv_at hl 0 rfl) ?_
      refine lv_iconst (v := 1) hx hb dX12_readLaw_25 zki_1 ?_
      refine ps_X12_232_12 E hI ha (by decide) (by decide) (by decide) dX12_readLaw_26 (fun H locs σ_5 hσ_5 hI => ?_)
      replace hF := q_letX hF hσ_5
      have fr_σ_5 := fr_σ.si hσ_5 ha rfl
      have mv9_σ_5 : (σ_5.1 a 9).toInt = (σ.1 a 9).toInt := congrArg Int32.toInt (q_rdn hσ_5 (Or.inr (by decide)))
      have mv12_σ_5 : (σ_5.1 a 12).toInt = (σ.1 a 12).toInt := congrArg Int32.toInt (q_rdn hσ_5 (Or.inr (by decide)))
      have mv14_σ_5 : (σ_5.1 a 14).toInt = (σ.1 a 14).toInt := congrArg Int32.toInt (q_rdn hσ_5 (Or.inr (by decide)))
      have mv15_σ_5 : (σ_5.1 a 15).toInt = (σ.1 a 15).toInt := congrArg Int32.toInt (q_rdn hσ_5 (Or.inr (by decide)))
      have mv16_σ_5 : (σ_5.1 a 16).toInt = (σ.1 a 16).toInt := congrArg Int32.toInt (q_rdn hσ_5 (Or.inr (by decide)))
      have mcσ_5 := m_wo hσ_5 (m_ne ha (q_tk (f := 20) (k' := 34) hI ha rfl (by decide)) (by decide))
      have nnσ_5 : m_N (m_c X σ_5 a) := m_N.ext mcσ_5 nnσ
      have kpσ_5 : ∀ j, 0 ≤ j → j < 3720 → m_c X σ_5 a j = m_c X σ a j := fun j h0 h1 => (mcσ_5 j).trans (kpσ j h0 h1)
      have k3σ_5 : m_c X σ_5 a 3720 = m_c X σ a 3720 ∧ m_c X σ_5 a 3721 = m_c X σ a 3721 := ⟨(mcσ_5 3720).trans k3σ.1, (mcσ_5 3721).trans k3σ.2⟩
      have k4σ_5 : 1 ≤ m_c X σ_5 a 3724 + 10 * (σ_5.1 a 12).toInt := (by have := mcσ_5 3724; omega)
      have smσ_5 : 0 ≤ (σ_5.1 a 15).toInt ∧ (σ_5.1 a 15).toInt ≤ (σ_5.1 a 16).toInt ∧ (σ_5.1 a 16).toInt ≤ (σ_5.1 a 9).toInt ∧ (σ_5.1 a 9).toInt ≤ 900 ∧ 0 ≤ (σ_5.1 a 14).toInt ∧ (σ_5.1 a 14).toInt ≤ 4 ∧ (σ_5.1 a 14).toInt ≤ 4 * ((σ_5.1 a 16).toInt - (σ_5.1 a 15).toInt) ∧ (σ_5.1 a 14).toInt ≤ 4 * ((σ_5.1 a 9).toInt - (σ_5.1 a 15).toInt) ∧ 0 ≤ (σ_5.1 a 12).toInt ∧ (σ_5.1 a 9).toInt = (σ.1 a 9).toInt ∧ (σ.1 a 15).toInt ≤ (σ_5.1 a 15).toInt ∧ (σ.1 a 12).toInt ≤ (σ_5.1 a 12).toInt := (by first | (rw [mv12_σ_5, mv14_σ_5, mv15_σ_5, mv16_σ_5, mv9_σ_5]; exact smσ) | omega)
      have beσ_5 : (σ_5.1 a 16).toInt = (σ.1 a 16).toInt := (by omega)
      clear mv9_σ_5 mv12_σ_5 mv14_σ_5 mv15_σ_5 mv16_σ_5 k4σ smσ beσ
      refine lv_aload_n hx hb dX12_readLaw_29 rfl (lv_at hl 0 rfl) ?_
      refine q_cv (q_rV11_0 (rest := []) E (hml.trans hl.1.symm) hI (c_X12_next l X σ_5 a ha (by first | (clear hz hk h4 k3σ if_1 bf_1 c_2 if_3 c_4 k3σ_5 k4σ_5 smσ_5; omega) | omega) (by first | (clear hs hz hk h4 k3σ if_1 bf_1 c_2 if_3 c_4 k3σ_5 k4σ_5 beσ_5; omega) | omega) (by first | (clear hz hk h4 k3σ if_1 bf_1 c_2 if_3 c_4 k3σ_5 k4σ_5 beσ_5; omega) | omega)) kv_X12_197 ha ⟨Nat.le_of_ble_eq_true rfl, Nat.le_of_ble_eq_true rfl⟩ (Nat.le_of_ble_eq_true rfl) dX12_readLaw_30) hI (Nat.le_of_ble_eq_true rfl) (fun σ_7 H locs hpσ_7 hkσ_7 hI => ?_)
      have ahpσ_7 := hpσ_7.1
      have bhpσ_7 := hpσ_7.2.1
      have chpσ_7 := hpσ_7.2.2.1
      have dhpσ_7 := hpσ_7.2.2.2.1
      have ehpσ_7 := hpσ_7.2.2.2.2
      clear hpσ_7
      have fr_σ_7 := fr_σ_5.call ehpσ_7 rfl rfl
      replace hF := q_letX hF dhpσ_7
      have mcσ_7 := m_cK hkσ_7 hI.1 ha (by decide)
      have nnσ_7 : m_N (m_c X σ_7 a) := m_N.ext mcσ_7 nnσ_5
      have kpσ_7 : ∀ j, 0 ≤ j → j < 3720 → m_c X σ_7 a j = m_c X σ a j := fun j h0 h1 => (mcσ_7 j).trans (kpσ_5 j h0 h1)
      have k3σ_7 : m_c X σ_7 a 3720 = m_c X σ a 3720 ∧ m_c X σ_7 a 3721 = m_c X σ a 3721 := ⟨(mcσ_7 3720).trans k3σ_5.1, (mcσ_7 3721).trans k3σ_5.2⟩
      have k4σ_7 : 1 ≤ m_c X σ_7 a 3724 + 10 * (σ_7.1 a 12).toInt := (by have := mcσ_7 3724; omega)
      have smσ_7 : 0 ≤ (σ_7.1 a 15).toInt ∧ (σ_7.1 a 15).toInt ≤ (σ_7.1 a 16).toInt ∧ (σ_7.1 a 16).toInt ≤ (σ_7.1 a 9).toInt ∧ (σ_7.1 a 9).toInt ≤ 900 ∧ 0 ≤ (σ_7.1 a 14).toInt ∧ (σ_7.1 a 14).toInt ≤ 4 ∧ (σ_7.1 a 14).toInt ≤ 4 * ((σ_7.1 a 16).toInt - (σ_7.1 a 15).toInt) ∧ (σ_7.1 a 14).toInt ≤ 4 * ((σ_7.1 a 9).toInt - (σ_7.1 a 15).toInt) ∧ 0 ≤ (σ_7.1 a 12).toInt ∧ (σ_7.1 a 9).toInt = (σ.1 a 9).toInt ∧ (σ.1 a 15).toInt ≤ (σ_7.1 a 15).toInt ∧ (σ.1 a 12).toInt ≤ (σ_7.1 a 12).toInt := (by first | exact sm_nx smσ_5 bhpσ_7 chpσ_7 | omega)
      have onσ_7 : (σ.1 a 16).toInt ≤ (σ_7.1 a 15).toInt := (by first | (clear hs hz hk h4 k3σ if_1 bf_1 c_2 if_3 c_4 k3σ_5 k4σ_5 smσ_5 ahpσ_7 bhpσ_7 dhpσ_7 ehpσ_7 k3σ_7 k4σ_7 smσ_7; omega) | omega)
      clear k4σ_5 smσ_5 bhpσ_7 chpσ_7
      refine lv_aload_n hx hb dX12_readLaw_33 rfl (lv_at hl 0 rfl) ?_
      refine gs_X12_35_12 E hI ha dX12_readLaw_34 ?_
      refine lv_sipush (v := 3723) hx hb dX12_readLaw_37 zks_3723 ?_
      refine lv_iconst (v := 0) hx hb dX12_readLaw_40 zki_0 ?_
      refine lv_aload_n hx hb dX12_readLaw_41 rfl (lv_at hl 0 rfl) ?_
      refine q_ci (q_rV11_0 (rest := [.int 0, .int 3723, .ref (q_rf X a 20)]) E (hml.trans hl.1.symm) hI (c_X12_lawWord l X σ_7 a ha) kv_X12_171 ha ⟨Nat.le_of_ble_eq_true rfl, Nat.le_of_ble_eq_true rfl⟩ (Nat.le_of_ble_eq_true rfl) dX12_readLaw_42) hI (Nat.le_of_ble_eq_true rfl) (fun r_8 σ_9 H locs hpσ_9 hkσ_9 hI => ?_)
      have ahpσ_9 := hpσ_9.1
      have bhpσ_9 := hpσ_9.2.1
      have chpσ_9 := hpσ_9.2.2
      clear hpσ_9
      replace hI := q_Irw ahpσ_9 hI
      replace hF := q_letX hF chpσ_9
      have kc_10 : (0 : Int32).toInt = 0 := zt_0
      refine q_ci (q_runS (As := [.int 0, .int r_8]) (rest := [.int 3723, .ref (q_rf X a 20)]) E (hml.trans hl.1.symm) hI (c_J9_max_7cf53 l X σ_7 (0 : Int32) r_8) ks_X12_220 rfl ⟨Nat.le_of_ble_eq_true rfl, Nat.le_of_ble_eq_true rfl⟩ ⟨Nat.le_refl _, Nat.le_refl _⟩ rfl (Nat.le_of_ble_eq_true rfl) dX12_readLaw_45) hI (Nat.le_of_ble_eq_true rfl) (fun r_11 σ_12 H locs hpσ_12 hkσ_12 hI => ?_)
      have ahpσ_12 := hpσ_12.1
      have bhpσ_12 := hpσ_12.2.1
      have chpσ_12 := hpσ_12.2.2
      clear hpσ_12
      replace hI := q_Irw ahpσ_12 hI
      replace hF := q_letX hF chpσ_12
      refine q_iastN E hI (q_tk (k' := 34) hI ha rfl (Nat.succ_ne_zero _)) ⟨by decide, rfl⟩ (by decide) (by rw [q_lnk (v := 4650) hI (q_tk (k' := 34) hI ha rfl (Nat.succ_ne_zero _)) rfl (by decide)]; decide) (show 1 < 2 by decide) (q_inU rfl) dX12_readLaw_48 (fun H locs σ_13 hσ_13 hI => ?_)
      replace hF := q_letX hF hσ_13
      have fr_σ_13 := fr_σ_7.si hσ_13 (q_tk (k' := 34) hI ha rfl (Nat.succ_ne_zero _)) rfl
      have mv9_σ_13 : (σ_13.1 a 9).toInt = (σ_7.1 a 9).toInt := congrArg Int32.toInt (q_rdn hσ_13 (Or.inl (m_ne ha (q_tk (k' := 34) hI ha rfl (Nat.succ_ne_zero _)) (by decide))))
      have mv12_σ_13 : (σ_13.1 a 12).toInt = (σ_7.1 a 12).toInt := congrArg Int32.toInt (q_rdn hσ_13 (Or.inl (m_ne ha (q_tk (k' := 34) hI ha rfl (Nat.succ_ne_zero _)) (by decide))))
      have mv14_σ_13 : (σ_13.1 a 14).toInt = (σ_7.1 a 14).toInt := congrArg Int32.toInt (q_rdn hσ_13 (Or.inl (m_ne ha (q_tk (k' := 34) hI ha rfl (Nat.succ_ne_zero _)) (by decide))))
      have mv15_σ_13 : (σ_13.1 a 15).toInt = (σ_7.1 a 15).toInt := congrArg Int32.toInt (q_rdn hσ_13 (Or.inl (m_ne ha (q_tk (k' := 34) hI ha rfl (Nat.succ_ne_zero _)) (by decide))))
      have mv16_σ_13 : (σ_13.1 a 16).toInt = (σ_7.1 a 16).toInt := congrArg Int32.toInt (q_rdn hσ_13 (Or.inl (m_ne ha (q_tk (k' := 34) hI ha rfl (Nat.succ_ne_zero _)) (by decide))))
      have mcσ_13 := m_wr (v := r_11) (A := 3723) hσ_13 (by decide) (by decide)
      have nnσ_13 : m_N (m_c X σ_13 a) := m_N.wr nnσ_7 mcσ_13 (by first | (clear hs hz hk h4 k3σ if_1 bf_1 c_2 if_3 c_4 k3σ_5 beσ_5 ahpσ_7 dhpσ_7 ehpσ_7 k3σ_7 k4σ_7 smσ_7 onσ_7 ahpσ_9 chpσ_9 ahpσ_12 chpσ_12 mv9_σ_13 mv12_σ_13 mv14_σ_13 mv15_σ_13 mv16_σ_13; omega) | omega)
      have kpσ_13 : ∀ j, 0 ≤ j → j < 3720 → m_c X σ_13 a j = m_c X σ a j := fun j h0 h1 => by rw [mcσ_13 j h0, if_neg (by first | (clear hs hz hk h4 k3σ if_1 bf_1 c_2 if_3 c_4 k3σ_5 beσ_5 ahpσ_7 dhpσ_7 ehpσ_7 k3σ_7 k4σ_7 smσ_7 onσ_7 ahpσ_9 bhpσ_9 chpσ_9 kc_10 ahpσ_12 bhpσ_12 chpσ_12 mv9_σ_13 mv12_σ_13 mv14_σ_13 mv15_σ_13 mv16_σ_13; omega) | omega)]; exact kpσ_7 j h0 h1
      have k3σ_13 : m_c X σ_13 a 3720 = m_c X σ a 3720 ∧ m_c X σ_13 a 3721 = m_c X σ a 3721 := ⟨by rw [mcσ_13 3720 (by decide), if_neg (by first | (clear hs hz hk h4 k3σ if_1 bf_1 c_2 if_3 c_4 k3σ_5 beσ_5 ahpσ_7 dhpσ_7 ehpσ_7 k3σ_7 k4σ_7 smσ_7 onσ_7 ahpσ_9 bhpσ_9 chpσ_9 kc_10 ahpσ_12 bhpσ_12 chpσ_12 mv9_σ_13 mv12_σ_13 mv14_σ_13 mv15_σ_13 mv16_σ_13; omega) | omega)]; exact k3σ_7.1, by rw [mcσ_13 3721 (by decide), if_neg (by first | (clear hs hz hk h4 k3σ if_1 bf_1 c_2 if_3 c_4 k3σ_5 beσ_5 ahpσ_7 dhpσ_7 ehpσ_7 k3σ_7 k4σ_7 smσ_7 onσ_7 ahpσ_9 bhpσ_9 chpσ_9 kc_10 ahpσ_12 bhpσ_12 chpσ_12 mv9_σ_13 mv12_σ_13 mv14_σ_13 mv15_σ_13 mv16_σ_13; omega) | omega)]; exact k3σ_7.2⟩
      have k4σ_13 : 1 ≤ m_c X σ_13 a 3724 + 10 * (σ_13.1 a 12).toInt := (by have := mcσ_13 3724 (by decide); rw [if_neg (by first | (clear hs hz hk h4 k3σ if_1 bf_1 c_2 if_3 c_4 k3σ_5 beσ_5 ahpσ_7 dhpσ_7 ehpσ_7 k3σ_7 k4σ_7 smσ_7 onσ_7 ahpσ_9 bhpσ_9 chpσ_9 kc_10 ahpσ_12 bhpσ_12 chpσ_12 mv9_σ_13 mv12_σ_13 mv14_σ_13 mv15_σ_13 mv16_σ_13 k3σ_13; omega) | omega)] at this; omega)
      have smσ_13 : 0 ≤ (σ_13.1 a 15).toInt ∧ (σ_13.1 a 15).toInt ≤ (σ_13.1 a 16).toInt ∧ (σ_13.1 a 16).toInt ≤ (σ_13.1 a 9).toInt ∧ (σ_13.1 a 9).toInt ≤ 900 ∧ 0 ≤ (σ_13.1 a 14).toInt ∧ (σ_13.1 a 14).toInt ≤ 4 ∧ (σ_13.1 a 14).toInt ≤ 4 * ((σ_13.1 a 16).toInt - (σ_13.1 a 15).toInt) ∧ (σ_13.1 a 14).toInt ≤ 4 * ((σ_13.1 a 9).toInt - (σ_13.1 a 15).toInt) ∧ 0 ≤ (σ_13.1 a 12).toInt ∧ (σ_13.1 a 9).toInt = (σ.1 a 9).toInt ∧ (σ.1 a 15).toInt ≤ (σ_13.1 a 15).toInt ∧ (σ.1 a 12).toInt ≤ (σ_13.1 a 12).toInt := (by first | (rw [mv12_σ_13, mv14_σ_13, mv15_σ_13, mv16_σ_13, mv9_σ_13]; exact smσ_7) | omega)
      have onσ_13 : (σ.1 a 16).toInt ≤ (σ_13.1 a 15).toInt := (by first | (clear hs hz hk h4 k3σ if_1 bf_1 c_2 if_3 c_4 k3σ_5 ahpσ_7 dhpσ_7 ehpσ_7 k3σ_7 k4σ_7 smσ_7 ahpσ_9 bhpσ_9 chpσ_9 kc_10 ahpσ_12 bhpσ_12 chpσ_12 mv9_σ_13 mv12_σ_13 mv14_σ_13 mv16_σ_13 k3σ_13 k4σ_13 smσ_13; omega) | omega)
      clear mv9_σ_13 mv12_σ_13 mv14_σ_13 mv15_σ_13 mv16_σ_13 k4σ_7 smσ_7 onσ_7
      refine lv_aload_n hx hb dX12_readLaw_49 rfl (lv_at hl 0 rfl) ?_
      refine lv_aload_n hx hb dX12_readLaw_50 rfl (lv_at hl 0 rfl) ?_
      refine q_ci (q_rV11_0 (rest := [.ref a]) E (hml.trans hl.1.symm) hI (c_X12_lawWord l X σ_13 a ha) kv_X12_171 ha ⟨Nat.le_of_ble_eq_true rfl, Nat.le_of_ble_eq_true rfl⟩ (Nat.le_of_ble_eq_true rfl) dX12_readLaw_51) hI (Nat.le_of_ble_eq_true rfl) (fun r_14 σ_15 H locs hpσ_15 hkσ_15 hI => ?_)
      have ahpσ_15 := hpσ_15.1
      have bhpσ_15 := hpσ_15.2.1
      have chpσ_15 := hpσ_15.2.2
      clear hpσ_15
      replace hI := q_Irw ahpσ_15 hI
      replace hF := q_letX hF chpσ_15
      refine q_if_lt (A := r_14.toInt) E rfl (tgt := 61) dX12_readLaw_54 (by decide) (fun c_16 => ?_) (fun c_16 => ?_)
      · skip
        replace hF := q_ifp hF c_16
        refine lv_iconst (v := 0) hx hb dX12_readLaw_61 zki_0 ?_
        have kc_17 : (0 : Int32).toInt = 0 := zt_0
        refine q_cv (q_rV11_1 (rest := []) E (hml.trans hl.1.symm) hI (c_X12_must l X σ_13 a (0 : Int32) ha (by first | exact sm_9 smσ_13 | exact hs | omega) (by first | (clear hs hz hk h4 k3σ if_1 bf_1 c_2 if_3 c_4 k3σ_5 beσ_5 ahpσ_7 dhpσ_7 ehpσ_7 k3σ_7 ahpσ_9 bhpσ_9 chpσ_9 ahpσ_12 bhpσ_12 chpσ_12 k3σ_13 k4σ_13 smσ_13 onσ_13 ahpσ_15 bhpσ_15 chpσ_15 c_16 kc_17; omega) | omega)) kv_X12_216 ha ⟨Nat.le_of_ble_eq_true rfl, Nat.le_of_ble_eq_true rfl⟩ (Nat.le_of_ble_eq_true rfl) dX12_readLaw_62) hI (Nat.le_of_ble_eq_true rfl) (fun σ_19 H locs hpσ_19 hkσ_19 hI => ?_)
        have ahpσ_19 := hpσ_19.1
        have bhpσ_19 := hpσ_19.2.1
        have chpσ_19 := hpσ_19.2.2.1
        have dhpσ_19 := hpσ_19.2.2.2.1
        have ehpσ_19 := hpσ_19.2.2.2.2
        clear hpσ_19
        have fr_σ_19 := fr_σ_13.call ehpσ_19 rfl rfl
        replace hF := q_letX hF dhpσ_19
        have mcσ_19 := m_cK hkσ_19 hI.1 ha (by decide)
        have nnσ_19 : m_N (m_c X σ_19 a) := m_N.ext mcσ_19 nnσ_13
        have kpσ_19 : ∀ j, 0 ≤ j → j < 3720 → m_c X σ_19 a j = m_c X σ a j := fun j h0 h1 => (mcσ_19 j).trans (kpσ_13 j h0 h1)
        have k3σ_19 : m_c X σ_19 a 3720 = m_c X σ a 3720 ∧ m_c X σ_19 a 3721 = m_c X σ a 3721 := ⟨(mcσ_19 3720).trans k3σ_13.1, (mcσ_19 3721).trans k3σ_13.2⟩
        have k4σ_19 : 1 ≤ m_c X σ_19 a 3724 + 10 * (σ_19.1 a 12).toInt := (by have := mcσ_19 3724; omega)
        have smσ_19 : 0 ≤ (σ_19.1 a 15).toInt ∧ (σ_19.1 a 15).toInt ≤ (σ_19.1 a 16).toInt ∧ (σ_19.1 a 16).toInt ≤ (σ_19.1 a 9).toInt ∧ (σ_19.1 a 9).toInt ≤ 900 ∧ 0 ≤ (σ_19.1 a 14).toInt ∧ (σ_19.1 a 14).toInt ≤ 4 ∧ (σ_19.1 a 14).toInt ≤ 4 * ((σ_19.1 a 16).toInt - (σ_19.1 a 15).toInt) ∧ (σ_19.1 a 14).toInt ≤ 4 * ((σ_19.1 a 9).toInt - (σ_19.1 a 15).toInt) ∧ 0 ≤ (σ_19.1 a 12).toInt ∧ (σ_19.1 a 9).toInt = (σ.1 a 9).toInt ∧ (σ.1 a 15).toInt ≤ (σ_19.1 a 15).toInt ∧ (σ.1 a 12).toInt ≤ (σ_19.1 a 12).toInt := (by first | exact sm_tr smσ_13 bhpσ_19 | exact sm_tr smσ_13 chpσ_19 | omega)
        have onσ_19 : (σ.1 a 16).toInt ≤ (σ_19.1 a 15).toInt := (by first | (clear hs hz hk h4 k3σ if_1 bf_1 c_2 if_3 c_4 k3σ_5 ahpσ_7 dhpσ_7 ehpσ_7 k3σ_7 ahpσ_9 bhpσ_9 chpσ_9 kc_10 ahpσ_12 bhpσ_12 chpσ_12 k3σ_13 k4σ_13 smσ_13 ahpσ_15 bhpσ_15 chpσ_15 c_16 kc_17 ahpσ_19 chpσ_19 dhpσ_19 ehpσ_19 k3σ_19 k4σ_19 smσ_19; omega) | omega)
        clear k4σ_13 smσ_13 onσ_13 bhpσ_19
        exact q_retv E hr hlk hI ⟨nnσ_19, kpσ_19, (by first | exact smσ_19 | omega), (by first | exact smσ_19 | omega), k3σ_19, k4σ_19, (hF.trans hout), fr_σ_19⟩ dX12_readLaw_65
      · skip
        replace hF := q_ifn hF (Int.not_lt.mpr c_16)
        refine lv_iconst (v := 1) hx hb dX12_readLaw_57 zki_1 ?_
        refine lv_goto (tgt := 62) hx hb dX12_readLaw_58 (by decide) ?_
        have kc_20 : (1 : Int32).toInt = 1 := zt_1
        refine q_cv (q_rV11_1 (rest := []) E (hml.trans hl.1.symm) hI (c_X12_must l X σ_13 a (1 : Int32) ha (by first | exact sm_9 smσ_13 | exact hs | omega) (by first | (clear hs hk h4 k3σ if_1 bf_1 c_2 k3σ_5 beσ_5 ahpσ_7 dhpσ_7 ehpσ_7 k3σ_7 ahpσ_9 bhpσ_9 chpσ_9 kc_10 ahpσ_12 bhpσ_12 chpσ_12 k3σ_13 ahpσ_15 bhpσ_15 chpσ_15 c_16; omega) | omega)) kv_X12_216 ha ⟨Nat.le_of_ble_eq_true rfl, Nat.le_of_ble_eq_true rfl⟩ (Nat.le_of_ble_eq_true rfl) dX12_readLaw_62) hI (Nat.le_of_ble_eq_true rfl) (fun σ_22 H locs hpσ_22 hkσ_22 hI => ?_)
        have ahpσ_22 := hpσ_22.1
        have bhpσ_22 := hpσ_22.2.1
        have chpσ_22 := hpσ_22.2.2.1
        have dhpσ_22 := hpσ_22.2.2.2.1
        have ehpσ_22 := hpσ_22.2.2.2.2
        clear hpσ_22
        have fr_σ_22 := fr_σ_13.call ehpσ_22 rfl rfl
        replace hF := q_letX hF dhpσ_22
        have mcσ_22 := m_cK hkσ_22 hI.1 ha (by decide)
        have nnσ_22 : m_N (m_c X σ_22 a) := m_N.ext mcσ_22 nnσ_13
        have kpσ_22 : ∀ j, 0 ≤ j → j < 3720 → m_c X σ_22 a j = m_c X σ a j := fun j h0 h1 => (mcσ_22 j).trans (kpσ_13 j h0 h1)
        have k3σ_22 : m_c X σ_22 a 3720 = m_c X σ a 3720 ∧ m_c X σ_22 a 3721 = m_c X σ a 3721 := ⟨(mcσ_22 3720).trans k3σ_13.1, (mcσ_22 3721).trans k3σ_13.2⟩
        have k4σ_22 : 1 ≤ m_c X σ_22 a 3724 + 10 * (σ_22.1 a 12).toInt := (by have := mcσ_22 3724; omega)
        have smσ_22 : 0 ≤ (σ_22.1 a 15).toInt ∧ (σ_22.1 a 15).toInt ≤ (σ_22.1 a 16).toInt ∧ (σ_22.1 a 16).toInt ≤ (σ_22.1 a 9).toInt ∧ (σ_22.1 a 9).toInt ≤ 900 ∧ 0 ≤ (σ_22.1 a 14).toInt ∧ (σ_22.1 a 14).toInt ≤ 4 ∧ (σ_22.1 a 14).toInt ≤ 4 * ((σ_22.1 a 16).toInt - (σ_22.1 a 15).toInt) ∧ (σ_22.1 a 14).toInt ≤ 4 * ((σ_22.1 a 9).toInt - (σ_22.1 a 15).toInt) ∧ 0 ≤ (σ_22.1 a 12).toInt ∧ (σ_22.1 a 9).toInt = (σ.1 a 9).toInt ∧ (σ.1 a 15).toInt ≤ (σ_22.1 a 15).toInt ∧ (σ.1 a 12).toInt ≤ (σ_22.1 a 12).toInt := (by first | exact sm_tr smσ_13 bhpσ_22 | exact sm_tr smσ_13 chpσ_22 | omega)
        have onσ_22 : (σ.1 a 16).toInt ≤ (σ_22.1 a 15).toInt := (by first | (clear hs hz hk h4 k3σ if_1 bf_1 c_2 if_3 c_4 k3σ_5 ahpσ_7 dhpσ_7 ehpσ_7 k3σ_7 ahpσ_9 bhpσ_9 chpσ_9 kc_10 ahpσ_12 bhpσ_12 chpσ_12 k3σ_13 ahpσ_15 bhpσ_15 chpσ_15 c_16 kc_20 ahpσ_22 chpσ_22 dhpσ_22 ehpσ_22 k3σ_22 k4σ_22 smσ_22; omega) | omega)
        clear k4σ_13 smσ_13 onσ_13 bhpσ_22
        exact q_retv E hr hlk hI ⟨nnσ_22, kpσ_22, (by first | exact smσ_22 | omega), (by first | exact smσ_22 | omega), k3σ_22, k4σ_22, (hF.trans hout), fr_σ_22⟩ dX12_readLaw_65
    · skip
      replace hF := q_ifp hF c_4
      exact q_retv E hr hlk hI ⟨nnσ, kpσ, (by first | exact smσ | omega), (by first | exact smσ | omega), k3σ, k4σ, (hF.trans hout), fr_σ⟩ dX12_readLaw_23
  · skip
    replace hF := q_ifn hF c_2
    refine lv_aload_n hx hb dX12_readLaw_7 rfl (lv_at hl 0 rfl) ?_
    refine lv_iconst (v := 5) hx hb dX12_readLaw_8 zki_5 ?_
    refine lv_aload_n hx hb dX12_readLaw_9 rfl (lv_at hl 0 rfl) ?_
    refine gs_X12_104_12 E hI ha dX12_readLaw_10 ?_
    refine lv_topi (fun f_23 ef_23 => ?_)
    replace hF := q_letX hF ef_23
    have if_23 : f_23.toInt = (σ.1 a 15).toInt := congrArg Int32.toInt ef_23
    have kc_24 : (5 : Int32).toInt = 5 := zt_5
    refine q_cv (q_rV11_2 (rest := []) E (hml.trans hl.1.symm) hI (c_X12_fail l X σ a (5 : Int32) f_23 ha (by first | (clear hs hk h4 k3σ if_1 bf_1 c_2 if_23 kc_24; omega) | omega) (by first | (clear hs hz hk h4 k3σ if_1 bf_1 c_2 if_23; omega) | omega)) kv_X12_193 ha ⟨Nat.le_of_ble_eq_true rfl, Nat.le_of_ble_eq_true rfl⟩ (Nat.le_of_ble_eq_true rfl) dX12_readLaw_13) hI (Nat.le_of_ble_eq_true rfl) (fun σ_26 H locs hpσ_26 hkσ_26 hI => ?_)
    have ahpσ_26 := hpσ_26.1
    have bhpσ_26 := hpσ_26.2.1
    have chpσ_26 := hpσ_26.2.2.1
    have dhpσ_26 := hpσ_26.2.2.2.1
    have ehpσ_26 := hpσ_26.2.2.2.2
    clear hpσ_26
    have fr_σ_26 := fr_σ.call ehpσ_26 rfl rfl
    replace hF := q_letX hF dhpσ_26
    have mcσ_26 := m_cK hkσ_26 hI.1 ha (by decide)
    have nnσ_26 : m_N (m_c X σ_26 a) := m_N.ext mcσ_26 nnσ
    have kpσ_26 : ∀ j, 0 ≤ j → j < 3720 → m_c X σ_26 a j = m_c X σ a j := fun j h0 h1 => (mcσ_26 j).trans (kpσ j h0 h1)
    have k3σ_26 : m_c X σ_26 a 3720 = m_c X σ a 3720 ∧ m_c X σ_26 a 3721 = m_c X σ a 3721 := ⟨(mcσ_26 3720).trans k3σ.1, (mcσ_26 3721).trans k3σ.2⟩
    have k4σ_26 : 1 ≤ m_c X σ_26 a 3724 + 10 * (σ_26.1 a 12).toInt := (by have := mcσ_26 3724; omega)
    have smσ_26 : 0 ≤ (σ_26.1 a 15).toInt ∧ (σ_26.1 a 15).toInt ≤ (σ_26.1 a 16).toInt ∧ (σ_26.1 a 16).toInt ≤ (σ_26.1 a 9).toInt ∧ (σ_26.1 a 9).toInt ≤ 900 ∧ 0 ≤ (σ_26.1 a 14).toInt ∧ (σ_26.1 a 14).toInt ≤ 4 ∧ (σ_26.1 a 14).toInt ≤ 4 * ((σ_26.1 a 16).toInt - (σ_26.1 a 15).toInt) ∧ (σ_26.1 a 14).toInt ≤ 4 * ((σ_26.1 a 9).toInt - (σ_26.1 a 15).toInt) ∧ 0 ≤ (σ_26.1 a 12).toInt ∧ (σ_26.1 a 9).toInt = (σ.1 a 9).toInt ∧ (σ.1 a 15).toInt ≤ (σ_26.1 a 15).toInt ∧ (σ.1 a 12).toInt ≤ (σ_26.1 a 12).toInt := (by first | exact sm_fl smσ bhpσ_26 chpσ_26 | omega)
    have beσ_26 : (σ_26.1 a 16).toInt = (σ.1 a 16).toInt := (by first | (clear hs hz hk h4 k3σ if_1 bf_1 c_2 if_23 kc_24 ahpσ_26 chpσ_26 dhpσ_26 ehpσ_26 k3σ_26 k4σ_26 smσ_26; omega) | omega)
    clear k4σ smσ beσ bhpσ_26
    refine lv_aload_n hx hb dX12_readLaw_16 rfl (lv_at hl 0 rfl) ?_
    refine gs_X12_187_12 E hI ha dX12_readLaw_17 ?_
    refine lv_topi (fun f_27 ef_27 => ?_)
    replace hF := q_letX hF ef_27
    have if_27 : f_27.toInt = (σ_26.1 a 12).toInt := congrArg Int32.toInt ef_27
    refine q_if_le (A := f_27.toInt) E rfl (tgt := 24) dX12_readLaw_20 (by decide) (fun c_28 => ?_) (fun c_28 => ?_)
    · skip
      replace hF := q_ifn hF (Int.not_lt.mpr c_28)
      refine lv_aload_n hx hb dX12_readLaw_24 rfl (lv_at hl 0 rfl) ?_
      refine lv_iconst (v := 1) hx hb dX12_readLaw_25 zki_1 ?_
      refine ps_X12_232_12 E hI ha (by decide) (by decide) (by decide) dX12_readLaw_26 (fun H locs σ_29 hσ_29 hI => ?_)
      replace hF := q_letX hF hσ_29
      have fr_σ_29 := fr_σ_26.si hσ_29 ha rfl
      have mv9_σ_29 : (σ_29.1 a 9).toInt = (σ_26.1 a 9).toInt := congrArg Int32.toInt (q_rdn hσ_29 (Or.inr (by decide)))
      have mv12_σ_29 : (σ_29.1 a 12).toInt = (σ_26.1 a 12).toInt := congrArg Int32.toInt (q_rdn hσ_29 (Or.inr (by decide)))
      have mv14_σ_29 : (σ_29.1 a 14).toInt = (σ_26.1 a 14).toInt := congrArg Int32.toInt (q_rdn hσ_29 (Or.inr (by decide)))
      have mv15_σ_29 : (σ_29.1 a 15).toInt = (σ_26.1 a 15).toInt := congrArg Int32.toInt (q_rdn hσ_29 (Or.inr (by decide)))
      have mv16_σ_29 : (σ_29.1 a 16).toInt = (σ_26.1 a 16).toInt := congrArg Int32.toInt (q_rdn hσ_29 (Or.inr (by decide)))
      have mcσ_29 := m_wo hσ_29 (m_ne ha (q_tk (f := 20) (k' := 34) hI ha rfl (by decide)) (by decide))
      have nnσ_29 : m_N (m_c X σ_29 a) := m_N.ext mcσ_29 nnσ_26
      have kpσ_29 : ∀ j, 0 ≤ j → j < 3720 → m_c X σ_29 a j = m_c X σ a j := fun j h0 h1 => (mcσ_29 j).trans (kpσ_26 j h0 h1)
      have k3σ_29 : m_c X σ_29 a 3720 = m_c X σ a 3720 ∧ m_c X σ_29 a 3721 = m_c X σ a 3721 := ⟨(mcσ_29 3720).trans k3σ_26.1, (mcσ_29 3721).trans k3σ_26.2⟩
      have k4σ_29 : 1 ≤ m_c X σ_29 a 3724 + 10 * (σ_29.1 a 12).toInt := (by have := mcσ_29 3724; omega)
      have smσ_29 : 0 ≤ (σ_29.1 a 15).toInt ∧ (σ_29.1 a 15).toInt ≤ (σ_29.1 a 16).toInt ∧ (σ_29.1 a 16).toInt ≤ (σ_29.1 a 9).toInt ∧ (σ_29.1 a 9).toInt ≤ 900 ∧ 0 ≤ (σ_29.1 a 14).toInt ∧ (σ_29.1 a 14).toInt ≤ 4 ∧ (σ_29.1 a 14).toInt ≤ 4 * ((σ_29.1 a 16).toInt - (σ_29.1 a 15).toInt) ∧ (σ_29.1 a 14).toInt ≤ 4 * ((σ_29.1 a 9).toInt - (σ_29.1 a 15).toInt) ∧ 0 ≤ (σ_29.1 a 12).toInt ∧ (σ_29.1 a 9).toInt = (σ.1 a 9).toInt ∧ (σ.1 a 15).toInt ≤ (σ_29.1 a 15).toInt ∧ (σ.1 a 12).toInt ≤ (σ_29.1 a 12).toInt := (by first | (rw [mv12_σ_29, mv14_σ_29, mv15_σ_29, mv16_σ_29, mv9_σ_29]; exact smσ_26) | omega)
      have beσ_29 : (σ_29.1 a 16).toInt = (σ.1 a 16).toInt := (by first | (clear hs hz hk h4 k3σ if_1 bf_1 c_2 if_23 kc_24 ahpσ_26 dhpσ_26 ehpσ_26 k3σ_26 k4σ_26 smσ_26 beσ_26 mv9_σ_29 mv12_σ_29 mv14_σ_29 mv15_σ_29 mv16_σ_29 k3σ_29 k4σ_29 smσ_29; omega) | omega)
      clear mv9_σ_29 mv12_σ_29 mv14_σ_29 mv15_σ_29 mv16_σ_29 k4σ_26 smσ_26 beσ_26
      refine lv_aload_n hx hb dX12_readLaw_29 rfl (lv_at hl 0 rfl) ?_
      refine q_cv (q_rV11_0 (rest := []) E (hml.trans hl.1.symm) hI (c_X12_next l X σ_29 a ha (by first | (clear hs hz hk h4 k3σ if_1 bf_1 c_2 if_23 kc_24 ahpσ_26 dhpσ_26 ehpσ_26 k3σ_26 k3σ_29 k4σ_29 smσ_29 beσ_29; omega) | omega) (by first | (clear hs hz hk h4 k3σ if_1 bf_1 c_2 if_23 kc_24 ahpσ_26 dhpσ_26 ehpσ_26 k3σ_26 k3σ_29 k4σ_29 smσ_29 beσ_29; omega) | omega) (by first | (clear hs hz hk h4 k3σ if_1 bf_1 c_2 if_23 kc_24 ahpσ_26 dhpσ_26 ehpσ_26 k3σ_26 k3σ_29 k4σ_29 smσ_29 beσ_29; omega) | omega)) kv_X12_197 ha ⟨Nat.le_of_ble_eq_true rfl, Nat.le_of_ble_eq_true rfl⟩ (Nat.le_of_ble_eq_true rfl) dX12_readLaw_30) hI (Nat.le_of_ble_eq_true rfl) (fun σ_31 H locs hpσ_31 hkσ_31 hI => ?_)
      have ahpσ_31 := hpσ_31.1
      have bhpσ_31 := hpσ_31.2.1
      have chpσ_31 := hpσ_31.2.2.1
      have dhpσ_31 := hpσ_31.2.2.2.1
      have ehpσ_31 := hpσ_31.2.2.2.2
      clear hpσ_31
      have fr_σ_31 := fr_σ_29.call ehpσ_31 rfl rfl
      replace hF := q_letX hF dhpσ_31
      have mcσ_31 := m_cK hkσ_31 hI.1 ha (by decide)
      have nnσ_31 : m_N (m_c X σ_31 a) := m_N.ext mcσ_31 nnσ_29
      have kpσ_31 : ∀ j, 0 ≤ j → j < 3720 → m_c X σ_31 a j = m_c X σ a j := fun j h0 h1 => (mcσ_31 j).trans (kpσ_29 j h0 h1)
      have k3σ_31 : m_c X σ_31 a 3720 = m_c X σ a 3720 ∧ m_c X σ_31 a 3721 = m_c X σ a 3721 := ⟨(mcσ_31 3720).trans k3σ_29.1, (mcσ_31 3721).trans k3σ_29.2⟩
      have k4σ_31 : 1 ≤ m_c X σ_31 a 3724 + 10 * (σ_31.1 a 12).toInt := (by have := mcσ_31 3724; omega)
      have smσ_31 : 0 ≤ (σ_31.1 a 15).toInt ∧ (σ_31.1 a 15).toInt ≤ (σ_31.1 a 16).toInt ∧ (σ_31.1 a 16).toInt ≤ (σ_31.1 a 9).toInt ∧ (σ_31.1 a 9).toInt ≤ 900 ∧ 0 ≤ (σ_31.1 a 14).toInt ∧ (σ_31.1 a 14).toInt ≤ 4 ∧ (σ_31.1 a 14).toInt ≤ 4 * ((σ_31.1 a 16).toInt - (σ_31.1 a 15).toInt) ∧ (σ_31.1 a 14).toInt ≤ 4 * ((σ_31.1 a 9).toInt - (σ_31.1 a 15).toInt) ∧ 0 ≤ (σ_31.1 a 12).toInt ∧ (σ_31.1 a 9).toInt = (σ.1 a 9).toInt ∧ (σ.1 a 15).toInt ≤ (σ_31.1 a 15).toInt ∧ (σ.1 a 12).toInt ≤ (σ_31.1 a 12).toInt := (by first | exact sm_nx smσ_29 bhpσ_31 chpσ_31 | omega)
      have onσ_31 : (σ.1 a 16).toInt ≤ (σ_31.1 a 15).toInt := (by first | (clear hs hz hk h4 k3σ if_1 bf_1 c_2 if_23 kc_24 ahpσ_26 dhpσ_26 ehpσ_26 k3σ_26 k3σ_29 k4σ_29 smσ_29 beσ_29 ahpσ_31 bhpσ_31 chpσ_31 dhpσ_31 ehpσ_31 k3σ_31 k4σ_31 smσ_31; omega) | omega)
      clear k4σ_29 smσ_29 bhpσ_31 chpσ_31
      refine lv_aload_n hx hb dX12_readLaw_33 rfl (lv_at hl 0 rfl) ?_
      refine gs_X12_35_12 E hI ha dX12_readLaw_34 ?_
      refine lv_sipush (v := 3723) hx hb dX12_readLaw_37 zks_3723 ?_
      refine lv_iconst (v := 0) hx hb dX12_readLaw_40 zki_0 ?_
      refine lv_aload_n hx hb dX12_readLaw_41 rfl (lv_at hl 0 rfl) ?_
      refine q_ci (q_rV11_0 (rest := [.int 0, .int 3723, .ref (q_rf X a 20)]) E (hml.trans hl.1.symm) hI (c_X12_lawWord l X σ_31 a ha) kv_X12_171 ha ⟨Nat.le_of_ble_eq_true rfl, Nat.le_of_ble_eq_true rfl⟩ (Nat.le_of_ble_eq_true rfl) dX12_readLaw_42) hI (Nat.le_of_ble_eq_true rfl) (fun r_32 σ_33 H locs hpσ_33 hkσ_33 hI => ?_)
      have ahpσ_33 := hpσ_33.1
      have bhpσ_33 := hpσ_33.2.1
      have chpσ_33 := hpσ_33.2.2
      clear hpσ_33
      replace hI := q_Irw ahpσ_33 hI
      replace hF := q_letX hF chpσ_33
      have kc_34 : (0 : Int32).toInt = 0 := zt_0
      refine q_ci (q_runS (As := [.int 0, .int r_32]) (rest := [.int 3723, .ref (q_rf X a 20)]) E (hml.trans hl.1.symm) hI (c_J9_max_7cf53 l X σ_31 (0 : Int32) r_32) ks_X12_220 rfl ⟨Nat.le_of_ble_eq_true rfl, Nat.le_of_ble_eq_true rfl⟩ ⟨Nat.le_refl _, Nat.le_refl _⟩ rfl (Nat.le_of_ble_eq_true rfl) dX12_readLaw_45) hI (Nat.le_of_ble_eq_true rfl) (fun r_35 σ_36 H locs hpσ_36 hkσ_36 hI => ?_)
      have ahpσ_36 := hpσ_36.1
      have bhpσ_36 := hpσ_36.2.1
      have chpσ_36 := hpσ_36.2.2
      clear hpσ_36
      replace hI := q_Irw ahpσ_36 hI
      replace hF := q_letX hF chpσ_36
      refine q_iastN E hI (q_tk (k' := 34) hI ha rfl (Nat.succ_ne_zero _)) ⟨by decide, rfl⟩ (by decide) (by rw [q_lnk (v := 4650) hI (q_tk (k' := 34) hI ha rfl (Nat.succ_ne_zero _)) rfl (by decide)]; decide) (show 1 < 2 by decide) (q_inU rfl) dX12_readLaw_48 (fun H locs σ_37 hσ_37 hI => ?_)
      replace hF := q_letX hF hσ_37
      have fr_σ_37 := fr_σ_31.si hσ_37 (q_tk (k' := 34) hI ha rfl (Nat.succ_ne_zero _)) rfl
      have mv9_σ_37 : (σ_37.1 a 9).toInt = (σ_31.1 a 9).toInt := congrArg Int32.toInt (q_rdn hσ_37 (Or.inl (m_ne ha (q_tk (k' := 34) hI ha rfl (Nat.succ_ne_zero _)) (by decide))))
      have mv12_σ_37 : (σ_37.1 a 12).toInt = (σ_31.1 a 12).toInt := congrArg Int32.toInt (q_rdn hσ_37 (Or.inl (m_ne ha (q_tk (k' := 34) hI ha rfl (Nat.succ_ne_zero _)) (by decide))))
      have mv14_σ_37 : (σ_37.1 a 14).toInt = (σ_31.1 a 14).toInt := congrArg Int32.toInt (q_rdn hσ_37 (Or.inl (m_ne ha (q_tk (k' := 34) hI ha rfl (Nat.succ_ne_zero _)) (by decide))))
      have mv15_σ_37 : (σ_37.1 a 15).toInt = (σ_31.1 a 15).toInt := congrArg Int32.toInt (q_rdn hσ_37 (Or.inl (m_ne ha (q_tk (k' := 34) hI ha rfl (Nat.succ_ne_zero _)) (by decide))))
      have mv16_σ_37 : (σ_37.1 a 16).toInt = (σ_31.1 a 16).toInt := congrArg Int32.toInt (q_rdn hσ_37 (Or.inl (m_ne ha (q_tk (k' := 34) hI ha rfl (Nat.succ_ne_zero _)) (by decide))))
      have mcσ_37 := m_wr (v := r_35) (A := 3723) hσ_37 (by decide) (by decide)
      have nnσ_37 : m_N (m_c X σ_37 a) := m_N.wr nnσ_31 mcσ_37 (by first | (clear hs hz hk h4 k3σ if_1 bf_1 c_2 if_23 kc_24 ahpσ_26 dhpσ_26 ehpσ_26 k3σ_26 k3σ_29 beσ_29 ahpσ_31 dhpσ_31 ehpσ_31 k3σ_31 k4σ_31 smσ_31 onσ_31 ahpσ_33 bhpσ_33 chpσ_33 kc_34 ahpσ_36 bhpσ_36 chpσ_36 mv9_σ_37 mv12_σ_37 mv14_σ_37 mv15_σ_37 mv16_σ_37; omega) | omega)
      have kpσ_37 : ∀ j, 0 ≤ j → j < 3720 → m_c X σ_37 a j = m_c X σ a j := fun j h0 h1 => by rw [mcσ_37 j h0, if_neg (by first | (clear hs hz hk h4 k3σ if_1 bf_1 c_2 if_23 kc_24 ahpσ_26 dhpσ_26 ehpσ_26 k3σ_26 k3σ_29 beσ_29 ahpσ_31 dhpσ_31 ehpσ_31 k3σ_31 k4σ_31 smσ_31 onσ_31 ahpσ_33 bhpσ_33 chpσ_33 kc_34 ahpσ_36 bhpσ_36 chpσ_36 mv9_σ_37 mv12_σ_37 mv14_σ_37 mv15_σ_37 mv16_σ_37; omega) | omega)]; exact kpσ_31 j h0 h1
      have k3σ_37 : m_c X σ_37 a 3720 = m_c X σ a 3720 ∧ m_c X σ_37 a 3721 = m_c X σ a 3721 := ⟨by rw [mcσ_37 3720 (by decide), if_neg (by first | (clear hs hz hk h4 k3σ if_1 bf_1 c_2 if_23 kc_24 ahpσ_26 dhpσ_26 ehpσ_26 k3σ_26 k3σ_29 beσ_29 ahpσ_31 dhpσ_31 ehpσ_31 k3σ_31 k4σ_31 smσ_31 onσ_31 ahpσ_33 bhpσ_33 chpσ_33 kc_34 ahpσ_36 bhpσ_36 chpσ_36 mv9_σ_37 mv12_σ_37 mv14_σ_37 mv15_σ_37 mv16_σ_37; omega) | omega)]; exact k3σ_31.1, by rw [mcσ_37 3721 (by decide), if_neg (by first | (clear hs hz hk h4 k3σ if_1 bf_1 c_2 if_23 kc_24 ahpσ_26 dhpσ_26 ehpσ_26 k3σ_26 k3σ_29 beσ_29 ahpσ_31 dhpσ_31 ehpσ_31 k3σ_31 k4σ_31 smσ_31 onσ_31 ahpσ_33 bhpσ_33 chpσ_33 kc_34 ahpσ_36 bhpσ_36 chpσ_36 mv9_σ_37 mv12_σ_37 mv14_σ_37 mv15_σ_37 mv16_σ_37; omega) | omega)]; exact k3σ_31.2⟩
      have k4σ_37 : 1 ≤ m_c X σ_37 a 3724 + 10 * (σ_37.1 a 12).toInt := (by have := mcσ_37 3724 (by decide); rw [if_neg (by first | (clear hs hz hk h4 k3σ if_1 bf_1 c_2 if_23 kc_24 ahpσ_26 dhpσ_26 ehpσ_26 k3σ_26 k3σ_29 beσ_29 ahpσ_31 dhpσ_31 ehpσ_31 k3σ_31 k4σ_31 smσ_31 onσ_31 ahpσ_33 bhpσ_33 chpσ_33 kc_34 ahpσ_36 bhpσ_36 chpσ_36 mv9_σ_37 mv12_σ_37 mv14_σ_37 mv15_σ_37 mv16_σ_37 k3σ_37; omega) | omega)] at this; omega)
      have smσ_37 : 0 ≤ (σ_37.1 a 15).toInt ∧ (σ_37.1 a 15).toInt ≤ (σ_37.1 a 16).toInt ∧ (σ_37.1 a 16).toInt ≤ (σ_37.1 a 9).toInt ∧ (σ_37.1 a 9).toInt ≤ 900 ∧ 0 ≤ (σ_37.1 a 14).toInt ∧ (σ_37.1 a 14).toInt ≤ 4 ∧ (σ_37.1 a 14).toInt ≤ 4 * ((σ_37.1 a 16).toInt - (σ_37.1 a 15).toInt) ∧ (σ_37.1 a 14).toInt ≤ 4 * ((σ_37.1 a 9).toInt - (σ_37.1 a 15).toInt) ∧ 0 ≤ (σ_37.1 a 12).toInt ∧ (σ_37.1 a 9).toInt = (σ.1 a 9).toInt ∧ (σ.1 a 15).toInt ≤ (σ_37.1 a 15).toInt ∧ (σ.1 a 12).toInt ≤ (σ_37.1 a 12).toInt := (by first | (rw [mv12_σ_37, mv14_σ_37, mv15_σ_37, mv16_σ_37, mv9_σ_37]; exact smσ_31) | omega)
      have onσ_37 : (σ.1 a 16).toInt ≤ (σ_37.1 a 15).toInt := (by first | (clear hs hz hk h4 k3σ if_1 bf_1 c_2 if_23 kc_24 ahpσ_26 dhpσ_26 ehpσ_26 k3σ_26 k3σ_29 beσ_29 ahpσ_31 dhpσ_31 ehpσ_31 k3σ_31 k4σ_31 smσ_31 onσ_31 ahpσ_33 bhpσ_33 chpσ_33 kc_34 ahpσ_36 bhpσ_36 chpσ_36 mv9_σ_37 mv12_σ_37 mv14_σ_37 mv15_σ_37 mv16_σ_37 k3σ_37 k4σ_37 smσ_37; omega) | omega)
      clear mv9_σ_37 mv12_σ_37 mv14_σ_37 mv15_σ_37 mv16_σ_37 k4σ_31 smσ_31 onσ_31
      refine lv_aload_n hx hb dX12_readLaw_49 rfl (lv_at hl 0 rfl) ?_
      refine lv_aload_n hx hb dX12_readLaw_50 rfl (lv_at hl 0 rfl) ?_
      refine q_ci (q_rV11_0 (rest := [.ref a]) E (hml.trans hl.1.symm) hI (c_X12_lawWord l X σ_37 a ha) kv_X12_171 ha ⟨Nat.le_of_ble_eq_true rfl, Nat.le_of_ble_eq_true rfl⟩ (Nat.le_of_ble_eq_true rfl) dX12_readLaw_51) hI (Nat.le_of_ble_eq_true rfl) (fun r_38 σ_39 H locs hpσ_39 hkσ_39 hI => ?_)
      have ahpσ_39 := hpσ_39.1
      have bhpσ_39 := hpσ_39.2.1
      have chpσ_39 := hpσ_39.2.2
      clear hpσ_39
      replace hI := q_Irw ahpσ_39 hI
      replace hF := q_letX hF chpσ_39
      refine q_if_lt (A := r_38.toInt) E rfl (tgt := 61) dX12_readLaw_54 (by decide) (fun c_40 => ?_) (fun c_40 => ?_)
      · skip
        replace hF := q_ifp hF c_40
        refine lv_iconst (v := 0) hx hb dX12_readLaw_61 zki_0 ?_
        have kc_41 : (0 : Int32).toInt = 0 := zt_0
        refine q_cv (q_rV11_1 (rest := []) E (hml.trans hl.1.symm) hI (c_X12_must l X σ_37 a (0 : Int32) ha (by first | exact sm_9 smσ_37 | exact hs | omega) (by first | (clear hz hk h4 k3σ if_1 bf_1 c_2 if_23 kc_24 ahpσ_26 dhpσ_26 ehpσ_26 k3σ_26 k3σ_29 beσ_29 ahpσ_31 dhpσ_31 ehpσ_31 k3σ_31 ahpσ_33 bhpσ_33 chpσ_33 kc_34 ahpσ_36 bhpσ_36 chpσ_36 k3σ_37 k4σ_37 smσ_37 onσ_37 ahpσ_39 bhpσ_39 chpσ_39 c_40 kc_41; omega) | omega)) kv_X12_216 ha ⟨Nat.le_of_ble_eq_true rfl, Nat.le_of_ble_eq_true rfl⟩ (Nat.le_of_ble_eq_true rfl) dX12_readLaw_62) hI (Nat.le_of_ble_eq_true rfl) (fun σ_43 H locs hpσ_43 hkσ_43 hI => ?_)
        have ahpσ_43 := hpσ_43.1
        have bhpσ_43 := hpσ_43.2.1
        have chpσ_43 := hpσ_43.2.2.1
        have dhpσ_43 := hpσ_43.2.2.2.1
        have ehpσ_43 := hpσ_43.2.2.2.2
        clear hpσ_43
        have fr_σ_43 := fr_σ_37.call ehpσ_43 rfl rfl
        replace hF := q_letX hF dhpσ_43
        have mcσ_43 := m_cK hkσ_43 hI.1 ha (by decide)
        have nnσ_43 : m_N (m_c X σ_43 a) := m_N.ext mcσ_43 nnσ_37
        have kpσ_43 : ∀ j, 0 ≤ j → j < 3720 → m_c X σ_43 a j = m_c X σ a j := fun j h0 h1 => (mcσ_43 j).trans (kpσ_37 j h0 h1)
        have k3σ_43 : m_c X σ_43 a 3720 = m_c X σ a 3720 ∧ m_c X σ_43 a 3721 = m_c X σ a 3721 := ⟨(mcσ_43 3720).trans k3σ_37.1, (mcσ_43 3721).trans k3σ_37.2⟩
        have k4σ_43 : 1 ≤ m_c X σ_43 a 3724 + 10 * (σ_43.1 a 12).toInt := (by have := mcσ_43 3724; omega)
        have smσ_43 : 0 ≤ (σ_43.1 a 15).toInt ∧ (σ_43.1 a 15).toInt ≤ (σ_43.1 a 16).toInt ∧ (σ_43.1 a 16).toInt ≤ (σ_43.1 a 9).toInt ∧ (σ_43.1 a 9).toInt ≤ 900 ∧ 0 ≤ (σ_43.1 a 14).toInt ∧ (σ_43.1 a 14).toInt ≤ 4 ∧ (σ_43.1 a 14).toInt ≤ 4 * ((σ_43.1 a 16).toInt - (σ_43.1 a 15).toInt) ∧ (σ_43.1 a 14).toInt ≤ 4 * ((σ_43.1 a 9).toInt - (σ_43.1 a 15).toInt) ∧ 0 ≤ (σ_43.1 a 12).toInt ∧ (σ_43.1 a 9).toInt = (σ.1 a 9).toInt ∧ (σ.1 a 15).toInt ≤ (σ_43.1 a 15).toInt ∧ (σ.1 a 12).toInt ≤ (σ_43.1 a 12).toInt := (by first | exact sm_tr smσ_37 bhpσ_43 | exact sm_tr smσ_37 chpσ_43 | omega)
        have onσ_43 : (σ.1 a 16).toInt ≤ (σ_43.1 a 15).toInt := (by first | (clear hs hz hk h4 k3σ if_1 bf_1 c_2 if_23 kc_24 ahpσ_26 dhpσ_26 ehpσ_26 k3σ_26 k3σ_29 beσ_29 ahpσ_31 dhpσ_31 ehpσ_31 k3σ_31 ahpσ_33 bhpσ_33 chpσ_33 kc_34 ahpσ_36 bhpσ_36 chpσ_36 k3σ_37 k4σ_37 smσ_37 onσ_37 ahpσ_39 bhpσ_39 chpσ_39 c_40 kc_41 ahpσ_43 bhpσ_43 chpσ_43 dhpσ_43 ehpσ_43 k3σ_43 k4σ_43 smσ_43; omega) | omega)
        clear k4σ_37 smσ_37 onσ_37 bhpσ_43
        exact q_retv E hr hlk hI ⟨nnσ_43, kpσ_43, (by first | exact smσ_43 | omega), (by first | exact smσ_43 | omega), k3σ_43, k4σ_43, (hF.trans hout), fr_σ_43⟩ dX12_readLaw_65
      · skip
        replace hF := q_ifn hF (Int.not_lt.mpr c_40)
        refine lv_iconst (v := 1) hx hb dX12_readLaw_57 zki_1 ?_
        refine lv_goto (tgt := 62) hx hb dX12_readLaw_58 (by decide) ?_
        have kc_44 : (1 : Int32).toInt = 1 := zt_1
        refine q_cv (q_rV11_1 (rest := []) E (hml.trans hl.1.symm) hI (c_X12_must l X σ_37 a (1 : Int32) ha (by first | exact sm_9 smσ_37 | exact hs | omega) (by first | (clear hs hz hk h4 k3σ if_1 bf_1 c_2 if_23 kc_24 ahpσ_26 dhpσ_26 ehpσ_26 k3σ_26 k3σ_29 beσ_29 ahpσ_31 dhpσ_31 ehpσ_31 k3σ_31 ahpσ_33 bhpσ_33 chpσ_33 kc_34 ahpσ_36 bhpσ_36 chpσ_36 k3σ_37 ahpσ_39 bhpσ_39 chpσ_39 c_40 kc_44; omega) | omega)) kv_X12_216 ha ⟨Nat.le_of_ble_eq_true rfl, Nat.le_of_ble_eq_true rfl⟩ (Nat.le_of_ble_eq_true rfl) dX12_readLaw_62) hI (Nat.le_of_ble_eq_true rfl) (fun σ_46 H locs hpσ_46 hkσ_46 hI => ?_)
        have ahpσ_46 := hpσ_46.1
        have bhpσ_46 := hpσ_46.2.1
        have chpσ_46 := hpσ_46.2.2.1
        have dhpσ_46 := hpσ_46.2.2.2.1
        have ehpσ_46 := hpσ_46.2.2.2.2
        clear hpσ_46
        have fr_σ_46 := fr_σ_37.call ehpσ_46 rfl rfl
        replace hF := q_letX hF dhpσ_46
        have mcσ_46 := m_cK hkσ_46 hI.1 ha (by decide)
        have nnσ_46 : m_N (m_c X σ_46 a) := m_N.ext mcσ_46 nnσ_37
        have kpσ_46 : ∀ j, 0 ≤ j → j < 3720 → m_c X σ_46 a j = m_c X σ a j := fun j h0 h1 => (mcσ_46 j).trans (kpσ_37 j h0 h1)
        have k3σ_46 : m_c X σ_46 a 3720 = m_c X σ a 3720 ∧ m_c X σ_46 a 3721 = m_c X σ a 3721 := ⟨(mcσ_46 3720).trans k3σ_37.1, (mcσ_46 3721).trans k3σ_37.2⟩
        have k4σ_46 : 1 ≤ m_c X σ_46 a 3724 + 10 * (σ_46.1 a 12).toInt := (by have := mcσ_46 3724; omega)
        have smσ_46 : 0 ≤ (σ_46.1 a 15).toInt ∧ (σ_46.1 a 15).toInt ≤ (σ_46.1 a 16).toInt ∧ (σ_46.1 a 16).toInt ≤ (σ_46.1 a 9).toInt ∧ (σ_46.1 a 9).toInt ≤ 900 ∧ 0 ≤ (σ_46.1 a 14).toInt ∧ (σ_46.1 a 14).toInt ≤ 4 ∧ (σ_46.1 a 14).toInt ≤ 4 * ((σ_46.1 a 16).toInt - (σ_46.1 a 15).toInt) ∧ (σ_46.1 a 14).toInt ≤ 4 * ((σ_46.1 a 9).toInt - (σ_46.1 a 15).toInt) ∧ 0 ≤ (σ_46.1 a 12).toInt ∧ (σ_46.1 a 9).toInt = (σ.1 a 9).toInt ∧ (σ.1 a 15).toInt ≤ (σ_46.1 a 15).toInt ∧ (σ.1 a 12).toInt ≤ (σ_46.1 a 12).toInt := (by first | exact sm_tr smσ_37 bhpσ_46 | exact sm_tr smσ_37 chpσ_46 | omega)
        have onσ_46 : (σ.1 a 16).toInt ≤ (σ_46.1 a 15).toInt := (by first | (clear hs hz hk h4 k3σ if_1 bf_1 c_2 if_23 kc_24 ahpσ_26 dhpσ_26 ehpσ_26 k3σ_26 k3σ_29 beσ_29 ahpσ_31 dhpσ_31 ehpσ_31 k3σ_31 ahpσ_33 bhpσ_33 chpσ_33 kc_34 ahpσ_36 bhpσ_36 chpσ_36 k3σ_37 ahpσ_39 bhpσ_39 chpσ_39 c_40 kc_44 ahpσ_46 bhpσ_46 chpσ_46 dhpσ_46 ehpσ_46 k3σ_46 k4σ_46 smσ_46; omega) | omega)
        clear k4σ_37 smσ_37 onσ_37 bhpσ_46
        exact q_retv E hr hlk hI ⟨nnσ_46, kpσ_46, (by first | exact smσ_46 | omega), (by first | exact smσ_46 | omega), k3σ_46, k4σ_46, (hF.trans hout), fr_σ_46⟩ dX12_readLaw_65
    · skip
      replace hF := q_ifp hF c_28
      exact q_retv E hr hlk hI ⟨nnσ_26, kpσ_26, (by first | exact smσ_26 | omega), (by first | exact smσ_26 | omega), k3σ_26, k4σ_26, (hF.trans hout), fr_σ_26⟩ dX12_readLaw_23

set_option maxRecDepth 100000 in
set_option maxHeartbeats 4000000 in
theorem c_X12_readMost (l : Launch) (X : XW) (σ : ST) (a : Nat) (ha : q_kd X a = 12) (hs : 0 ≤ (σ.1 a 15).toInt ∧ (σ.1 a 15).toInt ≤ (σ.1 a 16).toInt ∧ (σ.1 a 16).toInt ≤ (σ.1 a 9).toInt ∧ (σ.1 a 9).toInt ≤ 900 ∧ 0 ≤ (σ.1 a 14).toInt ∧ (σ.1 a 14).toInt ≤ 4 ∧ (σ.1 a 14).toInt ≤ 4 * ((σ.1 a 16).toInt - (σ.1 a 15).toInt) ∧ (σ.1 a 14).toInt ≤ 4 * ((σ.1 a 9).toInt - (σ.1 a 15).toInt) ∧ 0 ≤ (σ.1 a 12).toInt) (hN : m_N (m_c X σ a)) (hz : (σ.1 a 12).toInt = 0) (hk : 2 ≤ m_c X σ a 3720) (h4 : 1 ≤ m_c X σ a 3724) : Met l yX12_readMost (q_ws yX12_readMost cX12_readMost 1 none) (q_rm 3 65) (q_P X σ [.ref a]) (q_Qv X 1 σ (fun (σ' : ST) => (m_N (m_c X σ' a)) ∧ (∀ j, 0 ≤ j → j < 3720 → m_c X σ' a j = m_c X σ a j) ∧ (0 ≤ (σ'.1 a 15).toInt ∧ (σ'.1 a 15).toInt ≤ (σ'.1 a 16).toInt ∧ (σ'.1 a 16).toInt ≤ (σ'.1 a 9).toInt ∧ (σ'.1 a 9).toInt ≤ 900 ∧ 0 ≤ (σ'.1 a 14).toInt ∧ (σ'.1 a 14).toInt ≤ 4 ∧ (σ'.1 a 14).toInt ≤ 4 * ((σ'.1 a 16).toInt - (σ'.1 a 15).toInt) ∧ (σ'.1 a 14).toInt ≤ 4 * ((σ'.1 a 9).toInt - (σ'.1 a 15).toInt) ∧ 0 ≤ (σ'.1 a 12).toInt ∧ (σ'.1 a 9).toInt = (σ.1 a 9).toInt ∧ (σ.1 a 15).toInt ≤ (σ'.1 a 15).toInt ∧ (σ.1 a 12).toInt ≤ (σ'.1 a 12).toInt) ∧ ((σ.1 a 16).toInt ≤ (σ'.1 a 15).toInt + 1000 * (σ'.1 a 12).toInt) ∧ (m_c X σ' a 3720 = m_c X σ a 3720 ∧ m_c X σ' a 3721 = m_c X σ a 3721) ∧ (1 ≤ m_c X σ' a 3724 + 10 * (σ'.1 a 12).toInt) ∧ σ' = F_X12_readMost X σ a ∧ q_ow [(12, 12), (12, 13), (12, 14), (12, 15), (12, 16), (12, 17), (12, 18), (12, 26), (34, 99)] [(12, 19)] X σ σ')) 0 0 (q_reg X) := by
  refine q_met 1 (by first | exact rfl | decide +kernel) rfl (Nat.le_of_ble_eq_true rfl) (fun p e s m below meth c E hml hr hlk hI ls hl => ?_)
  have hx := E.1
  have hb := E.2.1
  have hl : lv_has ls 1 [(0, .ref a)] := hl
  have nnσ : m_N (m_c X σ a) := hN
  have kpσ : ∀ j, 0 ≤ j → j < 3720 → m_c X σ a j = m_c X σ a j := fun _ _ _ => rfl
  have k3σ : m_c X σ a 3720 = m_c X σ a 3720 ∧ m_c X σ a 3721 = m_c X σ a 3721 := ⟨rfl, rfl⟩
  have k4σ : 1 ≤ m_c X σ a 3724 + 10 * (σ.1 a 12).toInt := (by omega)
  have smσ : 0 ≤ (σ.1 a 15).toInt ∧ (σ.1 a 15).toInt ≤ (σ.1 a 16).toInt ∧ (σ.1 a 16).toInt ≤ (σ.1 a 9).toInt ∧ (σ.1 a 9).toInt ≤ 900 ∧ 0 ≤ (σ.1 a 14).toInt ∧ (σ.1 a 14).toInt ≤ 4 ∧ (σ.1 a 14).toInt ≤ 4 * ((σ.1 a 16).toInt - (σ.1 a 15).toInt) ∧ (σ.1 a 14).toInt ≤ 4 * ((σ.1 a 9).toInt - (σ.1 a 15).toInt) ∧ 0 ≤ (σ.1 a 12).toInt ∧ (σ.1 a 9).toInt = (σ.1 a 9).toInt ∧ (σ.1 a 15).toInt ≤ (σ.1 a 15).toInt ∧ (σ.1 a 12).toInt ≤ (σ.1 a 12).toInt := (by omega)
  have beσ : (σ.1 a 16).toInt = (σ.1 a 16).toInt := rfl
  have fr_σ : q_ow [(12, 12), (12, 13), (12, 14), (12, 15), (12, 16), (12, 17), (12, 18), (12, 26), (34, 99)] [(12, 19)] X σ σ := q_ow.rf
  obtain ⟨out, hout⟩ : ∃ o, o = F_X12_readMost X σ a := ⟨_, rfl⟩
  have hF := hout.symm
  unfold F_X12_readMost at hF
  refine lv_aload_n hx hb dX12_readMost_0 rfl (lv_at hl 0 rfl) ?_
  refine gs_X12_236_12 E hI ha dX12_readMost_1 ?_
  refine lv_topi (fun f_1 ef_1 => ?_)
  replace hF := q_letX hF ef_1
  have if_1 : f_1.toInt = (σ.1 a 26).toInt := congrArg Int32.toInt ef_1
  have bf_1 : 0 ≤ f_1.toInt ∧ f_1.toInt ≤ 1 := by rw [ef_1]; exact q_bd hI ha rfl
  refine q_if_eq (A := f_1.toInt) E rfl (tgt := 16) dX12_readMost_4 (by decide) (fun c_2 => ?_) (fun c_2 => ?_)
  · skip
    replace hF := q_ifp hF c_2
    refine lv_aload_n hx hb dX12_readMost_16 rfl (lv_at hl 0 rfl) ?_
    refine gs_X12_187_12 E hI ha dX12_readMost_17 ?_
    refine lv_topi (fun f_3 ef_3 => ?_)
    replace hF := q_letX hF ef_3
    have if_3 : f_3.toInt = (σ.1 a 12).toInt := congrArg Int32.toInt ef_3
    refine q_if_le (A := f_3.toInt) E rfl (tgt := 24) dX12_readMost_20 (by decide) (fun c_4 => ?_) (fun c_4 => ?_)
    · skip
      replace hF := q_ifn hF (Int.not_lt.mpr c_4)
      refine lv_aload_n hx hb dX12_readMost_24 rfl (lv_at hl 0 rfl) ?_
      refine lv_iconst (v := 1) hx hb dX12_readMost_25 zki_1 ?_
      refine ps_X12_236_12 E hI ha (by decide) (by decide) (by decide) dX12_readMost_26 (fun H locs σ_5 hσ_5 hI => ?_)
      replace hF := q_letX hF hσ_5
      have fr_σ_5 := fr_σ.si hσ_5 ha rfl
      have mv9_σ_5 : (σ_5.1 a 9).toInt = (σ.1 a 9).toInt := congrArg Int32.toInt (q_rdn hσ_5 (Or.inr (by decide)))
      have mv12_σ_5 : (σ_5.1 a 12).toInt = (σ.1 a 12).toInt := congrArg Int32.toInt (q_rdn hσ_5 (Or.inr (by decide)))
      have mv14_σ_5 : (σ_5.1 a 14).toInt = (σ.1 a 14).toInt := congrArg Int32.toInt (q_rdn hσ_5 (Or.inr (by decide)))
      have mv15_σ_5 : (σ_5.1 a 15).toInt = (σ.1 a 15).toInt := congrArg Int32.toInt (q_rdn hσ_5 (Or.inr (by decide)))
      have mv16_σ_5 : (σ_5.1 a 16).toInt = (σ.1 a 16).toInt := congrArg Int32.toInt (q_rdn hσ_5 (Or.inr (by decide)))
      have mcσ_5 := m_wo hσ_5 (m_ne ha (q_tk (f := 20) (k' := 34) hI ha rfl (by decide)) (by decide))
      have nnσ_5 : m_N (m_c X σ_5 a) := m_N.ext mcσ_5 nnσ
      have kpσ_5 : ∀ j, 0 ≤ j → j < 3720 → m_c X σ_5 a j = m_c X σ a j := fun j h0 h1 => (mcσ_5 j).trans (kpσ j h0 h1)
      have k3σ_5 : m_c X σ_5 a 3720 = m_c X σ a 3720 ∧ m_c X σ_5 a 3721 = m_c X σ a 3721 := ⟨(mcσ_5 3720).trans k3σ.1, (mcσ_5 3721).trans k3σ.2⟩
      have k4σ_5 : 1 ≤ m_c X σ_5 a 3724 + 10 * (σ_5.1 a 12).toInt := (by have := mcσ_5 3724; omega)
      have smσ_5 : 0 ≤ (σ_5.1 a 15).toInt ∧ (σ_5.1 a 15).toInt ≤ (σ_5.1 a 16).toInt ∧ (σ_5.1 a 16).toInt ≤ (σ_5.1 a 9).toInt ∧ (σ_5.1 a 9).toInt ≤ 900 ∧ 0 ≤ (σ_5.1 a 14).toInt ∧ (σ_5.1 a 14).toInt ≤ 4 ∧ (σ_5.1 a 14).toInt ≤ 4 * ((σ_5.1 a 16).toInt - (σ_5.1 a 15).toInt) ∧ (σ_5.1 a 14).toInt ≤ 4 * ((σ_5.1 a 9).toInt - (σ_5.1 a 15).toInt) ∧ 0 ≤ (σ_5.1 a 12).toInt ∧ (σ_5.1 a 9).toInt = (σ.1 a 9).toInt ∧ (σ.1 a 15).toInt ≤ (σ_5.1 a 15).toInt ∧ (σ.1 a 12).toInt ≤ (σ_5.1 a 12).toInt := (by first | (rw [mv12_σ_5, mv14_σ_5, mv15_σ_5, mv16_σ_5, mv9_σ_5]; exact smσ) | omega)
      have beσ_5 : (σ_5.1 a 16).toInt = (σ.1 a 16).toInt := (by omega)
      clear mv9_σ_5 mv12_σ_5 mv14_σ_5 mv15_σ_5 mv16_σ_5 k4σ smσ beσ
      refine lv_aload_n hx hb dX12_readMost_29 rfl (lv_at hl 0 rfl) ?_
      refine q_cv (q_rV11_0 (rest := []) E (hml.trans hl.1.symm) hI (c_X12_next l X σ_5 a ha (by omega) (by omega) (by omega)) kv_X12_197 ha ⟨Nat.le_of_ble_eq_true rfl, Nat.le_of_ble_eq_true rfl⟩ (Nat.le_of_ble_eq_true rfl) dX12_readMost_30) hI (Nat.le_of_ble_eq_true rfl) (fun σ_7 H locs hpσ_7 hkσ_7 hI => ?_)
      have ahpσ_7 := hpσ_7.1
      have bhpσ_7 := hpσ_7.2.1
      have chpσ_7 := hpσ_7.2.2.1
      have dhpσ_7 := hpσ_7.2.2.2.1
      have ehpσ_7 := hpσ_7.2.2.2.2
      clear hpσ_7
      have fr_σ_7 := fr_σ_5.call ehpσ_7 rfl rfl
      replace hF := q_letX hF dhpσ_7
      have mcσ_7 := m_cK hkσ_7 hI.1 ha (by decide)
      have nnσ_7 : m_N (m_c X σ_7 a) := m_N.ext mcσ_7 nnσ_5
      have kpσ_7 : ∀ j, 0 ≤ j → j < 3720 → m_c X σ_7 a j = m_c X σ a j := fun j h0 h1 => (mcσ_7 j).trans (kpσ_5 j h0 h1)
      have k3σ_7 : m_c X σ_7 a 3720 = m_c X σ a 3720 ∧ m_c X σ_7 a 3721 = m_c X σ a 3721 := ⟨(mcσ_7 3720).trans k3σ_5.1, (mcσ_7 3721).trans k3σ_5.2⟩
      have k4σ_7 : 1 ≤ m_c X σ_7 a 3724 + 10 * (σ_7.1 a 12).toInt := (by have := mcσ_7 3724; omega)
      have smσ_7 : 0 ≤ (σ_7.1 a 15).toInt ∧ (σ_7.1 a 15).toInt ≤ (σ_7.1 a 16).toInt ∧ (σ_7.1 a 16).toInt ≤ (σ_7.1 a 9).toInt ∧ (σ_7.1 a 9).toInt ≤ 900 ∧ 0 ≤ (σ_7.1 a 14).toInt ∧ (σ_7.1 a 14).toInt ≤ 4 ∧ (σ_7.1 a 14).toInt ≤ 4 * ((σ_7.1 a 16).toInt - (σ_7.1 a 15).toInt) ∧ (σ_7.1 a 14).toInt ≤ 4 * ((σ_7.1 a 9).toInt - (σ_7.1 a 15).toInt) ∧ 0 ≤ (σ_7.1 a 12).toInt ∧ (σ_7.1 a 9).toInt = (σ.1 a 9).toInt ∧ (σ.1 a 15).toInt ≤ (σ_7.1 a 15).toInt ∧ (σ.1 a 12).toInt ≤ (σ_7.1 a 12).toInt := (by first | exact sm_nx smσ_5 bhpσ_7 chpσ_7 | omega)
      have onσ_7 : (σ.1 a 16).toInt ≤ (σ_7.1 a 15).toInt := (by omega)
      clear k4σ_5 smσ_5 bhpσ_7 chpσ_7
      refine lv_aload_n hx hb dX12_readMost_33 rfl (lv_at hl 0 rfl) ?_
      refine gs_X12_35_12 E hI ha dX12_readMost_34 ?_
      refine lv_sipush (v := 3724) hx hb dX12_readMost_37 zks_3724 ?_
      refine lv_aload_n hx hb dX12_readMost_40 rfl (lv_at hl 0 rfl) ?_
      refine lv_iconst (v := 1) hx hb dX12_readMost_41 zki_1 ?_
      refine lv_iconst (v := 4) hx hb dX12_readMost_42 zki_4 ?_
      have kc_8 : (1 : Int32).toInt = 1 := zt_1
      have kc_9 : (4 : Int32).toInt = 4 := zt_4
      refine q_ci (q_rV11_2 (rest := [.int 3724, .ref (q_rf X a 20)]) E (hml.trans hl.1.symm) hI (c_X12_count l X σ_7 a (1 : Int32) (4 : Int32) ha (by first | exact sm_9 smσ_7 | exact hs | omega) (by first | (clear hs hz hk h4 k3σ if_1 bf_1 c_2 if_3 c_4 k3σ_5 beσ_5 ahpσ_7 dhpσ_7 ehpσ_7 k3σ_7 k4σ_7 smσ_7 onσ_7; omega) | omega)) kv_X12_223 ha ⟨Nat.le_of_ble_eq_true rfl, Nat.le_of_ble_eq_true rfl⟩ (Nat.le_of_ble_eq_true rfl) dX12_readMost_43) hI (Nat.le_of_ble_eq_true rfl) (fun r_10 σ_11 H locs hpσ_11 hkσ_11 hI => ?_)
      have ahpσ_11 := hpσ_11.1
      have bhpσ_11 := hpσ_11.2.1
      have chpσ_11 := hpσ_11.2.2.1
      have dhpσ_11 := hpσ_11.2.2.2.1
      have ehpσ_11 := hpσ_11.2.2.2.2
      clear hpσ_11
      have fr_σ_11 := fr_σ_7.call ehpσ_11 rfl rfl
      replace hF := q_biX hF dhpσ_11
      have mcσ_11 := m_cK hkσ_11 hI.1 ha (by decide)
      have nnσ_11 : m_N (m_c X σ_11 a) := m_N.ext mcσ_11 nnσ_7
      have kpσ_11 : ∀ j, 0 ≤ j → j < 3720 → m_c X σ_11 a j = m_c X σ a j := fun j h0 h1 => (mcσ_11 j).trans (kpσ_7 j h0 h1)
      have k3σ_11 : m_c X σ_11 a 3720 = m_c X σ a 3720 ∧ m_c X σ_11 a 3721 = m_c X σ a 3721 := ⟨(mcσ_11 3720).trans k3σ_7.1, (mcσ_11 3721).trans k3σ_7.2⟩
      have k4σ_11 : 1 ≤ m_c X σ_11 a 3724 + 10 * (σ_11.1 a 12).toInt := (by have := mcσ_11 3724; omega)
      have smσ_11 : 0 ≤ (σ_11.1 a 15).toInt ∧ (σ_11.1 a 15).toInt ≤ (σ_11.1 a 16).toInt ∧ (σ_11.1 a 16).toInt ≤ (σ_11.1 a 9).toInt ∧ (σ_11.1 a 9).toInt ≤ 900 ∧ 0 ≤ (σ_11.1 a 14).toInt ∧ (σ_11.1 a 14).toInt ≤ 4 ∧ (σ_11.1 a 14).toInt ≤ 4 * ((σ_11.1 a 16).toInt - (σ_11.1 a 15).toInt) ∧ (σ_11.1 a 14).toInt ≤ 4 * ((σ_11.1 a 9).toInt - (σ_11.1 a 15).toInt) ∧ 0 ≤ (σ_11.1 a 12).toInt ∧ (σ_11.1 a 9).toInt = (σ.1 a 9).toInt ∧ (σ.1 a 15).toInt ≤ (σ_11.1 a 15).toInt ∧ (σ.1 a 12).toInt ≤ (σ_11.1 a 12).toInt := (by first | exact sm_tr smσ_7 bhpσ_11 | exact sm_tr smσ_7 chpσ_11 | omega)
      have onσ_11 : (σ.1 a 16).toInt ≤ (σ_11.1 a 15).toInt := (by first | (clear hs hz hk h4 k3σ if_1 bf_1 c_2 if_3 c_4 k3σ_5 ahpσ_7 dhpσ_7 ehpσ_7 k3σ_7 k4σ_7 smσ_7 kc_8 kc_9 ahpσ_11 chpσ_11 dhpσ_11 ehpσ_11 k3σ_11 k4σ_11 smσ_11; omega) | omega)
      clear k4σ_7 smσ_7 onσ_7 bhpσ_11
      refine q_iastN E hI (q_tk (k' := 34) hI ha rfl (Nat.succ_ne_zero _)) ⟨by decide, rfl⟩ (by decide) (by rw [q_lnk (v := 4650) hI (q_tk (k' := 34) hI ha rfl (Nat.succ_ne_zero _)) rfl (by decide)]; decide) (show 1 < 2 by decide) (q_inU rfl) dX12_readMost_46 (fun H locs σ_12 hσ_12 hI => ?_)
      replace hF := q_letX hF hσ_12
      have fr_σ_12 := fr_σ_11.si hσ_12 (q_tk (k' := 34) hI ha rfl (Nat.succ_ne_zero _)) rfl
      have mv9_σ_12 : (σ_12.1 a 9).toInt = (σ_11.1 a 9).toInt := congrArg Int32.toInt (q_rdn hσ_12 (Or.inl (m_ne ha (q_tk (k' := 34) hI ha rfl (Nat.succ_ne_zero _)) (by decide))))
      have mv12_σ_12 : (σ_12.1 a 12).toInt = (σ_11.1 a 12).toInt := congrArg Int32.toInt (q_rdn hσ_12 (Or.inl (m_ne ha (q_tk (k' := 34) hI ha rfl (Nat.succ_ne_zero _)) (by decide))))
      have mv14_σ_12 : (σ_12.1 a 14).toInt = (σ_11.1 a 14).toInt := congrArg Int32.toInt (q_rdn hσ_12 (Or.inl (m_ne ha (q_tk (k' := 34) hI ha rfl (Nat.succ_ne_zero _)) (by decide))))
      have mv15_σ_12 : (σ_12.1 a 15).toInt = (σ_11.1 a 15).toInt := congrArg Int32.toInt (q_rdn hσ_12 (Or.inl (m_ne ha (q_tk (k' := 34) hI ha rfl (Nat.succ_ne_zero _)) (by decide))))
      have mv16_σ_12 : (σ_12.1 a 16).toInt = (σ_11.1 a 16).toInt := congrArg Int32.toInt (q_rdn hσ_12 (Or.inl (m_ne ha (q_tk (k' := 34) hI ha rfl (Nat.succ_ne_zero _)) (by decide))))
      have mcσ_12 := m_wr (v := r_10) (A := 3724) hσ_12 (by decide) (by decide)
      have nnσ_12 : m_N (m_c X σ_12 a) := m_N.wr nnσ_11 mcσ_12 (by first | (clear hs hz hk h4 k3σ if_1 bf_1 c_2 if_3 c_4 k3σ_5 beσ_5 ahpσ_7 dhpσ_7 ehpσ_7 k3σ_7 kc_8 ahpσ_11 dhpσ_11 ehpσ_11 k3σ_11 k4σ_11 smσ_11 onσ_11 mv9_σ_12 mv12_σ_12 mv14_σ_12 mv15_σ_12 mv16_σ_12; omega) | omega)
      have kpσ_12 : ∀ j, 0 ≤ j → j < 3720 → m_c X σ_12 a j = m_c X σ a j := fun j h0 h1 => by rw [mcσ_12 j h0, if_neg (by first | (clear hs hz hk h4 k3σ if_1 bf_1 c_2 if_3 c_4 k3σ_5 beσ_5 ahpσ_7 dhpσ_7 ehpσ_7 k3σ_7 kc_8 kc_9 ahpσ_11 chpσ_11 dhpσ_11 ehpσ_11 k3σ_11 k4σ_11 smσ_11 onσ_11 mv9_σ_12 mv12_σ_12 mv14_σ_12 mv15_σ_12 mv16_σ_12; omega) | omega)]; exact kpσ_11 j h0 h1
      have k3σ_12 : m_c X σ_12 a 3720 = m_c X σ a 3720 ∧ m_c X σ_12 a 3721 = m_c X σ a 3721 := ⟨by rw [mcσ_12 3720 (by decide), if_neg (by first | (clear hs hz hk h4 k3σ if_1 bf_1 c_2 if_3 c_4 k3σ_5 beσ_5 ahpσ_7 dhpσ_7 ehpσ_7 k3σ_7 kc_8 kc_9 ahpσ_11 chpσ_11 dhpσ_11 ehpσ_11 k3σ_11 k4σ_11 smσ_11 onσ_11 mv9_σ_12 mv12_σ_12 mv14_σ_12 mv15_σ_12 mv16_σ_12; omega) | omega)]; exact k3σ_11.1, by rw [mcσ_12 3721 (by decide), if_neg (by first | (clear hs hz hk h4 k3σ if_1 bf_1 c_2 if_3 c_4 k3σ_5 beσ_5 ahpσ_7 dhpσ_7 ehpσ_7 k3σ_7 kc_8 kc_9 ahpσ_11 chpσ_11 dhpσ_11 ehpσ_11 k3σ_11 k4σ_11 smσ_11 onσ_11 mv9_σ_12 mv12_σ_12 mv14_σ_12 mv15_σ_12 mv16_σ_12; omega) | omega)]; exact k3σ_11.2⟩
      have k4σ_12 : 1 ≤ m_c X σ_12 a 3724 + 10 * (σ_12.1 a 12).toInt := (by have := mcσ_12 3724 (by decide); rw [if_pos (by first | (clear hs hz hk h4 k3σ if_1 bf_1 c_2 if_3 c_4 k3σ_5 beσ_5 ahpσ_7 dhpσ_7 ehpσ_7 k3σ_7 kc_8 kc_9 ahpσ_11 chpσ_11 dhpσ_11 ehpσ_11 k3σ_11 k4σ_11 smσ_11 onσ_11 mv9_σ_12 mv12_σ_12 mv14_σ_12 mv15_σ_12 mv16_σ_12 k3σ_12; omega) | omega)] at this; omega)
      have smσ_12 : 0 ≤ (σ_12.1 a 15).toInt ∧ (σ_12.1 a 15).toInt ≤ (σ_12.1 a 16).toInt ∧ (σ_12.1 a 16).toInt ≤ (σ_12.1 a 9).toInt ∧ (σ_12.1 a 9).toInt ≤ 900 ∧ 0 ≤ (σ_12.1 a 14).toInt ∧ (σ_12.1 a 14).toInt ≤ 4 ∧ (σ_12.1 a 14).toInt ≤ 4 * ((σ_12.1 a 16).toInt - (σ_12.1 a 15).toInt) ∧ (σ_12.1 a 14).toInt ≤ 4 * ((σ_12.1 a 9).toInt - (σ_12.1 a 15).toInt) ∧ 0 ≤ (σ_12.1 a 12).toInt ∧ (σ_12.1 a 9).toInt = (σ.1 a 9).toInt ∧ (σ.1 a 15).toInt ≤ (σ_12.1 a 15).toInt ∧ (σ.1 a 12).toInt ≤ (σ_12.1 a 12).toInt := (by first | (rw [mv12_σ_12, mv14_σ_12, mv15_σ_12, mv16_σ_12, mv9_σ_12]; exact smσ_11) | omega)
      have onσ_12 : (σ.1 a 16).toInt ≤ (σ_12.1 a 15).toInt := (by first | (clear hs hz hk h4 k3σ if_1 bf_1 c_2 if_3 c_4 k3σ_5 ahpσ_7 dhpσ_7 ehpσ_7 k3σ_7 kc_8 kc_9 ahpσ_11 chpσ_11 dhpσ_11 ehpσ_11 k3σ_11 k4σ_11 smσ_11 mv9_σ_12 mv12_σ_12 mv14_σ_12 mv16_σ_12 k3σ_12 k4σ_12 smσ_12; omega) | omega)
      clear mv9_σ_12 mv12_σ_12 mv14_σ_12 mv15_σ_12 mv16_σ_12 k4σ_11 smσ_11 onσ_11
      exact q_retv E hr hlk hI ⟨nnσ_12, kpσ_12, (by first | exact smσ_12 | omega), (by first | exact smσ_12 | omega), k3σ_12, k4σ_12, (hF.trans hout), fr_σ_12⟩ dX12_readMost_47
    · skip
      replace hF := q_ifp hF c_4
      exact q_retv E hr hlk hI ⟨nnσ, kpσ, (by first | exact smσ | omega), (by first | exact smσ | omega), k3σ, k4σ, (hF.trans hout), fr_σ⟩ dX12_readMost_23
  · skip
    replace hF := q_ifn hF c_2
    refine lv_aload_n hx hb dX12_readMost_7 rfl (lv_at hl 0 rfl) ?_
    refine lv_iconst (v := 5) hx hb dX12_readMost_8 zki_5 ?_
    refine lv_aload_n hx hb dX12_readMost_9 rfl (lv_at hl 0 rfl) ?_
    refine gs_X12_104_12 E hI ha dX12_readMost_10 ?_
    refine lv_topi (fun f_13 ef_13 => ?_)
    replace hF := q_letX hF ef_13
    have if_13 : f_13.toInt = (σ.1 a 15).toInt := congrArg Int32.toInt ef_13
    have kc_14 : (5 : Int32).toInt = 5 := zt_5
    refine q_cv (q_rV11_2 (rest := []) E (hml.trans hl.1.symm) hI (c_X12_fail l X σ a (5 : Int32) f_13 ha (by omega) (by omega)) kv_X12_193 ha ⟨Nat.le_of_ble_eq_true rfl, Nat.le_of_ble_eq_true rfl⟩ (Nat.le_of_ble_eq_true rfl) dX12_readMost_13) hI (Nat.le_of_ble_eq_true rfl) (fun σ_16 H locs hpσ_16 hkσ_16 hI => ?_)
    have ahpσ_16 := hpσ_16.1
    have bhpσ_16 := hpσ_16.2.1
    have chpσ_16 := hpσ_16.2.2.1
    have dhpσ_16 := hpσ_16.2.2.2.1
    have ehpσ_16 := hpσ_16.2.2.2.2
    clear hpσ_16
    have fr_σ_16 := fr_σ.call ehpσ_16 rfl rfl
    replace hF := q_letX hF dhpσ_16
    have mcσ_16 := m_cK hkσ_16 hI.1 ha (by decide)
    have nnσ_16 : m_N (m_c X σ_16 a) := m_N.ext mcσ_16 nnσ
    have kpσ_16 : ∀ j, 0 ≤ j → j < 3720 → m_c X σ_16 a j = m_c X σ a j := fun j h0 h1 => (mcσ_16 j).trans (kpσ j h0 h1)
    have k3σ_16 : m_c X σ_16 a 3720 = m_c X σ a 3720 ∧ m_c X σ_16 a 3721 = m_c X σ a 3721 := ⟨(mcσ_16 3720).trans k3σ.1, (mcσ_16 3721).trans k3σ.2⟩
    have k4σ_16 : 1 ≤ m_c X σ_16 a 3724 + 10 * (σ_16.1 a 12).toInt := (by have := mcσ_16 3724; omega)
    have smσ_16 : 0 ≤ (σ_16.1 a 15).toInt ∧ (σ_16.1 a 15).toInt ≤ (σ_16.1 a 16).toInt ∧ (σ_16.1 a 16).toInt ≤ (σ_16.1 a 9).toInt ∧ (σ_16.1 a 9).toInt ≤ 900 ∧ 0 ≤ (σ_16.1 a 14).toInt ∧ (σ_16.1 a 14).toInt ≤ 4 ∧ (σ_16.1 a 14).toInt ≤ 4 * ((σ_16.1 a 16).toInt - (σ_16.1 a 15).toInt) ∧ (σ_16.1 a 14).toInt ≤ 4 * ((σ_16.1 a 9).toInt - (σ_16.1 a 15).toInt) ∧ 0 ≤ (σ_16.1 a 12).toInt ∧ (σ_16.1 a 9).toInt = (σ.1 a 9).toInt ∧ (σ.1 a 15).toInt ≤ (σ_16.1 a 15).toInt ∧ (σ.1 a 12).toInt ≤ (σ_16.1 a 12).toInt := (by first | exact sm_fl smσ bhpσ_16 chpσ_16 | omega)
    have beσ_16 : (σ_16.1 a 16).toInt = (σ.1 a 16).toInt := (by omega)
    clear k4σ smσ beσ bhpσ_16
    refine lv_aload_n hx hb dX12_readMost_16 rfl (lv_at hl 0 rfl) ?_
    refine gs_X12_187_12 E hI ha dX12_readMost_17 ?_
    refine lv_topi (fun f_17 ef_17 => ?_)
    replace hF := q_letX hF ef_17
    have if_17 : f_17.toInt = (σ_16.1 a 12).toInt := congrArg Int32.toInt ef_17
    refine q_if_le (A := f_17.toInt) E rfl (tgt := 24) dX12_readMost_20 (by decide) (fun c_18 => ?_) (fun c_18 => ?_)
    · skip
      replace hF := q_ifn hF (Int.not_lt.mpr c_18)
      refine lv_aload_n hx hb dX12_readMost_24 rfl (lv_at hl 0 rfl) ?_
      refine lv_iconst (v := 1) hx hb dX12_readMost_25 zki_1 ?_
      refine ps_X12_236_12 E hI ha (by decide) (by decide) (by decide) dX12_readMost_26 (fun H locs σ_19 hσ_19 hI => ?_)
      replace hF := q_letX hF hσ_19
      have fr_σ_19 := fr_σ_16.si hσ_19 ha rfl
      have mv9_σ_19 : (σ_19.1 a 9).toInt = (σ_16.1 a 9).toInt := congrArg Int32.toInt (q_rdn hσ_19 (Or.inr (by decide)))
      have mv12_σ_19 : (σ_19.1 a 12).toInt = (σ_16.1 a 12).toInt := congrArg Int32.toInt (q_rdn hσ_19 (Or.inr (by decide)))
      have mv14_σ_19 : (σ_19.1 a 14).toInt = (σ_16.1 a 14).toInt := congrArg Int32.toInt (q_rdn hσ_19 (Or.inr (by decide)))
      have mv15_σ_19 : (σ_19.1 a 15).toInt = (σ_16.1 a 15).toInt := congrArg Int32.toInt (q_rdn hσ_19 (Or.inr (by decide)))
      have mv16_σ_19 : (σ_19.1 a 16).toInt = (σ_16.1 a 16).toInt := congrArg Int32.toInt (q_rdn hσ_19 (Or.inr (by decide)))
      have mcσ_19 := m_wo hσ_19 (m_ne ha (q_tk (f := 20) (k' := 34) hI ha rfl (by decide)) (by decide))
      have nnσ_19 : m_N (m_c X σ_19 a) := m_N.ext mcσ_19 nnσ_16
      have kpσ_19 : ∀ j, 0 ≤ j → j < 3720 → m_c X σ_19 a j = m_c X σ a j := fun j h0 h1 => (mcσ_19 j).trans (kpσ_16 j h0 h1)
      have k3σ_19 : m_c X σ_19 a 3720 = m_c X σ a 3720 ∧ m_c X σ_19 a 3721 = m_c X σ a 3721 := ⟨(mcσ_19 3720).trans k3σ_16.1, (mcσ_19 3721).trans k3σ_16.2⟩
      have k4σ_19 : 1 ≤ m_c X σ_19 a 3724 + 10 * (σ_19.1 a 12).toInt := (by have := mcσ_19 3724; omega)
      have smσ_19 : 0 ≤ (σ_19.1 a 15).toInt ∧ (σ_19.1 a 15).toInt ≤ (σ_19.1 a 16).toInt ∧ (σ_19.1 a 16).toInt ≤ (σ_19.1 a 9).toInt ∧ (σ_19.1 a 9).toInt ≤ 900 ∧ 0 ≤ (σ_19.1 a 14).toInt ∧ (σ_19.1 a 14).toInt ≤ 4 ∧ (σ_19.1 a 14).toInt ≤ 4 * ((σ_19.1 a 16).toInt - (σ_19.1 a 15).toInt) ∧ (σ_19.1 a 14).toInt ≤ 4 * ((σ_19.1 a 9).toInt - (σ_19.1 a 15).toInt) ∧ 0 ≤ (σ_19.1 a 12).toInt ∧ (σ_19.1 a 9).toInt = (σ.1 a 9).toInt ∧ (σ.1 a 15).toInt ≤ (σ_19.1 a 15).toInt ∧ (σ.1 a 12).toInt ≤ (σ_19.1 a 12).toInt := (by first | (rw [mv12_σ_19, mv14_σ_19, mv15_σ_19, mv16_σ_19, mv9_σ_19]; exact smσ_16) | omega)
      have beσ_19 : (σ_19.1 a 16).toInt = (σ.1 a 16).toInt := (by omega)
      clear mv9_σ_19 mv12_σ_19 mv14_σ_19 mv15_σ_19 mv16_σ_19 k4σ_16 smσ_16 beσ_16
      refine lv_aload_n hx hb dX12_readMost_29 rfl (lv_at hl 0 rfl) ?_
      refine q_cv (q_rV11_0 (rest := []) E (hml.trans hl.1.symm) hI (c_X12_next l X σ_19 a ha (by omega) (by omega) (by omega)) kv_X12_197 ha ⟨Nat.le_of_ble_eq_true rfl, Nat.le_of_ble_eq_true rfl⟩ (Nat.le_of_ble_eq_true rfl) dX12_readMost_30) hI (Nat.le_of_ble_eq_true rfl) (fun σ_21 H locs hpσ_21 hkσ_21 hI => ?_)
      have ahpσ_21 := hpσ_21.1
      have bhpσ_21 := hpσ_21.2.1
      have chpσ_21 := hpσ_21.2.2.1
      have dhpσ_21 := hpσ_21.2.2.2.1
      have ehpσ_21 := hpσ_21.2.2.2.2
      clear hpσ_21
      have fr_σ_21 := fr_σ_19.call ehpσ_21 rfl rfl
      replace hF := q_letX hF dhpσ_21
      have mcσ_21 := m_cK hkσ_21 hI.1 ha (by decide)
      have nnσ_21 : m_N (m_c X σ_21 a) := m_N.ext mcσ_21 nnσ_19
      have kpσ_21 : ∀ j, 0 ≤ j → j < 3720 → m_c X σ_21 a j = m_c X σ a j := fun j h0 h1 => (mcσ_21 j).trans (kpσ_19 j h0 h1)
      have k3σ_21 : m_c X σ_21 a 3720 = m_c X σ a 3720 ∧ m_c X σ_21 a 3721 = m_c X σ a 3721 := ⟨(mcσ_21 3720).trans k3σ_19.1, (mcσ_21 3721).trans k3σ_19.2⟩
      have k4σ_21 : 1 ≤ m_c X σ_21 a 3724 + 10 * (σ_21.1 a 12).toInt := (by have := mcσ_21 3724; omega)
      have smσ_21 : 0 ≤ (σ_21.1 a 15).toInt ∧ (σ_21.1 a 15).toInt ≤ (σ_21.1 a 16).toInt ∧ (σ_21.1 a 16).toInt ≤ (σ_21.1 a 9).toInt ∧ (σ_21.1 a 9).toInt ≤ 900 ∧ 0 ≤ (σ_21.1 a 14).toInt ∧ (σ_21.1 a 14).toInt ≤ 4 ∧ (σ_21.1 a 14).toInt ≤ 4 * ((σ_21.1 a 16).toInt - (σ_21.1 a 15).toInt) ∧ (σ_21.1 a 14).toInt ≤ 4 * ((σ_21.1 a 9).toInt - (σ_21.1 a 15).toInt) ∧ 0 ≤ (σ_21.1 a 12).toInt ∧ (σ_21.1 a 9).toInt = (σ.1 a 9).toInt ∧ (σ.1 a 15).toInt ≤ (σ_21.1 a 15).toInt ∧ (σ.1 a 12).toInt ≤ (σ_21.1 a 12).toInt := (by first | exact sm_nx smσ_19 bhpσ_21 chpσ_21 | omega)
      have onσ_21 : (σ.1 a 16).toInt ≤ (σ_21.1 a 15).toInt := (by omega)
      clear k4σ_19 smσ_19 bhpσ_21 chpσ_21
      refine lv_aload_n hx hb dX12_readMost_33 rfl (lv_at hl 0 rfl) ?_
      refine gs_X12_35_12 E hI ha dX12_readMost_34 ?_
      refine lv_sipush (v := 3724) hx hb dX12_readMost_37 zks_3724 ?_
      refine lv_aload_n hx hb dX12_readMost_40 rfl (lv_at hl 0 rfl) ?_
      refine lv_iconst (v := 1) hx hb dX12_readMost_41 zki_1 ?_
      refine lv_iconst (v := 4) hx hb dX12_readMost_42 zki_4 ?_
      have kc_22 : (1 : Int32).toInt = 1 := zt_1
      have kc_23 : (4 : Int32).toInt = 4 := zt_4
      refine q_ci (q_rV11_2 (rest := [.int 3724, .ref (q_rf X a 20)]) E (hml.trans hl.1.symm) hI (c_X12_count l X σ_21 a (1 : Int32) (4 : Int32) ha (by first | exact sm_9 smσ_21 | exact hs | omega) (by omega)) kv_X12_223 ha ⟨Nat.le_of_ble_eq_true rfl, Nat.le_of_ble_eq_true rfl⟩ (Nat.le_of_ble_eq_true rfl) dX12_readMost_43) hI (Nat.le_of_ble_eq_true rfl) (fun r_24 σ_25 H locs hpσ_25 hkσ_25 hI => ?_)
      have ahpσ_25 := hpσ_25.1
      have bhpσ_25 := hpσ_25.2.1
      have chpσ_25 := hpσ_25.2.2.1
      have dhpσ_25 := hpσ_25.2.2.2.1
      have ehpσ_25 := hpσ_25.2.2.2.2
      clear hpσ_25
      have fr_σ_25 := fr_σ_21.call ehpσ_25 rfl rfl
      replace hF := q_biX hF dhpσ_25
      have mcσ_25 := m_cK hkσ_25 hI.1 ha (by decide)
      have nnσ_25 : m_N (m_c X σ_25 a) := m_N.ext mcσ_25 nnσ_21
      have kpσ_25 : ∀ j, 0 ≤ j → j < 3720 → m_c X σ_25 a j = m_c X σ a j := fun j h0 h1 => (mcσ_25 j).trans (kpσ_21 j h0 h1)
      have k3σ_25 : m_c X σ_25 a 3720 = m_c X σ a 3720 ∧ m_c X σ_25 a 3721 = m_c X σ a 3721 := ⟨(mcσ_25 3720).trans k3σ_21.1, (mcσ_25 3721).trans k3σ_21.2⟩
      have k4σ_25 : 1 ≤ m_c X σ_25 a 3724 + 10 * (σ_25.1 a 12).toInt := (by have := mcσ_25 3724; omega)
      have smσ_25 : 0 ≤ (σ_25.1 a 15).toInt ∧ (σ_25.1 a 15).toInt ≤ (σ_25.1 a 16).toInt ∧ (σ_25.1 a 16).toInt ≤ (σ_25.1 a 9).toInt ∧ (σ_25.1 a 9).toInt ≤ 900 ∧ 0 ≤ (σ_25.1 a 14).toInt ∧ (σ_25.1 a 14).toInt ≤ 4 ∧ (σ_25.1 a 14).toInt ≤ 4 * ((σ_25.1 a 16).toInt - (σ_25.1 a 15).toInt) ∧ (σ_25.1 a 14).toInt ≤ 4 * ((σ_25.1 a 9).toInt - (σ_25.1 a 15).toInt) ∧ 0 ≤ (σ_25.1 a 12).toInt ∧ (σ_25.1 a 9).toInt = (σ.1 a 9).toInt ∧ (σ.1 a 15).toInt ≤ (σ_25.1 a 15).toInt ∧ (σ.1 a 12).toInt ≤ (σ_25.1 a 12).toInt := (by first | exact sm_tr smσ_21 bhpσ_25 | exact sm_tr smσ_21 chpσ_25 | omega)
      have onσ_25 : (σ.1 a 16).toInt ≤ (σ_25.1 a 15).toInt := (by omega)
      clear k4σ_21 smσ_21 onσ_21 bhpσ_25
      refine q_iastN E hI (q_tk (k' := 34) hI ha rfl (Nat.succ_ne_zero _)) ⟨by decide, rfl⟩ (by decide) (by rw [q_lnk (v := 4650) hI (q_tk (k' := 34) hI ha rfl (Nat.succ_ne_zero _)) rfl (by decide)]; decide) (show 1 < 2 by decide) (q_inU rfl) dX12_readMost_46 (fun H locs σ_26 hσ_26 hI => ?_)
      replace hF := q_letX hF hσ_26
      have fr_σ_26 := fr_σ_25.si hσ_26 (q_tk (k' := 34) hI ha rfl (Nat.succ_ne_zero _)) rfl
      have mv9_σ_26 : (σ_26.1 a 9).toInt = (σ_25.1 a 9).toInt := congrArg Int32.toInt (q_rdn hσ_26 (Or.inl (m_ne ha (q_tk (k' := 34) hI ha rfl (Nat.succ_ne_zero _)) (by decide))))
      have mv12_σ_26 : (σ_26.1 a 12).toInt = (σ_25.1 a 12).toInt := congrArg Int32.toInt (q_rdn hσ_26 (Or.inl (m_ne ha (q_tk (k' := 34) hI ha rfl (Nat.succ_ne_zero _)) (by decide))))
      have mv14_σ_26 : (σ_26.1 a 14).toInt = (σ_25.1 a 14).toInt := congrArg Int32.toInt (q_rdn hσ_26 (Or.inl (m_ne ha (q_tk (k' := 34) hI ha rfl (Nat.succ_ne_zero _)) (by decide))))
      have mv15_σ_26 : (σ_26.1 a 15).toInt = (σ_25.1 a 15).toInt := congrArg Int32.toInt (q_rdn hσ_26 (Or.inl (m_ne ha (q_tk (k' := 34) hI ha rfl (Nat.succ_ne_zero _)) (by decide))))
      have mv16_σ_26 : (σ_26.1 a 16).toInt = (σ_25.1 a 16).toInt := congrArg Int32.toInt (q_rdn hσ_26 (Or.inl (m_ne ha (q_tk (k' := 34) hI ha rfl (Nat.succ_ne_zero _)) (by decide))))
      have mcσ_26 := m_wr (v := r_24) (A := 3724) hσ_26 (by decide) (by decide)
      have nnσ_26 : m_N (m_c X σ_26 a) := m_N.wr nnσ_25 mcσ_26 (by omega)
      have kpσ_26 : ∀ j, 0 ≤ j → j < 3720 → m_c X σ_26 a j = m_c X σ a j := fun j h0 h1 => by rw [mcσ_26 j h0, if_neg (by omega)]; exact kpσ_25 j h0 h1
      have k3σ_26 : m_c X σ_26 a 3720 = m_c X σ a 3720 ∧ m_c X σ_26 a 3721 = m_c X σ a 3721 := ⟨by rw [mcσ_26 3720 (by decide), if_neg (by omega)]; exact k3σ_25.1, by rw [mcσ_26 3721 (by decide), if_neg (by omega)]; exact k3σ_25.2⟩
      have k4σ_26 : 1 ≤ m_c X σ_26 a 3724 + 10 * (σ_26.1 a 12).toInt := (by have := mcσ_26 3724 (by decide); rw [if_pos (by omega)] at this; omega)
      have smσ_26 : 0 ≤ (σ_26.1 a 15).toInt ∧ (σ_26.1 a 15).toInt ≤ (σ_26.1 a 16).toInt ∧ (σ_26.1 a 16).toInt ≤ (σ_26.1 a 9).toInt ∧ (σ_26.1 a 9).toInt ≤ 900 ∧ 0 ≤ (σ_26.1 a 14).toInt ∧ (σ_26.1 a 14).toInt ≤ 4 ∧ (σ_26.1 a 14).toInt ≤ 4 * ((σ_26.1 a 16).toInt - (σ_26.1 a 15).toInt) ∧ (σ_26.1 a 14).toInt ≤ 4 * ((σ_26.1 a 9).toInt - (σ_26.1 a 15).toInt) ∧ 0 ≤ (σ_26.1 a 12).toInt ∧ (σ_26.1 a 9).toInt = (σ.1 a 9).toInt ∧ (σ.1 a 15).toInt ≤ (σ_26.1 a 15).toInt ∧ (σ.1 a 12).toInt ≤ (σ_26.1 a 12).toInt := (by first | (rw [mv12_σ_26, mv14_σ_26, mv15_σ_26, mv16_σ_26, mv9_σ_26]; exact smσ_25) | omega)
      have onσ_26 : (σ.1 a 16).toInt ≤ (σ_26.1 a 15).toInt := (by omega)
      clear mv9_σ_26 mv12_σ_26 mv14_σ_26 mv15_σ_26 mv16_σ_26 k4σ_25 smσ_25 onσ_25
      exact q_retv E hr hlk hI ⟨nnσ_26, kpσ_26, (by first | exact smσ_26 | omega), (by first | exact smσ_26 | omega), k3σ_26, k4σ_26, (hF.trans hout), fr_σ_26⟩ dX12_readMost_47
    · skip
      replace hF := q_ifp hF c_18
      exact q_retv E hr hlk hI ⟨nnσ_16, kpσ_16, (by first | exact smσ_16 | omega), (by first | exact smσ_16 | omega), k3σ_16, k4σ_16, (hF.trans hout), fr_σ_16⟩ dX12_readMost_23

set_option maxRecDepth 100000 in
set_option maxHeartbeats 4000000 in
theorem c_X12_readPlayer (l : Launch) (X : XW) (σ : ST) (a : Nat) (ha : q_kd X a = 12) (hs : 0 ≤ (σ.1 a 15).toInt ∧ (σ.1 a 15).toInt ≤ (σ.1 a 16).toInt ∧ (σ.1 a 16).toInt ≤ (σ.1 a 9).toInt ∧ (σ.1 a 9).toInt ≤ 900 ∧ 0 ≤ (σ.1 a 14).toInt ∧ (σ.1 a 14).toInt ≤ 4 ∧ (σ.1 a 14).toInt ≤ 4 * ((σ.1 a 16).toInt - (σ.1 a 15).toInt) ∧ (σ.1 a 14).toInt ≤ 4 * ((σ.1 a 9).toInt - (σ.1 a 15).toInt) ∧ 0 ≤ (σ.1 a 12).toInt) (hN : m_N (m_c X σ a)) (hz : (σ.1 a 12).toInt = 0) (hk : 2 ≤ m_c X σ a 3720) (h4 : 1 ≤ m_c X σ a 3724) : Met l yX12_readPlayer (q_ws yX12_readPlayer cX12_readPlayer 2 none) (q_rm 5 107) (q_P X σ [.ref a]) (q_Qv X 1 σ (fun (σ' : ST) => (m_N (m_c X σ' a)) ∧ (∀ j, 0 ≤ j → j < 3720 → m_c X σ' a j = m_c X σ a j) ∧ (0 ≤ (σ'.1 a 15).toInt ∧ (σ'.1 a 15).toInt ≤ (σ'.1 a 16).toInt ∧ (σ'.1 a 16).toInt ≤ (σ'.1 a 9).toInt ∧ (σ'.1 a 9).toInt ≤ 900 ∧ 0 ≤ (σ'.1 a 14).toInt ∧ (σ'.1 a 14).toInt ≤ 4 ∧ (σ'.1 a 14).toInt ≤ 4 * ((σ'.1 a 16).toInt - (σ'.1 a 15).toInt) ∧ (σ'.1 a 14).toInt ≤ 4 * ((σ'.1 a 9).toInt - (σ'.1 a 15).toInt) ∧ 0 ≤ (σ'.1 a 12).toInt ∧ (σ'.1 a 9).toInt = (σ.1 a 9).toInt ∧ (σ.1 a 15).toInt ≤ (σ'.1 a 15).toInt ∧ (σ.1 a 12).toInt ≤ (σ'.1 a 12).toInt) ∧ ((σ.1 a 16).toInt ≤ (σ'.1 a 15).toInt + 1000 * (σ'.1 a 12).toInt) ∧ (m_c X σ' a 3720 = m_c X σ a 3720 ∧ m_c X σ' a 3721 = m_c X σ a 3721) ∧ (1 ≤ m_c X σ' a 3724 + 10 * (σ'.1 a 12).toInt) ∧ σ' = F_X12_readPlayer X σ a ∧ q_ow [(12, 12), (12, 13), (12, 14), (12, 15), (12, 16), (12, 17), (12, 18), (34, 99)] [(12, 19), (37, 99)] X σ σ')) 0 0 (q_reg X) := by
  refine q_met 1 (by first | exact rfl | decide +kernel) rfl (Nat.le_of_ble_eq_true rfl) (fun p e s m below meth c E hml hr hlk hI ls hl => ?_)
  have hx := E.1
  have hb := E.2.1
  have hl : lv_has ls 2 [(0, .ref a)] := hl
  have nnσ : m_N (m_c X σ a) := hN
  have kpσ : ∀ j, 0 ≤ j → j < 3720 → m_c X σ a j = m_c X σ a j := fun _ _ _ => rfl
  have k3σ : m_c X σ a 3720 = m_c X σ a 3720 ∧ m_c X σ a 3721 = m_c X σ a 3721 := ⟨rfl, rfl⟩
  have k4σ : 1 ≤ m_c X σ a 3724 + 10 * (σ.1 a 12).toInt := (by omega)
  have smσ : 0 ≤ (σ.1 a 15).toInt ∧ (σ.1 a 15).toInt ≤ (σ.1 a 16).toInt ∧ (σ.1 a 16).toInt ≤ (σ.1 a 9).toInt ∧ (σ.1 a 9).toInt ≤ 900 ∧ 0 ≤ (σ.1 a 14).toInt ∧ (σ.1 a 14).toInt ≤ 4 ∧ (σ.1 a 14).toInt ≤ 4 * ((σ.1 a 16).toInt - (σ.1 a 15).toInt) ∧ (σ.1 a 14).toInt ≤ 4 * ((σ.1 a 9).toInt - (σ.1 a 15).toInt) ∧ 0 ≤ (σ.1 a 12).toInt ∧ (σ.1 a 9).toInt = (σ.1 a 9).toInt ∧ (σ.1 a 15).toInt ≤ (σ.1 a 15).toInt ∧ (σ.1 a 12).toInt ≤ (σ.1 a 12).toInt := (by omega)
  have beσ : (σ.1 a 16).toInt = (σ.1 a 16).toInt := rfl
  have kmσ : m_c X σ a 3722 = m_c X σ a 3722 := rfl
  have fr_σ : q_ow [(12, 12), (12, 13), (12, 14), (12, 15), (12, 16), (12, 17), (12, 18), (34, 99)] [(12, 19), (37, 99)] X σ σ := q_ow.rf
  have n2 := hN.2.2.1
  obtain ⟨out, hout⟩ : ∃ o, o = F_X12_readPlayer X σ a := ⟨_, rfl⟩
  have hF := hout.symm
  unfold F_X12_readPlayer at hF
  refine lv_aload_n hx hb dX12_readPlayer_0 rfl (lv_at hl 0 rfl) ?_
  refine gs_X12_35_12 E hI ha dX12_readPlayer_1 ?_
  refine lv_sipush (v := 3722) hx hb dX12_readPlayer_4 zks_3722 ?_
  refine q_iald E hI (q_tk (k' := 34) hI ha rfl (Nat.succ_ne_zero _)) ⟨by decide, rfl⟩ (by decide) (by rw [q_lnk (v := 4650) hI (q_tk (k' := 34) hI ha rfl (Nat.succ_ne_zero _)) rfl (by decide)]; decide) dX12_readPlayer_7 ?_
  refine lv_topi (fun f_1 ef_1 => ?_)
  replace hF := q_letX hF ef_1
  have if_1 : f_1.toInt = m_c X σ a 3722 := m_rd ef_1 (by decide)
  refine lv_istore_n (lv' := [(1, .int f_1), (0, .ref a)]) hx hb dX12_readPlayer_8 rfl hl (by decide) rfl (fun ls hl => ?_)
  refine lv_iload_n hx hb dX12_readPlayer_9 rfl (lv_at hl 0 rfl) ?_
  refine lv_bipush (v := 6) hx hb dX12_readPlayer_10 zkb_6 ?_
  have J_25_2 : ∀  (σ_2 : ST) (H : Heap) (locs : List Loc) (ls : Array Slot), (f_1.toInt ≤ 5 + (σ_2.1 a 12).toInt) → (q_ow [(12, 12), (12, 13), (12, 14), (12, 15), (12, 16), (12, 17), (12, 18), (34, 99)] [(12, 19), (37, 99)] X σ σ_2) → (m_N (m_c X σ_2 a)) → (∀ j, 0 ≤ j → j < 3720 → m_c X σ_2 a j = m_c X σ a j) → (m_c X σ_2 a 3720 = m_c X σ a 3720 ∧ m_c X σ_2 a 3721 = m_c X σ a 3721) → (1 ≤ m_c X σ_2 a 3724 + 10 * (σ_2.1 a 12).toInt) → (0 ≤ (σ_2.1 a 15).toInt ∧ (σ_2.1 a 15).toInt ≤ (σ_2.1 a 16).toInt ∧ (σ_2.1 a 16).toInt ≤ (σ_2.1 a 9).toInt ∧ (σ_2.1 a 9).toInt ≤ 900 ∧ 0 ≤ (σ_2.1 a 14).toInt ∧ (σ_2.1 a 14).toInt ≤ 4 ∧ (σ_2.1 a 14).toInt ≤ 4 * ((σ_2.1 a 16).toInt - (σ_2.1 a 15).toInt) ∧ (σ_2.1 a 14).toInt ≤ 4 * ((σ_2.1 a 9).toInt - (σ_2.1 a 15).toInt) ∧ 0 ≤ (σ_2.1 a 12).toInt ∧ (σ_2.1 a 9).toInt = (σ.1 a 9).toInt ∧ (σ.1 a 15).toInt ≤ (σ_2.1 a 15).toInt ∧ (σ.1 a 12).toInt ≤ (σ_2.1 a 12).toInt) → ((σ_2.1 a 16).toInt = (σ.1 a 16).toInt) → (m_c X σ_2 a 3722 = m_c X σ a 3722) → (F_X12_readPlayer_J25_1 X a f_1 σ_2 = out) → q_I X 1 σ s.heap locs σ_2 H → lv_has ls 2 [(0, .ref a), (1, .int f_1)] → W p l e (q_rm 5 107) s m ([.ref a] : List Value).toArray below meth c H locs 0 0 (MQ below (q_Qv X 1 σ (fun (σ' : ST) => (m_N (m_c X σ' a)) ∧ (∀ j, 0 ≤ j → j < 3720 → m_c X σ' a j = m_c X σ a j) ∧ (0 ≤ (σ'.1 a 15).toInt ∧ (σ'.1 a 15).toInt ≤ (σ'.1 a 16).toInt ∧ (σ'.1 a 16).toInt ≤ (σ'.1 a 9).toInt ∧ (σ'.1 a 9).toInt ≤ 900 ∧ 0 ≤ (σ'.1 a 14).toInt ∧ (σ'.1 a 14).toInt ≤ 4 ∧ (σ'.1 a 14).toInt ≤ 4 * ((σ'.1 a 16).toInt - (σ'.1 a 15).toInt) ∧ (σ'.1 a 14).toInt ≤ 4 * ((σ'.1 a 9).toInt - (σ'.1 a 15).toInt) ∧ 0 ≤ (σ'.1 a 12).toInt ∧ (σ'.1 a 9).toInt = (σ.1 a 9).toInt ∧ (σ.1 a 15).toInt ≤ (σ'.1 a 15).toInt ∧ (σ.1 a 12).toInt ≤ (σ'.1 a 12).toInt) ∧ ((σ.1 a 16).toInt ≤ (σ'.1 a 15).toInt + 1000 * (σ'.1 a 12).toInt) ∧ (m_c X σ' a 3720 = m_c X σ a 3720 ∧ m_c X σ' a 3721 = m_c X σ a 3721) ∧ (1 ≤ m_c X σ' a 3724 + 10 * (σ'.1 a 12).toInt) ∧ σ' = F_X12_readPlayer X σ a ∧ q_ow [(12, 12), (12, 13), (12, 14), (12, 15), (12, 16), (12, 17), (12, 18), (34, 99)] [(12, 19), (37, 99)] X σ σ')) ([.ref a] : List Value).toArray s 0 0 (q_reg X)) (F0 m 25 ls []) := by
    clear hF
    intro σ_2 H locs ls j25σ_2 fr_σ_2 nnσ_2 kpσ_2 k3σ_2 k4σ_2 smσ_2 beσ_2 kmσ_2 hF hI hl
    try clear nnσ; try clear kpσ; try clear smσ; try clear beσ; try clear kmσ; try clear fr_σ
    unfold F_X12_readPlayer_J25_1 at hF
    refine lv_aload_n hx hb dX12_readPlayer_25 rfl (lv_at hl 0 rfl) ?_
    refine gs_X12_187_12 E hI ha dX12_readPlayer_26 ?_
    refine lv_topi (fun f_3 ef_3 => ?_)
    replace hF := q_letX hF ef_3
    have if_3 : f_3.toInt = (σ_2.1 a 12).toInt := congrArg Int32.toInt ef_3
    refine q_if_le (A := f_3.toInt) E rfl (tgt := 33) dX12_readPlayer_29 (by decide) (fun c_4 => ?_) (fun c_4 => ?_)
    · skip
      replace hF := q_ifn hF (Int.not_lt.mpr c_4)
      refine lv_aload_n hx hb dX12_readPlayer_33 rfl (lv_at hl 0 rfl) ?_
      refine q_cv (q_rV11_0 (rest := []) E (hml.trans hl.1.symm) hI (c_X12_next l X σ_2 a ha (by first | (clear hz hk h4 k3σ k4σ if_1 j25σ_2 k3σ_2 k4σ_2 smσ_2 kmσ_2 if_3 c_4; omega) | omega) (by first | (clear hz hk h4 k3σ k4σ if_1 j25σ_2 k3σ_2 k4σ_2 kmσ_2 if_3 c_4; omega) | omega) (by first | (clear hz hk h4 k3σ k4σ if_1 j25σ_2 k3σ_2 k4σ_2 beσ_2 kmσ_2 if_3 c_4; omega) | omega)) kv_X12_197 ha ⟨Nat.le_of_ble_eq_true rfl, Nat.le_of_ble_eq_true rfl⟩ (Nat.le_of_ble_eq_true rfl) dX12_readPlayer_34) hI (Nat.le_of_ble_eq_true rfl) (fun σ_6 H locs hpσ_6 hkσ_6 hI => ?_)
      have ahpσ_6 := hpσ_6.1
      have bhpσ_6 := hpσ_6.2.1
      have chpσ_6 := hpσ_6.2.2.1
      have dhpσ_6 := hpσ_6.2.2.2.1
      have ehpσ_6 := hpσ_6.2.2.2.2
      clear hpσ_6
      have fr_σ_6 := fr_σ_2.call ehpσ_6 rfl rfl
      replace hF := q_letX hF dhpσ_6
      have mcσ_6 := m_cK hkσ_6 hI.1 ha (by decide)
      have nnσ_6 : m_N (m_c X σ_6 a) := m_N.ext mcσ_6 nnσ_2
      have kpσ_6 : ∀ j, 0 ≤ j → j < 3720 → m_c X σ_6 a j = m_c X σ a j := fun j h0 h1 => (mcσ_6 j).trans (kpσ_2 j h0 h1)
      have k3σ_6 : m_c X σ_6 a 3720 = m_c X σ a 3720 ∧ m_c X σ_6 a 3721 = m_c X σ a 3721 := ⟨(mcσ_6 3720).trans k3σ_2.1, (mcσ_6 3721).trans k3σ_2.2⟩
      have k4σ_6 : 1 ≤ m_c X σ_6 a 3724 + 10 * (σ_6.1 a 12).toInt := (by have := mcσ_6 3724; omega)
      have smσ_6 : 0 ≤ (σ_6.1 a 15).toInt ∧ (σ_6.1 a 15).toInt ≤ (σ_6.1 a 16).toInt ∧ (σ_6.1 a 16).toInt ≤ (σ_6.1 a 9).toInt ∧ (σ_6.1 a 9).toInt ≤ 900 ∧ 0 ≤ (σ_6.1 a 14).toInt ∧ (σ_6.1 a 14).toInt ≤ 4 ∧ (σ_6.1 a 14).toInt ≤ 4 * ((σ_6.1 a 16).toInt - (σ_6.1 a 15).toInt) ∧ (σ_6.1 a 14).toInt ≤ 4 * ((σ_6.1 a 9).toInt - (σ_6.1 a 15).toInt) ∧ 0 ≤ (σ_6.1 a 12).toInt ∧ (σ_6.1 a 9).toInt = (σ.1 a 9).toInt ∧ (σ.1 a 15).toInt ≤ (σ_6.1 a 15).toInt ∧ (σ.1 a 12).toInt ≤ (σ_6.1 a 12).toInt := (by first | exact sm_nx smσ_2 bhpσ_6 chpσ_6 | omega)
      have onσ_6 : (σ.1 a 16).toInt ≤ (σ_6.1 a 15).toInt := (by first | (clear hs hz hk h4 k3σ k4σ if_1 j25σ_2 k3σ_2 k4σ_2 smσ_2 kmσ_2 if_3 c_4 ahpσ_6 bhpσ_6 dhpσ_6 ehpσ_6 k3σ_6 k4σ_6 smσ_6; omega) | omega)
      have kmσ_6 : m_c X σ_6 a 3722 = m_c X σ a 3722 := (mcσ_6 3722).trans kmσ_2
      clear k4σ_2 smσ_2 kmσ_2 bhpσ_6 chpσ_6
      refine lv_aload_n hx hb dX12_readPlayer_37 rfl (lv_at hl 0 rfl) ?_
      refine q_ci (q_rV11_0 (rest := []) E (hml.trans hl.1.symm) hI (c_X12_isName l X σ_6 a ha (by first | (clear hs hz hk h4 k3σ k4σ if_1 j25σ_2 k3σ_2 beσ_2 if_3 c_4 ahpσ_6 dhpσ_6 ehpσ_6 k3σ_6 k4σ_6 onσ_6 kmσ_6; omega) | omega)) kv_X12_210 ha ⟨Nat.le_of_ble_eq_true rfl, Nat.le_of_ble_eq_true rfl⟩ (Nat.le_of_ble_eq_true rfl) dX12_readPlayer_38) hI (Nat.le_of_ble_eq_true rfl) (fun r_7 σ_8 H locs hpσ_8 hkσ_8 hI => ?_)
      have ahpσ_8 := hpσ_8.1
      have bhpσ_8 := hpσ_8.2.1
      have chpσ_8 := hpσ_8.2.2
      clear hpσ_8
      replace hI := q_Irw ahpσ_8 hI
      replace hF := q_letX hF chpσ_8
      have J_48_9 : ∀  (σ_9 : ST) (H : Heap) (locs : List Loc) (ls : Array Slot), (q_ow [(12, 12), (12, 13), (12, 14), (12, 15), (12, 16), (12, 17), (12, 18), (34, 99)] [(12, 19), (37, 99)] X σ σ_9) → (m_N (m_c X σ_9 a)) → (∀ j, 0 ≤ j → j < 3720 → m_c X σ_9 a j = m_c X σ a j) → (m_c X σ_9 a 3720 = m_c X σ a 3720 ∧ m_c X σ_9 a 3721 = m_c X σ a 3721) → (1 ≤ m_c X σ_9 a 3724 + 10 * (σ_9.1 a 12).toInt) → (0 ≤ (σ_9.1 a 15).toInt ∧ (σ_9.1 a 15).toInt ≤ (σ_9.1 a 16).toInt ∧ (σ_9.1 a 16).toInt ≤ (σ_9.1 a 9).toInt ∧ (σ_9.1 a 9).toInt ≤ 900 ∧ 0 ≤ (σ_9.1 a 14).toInt ∧ (σ_9.1 a 14).toInt ≤ 4 ∧ (σ_9.1 a 14).toInt ≤ 4 * ((σ_9.1 a 16).toInt - (σ_9.1 a 15).toInt) ∧ (σ_9.1 a 14).toInt ≤ 4 * ((σ_9.1 a 9).toInt - (σ_9.1 a 15).toInt) ∧ 0 ≤ (σ_9.1 a 12).toInt ∧ (σ_9.1 a 9).toInt = (σ.1 a 9).toInt ∧ (σ.1 a 15).toInt ≤ (σ_9.1 a 15).toInt ∧ (σ.1 a 12).toInt ≤ (σ_9.1 a 12).toInt) → ((σ.1 a 16).toInt ≤ (σ_9.1 a 15).toInt) → (m_c X σ_9 a 3722 = m_c X σ a 3722) → (F_X12_readPlayer_J48_2 X a f_1 σ_9 = out) → q_I X 1 σ s.heap locs σ_9 H → lv_has ls 2 [(0, .ref a), (1, .int f_1)] → W p l e (q_rm 5 107) s m ([.ref a] : List Value).toArray below meth c H locs 0 0 (MQ below (q_Qv X 1 σ (fun (σ' : ST) => (m_N (m_c X σ' a)) ∧ (∀ j, 0 ≤ j → j < 3720 → m_c X σ' a j = m_c X σ a j) ∧ (0 ≤ (σ'.1 a 15).toInt ∧ (σ'.1 a 15).toInt ≤ (σ'.1 a 16).toInt ∧ (σ'.1 a 16).toInt ≤ (σ'.1 a 9).toInt ∧ (σ'.1 a 9).toInt ≤ 900 ∧ 0 ≤ (σ'.1 a 14).toInt ∧ (σ'.1 a 14).toInt ≤ 4 ∧ (σ'.1 a 14).toInt ≤ 4 * ((σ'.1 a 16).toInt - (σ'.1 a 15).toInt) ∧ (σ'.1 a 14).toInt ≤ 4 * ((σ'.1 a 9).toInt - (σ'.1 a 15).toInt) ∧ 0 ≤ (σ'.1 a 12).toInt ∧ (σ'.1 a 9).toInt = (σ.1 a 9).toInt ∧ (σ.1 a 15).toInt ≤ (σ'.1 a 15).toInt ∧ (σ.1 a 12).toInt ≤ (σ'.1 a 12).toInt) ∧ ((σ.1 a 16).toInt ≤ (σ'.1 a 15).toInt + 1000 * (σ'.1 a 12).toInt) ∧ (m_c X σ' a 3720 = m_c X σ a 3720 ∧ m_c X σ' a 3721 = m_c X σ a 3721) ∧ (1 ≤ m_c X σ' a 3724 + 10 * (σ'.1 a 12).toInt) ∧ σ' = F_X12_readPlayer X σ a ∧ q_ow [(12, 12), (12, 13), (12, 14), (12, 15), (12, 16), (12, 17), (12, 18), (34, 99)] [(12, 19), (37, 99)] X σ σ')) ([.ref a] : List Value).toArray s 0 0 (q_reg X)) (F0 m 48 ls []) := by
        clear hF
        intro σ_9 H locs ls fr_σ_9 nnσ_9 kpσ_9 k3σ_9 k4σ_9 smσ_9 onσ_9 kmσ_9 hF hI hl
        try clear ahpσ_6; try clear fr_σ_6; try clear mcσ_6; try clear nnσ_6; try clear kpσ_6; try clear smσ_6; try clear onσ_6; try clear kmσ_6; try clear ahpσ_8
        unfold F_X12_readPlayer_J48_2 at hF
        refine lv_aload_n hx hb dX12_readPlayer_48 rfl (lv_at hl 0 rfl) ?_
        refine gs_X12_187_12 E hI ha dX12_readPlayer_49 ?_
        refine lv_topi (fun f_10 ef_10 => ?_)
        replace hF := q_letX hF ef_10
        have if_10 : f_10.toInt = (σ_9.1 a 12).toInt := congrArg Int32.toInt ef_10
        have J_72_11 : ∀  (σ_11 : ST) (H : Heap) (locs : List Loc) (ls : Array Slot), (q_ow [(12, 12), (12, 13), (12, 14), (12, 15), (12, 16), (12, 17), (12, 18), (34, 99)] [(12, 19), (37, 99)] X σ σ_11) → (m_N (m_c X σ_11 a)) → (∀ j, 0 ≤ j → j < 3720 → m_c X σ_11 a j = m_c X σ a j) → (m_c X σ_11 a 3720 = m_c X σ a 3720 ∧ m_c X σ_11 a 3721 = m_c X σ a 3721) → (1 ≤ m_c X σ_11 a 3724 + 10 * (σ_11.1 a 12).toInt) → (0 ≤ (σ_11.1 a 15).toInt ∧ (σ_11.1 a 15).toInt ≤ (σ_11.1 a 16).toInt ∧ (σ_11.1 a 16).toInt ≤ (σ_11.1 a 9).toInt ∧ (σ_11.1 a 9).toInt ≤ 900 ∧ 0 ≤ (σ_11.1 a 14).toInt ∧ (σ_11.1 a 14).toInt ≤ 4 ∧ (σ_11.1 a 14).toInt ≤ 4 * ((σ_11.1 a 16).toInt - (σ_11.1 a 15).toInt) ∧ (σ_11.1 a 14).toInt ≤ 4 * ((σ_11.1 a 9).toInt - (σ_11.1 a 15).toInt) ∧ 0 ≤ (σ_11.1 a 12).toInt ∧ (σ_11.1 a 9).toInt = (σ.1 a 9).toInt ∧ (σ.1 a 15).toInt ≤ (σ_11.1 a 15).toInt ∧ (σ.1 a 12).toInt ≤ (σ_11.1 a 12).toInt) → ((σ.1 a 16).toInt ≤ (σ_11.1 a 15).toInt) → (m_c X σ_11 a 3722 = m_c X σ a 3722) → (F_X12_readPlayer_J72_3 X a f_1 σ_11 = out) → q_I X 1 σ s.heap locs σ_11 H → lv_has ls 2 [(0, .ref a), (1, .int f_1)] → W p l e (q_rm 5 107) s m ([.ref a] : List Value).toArray below meth c H locs 0 0 (MQ below (q_Qv X 1 σ (fun (σ' : ST) => (m_N (m_c X σ' a)) ∧ (∀ j, 0 ≤ j → j < 3720 → m_c X σ' a j = m_c X σ a j) ∧ (0 ≤ (σ'.1 a 15).toInt ∧ (σ'.1 a 15).toInt ≤ (σ'.1 a 16).toInt ∧ (σ'.1 a 16).toInt ≤ (σ'.1 a 9).toInt ∧ (σ'.1 a 9).toInt ≤ 900 ∧ 0 ≤ (σ'.1 a 14).toInt ∧ (σ'.1 a 14).toInt ≤ 4 ∧ (σ'.1 a 14).toInt ≤ 4 * ((σ'.1 a 16).toInt - (σ'.1 a 15).toInt) ∧ (σ'.1 a 14).toInt ≤ 4 * ((σ'.1 a 9).toInt - (σ'.1 a 15).toInt) ∧ 0 ≤ (σ'.1 a 12).toInt ∧ (σ'.1 a 9).toInt = (σ.1 a 9).toInt ∧ (σ.1 a 15).toInt ≤ (σ'.1 a 15).toInt ∧ (σ.1 a 12).toInt ≤ (σ'.1 a 12).toInt) ∧ ((σ.1 a 16).toInt ≤ (σ'.1 a 15).toInt + 1000 * (σ'.1 a 12).toInt) ∧ (m_c X σ' a 3720 = m_c X σ a 3720 ∧ m_c X σ' a 3721 = m_c X σ a 3721) ∧ (1 ≤ m_c X σ' a 3724 + 10 * (σ'.1 a 12).toInt) ∧ σ' = F_X12_readPlayer X σ a ∧ q_ow [(12, 12), (12, 13), (12, 14), (12, 15), (12, 16), (12, 17), (12, 18), (34, 99)] [(12, 19), (37, 99)] X σ σ')) ([.ref a] : List Value).toArray s 0 0 (q_reg X)) (F0 m 72 ls []) := by
          clear hF
          intro σ_11 H locs ls fr_σ_11 nnσ_11 kpσ_11 k3σ_11 k4σ_11 smσ_11 onσ_11 kmσ_11 hF hI hl
          try clear fr_σ_9; try clear nnσ_9; try clear kpσ_9; try clear smσ_9; try clear onσ_9; try clear kmσ_9
          unfold F_X12_readPlayer_J72_3 at hF
          refine lv_aload_n hx hb dX12_readPlayer_72 rfl (lv_at hl 0 rfl) ?_
          refine gs_X12_187_12 E hI ha dX12_readPlayer_73 ?_
          refine lv_topi (fun f_12 ef_12 => ?_)
          replace hF := q_letX hF ef_12
          have if_12 : f_12.toInt = (σ_11.1 a 12).toInt := congrArg Int32.toInt ef_12
          refine q_if_le (A := f_12.toInt) E rfl (tgt := 80) dX12_readPlayer_76 (by decide) (fun c_13 => ?_) (fun c_13 => ?_)
          · skip
            replace hF := q_ifn hF (Int.not_lt.mpr c_13)
            refine lv_aload_n hx hb dX12_readPlayer_80 rfl (lv_at hl 0 rfl) ?_
            refine gs_X12_44_12 E hI ha dX12_readPlayer_81 ?_
            refine lv_bipush (v := 24) hx hb dX12_readPlayer_84 zkb_24 ?_
            refine lv_iload_n hx hb dX12_readPlayer_86 rfl (lv_at hl 1 rfl) ?_
            refine lv_iadd hx hb dX12_readPlayer_87 ?_
            refine lv_topi (fun z_14 ez_14 => ?_)
            replace hF := q_letX hF ez_14
            have iz_14 := q_addI (A := 24) (B := (m_c X σ a 3722)) ez_14 (by decide) if_1 (by first | (clear hs hz hk h4 k3σ k4σ j25σ_2 k3σ_2 beσ_2 if_3 c_4 dhpσ_6 ehpσ_6 k3σ_6 k4σ_6 bhpσ_8 chpσ_8 k3σ_9 k4σ_9 if_10 k3σ_11 k4σ_11 smσ_11 onσ_11 if_12 c_13; omega) | omega) (by first | (clear hs hz hk h4 k3σ k4σ j25σ_2 k3σ_2 beσ_2 if_3 c_4 dhpσ_6 ehpσ_6 k3σ_6 k4σ_6 bhpσ_8 chpσ_8 k3σ_9 k4σ_9 if_10 k3σ_11 k4σ_11 smσ_11 onσ_11 if_12 c_13; omega) | omega)
            refine lv_aload_n hx hb dX12_readPlayer_88 rfl (lv_at hl 0 rfl) ?_
            refine gs_X12_116_12 E hI ha dX12_readPlayer_89 ?_
            refine lv_topl (fun g_15 eg_15 => ?_)
            replace hF := q_letX hF eg_15
            refine q_lastN E hI (q_tk (k' := 37) hI ha rfl (Nat.succ_ne_zero _)) ⟨by decide, rfl⟩ (by first | (clear hs hz hk h4 k3σ k4σ j25σ_2 k3σ_2 beσ_2 if_3 c_4 dhpσ_6 ehpσ_6 k3σ_6 k4σ_6 bhpσ_8 chpσ_8 k3σ_9 k4σ_9 if_10 k3σ_11 k4σ_11 smσ_11 onσ_11 if_12 c_13; omega) | omega) (by rw [q_lnk (v := 30) hI (q_tk (k' := 37) hI ha rfl (Nat.succ_ne_zero _)) rfl (by decide)]; omega) dX12_readPlayer_92 (fun H locs σ_16 hσ_16 hI => ?_)
            replace hF := q_letX hF hσ_16
            have fr_σ_16 := fr_σ_11.sl hσ_16 (q_tk (k' := 37) hI ha rfl (Nat.succ_ne_zero _)) rfl
            have mv9_σ_16 : (σ_16.1 a 9).toInt = (σ_11.1 a 9).toInt := congrArg Int32.toInt ((fun b g _ => by rw [hσ_16]; rfl : q_K 8 X σ_11 σ_16) a 9 (by rw [ha]; decide))
            have mv12_σ_16 : (σ_16.1 a 12).toInt = (σ_11.1 a 12).toInt := congrArg Int32.toInt ((fun b g _ => by rw [hσ_16]; rfl : q_K 8 X σ_11 σ_16) a 12 (by rw [ha]; decide))
            have mv14_σ_16 : (σ_16.1 a 14).toInt = (σ_11.1 a 14).toInt := congrArg Int32.toInt ((fun b g _ => by rw [hσ_16]; rfl : q_K 8 X σ_11 σ_16) a 14 (by rw [ha]; decide))
            have mv15_σ_16 : (σ_16.1 a 15).toInt = (σ_11.1 a 15).toInt := congrArg Int32.toInt ((fun b g _ => by rw [hσ_16]; rfl : q_K 8 X σ_11 σ_16) a 15 (by rw [ha]; decide))
            have mv16_σ_16 : (σ_16.1 a 16).toInt = (σ_11.1 a 16).toInt := congrArg Int32.toInt ((fun b g _ => by rw [hσ_16]; rfl : q_K 8 X σ_11 σ_16) a 16 (by rw [ha]; decide))
            have mcσ_16 := m_wl (X := X) hσ_16 a
            have nnσ_16 : m_N (m_c X σ_16 a) := m_N.ext mcσ_16 nnσ_11
            have kpσ_16 : ∀ j, 0 ≤ j → j < 3720 → m_c X σ_16 a j = m_c X σ a j := fun j h0 h1 => (mcσ_16 j).trans (kpσ_11 j h0 h1)
            have k3σ_16 : m_c X σ_16 a 3720 = m_c X σ a 3720 ∧ m_c X σ_16 a 3721 = m_c X σ a 3721 := ⟨(mcσ_16 3720).trans k3σ_11.1, (mcσ_16 3721).trans k3σ_11.2⟩
            have k4σ_16 : 1 ≤ m_c X σ_16 a 3724 + 10 * (σ_16.1 a 12).toInt := (by have := mcσ_16 3724; omega)
            have smσ_16 : 0 ≤ (σ_16.1 a 15).toInt ∧ (σ_16.1 a 15).toInt ≤ (σ_16.1 a 16).toInt ∧ (σ_16.1 a 16).toInt ≤ (σ_16.1 a 9).toInt ∧ (σ_16.1 a 9).toInt ≤ 900 ∧ 0 ≤ (σ_16.1 a 14).toInt ∧ (σ_16.1 a 14).toInt ≤ 4 ∧ (σ_16.1 a 14).toInt ≤ 4 * ((σ_16.1 a 16).toInt - (σ_16.1 a 15).toInt) ∧ (σ_16.1 a 14).toInt ≤ 4 * ((σ_16.1 a 9).toInt - (σ_16.1 a 15).toInt) ∧ 0 ≤ (σ_16.1 a 12).toInt ∧ (σ_16.1 a 9).toInt = (σ.1 a 9).toInt ∧ (σ.1 a 15).toInt ≤ (σ_16.1 a 15).toInt ∧ (σ.1 a 12).toInt ≤ (σ_16.1 a 12).toInt := (by first | (rw [mv12_σ_16, mv14_σ_16, mv15_σ_16, mv16_σ_16, mv9_σ_16]; exact smσ_11) | omega)
            have onσ_16 : (σ.1 a 16).toInt ≤ (σ_16.1 a 15).toInt := (by first | (clear hs hz hk h4 k3σ k4σ if_1 j25σ_2 k3σ_2 if_3 c_4 dhpσ_6 ehpσ_6 k3σ_6 k4σ_6 bhpσ_8 chpσ_8 k3σ_9 k4σ_9 if_10 k3σ_11 k4σ_11 smσ_11 kmσ_11 if_12 c_13 iz_14 mv9_σ_16 mv12_σ_16 mv14_σ_16 mv16_σ_16 k3σ_16 k4σ_16 smσ_16; omega) | omega)
            have kmσ_16 : m_c X σ_16 a 3722 = m_c X σ a 3722 := (mcσ_16 3722).trans kmσ_11
            clear mv9_σ_16 mv12_σ_16 mv14_σ_16 mv15_σ_16 mv16_σ_16 k4σ_11 smσ_11 onσ_11 kmσ_11
            refine lv_aload_n hx hb dX12_readPlayer_93 rfl (lv_at hl 0 rfl) ?_
            refine q_cv (q_rV11_0 (rest := []) E (hml.trans hl.1.symm) hI (c_X12_next l X σ_16 a ha (by first | (clear hs hz hk h4 k3σ k4σ if_1 j25σ_2 k3σ_2 beσ_2 if_3 c_4 dhpσ_6 ehpσ_6 k3σ_6 k4σ_6 bhpσ_8 chpσ_8 k3σ_9 k4σ_9 if_10 k3σ_11 if_12 c_13 iz_14 k3σ_16 k4σ_16 onσ_16 kmσ_16; omega) | omega) (by first | (clear hs hz hk h4 k3σ k4σ if_1 j25σ_2 k3σ_2 beσ_2 if_3 c_4 dhpσ_6 ehpσ_6 k3σ_6 k4σ_6 bhpσ_8 chpσ_8 k3σ_9 k4σ_9 if_10 k3σ_11 if_12 c_13 iz_14 k3σ_16 k4σ_16 onσ_16 kmσ_16; omega) | omega) (by first | (clear hz hk h4 k3σ k4σ if_1 j25σ_2 k3σ_2 beσ_2 if_3 c_4 dhpσ_6 ehpσ_6 k3σ_6 k4σ_6 bhpσ_8 chpσ_8 k3σ_9 k4σ_9 if_10 k3σ_11 if_12 c_13 iz_14 k3σ_16 k4σ_16 onσ_16 kmσ_16; omega) | omega)) kv_X12_197 ha ⟨Nat.le_of_ble_eq_true rfl, Nat.le_of_ble_eq_true rfl⟩ (Nat.le_of_ble_eq_true rfl) dX12_readPlayer_94) hI (Nat.le_of_ble_eq_true rfl) (fun σ_18 H locs hpσ_18 hkσ_18 hI => ?_)
            have ahpσ_18 := hpσ_18.1
            have bhpσ_18 := hpσ_18.2.1
            have chpσ_18 := hpσ_18.2.2.1
            have dhpσ_18 := hpσ_18.2.2.2.1
            have ehpσ_18 := hpσ_18.2.2.2.2
            clear hpσ_18
            have fr_σ_18 := fr_σ_16.call ehpσ_18 rfl rfl
            replace hF := q_letX hF dhpσ_18
            have mcσ_18 := m_cK hkσ_18 hI.1 ha (by decide)
            have nnσ_18 : m_N (m_c X σ_18 a) := m_N.ext mcσ_18 nnσ_16
            have kpσ_18 : ∀ j, 0 ≤ j → j < 3720 → m_c X σ_18 a j = m_c X σ a j := fun j h0 h1 => (mcσ_18 j).trans (kpσ_16 j h0 h1)
            have k3σ_18 : m_c X σ_18 a 3720 = m_c X σ a 3720 ∧ m_c X σ_18 a 3721 = m_c X σ a 3721 := ⟨(mcσ_18 3720).trans k3σ_16.1, (mcσ_18 3721).trans k3σ_16.2⟩
            have k4σ_18 : 1 ≤ m_c X σ_18 a 3724 + 10 * (σ_18.1 a 12).toInt := (by have := mcσ_18 3724; omega)
            have smσ_18 : 0 ≤ (σ_18.1 a 15).toInt ∧ (σ_18.1 a 15).toInt ≤ (σ_18.1 a 16).toInt ∧ (σ_18.1 a 16).toInt ≤ (σ_18.1 a 9).toInt ∧ (σ_18.1 a 9).toInt ≤ 900 ∧ 0 ≤ (σ_18.1 a 14).toInt ∧ (σ_18.1 a 14).toInt ≤ 4 ∧ (σ_18.1 a 14).toInt ≤ 4 * ((σ_18.1 a 16).toInt - (σ_18.1 a 15).toInt) ∧ (σ_18.1 a 14).toInt ≤ 4 * ((σ_18.1 a 9).toInt - (σ_18.1 a 15).toInt) ∧ 0 ≤ (σ_18.1 a 12).toInt ∧ (σ_18.1 a 9).toInt = (σ.1 a 9).toInt ∧ (σ.1 a 15).toInt ≤ (σ_18.1 a 15).toInt ∧ (σ.1 a 12).toInt ≤ (σ_18.1 a 12).toInt := (by first | exact sm_nx smσ_16 bhpσ_18 chpσ_18 | omega)
            have onσ_18 : (σ.1 a 16).toInt ≤ (σ_18.1 a 15).toInt := (by first | (clear hs hz hk h4 k3σ k4σ if_1 j25σ_2 k3σ_2 if_3 c_4 dhpσ_6 ehpσ_6 k3σ_6 k4σ_6 bhpσ_8 chpσ_8 k3σ_9 k4σ_9 if_10 k3σ_11 if_12 c_13 iz_14 k3σ_16 k4σ_16 kmσ_16 ahpσ_18 bhpσ_18 dhpσ_18 ehpσ_18 k3σ_18 k4σ_18 smσ_18; omega) | omega)
            have kmσ_18 : m_c X σ_18 a 3722 = m_c X σ a 3722 := (mcσ_18 3722).trans kmσ_16
            clear k4σ_16 smσ_16 onσ_16 kmσ_16 bhpσ_18 chpσ_18
            refine lv_aload_n hx hb dX12_readPlayer_97 rfl (lv_at hl 0 rfl) ?_
            refine q_ci (q_rV11_0 (rest := []) E (hml.trans hl.1.symm) hI (c_X12_isLies l X σ_18 a ha) kv_X12_143 ha ⟨Nat.le_of_ble_eq_true rfl, Nat.le_of_ble_eq_true rfl⟩ (Nat.le_of_ble_eq_true rfl) dX12_readPlayer_98) hI (Nat.le_of_ble_eq_true rfl) (fun r_19 σ_20 H locs hpσ_20 hkσ_20 hI => ?_)
            have ahpσ_20 := hpσ_20.1
            have bhpσ_20 := hpσ_20.2.1
            have chpσ_20 := hpσ_20.2.2.1
            have dhpσ_20 := hpσ_20.2.2.2
            clear hpσ_20
            replace hI := q_Irw ahpσ_20 hI
            replace hF := q_letX hF dhpσ_20
            have J_125_21 : ∀  (σ_21 : ST) (H : Heap) (locs : List Loc) (ls : Array Slot), (q_ow [(12, 12), (12, 13), (12, 14), (12, 15), (12, 16), (12, 17), (12, 18), (34, 99)] [(12, 19), (37, 99)] X σ σ_21) → (m_N (m_c X σ_21 a)) → (∀ j, 0 ≤ j → j < 3720 → m_c X σ_21 a j = m_c X σ a j) → (m_c X σ_21 a 3720 = m_c X σ a 3720 ∧ m_c X σ_21 a 3721 = m_c X σ a 3721) → (1 ≤ m_c X σ_21 a 3724 + 10 * (σ_21.1 a 12).toInt) → (0 ≤ (σ_21.1 a 15).toInt ∧ (σ_21.1 a 15).toInt ≤ (σ_21.1 a 16).toInt ∧ (σ_21.1 a 16).toInt ≤ (σ_21.1 a 9).toInt ∧ (σ_21.1 a 9).toInt ≤ 900 ∧ 0 ≤ (σ_21.1 a 14).toInt ∧ (σ_21.1 a 14).toInt ≤ 4 ∧ (σ_21.1 a 14).toInt ≤ 4 * ((σ_21.1 a 16).toInt - (σ_21.1 a 15).toInt) ∧ (σ_21.1 a 14).toInt ≤ 4 * ((σ_21.1 a 9).toInt - (σ_21.1 a 15).toInt) ∧ 0 ≤ (σ_21.1 a 12).toInt ∧ (σ_21.1 a 9).toInt = (σ.1 a 9).toInt ∧ (σ.1 a 15).toInt ≤ (σ_21.1 a 15).toInt ∧ (σ.1 a 12).toInt ≤ (σ_21.1 a 12).toInt) → ((σ.1 a 16).toInt ≤ (σ_21.1 a 15).toInt) → (m_c X σ_21 a 3722 = m_c X σ a 3722) → (F_X12_readPlayer_J125_4 X a f_1 σ_21 = out) → q_I X 1 σ s.heap locs σ_21 H → lv_has ls 2 [(0, .ref a), (1, .int f_1)] → W p l e (q_rm 5 107) s m ([.ref a] : List Value).toArray below meth c H locs 0 0 (MQ below (q_Qv X 1 σ (fun (σ' : ST) => (m_N (m_c X σ' a)) ∧ (∀ j, 0 ≤ j → j < 3720 → m_c X σ' a j = m_c X σ a j) ∧ (0 ≤ (σ'.1 a 15).toInt ∧ (σ'.1 a 15).toInt ≤ (σ'.1 a 16).toInt ∧ (σ'.1 a 16).toInt ≤ (σ'.1 a 9).toInt ∧ (σ'.1 a 9).toInt ≤ 900 ∧ 0 ≤ (σ'.1 a 14).toInt ∧ (σ'.1 a 14).toInt ≤ 4 ∧ (σ'.1 a 14).toInt ≤ 4 * ((σ'.1 a 16).toInt - (σ'.1 a 15).toInt) ∧ (σ'.1 a 14).toInt ≤ 4 * ((σ'.1 a 9).toInt - (σ'.1 a 15).toInt) ∧ 0 ≤ (σ'.1 a 12).toInt ∧ (σ'.1 a 9).toInt = (σ.1 a 9).toInt ∧ (σ.1 a 15).toInt ≤ (σ'.1 a 15).toInt ∧ (σ.1 a 12).toInt ≤ (σ'.1 a 12).toInt) ∧ ((σ.1 a 16).toInt ≤ (σ'.1 a 15).toInt + 1000 * (σ'.1 a 12).toInt) ∧ (m_c X σ' a 3720 = m_c X σ a 3720 ∧ m_c X σ' a 3721 = m_c X σ a 3721) ∧ (1 ≤ m_c X σ' a 3724 + 10 * (σ'.1 a 12).toInt) ∧ σ' = F_X12_readPlayer X σ a ∧ q_ow [(12, 12), (12, 13), (12, 14), (12, 15), (12, 16), (12, 17), (12, 18), (34, 99)] [(12, 19), (37, 99)] X σ σ')) ([.ref a] : List Value).toArray s 0 0 (q_reg X)) (F0 m 125 ls []) := by
              clear hF
              intro σ_21 H locs ls fr_σ_21 nnσ_21 kpσ_21 k3σ_21 k4σ_21 smσ_21 onσ_21 kmσ_21 hF hI hl
              try clear fr_σ_16; try clear mcσ_16; try clear nnσ_16; try clear kpσ_16; try clear ahpσ_18; try clear fr_σ_18; try clear mcσ_18; try clear nnσ_18; try clear kpσ_18; try clear smσ_18; try clear onσ_18; try clear kmσ_18; try clear ahpσ_20
              unfold F_X12_readPlayer_J125_4 at hF
              refine lv_aload_n hx hb dX12_readPlayer_125 rfl (lv_at hl 0 rfl) ?_
              refine gs_X12_187_12 E hI ha dX12_readPlayer_126 ?_
              refine lv_topi (fun f_22 ef_22 => ?_)
              replace hF := q_letX hF ef_22
              have if_22 : f_22.toInt = (σ_21.1 a 12).toInt := congrArg Int32.toInt ef_22
              have J_160_23 : ∀  (σ_23 : ST) (H : Heap) (locs : List Loc) (ls : Array Slot), (q_ow [(12, 12), (12, 13), (12, 14), (12, 15), (12, 16), (12, 17), (12, 18), (34, 99)] [(12, 19), (37, 99)] X σ σ_23) → (m_N (m_c X σ_23 a)) → (∀ j, 0 ≤ j → j < 3720 → m_c X σ_23 a j = m_c X σ a j) → (m_c X σ_23 a 3720 = m_c X σ a 3720 ∧ m_c X σ_23 a 3721 = m_c X σ a 3721) → (1 ≤ m_c X σ_23 a 3724 + 10 * (σ_23.1 a 12).toInt) → (0 ≤ (σ_23.1 a 15).toInt ∧ (σ_23.1 a 15).toInt ≤ (σ_23.1 a 16).toInt ∧ (σ_23.1 a 16).toInt ≤ (σ_23.1 a 9).toInt ∧ (σ_23.1 a 9).toInt ≤ 900 ∧ 0 ≤ (σ_23.1 a 14).toInt ∧ (σ_23.1 a 14).toInt ≤ 4 ∧ (σ_23.1 a 14).toInt ≤ 4 * ((σ_23.1 a 16).toInt - (σ_23.1 a 15).toInt) ∧ (σ_23.1 a 14).toInt ≤ 4 * ((σ_23.1 a 9).toInt - (σ_23.1 a 15).toInt) ∧ 0 ≤ (σ_23.1 a 12).toInt ∧ (σ_23.1 a 9).toInt = (σ.1 a 9).toInt ∧ (σ.1 a 15).toInt ≤ (σ_23.1 a 15).toInt ∧ (σ.1 a 12).toInt ≤ (σ_23.1 a 12).toInt) → ((σ.1 a 16).toInt ≤ (σ_23.1 a 15).toInt) → (m_c X σ_23 a 3722 = m_c X σ a 3722) → (F_X12_readPlayer_J160_5 X a σ_23 = out) → q_I X 1 σ s.heap locs σ_23 H → lv_has ls 2 [(0, .ref a), (1, .int f_1)] → W p l e (q_rm 5 107) s m ([.ref a] : List Value).toArray below meth c H locs 0 0 (MQ below (q_Qv X 1 σ (fun (σ' : ST) => (m_N (m_c X σ' a)) ∧ (∀ j, 0 ≤ j → j < 3720 → m_c X σ' a j = m_c X σ a j) ∧ (0 ≤ (σ'.1 a 15).toInt ∧ (σ'.1 a 15).toInt ≤ (σ'.1 a 16).toInt ∧ (σ'.1 a 16).toInt ≤ (σ'.1 a 9).toInt ∧ (σ'.1 a 9).toInt ≤ 900 ∧ 0 ≤ (σ'.1 a 14).toInt ∧ (σ'.1 a 14).toInt ≤ 4 ∧ (σ'.1 a 14).toInt ≤ 4 * ((σ'.1 a 16).toInt - (σ'.1 a 15).toInt) ∧ (σ'.1 a 14).toInt ≤ 4 * ((σ'.1 a 9).toInt - (σ'.1 a 15).toInt) ∧ 0 ≤ (σ'.1 a 12).toInt ∧ (σ'.1 a 9).toInt = (σ.1 a 9).toInt ∧ (σ.1 a 15).toInt ≤ (σ'.1 a 15).toInt ∧ (σ.1 a 12).toInt ≤ (σ'.1 a 12).toInt) ∧ ((σ.1 a 16).toInt ≤ (σ'.1 a 15).toInt + 1000 * (σ'.1 a 12).toInt) ∧ (m_c X σ' a 3720 = m_c X σ a 3720 ∧ m_c X σ' a 3721 = m_c X σ a 3721) ∧ (1 ≤ m_c X σ' a 3724 + 10 * (σ'.1 a 12).toInt) ∧ σ' = F_X12_readPlayer X σ a ∧ q_ow [(12, 12), (12, 13), (12, 14), (12, 15), (12, 16), (12, 17), (12, 18), (34, 99)] [(12, 19), (37, 99)] X σ σ')) ([.ref a] : List Value).toArray s 0 0 (q_reg X)) (F0 m 160 ls []) := by
                clear hF
                intro σ_23 H locs ls fr_σ_23 nnσ_23 kpσ_23 k3σ_23 k4σ_23 smσ_23 onσ_23 kmσ_23 hF hI hl
                try clear fr_σ_21; try clear nnσ_21; try clear kpσ_21; try clear smσ_21; try clear onσ_21; try clear kmσ_21
                unfold F_X12_readPlayer_J160_5 at hF
                refine lv_aload_n hx hb dX12_readPlayer_160 rfl (lv_at hl 0 rfl) ?_
                refine gs_X12_187_12 E hI ha dX12_readPlayer_161 ?_
                refine lv_topi (fun f_24 ef_24 => ?_)
                replace hF := q_letX hF ef_24
                have if_24 : f_24.toInt = (σ_23.1 a 12).toInt := congrArg Int32.toInt ef_24
                refine q_if_ne (A := f_24.toInt) E rfl (tgt := 179) dX12_readPlayer_164 (by decide) (fun c_25 => ?_) (fun c_25 => ?_)
                · skip
                  replace hF := q_ifn hF c_25
                  exact q_retv E hr hlk hI ⟨nnσ_23, kpσ_23, (by first | exact smσ_23 | omega), (by first | exact smσ_23 | omega), k3σ_23, k4σ_23, (hF.trans hout), fr_σ_23⟩ dX12_readPlayer_179
                · skip
                  replace hF := q_ifp hF c_25
                  refine lv_aload_n hx hb dX12_readPlayer_167 rfl (lv_at hl 0 rfl) ?_
                  refine gs_X12_35_12 E hI ha dX12_readPlayer_168 ?_
                  refine lv_sipush (v := 3722) hx hb dX12_readPlayer_171 zks_3722 ?_
                  refine lv_dup2_11 hx hb dX12_readPlayer_174 rfl rfl ?_
                  refine q_iald E hI (q_tk (k' := 34) hI ha rfl (Nat.succ_ne_zero _)) ⟨by decide, rfl⟩ (by decide) (by rw [q_lnk (v := 4650) hI (q_tk (k' := 34) hI ha rfl (Nat.succ_ne_zero _)) rfl (by decide)]; decide) dX12_readPlayer_175 ?_
                  refine lv_topi (fun f_26 ef_26 => ?_)
                  replace hF := q_letX hF ef_26
                  have if_26 : f_26.toInt = m_c X σ_23 a 3722 := m_rd ef_26 (by decide)
                  refine lv_iconst (v := 1) hx hb dX12_readPlayer_176 zki_1 ?_
                  refine lv_iadd hx hb dX12_readPlayer_177 ?_
                  refine lv_topi (fun z_27 ez_27 => ?_)
                  replace hF := q_letX hF ez_27
                  have iz_27 := q_addI (A := (m_c X σ_23 a 3722)) (B := 1) ez_27 if_26 (by decide) (by first | (clear hs hz hk h4 k3σ k4σ j25σ_2 k3σ_2 beσ_2 if_3 c_4 dhpσ_6 ehpσ_6 k3σ_6 k4σ_6 bhpσ_8 chpσ_8 k3σ_9 k4σ_9 if_10 k3σ_11 if_12 c_13 k3σ_16 dhpσ_18 ehpσ_18 k3σ_18 k4σ_18 bhpσ_20 chpσ_20 dhpσ_20 k3σ_21 k4σ_21 if_22 k3σ_23 k4σ_23 smσ_23 onσ_23 if_24 c_25; omega) | omega) (by first | (clear hs hz hk h4 k3σ k4σ j25σ_2 k3σ_2 beσ_2 if_3 c_4 dhpσ_6 ehpσ_6 k3σ_6 k4σ_6 bhpσ_8 chpσ_8 k3σ_9 k4σ_9 if_10 k3σ_11 if_12 c_13 k3σ_16 dhpσ_18 ehpσ_18 k3σ_18 k4σ_18 bhpσ_20 chpσ_20 dhpσ_20 k3σ_21 k4σ_21 if_22 k3σ_23 k4σ_23 smσ_23 onσ_23 if_24 c_25; omega) | omega)
                  refine q_iastN E hI (q_tk (k' := 34) hI ha rfl (Nat.succ_ne_zero _)) ⟨by decide, rfl⟩ (by decide) (by rw [q_lnk (v := 4650) hI (q_tk (k' := 34) hI ha rfl (Nat.succ_ne_zero _)) rfl (by decide)]; decide) (show 1 < 2 by decide) (q_inU rfl) dX12_readPlayer_178 (fun H locs σ_28 hσ_28 hI => ?_)
                  replace hF := q_letX hF hσ_28
                  have fr_σ_28 := fr_σ_23.si hσ_28 (q_tk (k' := 34) hI ha rfl (Nat.succ_ne_zero _)) rfl
                  have mv9_σ_28 : (σ_28.1 a 9).toInt = (σ_23.1 a 9).toInt := congrArg Int32.toInt (q_rdn hσ_28 (Or.inl (m_ne ha (q_tk (k' := 34) hI ha rfl (Nat.succ_ne_zero _)) (by decide))))
                  have mv12_σ_28 : (σ_28.1 a 12).toInt = (σ_23.1 a 12).toInt := congrArg Int32.toInt (q_rdn hσ_28 (Or.inl (m_ne ha (q_tk (k' := 34) hI ha rfl (Nat.succ_ne_zero _)) (by decide))))
                  have mv14_σ_28 : (σ_28.1 a 14).toInt = (σ_23.1 a 14).toInt := congrArg Int32.toInt (q_rdn hσ_28 (Or.inl (m_ne ha (q_tk (k' := 34) hI ha rfl (Nat.succ_ne_zero _)) (by decide))))
                  have mv15_σ_28 : (σ_28.1 a 15).toInt = (σ_23.1 a 15).toInt := congrArg Int32.toInt (q_rdn hσ_28 (Or.inl (m_ne ha (q_tk (k' := 34) hI ha rfl (Nat.succ_ne_zero _)) (by decide))))
                  have mv16_σ_28 : (σ_28.1 a 16).toInt = (σ_23.1 a 16).toInt := congrArg Int32.toInt (q_rdn hσ_28 (Or.inl (m_ne ha (q_tk (k' := 34) hI ha rfl (Nat.succ_ne_zero _)) (by decide))))
                  have mcσ_28 := m_wr (v := z_27) (A := 3722) hσ_28 (by decide) (by decide)
                  have nnσ_28 : m_N (m_c X σ_28 a) := m_N.wr nnσ_23 mcσ_28 (by first | (clear hs hz hk h4 k3σ k4σ k3σ_2 beσ_2 dhpσ_6 ehpσ_6 k3σ_6 k4σ_6 bhpσ_8 chpσ_8 k3σ_9 k4σ_9 if_10 k3σ_11 if_12 c_13 k3σ_16 dhpσ_18 ehpσ_18 k3σ_18 k4σ_18 bhpσ_20 chpσ_20 dhpσ_20 k3σ_21 k4σ_21 if_22 k3σ_23 k4σ_23 smσ_23 onσ_23 if_24 c_25 mv9_σ_28 mv12_σ_28 mv14_σ_28 mv15_σ_28 mv16_σ_28; omega) | omega)
                  have kpσ_28 : ∀ j, 0 ≤ j → j < 3720 → m_c X σ_28 a j = m_c X σ a j := fun j h0 h1 => by rw [mcσ_28 j h0, if_neg (by first | (clear hs hz hk h4 k3σ k4σ if_1 j25σ_2 k3σ_2 beσ_2 if_3 c_4 dhpσ_6 ehpσ_6 k3σ_6 k4σ_6 bhpσ_8 chpσ_8 k3σ_9 k4σ_9 if_10 k3σ_11 if_12 c_13 iz_14 k3σ_16 dhpσ_18 ehpσ_18 k3σ_18 k4σ_18 bhpσ_20 chpσ_20 dhpσ_20 k3σ_21 k4σ_21 if_22 k3σ_23 k4σ_23 smσ_23 onσ_23 kmσ_23 if_24 c_25 if_26 iz_27 mv9_σ_28 mv12_σ_28 mv14_σ_28 mv15_σ_28 mv16_σ_28; omega) | omega)]; exact kpσ_23 j h0 h1
                  have k3σ_28 : m_c X σ_28 a 3720 = m_c X σ a 3720 ∧ m_c X σ_28 a 3721 = m_c X σ a 3721 := ⟨by rw [mcσ_28 3720 (by decide), if_neg (by first | (clear hs hz hk h4 k3σ k4σ if_1 j25σ_2 k3σ_2 beσ_2 if_3 c_4 dhpσ_6 ehpσ_6 k3σ_6 k4σ_6 bhpσ_8 chpσ_8 k3σ_9 k4σ_9 if_10 k3σ_11 if_12 c_13 iz_14 k3σ_16 dhpσ_18 ehpσ_18 k3σ_18 k4σ_18 bhpσ_20 chpσ_20 dhpσ_20 k3σ_21 k4σ_21 if_22 k3σ_23 k4σ_23 smσ_23 onσ_23 kmσ_23 if_24 c_25 if_26 iz_27 mv9_σ_28 mv12_σ_28 mv14_σ_28 mv15_σ_28 mv16_σ_28; omega) | omega)]; exact k3σ_23.1, by rw [mcσ_28 3721 (by decide), if_neg (by first | (clear hs hz hk h4 k3σ k4σ if_1 j25σ_2 k3σ_2 beσ_2 if_3 c_4 dhpσ_6 ehpσ_6 k3σ_6 k4σ_6 bhpσ_8 chpσ_8 k3σ_9 k4σ_9 if_10 k3σ_11 if_12 c_13 iz_14 k3σ_16 dhpσ_18 ehpσ_18 k3σ_18 k4σ_18 bhpσ_20 chpσ_20 dhpσ_20 k3σ_21 k4σ_21 if_22 k3σ_23 k4σ_23 smσ_23 onσ_23 kmσ_23 if_24 c_25 if_26 iz_27 mv9_σ_28 mv12_σ_28 mv14_σ_28 mv15_σ_28 mv16_σ_28; omega) | omega)]; exact k3σ_23.2⟩
                  have k4σ_28 : 1 ≤ m_c X σ_28 a 3724 + 10 * (σ_28.1 a 12).toInt := (by have := mcσ_28 3724 (by decide); rw [if_neg (by first | (clear hs hz hk h4 k3σ k4σ if_1 j25σ_2 k3σ_2 beσ_2 if_3 c_4 dhpσ_6 ehpσ_6 k3σ_6 k4σ_6 bhpσ_8 chpσ_8 k3σ_9 k4σ_9 if_10 k3σ_11 if_12 c_13 iz_14 k3σ_16 dhpσ_18 ehpσ_18 k3σ_18 k4σ_18 bhpσ_20 chpσ_20 dhpσ_20 k3σ_21 k4σ_21 if_22 k3σ_23 k4σ_23 smσ_23 onσ_23 kmσ_23 if_24 c_25 if_26 iz_27 mv9_σ_28 mv12_σ_28 mv14_σ_28 mv15_σ_28 mv16_σ_28 k3σ_28; omega) | omega)] at this; omega)
                  have smσ_28 : 0 ≤ (σ_28.1 a 15).toInt ∧ (σ_28.1 a 15).toInt ≤ (σ_28.1 a 16).toInt ∧ (σ_28.1 a 16).toInt ≤ (σ_28.1 a 9).toInt ∧ (σ_28.1 a 9).toInt ≤ 900 ∧ 0 ≤ (σ_28.1 a 14).toInt ∧ (σ_28.1 a 14).toInt ≤ 4 ∧ (σ_28.1 a 14).toInt ≤ 4 * ((σ_28.1 a 16).toInt - (σ_28.1 a 15).toInt) ∧ (σ_28.1 a 14).toInt ≤ 4 * ((σ_28.1 a 9).toInt - (σ_28.1 a 15).toInt) ∧ 0 ≤ (σ_28.1 a 12).toInt ∧ (σ_28.1 a 9).toInt = (σ.1 a 9).toInt ∧ (σ.1 a 15).toInt ≤ (σ_28.1 a 15).toInt ∧ (σ.1 a 12).toInt ≤ (σ_28.1 a 12).toInt := (by first | (rw [mv12_σ_28, mv14_σ_28, mv15_σ_28, mv16_σ_28, mv9_σ_28]; exact smσ_23) | omega)
                  have onσ_28 : (σ.1 a 16).toInt ≤ (σ_28.1 a 15).toInt := (by first | (clear hs hz hk h4 k3σ k4σ if_1 j25σ_2 k3σ_2 if_3 c_4 dhpσ_6 ehpσ_6 k3σ_6 k4σ_6 bhpσ_8 chpσ_8 k3σ_9 k4σ_9 if_10 k3σ_11 if_12 c_13 iz_14 k3σ_16 dhpσ_18 ehpσ_18 k3σ_18 k4σ_18 bhpσ_20 chpσ_20 dhpσ_20 k3σ_21 k4σ_21 if_22 k3σ_23 k4σ_23 smσ_23 kmσ_23 if_24 c_25 if_26 iz_27 mv9_σ_28 mv12_σ_28 mv14_σ_28 mv16_σ_28 k3σ_28 k4σ_28 smσ_28; omega) | omega)
                  clear mv9_σ_28 mv12_σ_28 mv14_σ_28 mv15_σ_28 mv16_σ_28 k4σ_23 smσ_23 onσ_23
                  exact q_retv E hr hlk hI ⟨nnσ_28, kpσ_28, (by first | exact smσ_28 | omega), (by first | exact smσ_28 | omega), k3σ_28, k4σ_28, (hF.trans hout), fr_σ_28⟩ dX12_readPlayer_179
              refine q_if_ne (A := f_22.toInt) E rfl (tgt := 160) dX12_readPlayer_129 (by decide) (fun c_29 => ?_) (fun c_29 => ?_)
              · skip
                replace hF := q_ifn hF c_29
                exact J_160_23 σ_21 _ _ ls fr_σ_21 nnσ_21 kpσ_21 k3σ_21 k4σ_21 smσ_21 onσ_21 kmσ_21 hF hI (lv_sub hl [0, 1] rfl)
              · skip
                replace hF := q_ifp hF c_29
                refine lv_aload_n hx hb dX12_readPlayer_132 rfl (lv_at hl 0 rfl) ?_
                refine q_ci (q_rV11_0 (rest := []) E (hml.trans hl.1.symm) hI (c_X12_isDoubts l X σ_21 a ha) kv_X12_147 ha ⟨Nat.le_of_ble_eq_true rfl, Nat.le_of_ble_eq_true rfl⟩ (Nat.le_of_ble_eq_true rfl) dX12_readPlayer_133) hI (Nat.le_of_ble_eq_true rfl) (fun r_30 σ_31 H locs hpσ_31 hkσ_31 hI => ?_)
                have ahpσ_31 := hpσ_31.1
                have bhpσ_31 := hpσ_31.2.1
                have chpσ_31 := hpσ_31.2.2.1
                have dhpσ_31 := hpσ_31.2.2.2
                clear hpσ_31
                replace hI := q_Irw ahpσ_31 hI
                replace hF := q_letX hF dhpσ_31
                refine q_if_eq (A := r_30.toInt) E rfl (tgt := 160) dX12_readPlayer_136 (by decide) (fun c_32 => ?_) (fun c_32 => ?_)
                · skip
                  replace hF := q_ifp hF c_32
                  clear chpσ_31
                  exact J_160_23 σ_21 _ _ ls fr_σ_21 nnσ_21 kpσ_21 k3σ_21 k4σ_21 smσ_21 onσ_21 kmσ_21 hF hI (lv_sub hl [0, 1] rfl)
                · skip
                  replace hF := q_ifn hF c_32
                  replace c_32 := q_ifOne bhpσ_31 c_32
                  replace chpσ_31 := chpσ_31 c_32
                  refine lv_aload_n hx hb dX12_readPlayer_139 rfl (lv_at hl 0 rfl) ?_
                  refine q_cv (q_rV11_0 (rest := []) E (hml.trans hl.1.symm) hI (c_X12_next l X σ_21 a ha (by first | (clear hs hz hk h4 k3σ k4σ if_1 j25σ_2 k3σ_2 beσ_2 if_3 c_4 dhpσ_6 ehpσ_6 k3σ_6 k4σ_6 bhpσ_8 chpσ_8 k3σ_9 k4σ_9 if_10 k3σ_11 if_12 c_13 iz_14 k3σ_16 dhpσ_18 ehpσ_18 k3σ_18 k4σ_18 bhpσ_20 chpσ_20 dhpσ_20 k3σ_21 k4σ_21 if_22 c_29 ahpσ_31 bhpσ_31 dhpσ_31 c_32 chpσ_31; omega) | omega) (by first | (clear hs hz hk h4 k3σ k4σ if_1 j25σ_2 k3σ_2 beσ_2 if_3 c_4 dhpσ_6 ehpσ_6 k3σ_6 k4σ_6 bhpσ_8 chpσ_8 k3σ_9 k4σ_9 if_10 k3σ_11 if_12 c_13 iz_14 k3σ_16 dhpσ_18 ehpσ_18 k3σ_18 k4σ_18 bhpσ_20 chpσ_20 dhpσ_20 k3σ_21 k4σ_21 if_22 c_29 ahpσ_31 bhpσ_31 dhpσ_31 c_32 chpσ_31; omega) | omega) (by first | (clear hs hz hk h4 k3σ k4σ if_1 j25σ_2 k3σ_2 beσ_2 if_3 c_4 dhpσ_6 ehpσ_6 k3σ_6 k4σ_6 bhpσ_8 chpσ_8 k3σ_9 k4σ_9 if_10 k3σ_11 if_12 c_13 iz_14 k3σ_16 dhpσ_18 ehpσ_18 k3σ_18 k4σ_18 bhpσ_20 chpσ_20 dhpσ_20 k3σ_21 k4σ_21 if_22 c_29 ahpσ_31 bhpσ_31 dhpσ_31 c_32 chpσ_31; omega) | omega)) kv_X12_197 ha ⟨Nat.le_of_ble_eq_true rfl, Nat.le_of_ble_eq_true rfl⟩ (Nat.le_of_ble_eq_true rfl) dX12_readPlayer_140) hI (Nat.le_of_ble_eq_true rfl) (fun σ_34 H locs hpσ_34 hkσ_34 hI => ?_)
                  have ahpσ_34 := hpσ_34.1
                  have bhpσ_34 := hpσ_34.2.1
                  have chpσ_34 := hpσ_34.2.2.1
                  have dhpσ_34 := hpσ_34.2.2.2.1
                  have ehpσ_34 := hpσ_34.2.2.2.2
                  clear hpσ_34
                  have fr_σ_34 := fr_σ_21.call ehpσ_34 rfl rfl
                  replace hF := q_letX hF dhpσ_34
                  have mcσ_34 := m_cK hkσ_34 hI.1 ha (by decide)
                  have nnσ_34 : m_N (m_c X σ_34 a) := m_N.ext mcσ_34 nnσ_21
                  have kpσ_34 : ∀ j, 0 ≤ j → j < 3720 → m_c X σ_34 a j = m_c X σ a j := fun j h0 h1 => (mcσ_34 j).trans (kpσ_21 j h0 h1)
                  have k3σ_34 : m_c X σ_34 a 3720 = m_c X σ a 3720 ∧ m_c X σ_34 a 3721 = m_c X σ a 3721 := ⟨(mcσ_34 3720).trans k3σ_21.1, (mcσ_34 3721).trans k3σ_21.2⟩
                  have k4σ_34 : 1 ≤ m_c X σ_34 a 3724 + 10 * (σ_34.1 a 12).toInt := (by have := mcσ_34 3724; omega)
                  have smσ_34 : 0 ≤ (σ_34.1 a 15).toInt ∧ (σ_34.1 a 15).toInt ≤ (σ_34.1 a 16).toInt ∧ (σ_34.1 a 16).toInt ≤ (σ_34.1 a 9).toInt ∧ (σ_34.1 a 9).toInt ≤ 900 ∧ 0 ≤ (σ_34.1 a 14).toInt ∧ (σ_34.1 a 14).toInt ≤ 4 ∧ (σ_34.1 a 14).toInt ≤ 4 * ((σ_34.1 a 16).toInt - (σ_34.1 a 15).toInt) ∧ (σ_34.1 a 14).toInt ≤ 4 * ((σ_34.1 a 9).toInt - (σ_34.1 a 15).toInt) ∧ 0 ≤ (σ_34.1 a 12).toInt ∧ (σ_34.1 a 9).toInt = (σ.1 a 9).toInt ∧ (σ.1 a 15).toInt ≤ (σ_34.1 a 15).toInt ∧ (σ.1 a 12).toInt ≤ (σ_34.1 a 12).toInt := (by first | exact sm_nx smσ_21 bhpσ_34 chpσ_34 | omega)
                  have onσ_34 : (σ.1 a 16).toInt ≤ (σ_34.1 a 15).toInt := (by first | (clear hs hz hk h4 k3σ k4σ if_1 j25σ_2 k3σ_2 if_3 c_4 dhpσ_6 ehpσ_6 k3σ_6 k4σ_6 bhpσ_8 chpσ_8 k3σ_9 k4σ_9 if_10 k3σ_11 if_12 c_13 iz_14 k3σ_16 dhpσ_18 ehpσ_18 k3σ_18 k4σ_18 bhpσ_20 chpσ_20 dhpσ_20 k3σ_21 k4σ_21 if_22 c_29 ahpσ_31 bhpσ_31 dhpσ_31 c_32 ahpσ_34 bhpσ_34 dhpσ_34 ehpσ_34 k3σ_34 k4σ_34 smσ_34; omega) | omega)
                  have kmσ_34 : m_c X σ_34 a 3722 = m_c X σ a 3722 := (mcσ_34 3722).trans kmσ_21
                  clear k4σ_21 smσ_21 onσ_21 kmσ_21 bhpσ_34 chpσ_34
                  refine lv_aload_n hx hb dX12_readPlayer_143 rfl (lv_at hl 0 rfl) ?_
                  refine gs_X12_35_12 E hI ha dX12_readPlayer_144 ?_
                  refine lv_sipush (v := 3736) hx hb dX12_readPlayer_147 zks_3736 ?_
                  refine lv_iload_n hx hb dX12_readPlayer_150 rfl (lv_at hl 1 rfl) ?_
                  refine lv_iadd hx hb dX12_readPlayer_151 ?_
                  refine lv_topi (fun z_35 ez_35 => ?_)
                  replace hF := q_letX hF ez_35
                  have iz_35 := q_addI (A := 3736) (B := (m_c X σ a 3722)) ez_35 (by decide) if_1 (by first | (clear hs hz hk h4 k3σ k4σ j25σ_2 k3σ_2 beσ_2 if_3 c_4 dhpσ_6 ehpσ_6 k3σ_6 k4σ_6 bhpσ_8 chpσ_8 k3σ_9 k4σ_9 if_10 k3σ_11 if_12 c_13 k3σ_16 dhpσ_18 ehpσ_18 k3σ_18 k4σ_18 bhpσ_20 chpσ_20 dhpσ_20 k3σ_21 if_22 c_29 ahpσ_31 bhpσ_31 dhpσ_31 c_32 chpσ_31 ahpσ_34 dhpσ_34 ehpσ_34 k3σ_34 k4σ_34 smσ_34 onσ_34; omega) | omega) (by first | (clear hs hz hk h4 k3σ k4σ j25σ_2 k3σ_2 beσ_2 if_3 c_4 dhpσ_6 ehpσ_6 k3σ_6 k4σ_6 bhpσ_8 chpσ_8 k3σ_9 k4σ_9 if_10 k3σ_11 if_12 c_13 k3σ_16 dhpσ_18 ehpσ_18 k3σ_18 k4σ_18 bhpσ_20 chpσ_20 dhpσ_20 k3σ_21 if_22 c_29 ahpσ_31 bhpσ_31 dhpσ_31 c_32 chpσ_31 ahpσ_34 dhpσ_34 ehpσ_34 k3σ_34 k4σ_34 smσ_34 onσ_34; omega) | omega)
                  refine lv_aload_n hx hb dX12_readPlayer_152 rfl (lv_at hl 0 rfl) ?_
                  refine lv_iconst (v := 0) hx hb dX12_readPlayer_153 zki_0 ?_
                  refine lv_bipush (v := 16) hx hb dX12_readPlayer_154 zkb_16 ?_
                  have kc_36 : (0 : Int32).toInt = 0 := zt_0
                  have kc_37 : (16 : Int32).toInt = 16 := zt_16
                  refine q_ci (q_rV11_2 (rest := [.int z_35, .ref (q_rf X a 20)]) E (hml.trans hl.1.symm) hI (c_X12_count l X σ_34 a (0 : Int32) (16 : Int32) ha (by first | exact sm_9 smσ_34 | exact hs | omega) (by first | (clear hs hz hk h4 k3σ k4σ if_1 j25σ_2 k3σ_2 beσ_2 if_3 c_4 dhpσ_6 ehpσ_6 k3σ_6 k4σ_6 bhpσ_8 chpσ_8 k3σ_9 k4σ_9 if_10 k3σ_11 if_12 c_13 iz_14 k3σ_16 dhpσ_18 ehpσ_18 k3σ_18 k4σ_18 bhpσ_20 chpσ_20 dhpσ_20 k3σ_21 if_22 c_29 ahpσ_31 bhpσ_31 dhpσ_31 c_32 chpσ_31 ahpσ_34 dhpσ_34 ehpσ_34 k3σ_34 k4σ_34 smσ_34 onσ_34 kmσ_34 iz_35; omega) | omega)) kv_X12_223 ha ⟨Nat.le_of_ble_eq_true rfl, Nat.le_of_ble_eq_true rfl⟩ (Nat.le_of_ble_eq_true rfl) dX12_readPlayer_156) hI (Nat.le_of_ble_eq_true rfl) (fun r_38 σ_39 H locs hpσ_39 hkσ_39 hI => ?_)
                  have ahpσ_39 := hpσ_39.1
                  have bhpσ_39 := hpσ_39.2.1
                  have chpσ_39 := hpσ_39.2.2.1
                  have dhpσ_39 := hpσ_39.2.2.2.1
                  have ehpσ_39 := hpσ_39.2.2.2.2
                  clear hpσ_39
                  have fr_σ_39 := fr_σ_34.call ehpσ_39 rfl rfl
                  replace hF := q_biX hF dhpσ_39
                  have mcσ_39 := m_cK hkσ_39 hI.1 ha (by decide)
                  have nnσ_39 : m_N (m_c X σ_39 a) := m_N.ext mcσ_39 nnσ_34
                  have kpσ_39 : ∀ j, 0 ≤ j → j < 3720 → m_c X σ_39 a j = m_c X σ a j := fun j h0 h1 => (mcσ_39 j).trans (kpσ_34 j h0 h1)
                  have k3σ_39 : m_c X σ_39 a 3720 = m_c X σ a 3720 ∧ m_c X σ_39 a 3721 = m_c X σ a 3721 := ⟨(mcσ_39 3720).trans k3σ_34.1, (mcσ_39 3721).trans k3σ_34.2⟩
                  have k4σ_39 : 1 ≤ m_c X σ_39 a 3724 + 10 * (σ_39.1 a 12).toInt := (by have := mcσ_39 3724; omega)
                  have smσ_39 : 0 ≤ (σ_39.1 a 15).toInt ∧ (σ_39.1 a 15).toInt ≤ (σ_39.1 a 16).toInt ∧ (σ_39.1 a 16).toInt ≤ (σ_39.1 a 9).toInt ∧ (σ_39.1 a 9).toInt ≤ 900 ∧ 0 ≤ (σ_39.1 a 14).toInt ∧ (σ_39.1 a 14).toInt ≤ 4 ∧ (σ_39.1 a 14).toInt ≤ 4 * ((σ_39.1 a 16).toInt - (σ_39.1 a 15).toInt) ∧ (σ_39.1 a 14).toInt ≤ 4 * ((σ_39.1 a 9).toInt - (σ_39.1 a 15).toInt) ∧ 0 ≤ (σ_39.1 a 12).toInt ∧ (σ_39.1 a 9).toInt = (σ.1 a 9).toInt ∧ (σ.1 a 15).toInt ≤ (σ_39.1 a 15).toInt ∧ (σ.1 a 12).toInt ≤ (σ_39.1 a 12).toInt := (by first | exact sm_tr smσ_34 bhpσ_39 | exact sm_tr smσ_34 chpσ_39 | omega)
                  have onσ_39 : (σ.1 a 16).toInt ≤ (σ_39.1 a 15).toInt := (by first | (clear hs hz hk h4 k3σ k4σ if_1 j25σ_2 k3σ_2 if_3 c_4 dhpσ_6 ehpσ_6 k3σ_6 k4σ_6 bhpσ_8 chpσ_8 k3σ_9 k4σ_9 if_10 k3σ_11 if_12 c_13 iz_14 k3σ_16 dhpσ_18 ehpσ_18 k3σ_18 k4σ_18 bhpσ_20 chpσ_20 dhpσ_20 k3σ_21 if_22 c_29 ahpσ_31 bhpσ_31 dhpσ_31 c_32 chpσ_31 ahpσ_34 dhpσ_34 ehpσ_34 k3σ_34 k4σ_34 smσ_34 kmσ_34 iz_35 kc_36 kc_37 ahpσ_39 chpσ_39 dhpσ_39 ehpσ_39 k3σ_39 k4σ_39 smσ_39; omega) | omega)
                  have kmσ_39 : m_c X σ_39 a 3722 = m_c X σ a 3722 := (mcσ_39 3722).trans kmσ_34
                  clear k4σ_34 smσ_34 onσ_34 kmσ_34 bhpσ_39
                  refine q_iastN E hI (q_tk (k' := 34) hI ha rfl (Nat.succ_ne_zero _)) ⟨by decide, rfl⟩ (by first | (clear hs hz hk h4 k3σ k4σ j25σ_2 k3σ_2 beσ_2 if_3 c_4 dhpσ_6 ehpσ_6 k3σ_6 k4σ_6 bhpσ_8 chpσ_8 k3σ_9 k4σ_9 if_10 k3σ_11 if_12 c_13 k3σ_16 dhpσ_18 ehpσ_18 k3σ_18 k4σ_18 bhpσ_20 chpσ_20 dhpσ_20 k3σ_21 if_22 c_29 ahpσ_31 bhpσ_31 dhpσ_31 c_32 chpσ_31 ahpσ_34 dhpσ_34 ehpσ_34 k3σ_34 kc_36 kc_37 ahpσ_39 chpσ_39 dhpσ_39 ehpσ_39 k3σ_39 k4σ_39 smσ_39 onσ_39; omega) | omega) (by rw [q_lnk (v := 4650) hI (q_tk (k' := 34) hI ha rfl (Nat.succ_ne_zero _)) rfl (by decide)]; omega) (show 1 < 2 by decide) (q_inU rfl) dX12_readPlayer_159 (fun H locs σ_40 hσ_40 hI => ?_)
                  replace hF := q_letX hF hσ_40
                  have fr_σ_40 := fr_σ_39.si hσ_40 (q_tk (k' := 34) hI ha rfl (Nat.succ_ne_zero _)) rfl
                  have mv9_σ_40 : (σ_40.1 a 9).toInt = (σ_39.1 a 9).toInt := congrArg Int32.toInt (q_rdn hσ_40 (Or.inl (m_ne ha (q_tk (k' := 34) hI ha rfl (Nat.succ_ne_zero _)) (by decide))))
                  have mv12_σ_40 : (σ_40.1 a 12).toInt = (σ_39.1 a 12).toInt := congrArg Int32.toInt (q_rdn hσ_40 (Or.inl (m_ne ha (q_tk (k' := 34) hI ha rfl (Nat.succ_ne_zero _)) (by decide))))
                  have mv14_σ_40 : (σ_40.1 a 14).toInt = (σ_39.1 a 14).toInt := congrArg Int32.toInt (q_rdn hσ_40 (Or.inl (m_ne ha (q_tk (k' := 34) hI ha rfl (Nat.succ_ne_zero _)) (by decide))))
                  have mv15_σ_40 : (σ_40.1 a 15).toInt = (σ_39.1 a 15).toInt := congrArg Int32.toInt (q_rdn hσ_40 (Or.inl (m_ne ha (q_tk (k' := 34) hI ha rfl (Nat.succ_ne_zero _)) (by decide))))
                  have mv16_σ_40 : (σ_40.1 a 16).toInt = (σ_39.1 a 16).toInt := congrArg Int32.toInt (q_rdn hσ_40 (Or.inl (m_ne ha (q_tk (k' := 34) hI ha rfl (Nat.succ_ne_zero _)) (by decide))))
                  have mcσ_40 := m_wr (v := r_38) (A := (3736 + (m_c X σ a 3722))) hσ_40 iz_35 (by first | (clear hs hz hk h4 k3σ k4σ j25σ_2 k3σ_2 beσ_2 if_3 c_4 dhpσ_6 ehpσ_6 k3σ_6 k4σ_6 bhpσ_8 chpσ_8 k3σ_9 k4σ_9 if_10 k3σ_11 if_12 c_13 k3σ_16 dhpσ_18 ehpσ_18 k3σ_18 k4σ_18 bhpσ_20 chpσ_20 dhpσ_20 k3σ_21 if_22 c_29 ahpσ_31 bhpσ_31 dhpσ_31 c_32 chpσ_31 ahpσ_34 dhpσ_34 ehpσ_34 k3σ_34 kc_36 kc_37 ahpσ_39 chpσ_39 dhpσ_39 ehpσ_39 k3σ_39 k4σ_39 smσ_39 onσ_39 mv9_σ_40 mv12_σ_40 mv14_σ_40 mv15_σ_40 mv16_σ_40; omega) | omega)
                  have nnσ_40 : m_N (m_c X σ_40 a) := m_N.wr nnσ_39 mcσ_40 (by first | (clear hs hz hk h4 k3σ k4σ k3σ_2 beσ_2 dhpσ_6 ehpσ_6 k3σ_6 k4σ_6 bhpσ_8 chpσ_8 k3σ_9 k4σ_9 if_10 k3σ_11 if_12 c_13 k3σ_16 dhpσ_18 ehpσ_18 k3σ_18 k4σ_18 bhpσ_20 chpσ_20 dhpσ_20 k3σ_21 if_22 c_29 ahpσ_31 bhpσ_31 dhpσ_31 c_32 chpσ_31 ahpσ_34 dhpσ_34 ehpσ_34 k3σ_34 kc_36 kc_37 ahpσ_39 chpσ_39 dhpσ_39 ehpσ_39 k3σ_39 k4σ_39 smσ_39 onσ_39 mv9_σ_40 mv12_σ_40 mv14_σ_40 mv15_σ_40 mv16_σ_40; omega) | omega)
                  have kpσ_40 : ∀ j, 0 ≤ j → j < 3720 → m_c X σ_40 a j = m_c X σ a j := fun j h0 h1 => by rw [mcσ_40 j h0, if_neg (by first | (clear hs hz hk h4 k3σ k4σ j25σ_2 k3σ_2 beσ_2 if_3 c_4 dhpσ_6 ehpσ_6 k3σ_6 k4σ_6 bhpσ_8 chpσ_8 k3σ_9 k4σ_9 if_10 k3σ_11 if_12 c_13 k3σ_16 dhpσ_18 ehpσ_18 k3σ_18 k4σ_18 bhpσ_20 chpσ_20 dhpσ_20 k3σ_21 if_22 c_29 ahpσ_31 bhpσ_31 dhpσ_31 c_32 chpσ_31 ahpσ_34 dhpσ_34 ehpσ_34 k3σ_34 kc_36 kc_37 ahpσ_39 chpσ_39 dhpσ_39 ehpσ_39 k3σ_39 k4σ_39 smσ_39 onσ_39 mv9_σ_40 mv12_σ_40 mv14_σ_40 mv15_σ_40 mv16_σ_40; omega) | omega)]; exact kpσ_39 j h0 h1
                  have k3σ_40 : m_c X σ_40 a 3720 = m_c X σ a 3720 ∧ m_c X σ_40 a 3721 = m_c X σ a 3721 := ⟨by rw [mcσ_40 3720 (by decide), if_neg (by first | (clear hs hz hk h4 k3σ k4σ j25σ_2 k3σ_2 beσ_2 if_3 c_4 dhpσ_6 ehpσ_6 k3σ_6 k4σ_6 bhpσ_8 chpσ_8 k3σ_9 k4σ_9 if_10 k3σ_11 if_12 c_13 k3σ_16 dhpσ_18 ehpσ_18 k3σ_18 k4σ_18 bhpσ_20 chpσ_20 dhpσ_20 k3σ_21 if_22 c_29 ahpσ_31 bhpσ_31 dhpσ_31 c_32 chpσ_31 ahpσ_34 dhpσ_34 ehpσ_34 k3σ_34 kc_36 kc_37 ahpσ_39 chpσ_39 dhpσ_39 ehpσ_39 k3σ_39 k4σ_39 smσ_39 onσ_39 mv9_σ_40 mv12_σ_40 mv14_σ_40 mv15_σ_40 mv16_σ_40; omega) | omega)]; exact k3σ_39.1, by rw [mcσ_40 3721 (by decide), if_neg (by first | (clear hs hz hk h4 k3σ k4σ j25σ_2 k3σ_2 beσ_2 if_3 c_4 dhpσ_6 ehpσ_6 k3σ_6 k4σ_6 bhpσ_8 chpσ_8 k3σ_9 k4σ_9 if_10 k3σ_11 if_12 c_13 k3σ_16 dhpσ_18 ehpσ_18 k3σ_18 k4σ_18 bhpσ_20 chpσ_20 dhpσ_20 k3σ_21 if_22 c_29 ahpσ_31 bhpσ_31 dhpσ_31 c_32 chpσ_31 ahpσ_34 dhpσ_34 ehpσ_34 k3σ_34 kc_36 kc_37 ahpσ_39 chpσ_39 dhpσ_39 ehpσ_39 k3σ_39 k4σ_39 smσ_39 onσ_39 mv9_σ_40 mv12_σ_40 mv14_σ_40 mv15_σ_40 mv16_σ_40; omega) | omega)]; exact k3σ_39.2⟩
                  have k4σ_40 : 1 ≤ m_c X σ_40 a 3724 + 10 * (σ_40.1 a 12).toInt := (by have := mcσ_40 3724 (by decide); rw [if_neg (by first | (clear hs hz hk h4 k3σ k4σ j25σ_2 k3σ_2 beσ_2 if_3 c_4 dhpσ_6 ehpσ_6 k3σ_6 k4σ_6 bhpσ_8 chpσ_8 k3σ_9 k4σ_9 if_10 k3σ_11 if_12 c_13 k3σ_16 dhpσ_18 ehpσ_18 k3σ_18 k4σ_18 bhpσ_20 chpσ_20 dhpσ_20 k3σ_21 if_22 c_29 ahpσ_31 bhpσ_31 dhpσ_31 c_32 chpσ_31 ahpσ_34 dhpσ_34 ehpσ_34 k3σ_34 kc_36 kc_37 ahpσ_39 chpσ_39 dhpσ_39 ehpσ_39 k3σ_39 k4σ_39 smσ_39 onσ_39 mv9_σ_40 mv12_σ_40 mv14_σ_40 mv15_σ_40 mv16_σ_40 k3σ_40; omega) | omega)] at this; omega)
                  have smσ_40 : 0 ≤ (σ_40.1 a 15).toInt ∧ (σ_40.1 a 15).toInt ≤ (σ_40.1 a 16).toInt ∧ (σ_40.1 a 16).toInt ≤ (σ_40.1 a 9).toInt ∧ (σ_40.1 a 9).toInt ≤ 900 ∧ 0 ≤ (σ_40.1 a 14).toInt ∧ (σ_40.1 a 14).toInt ≤ 4 ∧ (σ_40.1 a 14).toInt ≤ 4 * ((σ_40.1 a 16).toInt - (σ_40.1 a 15).toInt) ∧ (σ_40.1 a 14).toInt ≤ 4 * ((σ_40.1 a 9).toInt - (σ_40.1 a 15).toInt) ∧ 0 ≤ (σ_40.1 a 12).toInt ∧ (σ_40.1 a 9).toInt = (σ.1 a 9).toInt ∧ (σ.1 a 15).toInt ≤ (σ_40.1 a 15).toInt ∧ (σ.1 a 12).toInt ≤ (σ_40.1 a 12).toInt := (by first | (rw [mv12_σ_40, mv14_σ_40, mv15_σ_40, mv16_σ_40, mv9_σ_40]; exact smσ_39) | omega)
                  have onσ_40 : (σ.1 a 16).toInt ≤ (σ_40.1 a 15).toInt := (by first | (clear hs hz hk h4 k3σ k4σ if_1 j25σ_2 k3σ_2 if_3 c_4 dhpσ_6 ehpσ_6 k3σ_6 k4σ_6 bhpσ_8 chpσ_8 k3σ_9 k4σ_9 if_10 k3σ_11 if_12 c_13 iz_14 k3σ_16 dhpσ_18 ehpσ_18 k3σ_18 k4σ_18 bhpσ_20 chpσ_20 dhpσ_20 k3σ_21 if_22 c_29 ahpσ_31 bhpσ_31 dhpσ_31 c_32 chpσ_31 ahpσ_34 dhpσ_34 ehpσ_34 k3σ_34 iz_35 kc_36 kc_37 ahpσ_39 chpσ_39 dhpσ_39 ehpσ_39 k3σ_39 k4σ_39 smσ_39 kmσ_39 mv9_σ_40 mv12_σ_40 mv14_σ_40 mv16_σ_40 k3σ_40 k4σ_40 smσ_40; omega) | omega)
                  have kmσ_40 : m_c X σ_40 a 3722 = m_c X σ a 3722 := (by rw [mcσ_40 3722 (by decide), if_neg (by first | (clear hs hz hk h4 k3σ k4σ j25σ_2 k3σ_2 beσ_2 if_3 c_4 dhpσ_6 ehpσ_6 k3σ_6 k4σ_6 bhpσ_8 chpσ_8 k3σ_9 k4σ_9 if_10 k3σ_11 if_12 c_13 k3σ_16 dhpσ_18 ehpσ_18 k3σ_18 k4σ_18 bhpσ_20 chpσ_20 dhpσ_20 k3σ_21 if_22 c_29 ahpσ_31 bhpσ_31 dhpσ_31 c_32 chpσ_31 ahpσ_34 dhpσ_34 ehpσ_34 k3σ_34 kc_36 kc_37 ahpσ_39 chpσ_39 dhpσ_39 ehpσ_39 k3σ_39 k4σ_39 smσ_39 onσ_39 mv9_σ_40 mv12_σ_40 mv14_σ_40 mv15_σ_40 mv16_σ_40 k3σ_40 k4σ_40 smσ_40 onσ_40; omega) | omega)]; exact kmσ_39)
                  clear mv9_σ_40 mv12_σ_40 mv14_σ_40 mv15_σ_40 mv16_σ_40 k4σ_39 smσ_39 onσ_39 kmσ_39
                  exact J_160_23 σ_40 _ _ ls fr_σ_40 nnσ_40 kpσ_40 k3σ_40 k4σ_40 smσ_40 onσ_40 kmσ_40 hF hI (lv_sub hl [0, 1] rfl)
            refine q_if_eq (A := r_19.toInt) E rfl (tgt := 125) dX12_readPlayer_101 (by decide) (fun c_41 => ?_) (fun c_41 => ?_)
            · skip
              replace hF := q_ifp hF c_41
              clear chpσ_20
              exact J_125_21 σ_18 _ _ ls fr_σ_18 nnσ_18 kpσ_18 k3σ_18 k4σ_18 smσ_18 onσ_18 kmσ_18 hF hI (lv_sub hl [0, 1] rfl)
            · skip
              replace hF := q_ifn hF c_41
              replace c_41 := q_ifOne bhpσ_20 c_41
              replace chpσ_20 := chpσ_20 c_41
              refine lv_aload_n hx hb dX12_readPlayer_104 rfl (lv_at hl 0 rfl) ?_
              refine q_cv (q_rV11_0 (rest := []) E (hml.trans hl.1.symm) hI (c_X12_next l X σ_18 a ha (by first | (clear hs hz hk h4 k3σ k4σ if_1 j25σ_2 k3σ_2 beσ_2 if_3 c_4 dhpσ_6 ehpσ_6 k3σ_6 k4σ_6 bhpσ_8 chpσ_8 k3σ_9 k4σ_9 if_10 k3σ_11 if_12 c_13 iz_14 k3σ_16 dhpσ_18 ehpσ_18 k3σ_18 k4σ_18 bhpσ_20 dhpσ_20 c_41 chpσ_20; omega) | omega) (by first | (clear hs hz hk h4 k3σ k4σ if_1 j25σ_2 k3σ_2 beσ_2 if_3 c_4 dhpσ_6 ehpσ_6 k3σ_6 k4σ_6 bhpσ_8 chpσ_8 k3σ_9 k4σ_9 if_10 k3σ_11 if_12 c_13 iz_14 k3σ_16 dhpσ_18 ehpσ_18 k3σ_18 k4σ_18 bhpσ_20 dhpσ_20 c_41 chpσ_20; omega) | omega) (by first | (clear hz hk h4 k3σ k4σ if_1 j25σ_2 k3σ_2 beσ_2 if_3 c_4 dhpσ_6 ehpσ_6 k3σ_6 k4σ_6 bhpσ_8 chpσ_8 k3σ_9 k4σ_9 if_10 k3σ_11 if_12 c_13 iz_14 k3σ_16 dhpσ_18 ehpσ_18 k3σ_18 k4σ_18 bhpσ_20 dhpσ_20 c_41 chpσ_20; omega) | omega)) kv_X12_197 ha ⟨Nat.le_of_ble_eq_true rfl, Nat.le_of_ble_eq_true rfl⟩ (Nat.le_of_ble_eq_true rfl) dX12_readPlayer_105) hI (Nat.le_of_ble_eq_true rfl) (fun σ_43 H locs hpσ_43 hkσ_43 hI => ?_)
              have ahpσ_43 := hpσ_43.1
              have bhpσ_43 := hpσ_43.2.1
              have chpσ_43 := hpσ_43.2.2.1
              have dhpσ_43 := hpσ_43.2.2.2.1
              have ehpσ_43 := hpσ_43.2.2.2.2
              clear hpσ_43
              have fr_σ_43 := fr_σ_18.call ehpσ_43 rfl rfl
              replace hF := q_letX hF dhpσ_43
              have mcσ_43 := m_cK hkσ_43 hI.1 ha (by decide)
              have nnσ_43 : m_N (m_c X σ_43 a) := m_N.ext mcσ_43 nnσ_18
              have kpσ_43 : ∀ j, 0 ≤ j → j < 3720 → m_c X σ_43 a j = m_c X σ a j := fun j h0 h1 => (mcσ_43 j).trans (kpσ_18 j h0 h1)
              have k3σ_43 : m_c X σ_43 a 3720 = m_c X σ a 3720 ∧ m_c X σ_43 a 3721 = m_c X σ a 3721 := ⟨(mcσ_43 3720).trans k3σ_18.1, (mcσ_43 3721).trans k3σ_18.2⟩
              have k4σ_43 : 1 ≤ m_c X σ_43 a 3724 + 10 * (σ_43.1 a 12).toInt := (by have := mcσ_43 3724; omega)
              have smσ_43 : 0 ≤ (σ_43.1 a 15).toInt ∧ (σ_43.1 a 15).toInt ≤ (σ_43.1 a 16).toInt ∧ (σ_43.1 a 16).toInt ≤ (σ_43.1 a 9).toInt ∧ (σ_43.1 a 9).toInt ≤ 900 ∧ 0 ≤ (σ_43.1 a 14).toInt ∧ (σ_43.1 a 14).toInt ≤ 4 ∧ (σ_43.1 a 14).toInt ≤ 4 * ((σ_43.1 a 16).toInt - (σ_43.1 a 15).toInt) ∧ (σ_43.1 a 14).toInt ≤ 4 * ((σ_43.1 a 9).toInt - (σ_43.1 a 15).toInt) ∧ 0 ≤ (σ_43.1 a 12).toInt ∧ (σ_43.1 a 9).toInt = (σ.1 a 9).toInt ∧ (σ.1 a 15).toInt ≤ (σ_43.1 a 15).toInt ∧ (σ.1 a 12).toInt ≤ (σ_43.1 a 12).toInt := (by first | exact sm_nx smσ_18 bhpσ_43 chpσ_43 | omega)
              have onσ_43 : (σ.1 a 16).toInt ≤ (σ_43.1 a 15).toInt := (by first | (clear hs hz hk h4 k3σ k4σ if_1 j25σ_2 k3σ_2 if_3 c_4 dhpσ_6 ehpσ_6 k3σ_6 k4σ_6 bhpσ_8 chpσ_8 k3σ_9 k4σ_9 if_10 k3σ_11 if_12 c_13 iz_14 k3σ_16 dhpσ_18 ehpσ_18 k3σ_18 k4σ_18 bhpσ_20 dhpσ_20 c_41 ahpσ_43 bhpσ_43 dhpσ_43 ehpσ_43 k3σ_43 k4σ_43 smσ_43; omega) | omega)
              have kmσ_43 : m_c X σ_43 a 3722 = m_c X σ a 3722 := (mcσ_43 3722).trans kmσ_18
              clear k4σ_18 smσ_18 onσ_18 kmσ_18 bhpσ_43 chpσ_43
              refine lv_aload_n hx hb dX12_readPlayer_108 rfl (lv_at hl 0 rfl) ?_
              refine gs_X12_35_12 E hI ha dX12_readPlayer_109 ?_
              refine lv_sipush (v := 3730) hx hb dX12_readPlayer_112 zks_3730 ?_
              refine lv_iload_n hx hb dX12_readPlayer_115 rfl (lv_at hl 1 rfl) ?_
              refine lv_iadd hx hb dX12_readPlayer_116 ?_
              refine lv_topi (fun z_44 ez_44 => ?_)
              replace hF := q_letX hF ez_44
              have iz_44 := q_addI (A := 3730) (B := (m_c X σ a 3722)) ez_44 (by decide) if_1 (by first | (clear hs hz hk h4 k3σ k4σ j25σ_2 k3σ_2 beσ_2 if_3 c_4 dhpσ_6 ehpσ_6 k3σ_6 k4σ_6 bhpσ_8 chpσ_8 k3σ_9 k4σ_9 if_10 k3σ_11 if_12 c_13 k3σ_16 dhpσ_18 ehpσ_18 k3σ_18 bhpσ_20 dhpσ_20 c_41 chpσ_20 ahpσ_43 dhpσ_43 ehpσ_43 k3σ_43 k4σ_43 smσ_43 onσ_43; omega) | omega) (by first | (clear hs hz hk h4 k3σ k4σ j25σ_2 k3σ_2 beσ_2 if_3 c_4 dhpσ_6 ehpσ_6 k3σ_6 k4σ_6 bhpσ_8 chpσ_8 k3σ_9 k4σ_9 if_10 k3σ_11 if_12 c_13 k3σ_16 dhpσ_18 ehpσ_18 k3σ_18 bhpσ_20 dhpσ_20 c_41 chpσ_20 ahpσ_43 dhpσ_43 ehpσ_43 k3σ_43 k4σ_43 smσ_43 onσ_43; omega) | omega)
              refine lv_aload_n hx hb dX12_readPlayer_117 rfl (lv_at hl 0 rfl) ?_
              refine lv_iconst (v := 0) hx hb dX12_readPlayer_118 zki_0 ?_
              refine lv_bipush (v := 16) hx hb dX12_readPlayer_119 zkb_16 ?_
              have kc_45 : (0 : Int32).toInt = 0 := zt_0
              have kc_46 : (16 : Int32).toInt = 16 := zt_16
              refine q_ci (q_rV11_2 (rest := [.int z_44, .ref (q_rf X a 20)]) E (hml.trans hl.1.symm) hI (c_X12_count l X σ_43 a (0 : Int32) (16 : Int32) ha (by first | exact sm_9 smσ_43 | exact hs | omega) (by first | (clear hs hz hk h4 k3σ k4σ if_1 j25σ_2 k3σ_2 beσ_2 if_3 c_4 dhpσ_6 ehpσ_6 k3σ_6 k4σ_6 bhpσ_8 chpσ_8 k3σ_9 k4σ_9 if_10 k3σ_11 if_12 c_13 iz_14 k3σ_16 dhpσ_18 ehpσ_18 k3σ_18 bhpσ_20 dhpσ_20 c_41 chpσ_20 ahpσ_43 dhpσ_43 ehpσ_43 k3σ_43 k4σ_43 smσ_43 onσ_43 kmσ_43 iz_44; omega) | omega)) kv_X12_223 ha ⟨Nat.le_of_ble_eq_true rfl, Nat.le_of_ble_eq_true rfl⟩ (Nat.le_of_ble_eq_true rfl) dX12_readPlayer_121) hI (Nat.le_of_ble_eq_true rfl) (fun r_47 σ_48 H locs hpσ_48 hkσ_48 hI => ?_)
              have ahpσ_48 := hpσ_48.1
              have bhpσ_48 := hpσ_48.2.1
              have chpσ_48 := hpσ_48.2.2.1
              have dhpσ_48 := hpσ_48.2.2.2.1
              have ehpσ_48 := hpσ_48.2.2.2.2
              clear hpσ_48
              have fr_σ_48 := fr_σ_43.call ehpσ_48 rfl rfl
              replace hF := q_biX hF dhpσ_48
              have mcσ_48 := m_cK hkσ_48 hI.1 ha (by decide)
              have nnσ_48 : m_N (m_c X σ_48 a) := m_N.ext mcσ_48 nnσ_43
              have kpσ_48 : ∀ j, 0 ≤ j → j < 3720 → m_c X σ_48 a j = m_c X σ a j := fun j h0 h1 => (mcσ_48 j).trans (kpσ_43 j h0 h1)
              have k3σ_48 : m_c X σ_48 a 3720 = m_c X σ a 3720 ∧ m_c X σ_48 a 3721 = m_c X σ a 3721 := ⟨(mcσ_48 3720).trans k3σ_43.1, (mcσ_48 3721).trans k3σ_43.2⟩
              have k4σ_48 : 1 ≤ m_c X σ_48 a 3724 + 10 * (σ_48.1 a 12).toInt := (by have := mcσ_48 3724; omega)
              have smσ_48 : 0 ≤ (σ_48.1 a 15).toInt ∧ (σ_48.1 a 15).toInt ≤ (σ_48.1 a 16).toInt ∧ (σ_48.1 a 16).toInt ≤ (σ_48.1 a 9).toInt ∧ (σ_48.1 a 9).toInt ≤ 900 ∧ 0 ≤ (σ_48.1 a 14).toInt ∧ (σ_48.1 a 14).toInt ≤ 4 ∧ (σ_48.1 a 14).toInt ≤ 4 * ((σ_48.1 a 16).toInt - (σ_48.1 a 15).toInt) ∧ (σ_48.1 a 14).toInt ≤ 4 * ((σ_48.1 a 9).toInt - (σ_48.1 a 15).toInt) ∧ 0 ≤ (σ_48.1 a 12).toInt ∧ (σ_48.1 a 9).toInt = (σ.1 a 9).toInt ∧ (σ.1 a 15).toInt ≤ (σ_48.1 a 15).toInt ∧ (σ.1 a 12).toInt ≤ (σ_48.1 a 12).toInt := (by first | exact sm_tr smσ_43 bhpσ_48 | exact sm_tr smσ_43 chpσ_48 | omega)
              have onσ_48 : (σ.1 a 16).toInt ≤ (σ_48.1 a 15).toInt := (by first | (clear hs hz hk h4 k3σ k4σ if_1 j25σ_2 k3σ_2 if_3 c_4 dhpσ_6 ehpσ_6 k3σ_6 k4σ_6 bhpσ_8 chpσ_8 k3σ_9 k4σ_9 if_10 k3σ_11 if_12 c_13 iz_14 k3σ_16 dhpσ_18 ehpσ_18 k3σ_18 bhpσ_20 dhpσ_20 c_41 chpσ_20 ahpσ_43 dhpσ_43 ehpσ_43 k3σ_43 k4σ_43 smσ_43 kmσ_43 iz_44 kc_45 kc_46 ahpσ_48 chpσ_48 dhpσ_48 ehpσ_48 k3σ_48 k4σ_48 smσ_48; omega) | omega)
              have kmσ_48 : m_c X σ_48 a 3722 = m_c X σ a 3722 := (mcσ_48 3722).trans kmσ_43
              clear k4σ_43 smσ_43 onσ_43 kmσ_43 bhpσ_48
              refine q_iastN E hI (q_tk (k' := 34) hI ha rfl (Nat.succ_ne_zero _)) ⟨by decide, rfl⟩ (by first | (clear hs hz hk h4 k3σ k4σ j25σ_2 k3σ_2 beσ_2 if_3 c_4 dhpσ_6 ehpσ_6 k3σ_6 k4σ_6 bhpσ_8 chpσ_8 k3σ_9 k4σ_9 if_10 k3σ_11 if_12 c_13 k3σ_16 dhpσ_18 ehpσ_18 k3σ_18 bhpσ_20 dhpσ_20 c_41 chpσ_20 ahpσ_43 dhpσ_43 ehpσ_43 k3σ_43 kc_45 kc_46 ahpσ_48 chpσ_48 dhpσ_48 ehpσ_48 k3σ_48 k4σ_48 smσ_48 onσ_48; omega) | omega) (by rw [q_lnk (v := 4650) hI (q_tk (k' := 34) hI ha rfl (Nat.succ_ne_zero _)) rfl (by decide)]; omega) (show 1 < 2 by decide) (q_inU rfl) dX12_readPlayer_124 (fun H locs σ_49 hσ_49 hI => ?_)
              replace hF := q_letX hF hσ_49
              have fr_σ_49 := fr_σ_48.si hσ_49 (q_tk (k' := 34) hI ha rfl (Nat.succ_ne_zero _)) rfl
              have mv9_σ_49 : (σ_49.1 a 9).toInt = (σ_48.1 a 9).toInt := congrArg Int32.toInt (q_rdn hσ_49 (Or.inl (m_ne ha (q_tk (k' := 34) hI ha rfl (Nat.succ_ne_zero _)) (by decide))))
              have mv12_σ_49 : (σ_49.1 a 12).toInt = (σ_48.1 a 12).toInt := congrArg Int32.toInt (q_rdn hσ_49 (Or.inl (m_ne ha (q_tk (k' := 34) hI ha rfl (Nat.succ_ne_zero _)) (by decide))))
              have mv14_σ_49 : (σ_49.1 a 14).toInt = (σ_48.1 a 14).toInt := congrArg Int32.toInt (q_rdn hσ_49 (Or.inl (m_ne ha (q_tk (k' := 34) hI ha rfl (Nat.succ_ne_zero _)) (by decide))))
              have mv15_σ_49 : (σ_49.1 a 15).toInt = (σ_48.1 a 15).toInt := congrArg Int32.toInt (q_rdn hσ_49 (Or.inl (m_ne ha (q_tk (k' := 34) hI ha rfl (Nat.succ_ne_zero _)) (by decide))))
              have mv16_σ_49 : (σ_49.1 a 16).toInt = (σ_48.1 a 16).toInt := congrArg Int32.toInt (q_rdn hσ_49 (Or.inl (m_ne ha (q_tk (k' := 34) hI ha rfl (Nat.succ_ne_zero _)) (by decide))))
              have mcσ_49 := m_wr (v := r_47) (A := (3730 + (m_c X σ a 3722))) hσ_49 iz_44 (by first | (clear hs hz hk h4 k3σ k4σ j25σ_2 k3σ_2 beσ_2 if_3 c_4 dhpσ_6 ehpσ_6 k3σ_6 k4σ_6 bhpσ_8 chpσ_8 k3σ_9 k4σ_9 if_10 k3σ_11 if_12 c_13 k3σ_16 dhpσ_18 ehpσ_18 k3σ_18 bhpσ_20 dhpσ_20 c_41 chpσ_20 ahpσ_43 dhpσ_43 ehpσ_43 k3σ_43 kc_45 kc_46 ahpσ_48 chpσ_48 dhpσ_48 ehpσ_48 k3σ_48 k4σ_48 smσ_48 onσ_48 mv9_σ_49 mv12_σ_49 mv14_σ_49 mv15_σ_49 mv16_σ_49; omega) | omega)
              have nnσ_49 : m_N (m_c X σ_49 a) := m_N.wr nnσ_48 mcσ_49 (by first | (clear hs hz hk h4 k3σ k4σ j25σ_2 k3σ_2 beσ_2 if_3 c_4 dhpσ_6 ehpσ_6 k3σ_6 k4σ_6 bhpσ_8 chpσ_8 k3σ_9 k4σ_9 if_10 k3σ_11 if_12 c_13 k3σ_16 dhpσ_18 ehpσ_18 k3σ_18 bhpσ_20 dhpσ_20 c_41 chpσ_20 ahpσ_43 dhpσ_43 ehpσ_43 k3σ_43 kc_45 kc_46 ahpσ_48 chpσ_48 dhpσ_48 ehpσ_48 k3σ_48 k4σ_48 smσ_48 onσ_48 mv9_σ_49 mv12_σ_49 mv14_σ_49 mv15_σ_49 mv16_σ_49; omega) | omega)
              have kpσ_49 : ∀ j, 0 ≤ j → j < 3720 → m_c X σ_49 a j = m_c X σ a j := fun j h0 h1 => by rw [mcσ_49 j h0, if_neg (by first | (clear hs hz hk h4 k3σ k4σ j25σ_2 k3σ_2 beσ_2 if_3 c_4 dhpσ_6 ehpσ_6 k3σ_6 k4σ_6 bhpσ_8 chpσ_8 k3σ_9 k4σ_9 if_10 k3σ_11 if_12 c_13 k3σ_16 dhpσ_18 ehpσ_18 k3σ_18 bhpσ_20 dhpσ_20 c_41 chpσ_20 ahpσ_43 dhpσ_43 ehpσ_43 k3σ_43 kc_45 kc_46 ahpσ_48 chpσ_48 dhpσ_48 ehpσ_48 k3σ_48 k4σ_48 smσ_48 onσ_48 mv9_σ_49 mv12_σ_49 mv14_σ_49 mv15_σ_49 mv16_σ_49; omega) | omega)]; exact kpσ_48 j h0 h1
              have k3σ_49 : m_c X σ_49 a 3720 = m_c X σ a 3720 ∧ m_c X σ_49 a 3721 = m_c X σ a 3721 := ⟨by rw [mcσ_49 3720 (by decide), if_neg (by first | (clear hs hz hk h4 k3σ k4σ j25σ_2 k3σ_2 beσ_2 if_3 c_4 dhpσ_6 ehpσ_6 k3σ_6 k4σ_6 bhpσ_8 chpσ_8 k3σ_9 k4σ_9 if_10 k3σ_11 if_12 c_13 k3σ_16 dhpσ_18 ehpσ_18 k3σ_18 bhpσ_20 dhpσ_20 c_41 chpσ_20 ahpσ_43 dhpσ_43 ehpσ_43 k3σ_43 kc_45 kc_46 ahpσ_48 chpσ_48 dhpσ_48 ehpσ_48 k3σ_48 k4σ_48 smσ_48 onσ_48 mv9_σ_49 mv12_σ_49 mv14_σ_49 mv15_σ_49 mv16_σ_49; omega) | omega)]; exact k3σ_48.1, by rw [mcσ_49 3721 (by decide), if_neg (by first | (clear hs hz hk h4 k3σ k4σ j25σ_2 k3σ_2 beσ_2 if_3 c_4 dhpσ_6 ehpσ_6 k3σ_6 k4σ_6 bhpσ_8 chpσ_8 k3σ_9 k4σ_9 if_10 k3σ_11 if_12 c_13 k3σ_16 dhpσ_18 ehpσ_18 k3σ_18 bhpσ_20 dhpσ_20 c_41 chpσ_20 ahpσ_43 dhpσ_43 ehpσ_43 k3σ_43 kc_45 kc_46 ahpσ_48 chpσ_48 dhpσ_48 ehpσ_48 k3σ_48 k4σ_48 smσ_48 onσ_48 mv9_σ_49 mv12_σ_49 mv14_σ_49 mv15_σ_49 mv16_σ_49; omega) | omega)]; exact k3σ_48.2⟩
              have k4σ_49 : 1 ≤ m_c X σ_49 a 3724 + 10 * (σ_49.1 a 12).toInt := (by have := mcσ_49 3724 (by decide); rw [if_neg (by first | (clear hs hz hk h4 k3σ k4σ j25σ_2 k3σ_2 beσ_2 if_3 c_4 dhpσ_6 ehpσ_6 k3σ_6 k4σ_6 bhpσ_8 chpσ_8 k3σ_9 k4σ_9 if_10 k3σ_11 if_12 c_13 k3σ_16 dhpσ_18 ehpσ_18 k3σ_18 bhpσ_20 dhpσ_20 c_41 chpσ_20 ahpσ_43 dhpσ_43 ehpσ_43 k3σ_43 kc_45 kc_46 ahpσ_48 chpσ_48 dhpσ_48 ehpσ_48 k3σ_48 k4σ_48 smσ_48 onσ_48 mv9_σ_49 mv12_σ_49 mv14_σ_49 mv15_σ_49 mv16_σ_49 k3σ_49; omega) | omega)] at this; omega)
              have smσ_49 : 0 ≤ (σ_49.1 a 15).toInt ∧ (σ_49.1 a 15).toInt ≤ (σ_49.1 a 16).toInt ∧ (σ_49.1 a 16).toInt ≤ (σ_49.1 a 9).toInt ∧ (σ_49.1 a 9).toInt ≤ 900 ∧ 0 ≤ (σ_49.1 a 14).toInt ∧ (σ_49.1 a 14).toInt ≤ 4 ∧ (σ_49.1 a 14).toInt ≤ 4 * ((σ_49.1 a 16).toInt - (σ_49.1 a 15).toInt) ∧ (σ_49.1 a 14).toInt ≤ 4 * ((σ_49.1 a 9).toInt - (σ_49.1 a 15).toInt) ∧ 0 ≤ (σ_49.1 a 12).toInt ∧ (σ_49.1 a 9).toInt = (σ.1 a 9).toInt ∧ (σ.1 a 15).toInt ≤ (σ_49.1 a 15).toInt ∧ (σ.1 a 12).toInt ≤ (σ_49.1 a 12).toInt := (by first | (rw [mv12_σ_49, mv14_σ_49, mv15_σ_49, mv16_σ_49, mv9_σ_49]; exact smσ_48) | omega)
              have onσ_49 : (σ.1 a 16).toInt ≤ (σ_49.1 a 15).toInt := (by first | (clear hs hz hk h4 k3σ k4σ if_1 j25σ_2 k3σ_2 if_3 c_4 dhpσ_6 ehpσ_6 k3σ_6 k4σ_6 bhpσ_8 chpσ_8 k3σ_9 k4σ_9 if_10 k3σ_11 if_12 c_13 iz_14 k3σ_16 dhpσ_18 ehpσ_18 k3σ_18 bhpσ_20 dhpσ_20 c_41 chpσ_20 ahpσ_43 dhpσ_43 ehpσ_43 k3σ_43 iz_44 kc_45 kc_46 ahpσ_48 chpσ_48 dhpσ_48 ehpσ_48 k3σ_48 k4σ_48 smσ_48 kmσ_48 mv9_σ_49 mv12_σ_49 mv14_σ_49 mv16_σ_49 k3σ_49 k4σ_49 smσ_49; omega) | omega)
              have kmσ_49 : m_c X σ_49 a 3722 = m_c X σ a 3722 := (by rw [mcσ_49 3722 (by decide), if_neg (by first | (clear hs hz hk h4 k3σ k4σ j25σ_2 k3σ_2 beσ_2 if_3 c_4 dhpσ_6 ehpσ_6 k3σ_6 k4σ_6 bhpσ_8 chpσ_8 k3σ_9 k4σ_9 if_10 k3σ_11 if_12 c_13 k3σ_16 dhpσ_18 ehpσ_18 k3σ_18 bhpσ_20 dhpσ_20 c_41 chpσ_20 ahpσ_43 dhpσ_43 ehpσ_43 k3σ_43 kc_45 kc_46 ahpσ_48 chpσ_48 dhpσ_48 ehpσ_48 k3σ_48 k4σ_48 smσ_48 onσ_48 mv9_σ_49 mv12_σ_49 mv14_σ_49 mv15_σ_49 mv16_σ_49 k3σ_49 k4σ_49 smσ_49 onσ_49; omega) | omega)]; exact kmσ_48)
              clear mv9_σ_49 mv12_σ_49 mv14_σ_49 mv15_σ_49 mv16_σ_49 k4σ_48 smσ_48 onσ_48 kmσ_48
              exact J_125_21 σ_49 _ _ ls fr_σ_49 nnσ_49 kpσ_49 k3σ_49 k4σ_49 smσ_49 onσ_49 kmσ_49 hF hI (lv_sub hl [0, 1] rfl)
          · skip
            replace hF := q_ifp hF c_13
            exact q_retv E hr hlk hI ⟨nnσ_11, kpσ_11, (by first | exact smσ_11 | omega), (by first | exact smσ_11 | omega), k3σ_11, k4σ_11, (hF.trans hout), fr_σ_11⟩ dX12_readPlayer_79
        refine q_if_ne (A := f_10.toInt) E rfl (tgt := 72) dX12_readPlayer_52 (by decide) (fun c_50 => ?_) (fun c_50 => ?_)
        · skip
          replace hF := q_ifn hF c_50
          exact J_72_11 σ_9 _ _ ls fr_σ_9 nnσ_9 kpσ_9 k3σ_9 k4σ_9 smσ_9 onσ_9 kmσ_9 hF hI (lv_sub hl [0, 1] rfl)
        · skip
          replace hF := q_ifp hF c_50
          refine lv_aload_n hx hb dX12_readPlayer_55 rfl (lv_at hl 0 rfl) ?_
          refine lv_iconst (v := 4) hx hb dX12_readPlayer_56 zki_4 ?_
          have kc_51 : (4 : Int32).toInt = 4 := zt_4
          refine q_ci (q_rV11_1 (rest := []) E (hml.trans hl.1.symm) hI (c_X12_named l X σ_9 a (4 : Int32) ha (Or.inr rfl) (by show m_c X σ_9 a 3722 ≤ 6; have := nnσ_9.2.2.1; omega)) kv_X12_213 ha ⟨Nat.le_of_ble_eq_true rfl, Nat.le_of_ble_eq_true rfl⟩ (Nat.le_of_ble_eq_true rfl) dX12_readPlayer_57) hI (Nat.le_of_ble_eq_true rfl) (fun r_52 σ_53 H locs hpσ_53 hkσ_53 hI => ?_)
          have ahpσ_53 := hpσ_53.1
          have bhpσ_53 := hpσ_53.2.1
          have chpσ_53 := hpσ_53.2.2
          clear hpσ_53
          replace hI := q_Irw ahpσ_53 hI
          replace hF := q_letX hF chpσ_53
          refine q_if_lt (A := r_52.toInt) E rfl (tgt := 72) dX12_readPlayer_60 (by decide) (fun c_54 => ?_) (fun c_54 => ?_)
          · skip
            replace hF := q_ifp hF c_54
            exact J_72_11 σ_9 _ _ ls fr_σ_9 nnσ_9 kpσ_9 k3σ_9 k4σ_9 smσ_9 onσ_9 kmσ_9 hF hI (lv_sub hl [0, 1] rfl)
          · skip
            replace hF := q_ifn hF (Int.not_lt.mpr c_54)
            refine lv_aload_n hx hb dX12_readPlayer_63 rfl (lv_at hl 0 rfl) ?_
            refine lv_iconst (v := 3) hx hb dX12_readPlayer_64 zki_3 ?_
            refine lv_aload_n hx hb dX12_readPlayer_65 rfl (lv_at hl 0 rfl) ?_
            refine gs_X12_104_12 E hI ha dX12_readPlayer_66 ?_
            refine lv_topi (fun f_55 ef_55 => ?_)
            replace hF := q_letX hF ef_55
            have if_55 : f_55.toInt = (σ_9.1 a 15).toInt := congrArg Int32.toInt ef_55
            have kc_56 : (3 : Int32).toInt = 3 := zt_3
            refine q_cv (q_rV11_2 (rest := []) E (hml.trans hl.1.symm) hI (c_X12_fail l X σ_9 a (3 : Int32) f_55 ha (by first | (clear hs hz hk h4 k3σ k4σ if_1 j25σ_2 k3σ_2 beσ_2 if_3 c_4 dhpσ_6 ehpσ_6 k3σ_6 k4σ_6 bhpσ_8 chpσ_8 k3σ_9 k4σ_9 kc_51 ahpσ_53 bhpσ_53 chpσ_53 c_54 if_55 kc_56; omega) | omega) (by first | (clear hs hz hk h4 k3σ k4σ if_1 j25σ_2 k3σ_2 beσ_2 if_3 c_4 dhpσ_6 ehpσ_6 k3σ_6 k4σ_6 bhpσ_8 chpσ_8 k3σ_9 k4σ_9 if_10 c_50 kc_51 ahpσ_53 bhpσ_53 chpσ_53 c_54 if_55; omega) | omega)) kv_X12_193 ha ⟨Nat.le_of_ble_eq_true rfl, Nat.le_of_ble_eq_true rfl⟩ (Nat.le_of_ble_eq_true rfl) dX12_readPlayer_69) hI (Nat.le_of_ble_eq_true rfl) (fun σ_58 H locs hpσ_58 hkσ_58 hI => ?_)
            have ahpσ_58 := hpσ_58.1
            have bhpσ_58 := hpσ_58.2.1
            have chpσ_58 := hpσ_58.2.2.1
            have dhpσ_58 := hpσ_58.2.2.2.1
            have ehpσ_58 := hpσ_58.2.2.2.2
            clear hpσ_58
            have fr_σ_58 := fr_σ_9.call ehpσ_58 rfl rfl
            replace hF := q_letX hF dhpσ_58
            have mcσ_58 := m_cK hkσ_58 hI.1 ha (by decide)
            have nnσ_58 : m_N (m_c X σ_58 a) := m_N.ext mcσ_58 nnσ_9
            have kpσ_58 : ∀ j, 0 ≤ j → j < 3720 → m_c X σ_58 a j = m_c X σ a j := fun j h0 h1 => (mcσ_58 j).trans (kpσ_9 j h0 h1)
            have k3σ_58 : m_c X σ_58 a 3720 = m_c X σ a 3720 ∧ m_c X σ_58 a 3721 = m_c X σ a 3721 := ⟨(mcσ_58 3720).trans k3σ_9.1, (mcσ_58 3721).trans k3σ_9.2⟩
            have k4σ_58 : 1 ≤ m_c X σ_58 a 3724 + 10 * (σ_58.1 a 12).toInt := (by have := mcσ_58 3724; omega)
            have smσ_58 : 0 ≤ (σ_58.1 a 15).toInt ∧ (σ_58.1 a 15).toInt ≤ (σ_58.1 a 16).toInt ∧ (σ_58.1 a 16).toInt ≤ (σ_58.1 a 9).toInt ∧ (σ_58.1 a 9).toInt ≤ 900 ∧ 0 ≤ (σ_58.1 a 14).toInt ∧ (σ_58.1 a 14).toInt ≤ 4 ∧ (σ_58.1 a 14).toInt ≤ 4 * ((σ_58.1 a 16).toInt - (σ_58.1 a 15).toInt) ∧ (σ_58.1 a 14).toInt ≤ 4 * ((σ_58.1 a 9).toInt - (σ_58.1 a 15).toInt) ∧ 0 ≤ (σ_58.1 a 12).toInt ∧ (σ_58.1 a 9).toInt = (σ.1 a 9).toInt ∧ (σ.1 a 15).toInt ≤ (σ_58.1 a 15).toInt ∧ (σ.1 a 12).toInt ≤ (σ_58.1 a 12).toInt := (by first | exact sm_fl smσ_9 bhpσ_58 chpσ_58 | omega)
            have onσ_58 : (σ.1 a 16).toInt ≤ (σ_58.1 a 15).toInt := (by first | (clear hs hz hk h4 k3σ k4σ if_1 j25σ_2 k3σ_2 if_3 c_4 dhpσ_6 ehpσ_6 k3σ_6 k4σ_6 bhpσ_8 chpσ_8 k3σ_9 k4σ_9 if_10 c_50 kc_51 ahpσ_53 bhpσ_53 chpσ_53 c_54 kc_56 ahpσ_58 chpσ_58 dhpσ_58 ehpσ_58 k3σ_58 k4σ_58 smσ_58; omega) | omega)
            have kmσ_58 : m_c X σ_58 a 3722 = m_c X σ a 3722 := (mcσ_58 3722).trans kmσ_9
            clear k4σ_9 smσ_9 onσ_9 kmσ_9 bhpσ_58
            exact J_72_11 σ_58 _ _ ls fr_σ_58 nnσ_58 kpσ_58 k3σ_58 k4σ_58 smσ_58 onσ_58 kmσ_58 hF hI (lv_sub hl [0, 1] rfl)
      refine q_if_ne (A := r_7.toInt) E rfl (tgt := 48) dX12_readPlayer_41 (by decide) (fun c_59 => ?_) (fun c_59 => ?_)
      · skip
        replace hF := q_ifn hF c_59
        replace c_59 := q_ifOne bhpσ_8 c_59
        exact J_48_9 σ_6 _ _ ls fr_σ_6 nnσ_6 kpσ_6 k3σ_6 k4σ_6 smσ_6 onσ_6 kmσ_6 hF hI (lv_sub hl [0, 1] rfl)
      · skip
        replace hF := q_ifp hF c_59
        refine lv_aload_n hx hb dX12_readPlayer_44 rfl (lv_at hl 0 rfl) ?_
        refine q_cv (q_rV11_0 (rest := []) E (hml.trans hl.1.symm) hI (c_X12_wrong l X σ_6 a ha (by first | (clear hs hz hk h4 k3σ k4σ if_1 j25σ_2 k3σ_2 beσ_2 if_3 c_4 dhpσ_6 ehpσ_6 k3σ_6 k4σ_6 bhpσ_8 chpσ_8 c_59; omega) | omega)) kv_X12_200 ha ⟨Nat.le_of_ble_eq_true rfl, Nat.le_of_ble_eq_true rfl⟩ (Nat.le_of_ble_eq_true rfl) dX12_readPlayer_45) hI (Nat.le_of_ble_eq_true rfl) (fun σ_61 H locs hpσ_61 hkσ_61 hI => ?_)
        have ahpσ_61 := hpσ_61.1
        have bhpσ_61 := hpσ_61.2.1
        have chpσ_61 := hpσ_61.2.2.1
        have dhpσ_61 := hpσ_61.2.2.2.1
        have ehpσ_61 := hpσ_61.2.2.2.2
        clear hpσ_61
        have fr_σ_61 := fr_σ_6.call ehpσ_61 rfl rfl
        replace hF := q_letX hF dhpσ_61
        have mcσ_61 := m_cK hkσ_61 hI.1 ha (by decide)
        have nnσ_61 : m_N (m_c X σ_61 a) := m_N.ext mcσ_61 nnσ_6
        have kpσ_61 : ∀ j, 0 ≤ j → j < 3720 → m_c X σ_61 a j = m_c X σ a j := fun j h0 h1 => (mcσ_61 j).trans (kpσ_6 j h0 h1)
        have k3σ_61 : m_c X σ_61 a 3720 = m_c X σ a 3720 ∧ m_c X σ_61 a 3721 = m_c X σ a 3721 := ⟨(mcσ_61 3720).trans k3σ_6.1, (mcσ_61 3721).trans k3σ_6.2⟩
        have k4σ_61 : 1 ≤ m_c X σ_61 a 3724 + 10 * (σ_61.1 a 12).toInt := (by have := mcσ_61 3724; omega)
        have smσ_61 : 0 ≤ (σ_61.1 a 15).toInt ∧ (σ_61.1 a 15).toInt ≤ (σ_61.1 a 16).toInt ∧ (σ_61.1 a 16).toInt ≤ (σ_61.1 a 9).toInt ∧ (σ_61.1 a 9).toInt ≤ 900 ∧ 0 ≤ (σ_61.1 a 14).toInt ∧ (σ_61.1 a 14).toInt ≤ 4 ∧ (σ_61.1 a 14).toInt ≤ 4 * ((σ_61.1 a 16).toInt - (σ_61.1 a 15).toInt) ∧ (σ_61.1 a 14).toInt ≤ 4 * ((σ_61.1 a 9).toInt - (σ_61.1 a 15).toInt) ∧ 0 ≤ (σ_61.1 a 12).toInt ∧ (σ_61.1 a 9).toInt = (σ.1 a 9).toInt ∧ (σ.1 a 15).toInt ≤ (σ_61.1 a 15).toInt ∧ (σ.1 a 12).toInt ≤ (σ_61.1 a 12).toInt := (by first | exact sm_fl smσ_6 bhpσ_61 chpσ_61 | omega)
        have onσ_61 : (σ.1 a 16).toInt ≤ (σ_61.1 a 15).toInt := (by first | (clear hs hz hk h4 k3σ k4σ if_1 j25σ_2 k3σ_2 if_3 c_4 dhpσ_6 ehpσ_6 k3σ_6 k4σ_6 bhpσ_8 chpσ_8 c_59 ahpσ_61 chpσ_61 dhpσ_61 ehpσ_61 k3σ_61 k4σ_61 smσ_61; omega) | omega)
        have kmσ_61 : m_c X σ_61 a 3722 = m_c X σ a 3722 := (mcσ_61 3722).trans kmσ_6
        clear k4σ_6 smσ_6 onσ_6 kmσ_6 bhpσ_61
        exact J_48_9 σ_61 _ _ ls fr_σ_61 nnσ_61 kpσ_61 k3σ_61 k4σ_61 smσ_61 onσ_61 kmσ_61 hF hI (lv_sub hl [0, 1] rfl)
    · skip
      replace hF := q_ifp hF c_4
      exact q_retv E hr hlk hI ⟨nnσ_2, kpσ_2, (by first | exact smσ_2 | omega), (by first | exact smσ_2 | omega), k3σ_2, k4σ_2, (hF.trans hout), fr_σ_2⟩ dX12_readPlayer_32
  refine q_icmp_ne (A := f_1.toInt) (B := 6) E rfl (by decide) (tgt := 25) dX12_readPlayer_12 (by decide) (fun c_62 => ?_) (fun c_62 => ?_)
  · skip
    replace hF := q_ifn hF c_62
    exact J_25_2 σ _ _ ls (by first | (clear hs hk h4 k3σ k4σ; omega) | omega) fr_σ nnσ kpσ k3σ k4σ smσ beσ kmσ hF hI (lv_sub hl [1, 0] rfl)
  · skip
    replace hF := q_ifp hF c_62
    refine lv_aload_n hx hb dX12_readPlayer_15 rfl (lv_at hl 1 rfl) ?_
    refine lv_bipush (v := 6) hx hb dX12_readPlayer_16 zkb_6 ?_
    refine lv_aload_n hx hb dX12_readPlayer_18 rfl (lv_at hl 1 rfl) ?_
    refine gs_X12_104_12 E hI ha dX12_readPlayer_19 ?_
    refine lv_topi (fun f_63 ef_63 => ?_)
    replace hF := q_letX hF ef_63
    have if_63 : f_63.toInt = (σ.1 a 15).toInt := congrArg Int32.toInt ef_63
    have kc_64 : (6 : Int32).toInt = 6 := zt_6
    refine q_cv (q_rV11_2 (rest := []) E (hml.trans hl.1.symm) hI (c_X12_fail l X σ a (6 : Int32) f_63 ha (by omega) (by first | (clear hs hz hk h4 k3σ k4σ if_1 c_62 if_63; omega) | omega)) kv_X12_193 ha ⟨Nat.le_of_ble_eq_true rfl, Nat.le_of_ble_eq_true rfl⟩ (Nat.le_of_ble_eq_true rfl) dX12_readPlayer_22) hI (Nat.le_of_ble_eq_true rfl) (fun σ_66 H locs hpσ_66 hkσ_66 hI => ?_)
    have ahpσ_66 := hpσ_66.1
    have bhpσ_66 := hpσ_66.2.1
    have chpσ_66 := hpσ_66.2.2.1
    have dhpσ_66 := hpσ_66.2.2.2.1
    have ehpσ_66 := hpσ_66.2.2.2.2
    clear hpσ_66
    have fr_σ_66 := fr_σ.call ehpσ_66 rfl rfl
    replace hF := q_letX hF dhpσ_66
    have mcσ_66 := m_cK hkσ_66 hI.1 ha (by decide)
    have nnσ_66 : m_N (m_c X σ_66 a) := m_N.ext mcσ_66 nnσ
    have kpσ_66 : ∀ j, 0 ≤ j → j < 3720 → m_c X σ_66 a j = m_c X σ a j := fun j h0 h1 => (mcσ_66 j).trans (kpσ j h0 h1)
    have k3σ_66 : m_c X σ_66 a 3720 = m_c X σ a 3720 ∧ m_c X σ_66 a 3721 = m_c X σ a 3721 := ⟨(mcσ_66 3720).trans k3σ.1, (mcσ_66 3721).trans k3σ.2⟩
    have k4σ_66 : 1 ≤ m_c X σ_66 a 3724 + 10 * (σ_66.1 a 12).toInt := (by have := mcσ_66 3724; omega)
    have smσ_66 : 0 ≤ (σ_66.1 a 15).toInt ∧ (σ_66.1 a 15).toInt ≤ (σ_66.1 a 16).toInt ∧ (σ_66.1 a 16).toInt ≤ (σ_66.1 a 9).toInt ∧ (σ_66.1 a 9).toInt ≤ 900 ∧ 0 ≤ (σ_66.1 a 14).toInt ∧ (σ_66.1 a 14).toInt ≤ 4 ∧ (σ_66.1 a 14).toInt ≤ 4 * ((σ_66.1 a 16).toInt - (σ_66.1 a 15).toInt) ∧ (σ_66.1 a 14).toInt ≤ 4 * ((σ_66.1 a 9).toInt - (σ_66.1 a 15).toInt) ∧ 0 ≤ (σ_66.1 a 12).toInt ∧ (σ_66.1 a 9).toInt = (σ.1 a 9).toInt ∧ (σ.1 a 15).toInt ≤ (σ_66.1 a 15).toInt ∧ (σ.1 a 12).toInt ≤ (σ_66.1 a 12).toInt := (by first | exact sm_fl smσ bhpσ_66 chpσ_66 | omega)
    have beσ_66 : (σ_66.1 a 16).toInt = (σ.1 a 16).toInt := (by omega)
    have kmσ_66 : m_c X σ_66 a 3722 = m_c X σ a 3722 := (mcσ_66 3722).trans kmσ
    clear k4σ smσ beσ kmσ bhpσ_66
    exact J_25_2 σ_66 _ _ ls (by first | (clear hs hz hk h4 k3σ if_1 if_63 kc_64 ahpσ_66 dhpσ_66 ehpσ_66 k3σ_66 k4σ_66 smσ_66 beσ_66 kmσ_66; omega) | omega) fr_σ_66 nnσ_66 kpσ_66 k3σ_66 k4σ_66 smσ_66 beσ_66 kmσ_66 hF hI (lv_sub hl [1, 0] rfl)

set_option maxRecDepth 100000 in
set_option maxHeartbeats 4000000 in
theorem c_X12_readHand (l : Launch) (X : XW) (σ : ST) (a : Nat) (ha : q_kd X a = 12) (hs : 0 ≤ (σ.1 a 15).toInt ∧ (σ.1 a 15).toInt ≤ (σ.1 a 16).toInt ∧ (σ.1 a 16).toInt ≤ (σ.1 a 9).toInt ∧ (σ.1 a 9).toInt ≤ 900 ∧ 0 ≤ (σ.1 a 14).toInt ∧ (σ.1 a 14).toInt ≤ 4 ∧ (σ.1 a 14).toInt ≤ 4 * ((σ.1 a 16).toInt - (σ.1 a 15).toInt) ∧ (σ.1 a 14).toInt ≤ 4 * ((σ.1 a 9).toInt - (σ.1 a 15).toInt) ∧ 0 ≤ (σ.1 a 12).toInt) (hN : m_N (m_c X σ a)) (hz : (σ.1 a 12).toInt = 0) (hk : 2 ≤ m_c X σ a 3720) (h4 : 1 ≤ m_c X σ a 3724) : Met l yX12_readHand (q_ws yX12_readHand cX12_readHand 6 none) (q_rm 6 129) (q_P X σ [.ref a]) (q_Qv X 1 σ (fun (σ' : ST) => (m_N (m_c X σ' a)) ∧ (∀ j, 0 ≤ j → j < 3720 → m_c X σ' a j = m_c X σ a j) ∧ (0 ≤ (σ'.1 a 15).toInt ∧ (σ'.1 a 15).toInt ≤ (σ'.1 a 16).toInt ∧ (σ'.1 a 16).toInt ≤ (σ'.1 a 9).toInt ∧ (σ'.1 a 9).toInt ≤ 900 ∧ 0 ≤ (σ'.1 a 14).toInt ∧ (σ'.1 a 14).toInt ≤ 4 ∧ (σ'.1 a 14).toInt ≤ 4 * ((σ'.1 a 16).toInt - (σ'.1 a 15).toInt) ∧ (σ'.1 a 14).toInt ≤ 4 * ((σ'.1 a 9).toInt - (σ'.1 a 15).toInt) ∧ 0 ≤ (σ'.1 a 12).toInt ∧ (σ'.1 a 9).toInt = (σ.1 a 9).toInt ∧ (σ.1 a 15).toInt ≤ (σ'.1 a 15).toInt ∧ (σ.1 a 12).toInt ≤ (σ'.1 a 12).toInt) ∧ ((σ.1 a 16).toInt ≤ (σ'.1 a 15).toInt + 1000 * (σ'.1 a 12).toInt) ∧ (m_c X σ' a 3720 = m_c X σ a 3720 ∧ m_c X σ' a 3721 = m_c X σ a 3721) ∧ (1 ≤ m_c X σ' a 3724 + 10 * (σ'.1 a 12).toInt) ∧ σ' = F_X12_readHand X σ a ∧ q_ow [(12, 12), (12, 13), (12, 14), (12, 15), (12, 16), (12, 17), (12, 18), (34, 99), (36, 99)] [(12, 19)] X σ σ')) 0 0 (q_reg X) := by
  refine q_met 1 (by first | exact rfl | decide +kernel) rfl (Nat.le_of_ble_eq_true rfl) (fun p e s m below meth c E hml hr hlk hI ls hl => ?_)
  have hx := E.1
  have hb := E.2.1
  have hl : lv_has ls 6 [(0, .ref a)] := hl
  have nnσ : m_N (m_c X σ a) := hN
  have kpσ : ∀ j, 0 ≤ j → j < 3720 → m_c X σ a j = m_c X σ a j := fun _ _ _ => rfl
  have k3σ : m_c X σ a 3720 = m_c X σ a 3720 ∧ m_c X σ a 3721 = m_c X σ a 3721 := ⟨rfl, rfl⟩
  have k4σ : 1 ≤ m_c X σ a 3724 + 10 * (σ.1 a 12).toInt := (by omega)
  have smσ : 0 ≤ (σ.1 a 15).toInt ∧ (σ.1 a 15).toInt ≤ (σ.1 a 16).toInt ∧ (σ.1 a 16).toInt ≤ (σ.1 a 9).toInt ∧ (σ.1 a 9).toInt ≤ 900 ∧ 0 ≤ (σ.1 a 14).toInt ∧ (σ.1 a 14).toInt ≤ 4 ∧ (σ.1 a 14).toInt ≤ 4 * ((σ.1 a 16).toInt - (σ.1 a 15).toInt) ∧ (σ.1 a 14).toInt ≤ 4 * ((σ.1 a 9).toInt - (σ.1 a 15).toInt) ∧ 0 ≤ (σ.1 a 12).toInt ∧ (σ.1 a 9).toInt = (σ.1 a 9).toInt ∧ (σ.1 a 15).toInt ≤ (σ.1 a 15).toInt ∧ (σ.1 a 12).toInt ≤ (σ.1 a 12).toInt := (by omega)
  have fr_σ : q_ow [(12, 12), (12, 13), (12, 14), (12, 15), (12, 16), (12, 17), (12, 18), (34, 99), (36, 99)] [(12, 19)] X σ σ := q_ow.rf
  have n0 := hN.1
  have n1 := hN.2.1
  obtain ⟨out, hout⟩ : ∃ o, o = F_X12_readHand X σ a := ⟨_, rfl⟩
  have hF := hout.symm
  unfold F_X12_readHand at hF
  refine lv_aload_n hx hb dX12_readHand_0 rfl (lv_at hl 0 rfl) ?_
  refine q_cv (q_rV11_0 (rest := []) E (hml.trans hl.1.symm) hI (c_X12_next l X σ a ha (by first | (clear hz hk h4 k3σ k4σ smσ; omega) | omega) (by first | (clear hz hk h4 k3σ k4σ smσ; omega) | omega) (by first | (clear hz hk h4 k3σ k4σ smσ; omega) | omega)) kv_X12_197 ha ⟨Nat.le_of_ble_eq_true rfl, Nat.le_of_ble_eq_true rfl⟩ (Nat.le_of_ble_eq_true rfl) dX12_readHand_1) hI (Nat.le_of_ble_eq_true rfl) (fun σ_2 H locs hpσ_2 hkσ_2 hI => ?_)
  have ahpσ_2 := hpσ_2.1
  have bhpσ_2 := hpσ_2.2.1
  have chpσ_2 := hpσ_2.2.2.1
  have dhpσ_2 := hpσ_2.2.2.2.1
  have ehpσ_2 := hpσ_2.2.2.2.2
  clear hpσ_2
  have fr_σ_2 := fr_σ.call ehpσ_2 rfl rfl
  replace hF := q_letX hF dhpσ_2
  have mcσ_2 := m_cK hkσ_2 hI.1 ha (by decide)
  have nnσ_2 : m_N (m_c X σ_2 a) := m_N.ext mcσ_2 nnσ
  have kpσ_2 : ∀ j, 0 ≤ j → j < 3720 → m_c X σ_2 a j = m_c X σ a j := fun j h0 h1 => (mcσ_2 j).trans (kpσ j h0 h1)
  have k3σ_2 : m_c X σ_2 a 3720 = m_c X σ a 3720 ∧ m_c X σ_2 a 3721 = m_c X σ a 3721 := ⟨(mcσ_2 3720).trans k3σ.1, (mcσ_2 3721).trans k3σ.2⟩
  have k4σ_2 : 1 ≤ m_c X σ_2 a 3724 + 10 * (σ_2.1 a 12).toInt := (by have := mcσ_2 3724; omega)
  have smσ_2 : 0 ≤ (σ_2.1 a 15).toInt ∧ (σ_2.1 a 15).toInt ≤ (σ_2.1 a 16).toInt ∧ (σ_2.1 a 16).toInt ≤ (σ_2.1 a 9).toInt ∧ (σ_2.1 a 9).toInt ≤ 900 ∧ 0 ≤ (σ_2.1 a 14).toInt ∧ (σ_2.1 a 14).toInt ≤ 4 ∧ (σ_2.1 a 14).toInt ≤ 4 * ((σ_2.1 a 16).toInt - (σ_2.1 a 15).toInt) ∧ (σ_2.1 a 14).toInt ≤ 4 * ((σ_2.1 a 9).toInt - (σ_2.1 a 15).toInt) ∧ 0 ≤ (σ_2.1 a 12).toInt ∧ (σ_2.1 a 9).toInt = (σ.1 a 9).toInt ∧ (σ.1 a 15).toInt ≤ (σ_2.1 a 15).toInt ∧ (σ.1 a 12).toInt ≤ (σ_2.1 a 12).toInt := (by first | exact sm_nx smσ bhpσ_2 chpσ_2 | omega)
  have onσ_2 : (σ.1 a 16).toInt ≤ (σ_2.1 a 15).toInt := (by first | (clear hs hz hk h4 k3σ k4σ smσ ahpσ_2 bhpσ_2 dhpσ_2 ehpσ_2 k3σ_2 k4σ_2 smσ_2; omega) | omega)
  clear k4σ smσ bhpσ_2 chpσ_2
  refine lv_aload_n hx hb dX12_readHand_4 rfl (lv_at hl 0 rfl) ?_
  refine lv_iconst (v := 4) hx hb dX12_readHand_5 zki_4 ?_
  have kc_3 : (4 : Int32).toInt = 4 := zt_4
  refine q_ci (q_rV11_1 (rest := []) E (hml.trans hl.1.symm) hI (c_X12_readTold l X σ_2 a (4 : Int32) ha (by first | exact sm_9 smσ_2 | exact hs | omega) (Or.inr rfl) (by show m_c X σ_2 a 3722 ≤ 6; have := nnσ_2.2.2.1; omega)) kv_X12_226 ha ⟨Nat.le_of_ble_eq_true rfl, Nat.le_of_ble_eq_true rfl⟩ (Nat.le_of_ble_eq_true rfl) dX12_readHand_6) hI (Nat.le_of_ble_eq_true rfl) (fun r_4 σ_5 H locs hpσ_5 hkσ_5 hI => ?_)
  have ahpσ_5 := hpσ_5.1
  have bhpσ_5 := hpσ_5.2.1
  have chpσ_5 := hpσ_5.2.2.1
  have dhpσ_5 := hpσ_5.2.2.2.1
  have ehpσ_5 := hpσ_5.2.2.2.2
  clear hpσ_5
  have fr_σ_5 := fr_σ_2.call ehpσ_5 rfl rfl
  replace hF := q_biX hF dhpσ_5
  have mcσ_5 := m_cK hkσ_5 hI.1 ha (by decide)
  have nnσ_5 : m_N (m_c X σ_5 a) := m_N.ext mcσ_5 nnσ_2
  have kpσ_5 : ∀ j, 0 ≤ j → j < 3720 → m_c X σ_5 a j = m_c X σ a j := fun j h0 h1 => (mcσ_5 j).trans (kpσ_2 j h0 h1)
  have k3σ_5 : m_c X σ_5 a 3720 = m_c X σ a 3720 ∧ m_c X σ_5 a 3721 = m_c X σ a 3721 := ⟨(mcσ_5 3720).trans k3σ_2.1, (mcσ_5 3721).trans k3σ_2.2⟩
  have k4σ_5 : 1 ≤ m_c X σ_5 a 3724 + 10 * (σ_5.1 a 12).toInt := (by have := mcσ_5 3724; omega)
  have smσ_5 : 0 ≤ (σ_5.1 a 15).toInt ∧ (σ_5.1 a 15).toInt ≤ (σ_5.1 a 16).toInt ∧ (σ_5.1 a 16).toInt ≤ (σ_5.1 a 9).toInt ∧ (σ_5.1 a 9).toInt ≤ 900 ∧ 0 ≤ (σ_5.1 a 14).toInt ∧ (σ_5.1 a 14).toInt ≤ 4 ∧ (σ_5.1 a 14).toInt ≤ 4 * ((σ_5.1 a 16).toInt - (σ_5.1 a 15).toInt) ∧ (σ_5.1 a 14).toInt ≤ 4 * ((σ_5.1 a 9).toInt - (σ_5.1 a 15).toInt) ∧ 0 ≤ (σ_5.1 a 12).toInt ∧ (σ_5.1 a 9).toInt = (σ.1 a 9).toInt ∧ (σ.1 a 15).toInt ≤ (σ_5.1 a 15).toInt ∧ (σ.1 a 12).toInt ≤ (σ_5.1 a 12).toInt := (by first | exact sm_tr smσ_2 bhpσ_5 | exact sm_tr smσ_2 chpσ_5 | omega)
  have onσ_5 : (σ.1 a 16).toInt ≤ (σ_5.1 a 15).toInt := (by first | (clear hs hz hk h4 k3σ ahpσ_2 dhpσ_2 ehpσ_2 k3σ_2 k4σ_2 smσ_2 kc_3 ahpσ_5 chpσ_5 dhpσ_5 ehpσ_5 k3σ_5 k4σ_5 smσ_5; omega) | omega)
  clear k4σ_2 smσ_2 onσ_2 bhpσ_5
  refine lv_istore_n (lv' := [(1, .int r_4), (0, .ref a)]) hx hb dX12_readHand_9 rfl hl (by decide) rfl (fun ls hl => ?_)
  refine lv_aload_n hx hb dX12_readHand_10 rfl (lv_at hl 1 rfl) ?_
  refine lv_iconst (v := 0) hx hb dX12_readHand_11 zki_0 ?_
  refine lv_bipush (v := 8) hx hb dX12_readHand_12 zkb_8 ?_
  have kc_6 : (0 : Int32).toInt = 0 := zt_0
  have kc_7 : (8 : Int32).toInt = 8 := zt_8
  refine q_ci (q_rV11_2 (rest := []) E (hml.trans hl.1.symm) hI (c_X12_count l X σ_5 a (0 : Int32) (8 : Int32) ha (by first | exact sm_9 smσ_5 | exact hs | omega) (by first | (clear hs hz hk h4 k3σ ahpσ_2 dhpσ_2 ehpσ_2 k3σ_2 kc_3 ahpσ_5 chpσ_5 dhpσ_5 ehpσ_5 k3σ_5 k4σ_5 smσ_5 onσ_5; omega) | omega)) kv_X12_223 ha ⟨Nat.le_of_ble_eq_true rfl, Nat.le_of_ble_eq_true rfl⟩ (Nat.le_of_ble_eq_true rfl) dX12_readHand_14) hI (Nat.le_of_ble_eq_true rfl) (fun r_8 σ_9 H locs hpσ_9 hkσ_9 hI => ?_)
  have ahpσ_9 := hpσ_9.1
  have bhpσ_9 := hpσ_9.2.1
  have chpσ_9 := hpσ_9.2.2.1
  have dhpσ_9 := hpσ_9.2.2.2.1
  have ehpσ_9 := hpσ_9.2.2.2.2
  clear hpσ_9
  have fr_σ_9 := fr_σ_5.call ehpσ_9 rfl rfl
  replace hF := q_biX hF dhpσ_9
  have mcσ_9 := m_cK hkσ_9 hI.1 ha (by decide)
  have nnσ_9 : m_N (m_c X σ_9 a) := m_N.ext mcσ_9 nnσ_5
  have kpσ_9 : ∀ j, 0 ≤ j → j < 3720 → m_c X σ_9 a j = m_c X σ a j := fun j h0 h1 => (mcσ_9 j).trans (kpσ_5 j h0 h1)
  have k3σ_9 : m_c X σ_9 a 3720 = m_c X σ a 3720 ∧ m_c X σ_9 a 3721 = m_c X σ a 3721 := ⟨(mcσ_9 3720).trans k3σ_5.1, (mcσ_9 3721).trans k3σ_5.2⟩
  have k4σ_9 : 1 ≤ m_c X σ_9 a 3724 + 10 * (σ_9.1 a 12).toInt := (by have := mcσ_9 3724; omega)
  have smσ_9 : 0 ≤ (σ_9.1 a 15).toInt ∧ (σ_9.1 a 15).toInt ≤ (σ_9.1 a 16).toInt ∧ (σ_9.1 a 16).toInt ≤ (σ_9.1 a 9).toInt ∧ (σ_9.1 a 9).toInt ≤ 900 ∧ 0 ≤ (σ_9.1 a 14).toInt ∧ (σ_9.1 a 14).toInt ≤ 4 ∧ (σ_9.1 a 14).toInt ≤ 4 * ((σ_9.1 a 16).toInt - (σ_9.1 a 15).toInt) ∧ (σ_9.1 a 14).toInt ≤ 4 * ((σ_9.1 a 9).toInt - (σ_9.1 a 15).toInt) ∧ 0 ≤ (σ_9.1 a 12).toInt ∧ (σ_9.1 a 9).toInt = (σ.1 a 9).toInt ∧ (σ.1 a 15).toInt ≤ (σ_9.1 a 15).toInt ∧ (σ.1 a 12).toInt ≤ (σ_9.1 a 12).toInt := (by first | exact sm_tr smσ_5 bhpσ_9 | exact sm_tr smσ_5 chpσ_9 | omega)
  have onσ_9 : (σ.1 a 16).toInt ≤ (σ_9.1 a 15).toInt := (by first | (clear hs hz hk h4 k3σ ahpσ_2 dhpσ_2 ehpσ_2 k3σ_2 kc_3 ahpσ_5 chpσ_5 dhpσ_5 ehpσ_5 k3σ_5 k4σ_5 smσ_5 kc_6 kc_7 ahpσ_9 chpσ_9 dhpσ_9 ehpσ_9 k3σ_9 k4σ_9 smσ_9; omega) | omega)
  clear k4σ_5 smσ_5 onσ_5 bhpσ_9
  refine lv_istore_n (lv' := [(2, .int r_8), (1, .int r_4), (0, .ref a)]) hx hb dX12_readHand_17 rfl hl (by decide) rfl (fun ls hl => ?_)
  refine lv_aload_n hx hb dX12_readHand_18 rfl (lv_at hl 2 rfl) ?_
  refine lv_aload_n hx hb dX12_readHand_19 rfl (lv_at hl 2 rfl) ?_
  refine q_ci (q_rV11_0 (rest := [.ref a]) E (hml.trans hl.1.symm) hI (c_X12_isOf l X σ_9 a ha) kv_X12_168 ha ⟨Nat.le_of_ble_eq_true rfl, Nat.le_of_ble_eq_true rfl⟩ (Nat.le_of_ble_eq_true rfl) dX12_readHand_20) hI (Nat.le_of_ble_eq_true rfl) (fun r_10 σ_11 H locs hpσ_11 hkσ_11 hI => ?_)
  have ahpσ_11 := hpσ_11.1
  have bhpσ_11 := hpσ_11.2.1
  have chpσ_11 := hpσ_11.2.2
  clear hpσ_11
  replace hI := q_Irw ahpσ_11 hI
  replace hF := q_letX hF chpσ_11
  refine q_cv (q_rV11_1 (rest := []) E (hml.trans hl.1.symm) hI (c_X12_must l X σ_9 a r_10 ha (by first | exact sm_9 smσ_9 | exact hs | omega) (by first | (clear hs hz hk h4 k3σ ahpσ_2 dhpσ_2 ehpσ_2 k3σ_2 kc_3 ahpσ_5 chpσ_5 dhpσ_5 ehpσ_5 k3σ_5 kc_6 kc_7 ahpσ_9 chpσ_9 dhpσ_9 ehpσ_9 k3σ_9 k4σ_9 smσ_9 onσ_9 ahpσ_11 chpσ_11; omega) | omega)) kv_X12_216 ha ⟨Nat.le_of_ble_eq_true rfl, Nat.le_of_ble_eq_true rfl⟩ (Nat.le_of_ble_eq_true rfl) dX12_readHand_23) hI (Nat.le_of_ble_eq_true rfl) (fun σ_13 H locs hpσ_13 hkσ_13 hI => ?_)
  have ahpσ_13 := hpσ_13.1
  have bhpσ_13 := hpσ_13.2.1
  have chpσ_13 := hpσ_13.2.2.1
  have dhpσ_13 := hpσ_13.2.2.2.1
  have ehpσ_13 := hpσ_13.2.2.2.2
  clear hpσ_13
  have fr_σ_13 := fr_σ_9.call ehpσ_13 rfl rfl
  replace hF := q_letX hF dhpσ_13
  have mcσ_13 := m_cK hkσ_13 hI.1 ha (by decide)
  have nnσ_13 : m_N (m_c X σ_13 a) := m_N.ext mcσ_13 nnσ_9
  have kpσ_13 : ∀ j, 0 ≤ j → j < 3720 → m_c X σ_13 a j = m_c X σ a j := fun j h0 h1 => (mcσ_13 j).trans (kpσ_9 j h0 h1)
  have k3σ_13 : m_c X σ_13 a 3720 = m_c X σ a 3720 ∧ m_c X σ_13 a 3721 = m_c X σ a 3721 := ⟨(mcσ_13 3720).trans k3σ_9.1, (mcσ_13 3721).trans k3σ_9.2⟩
  have k4σ_13 : 1 ≤ m_c X σ_13 a 3724 + 10 * (σ_13.1 a 12).toInt := (by have := mcσ_13 3724; omega)
  have smσ_13 : 0 ≤ (σ_13.1 a 15).toInt ∧ (σ_13.1 a 15).toInt ≤ (σ_13.1 a 16).toInt ∧ (σ_13.1 a 16).toInt ≤ (σ_13.1 a 9).toInt ∧ (σ_13.1 a 9).toInt ≤ 900 ∧ 0 ≤ (σ_13.1 a 14).toInt ∧ (σ_13.1 a 14).toInt ≤ 4 ∧ (σ_13.1 a 14).toInt ≤ 4 * ((σ_13.1 a 16).toInt - (σ_13.1 a 15).toInt) ∧ (σ_13.1 a 14).toInt ≤ 4 * ((σ_13.1 a 9).toInt - (σ_13.1 a 15).toInt) ∧ 0 ≤ (σ_13.1 a 12).toInt ∧ (σ_13.1 a 9).toInt = (σ.1 a 9).toInt ∧ (σ.1 a 15).toInt ≤ (σ_13.1 a 15).toInt ∧ (σ.1 a 12).toInt ≤ (σ_13.1 a 12).toInt := (by first | exact sm_tr smσ_9 bhpσ_13 | exact sm_tr smσ_9 chpσ_13 | omega)
  have onσ_13 : (σ.1 a 16).toInt ≤ (σ_13.1 a 15).toInt := (by first | (clear hs hz hk h4 k3σ ahpσ_2 dhpσ_2 ehpσ_2 k3σ_2 kc_3 ahpσ_5 chpσ_5 dhpσ_5 ehpσ_5 k3σ_5 kc_6 kc_7 ahpσ_9 chpσ_9 dhpσ_9 ehpσ_9 k3σ_9 k4σ_9 smσ_9 ahpσ_11 bhpσ_11 chpσ_11 ahpσ_13 chpσ_13 dhpσ_13 ehpσ_13 k3σ_13 k4σ_13 smσ_13; omega) | omega)
  clear k4σ_9 smσ_9 onσ_9 bhpσ_13
  refine lv_aload_n hx hb dX12_readHand_26 rfl (lv_at hl 2 rfl) ?_
  refine gs_X12_104_12 E hI ha dX12_readHand_27 ?_
  refine lv_topi (fun f_14 ef_14 => ?_)
  replace hF := q_letX hF ef_14
  have if_14 : f_14.toInt = (σ_13.1 a 15).toInt := congrArg Int32.toInt ef_14
  refine lv_istore_n (lv' := [(3, .int f_14), (2, .int r_8), (1, .int r_4), (0, .ref a)]) hx hb dX12_readHand_30 rfl hl (by decide) rfl (fun ls hl => ?_)
  refine lv_aload_n hx hb dX12_readHand_31 rfl (lv_at hl 3 rfl) ?_
  refine lv_iconst (v := 0) hx hb dX12_readHand_32 zki_0 ?_
  refine lv_aload_n hx hb dX12_readHand_33 rfl (lv_at hl 3 rfl) ?_
  refine gs_X12_35_12 E hI ha dX12_readHand_34 ?_
  refine lv_sipush (v := 3720) hx hb dX12_readHand_37 zks_3720 ?_
  refine q_iald E hI (q_tk (k' := 34) hI ha rfl (Nat.succ_ne_zero _)) ⟨by decide, rfl⟩ (by decide) (by rw [q_lnk (v := 4650) hI (q_tk (k' := 34) hI ha rfl (Nat.succ_ne_zero _)) rfl (by decide)]; decide) dX12_readHand_40 ?_
  refine lv_topi (fun f_15 ef_15 => ?_)
  replace hF := q_letX hF ef_15
  have if_15 : f_15.toInt = m_c X σ_13 a 3720 := m_rd ef_15 (by decide)
  refine lv_iconst (v := 1) hx hb dX12_readHand_41 zki_1 ?_
  refine lv_isub hx hb dX12_readHand_42 ?_
  refine lv_topi (fun z_16 ez_16 => ?_)
  replace hF := q_letX hF ez_16
  have iz_16 := q_subI (A := (m_c X σ_13 a 3720)) (B := 1) ez_16 if_15 (by decide) (by first | (clear hs hz h4 k3σ ahpσ_2 dhpσ_2 ehpσ_2 kc_3 ahpσ_5 chpσ_5 dhpσ_5 ehpσ_5 kc_6 kc_7 ahpσ_9 chpσ_9 dhpσ_9 ehpσ_9 ahpσ_11 bhpσ_11 chpσ_11 ahpσ_13 chpσ_13 dhpσ_13 ehpσ_13 k4σ_13 smσ_13 onσ_13 if_14; omega) | omega) (by first | (clear hs hz h4 k3σ ahpσ_2 dhpσ_2 ehpσ_2 kc_3 ahpσ_5 chpσ_5 dhpσ_5 ehpσ_5 kc_6 kc_7 ahpσ_9 chpσ_9 dhpσ_9 ehpσ_9 ahpσ_11 bhpσ_11 chpσ_11 ahpσ_13 chpσ_13 dhpσ_13 ehpσ_13 k4σ_13 smσ_13 onσ_13 if_14; omega) | omega)
  have kc_17 : (0 : Int32).toInt = 0 := zt_0
  refine q_ci (q_rV11_2 (rest := []) E (hml.trans hl.1.symm) hI (c_X12_count l X σ_13 a (0 : Int32) z_16 ha (by first | exact sm_9 smσ_13 | exact hs | omega) (by first | (clear hs hz h4 k3σ ahpσ_2 dhpσ_2 ehpσ_2 kc_3 ahpσ_5 chpσ_5 dhpσ_5 ehpσ_5 kc_7 ahpσ_9 chpσ_9 dhpσ_9 ehpσ_9 ahpσ_11 bhpσ_11 chpσ_11 ahpσ_13 chpσ_13 dhpσ_13 ehpσ_13 k4σ_13 smσ_13 onσ_13 if_14 kc_17; omega) | omega)) kv_X12_223 ha ⟨Nat.le_of_ble_eq_true rfl, Nat.le_of_ble_eq_true rfl⟩ (Nat.le_of_ble_eq_true rfl) dX12_readHand_43) hI (Nat.le_of_ble_eq_true rfl) (fun r_18 σ_19 H locs hpσ_19 hkσ_19 hI => ?_)
  have ahpσ_19 := hpσ_19.1
  have bhpσ_19 := hpσ_19.2.1
  have chpσ_19 := hpσ_19.2.2.1
  have dhpσ_19 := hpσ_19.2.2.2.1
  have ehpσ_19 := hpσ_19.2.2.2.2
  clear hpσ_19
  have fr_σ_19 := fr_σ_13.call ehpσ_19 rfl rfl
  replace hF := q_biX hF dhpσ_19
  have mcσ_19 := m_cK hkσ_19 hI.1 ha (by decide)
  have nnσ_19 : m_N (m_c X σ_19 a) := m_N.ext mcσ_19 nnσ_13
  have kpσ_19 : ∀ j, 0 ≤ j → j < 3720 → m_c X σ_19 a j = m_c X σ a j := fun j h0 h1 => (mcσ_19 j).trans (kpσ_13 j h0 h1)
  have k3σ_19 : m_c X σ_19 a 3720 = m_c X σ a 3720 ∧ m_c X σ_19 a 3721 = m_c X σ a 3721 := ⟨(mcσ_19 3720).trans k3σ_13.1, (mcσ_19 3721).trans k3σ_13.2⟩
  have k4σ_19 : 1 ≤ m_c X σ_19 a 3724 + 10 * (σ_19.1 a 12).toInt := (by have := mcσ_19 3724; omega)
  have smσ_19 : 0 ≤ (σ_19.1 a 15).toInt ∧ (σ_19.1 a 15).toInt ≤ (σ_19.1 a 16).toInt ∧ (σ_19.1 a 16).toInt ≤ (σ_19.1 a 9).toInt ∧ (σ_19.1 a 9).toInt ≤ 900 ∧ 0 ≤ (σ_19.1 a 14).toInt ∧ (σ_19.1 a 14).toInt ≤ 4 ∧ (σ_19.1 a 14).toInt ≤ 4 * ((σ_19.1 a 16).toInt - (σ_19.1 a 15).toInt) ∧ (σ_19.1 a 14).toInt ≤ 4 * ((σ_19.1 a 9).toInt - (σ_19.1 a 15).toInt) ∧ 0 ≤ (σ_19.1 a 12).toInt ∧ (σ_19.1 a 9).toInt = (σ.1 a 9).toInt ∧ (σ.1 a 15).toInt ≤ (σ_19.1 a 15).toInt ∧ (σ.1 a 12).toInt ≤ (σ_19.1 a 12).toInt := (by first | exact sm_tr smσ_13 bhpσ_19 | exact sm_tr smσ_13 chpσ_19 | omega)
  have onσ_19 : (σ.1 a 16).toInt ≤ (σ_19.1 a 15).toInt := (by first | (clear hs hz hk h4 k3σ ahpσ_2 dhpσ_2 ehpσ_2 k3σ_2 kc_3 ahpσ_5 chpσ_5 dhpσ_5 ehpσ_5 k3σ_5 kc_6 kc_7 ahpσ_9 chpσ_9 dhpσ_9 ehpσ_9 k3σ_9 ahpσ_11 bhpσ_11 chpσ_11 ahpσ_13 chpσ_13 dhpσ_13 ehpσ_13 k3σ_13 k4σ_13 smσ_13 if_15 iz_16 kc_17 ahpσ_19 chpσ_19 dhpσ_19 ehpσ_19 k3σ_19 k4σ_19 smσ_19; omega) | omega)
  clear k4σ_13 smσ_13 onσ_13 bhpσ_19
  refine lv_istore (lv' := [(4, .int r_18), (3, .int f_14), (2, .int r_8), (1, .int r_4), (0, .ref a)]) hx hb dX12_readHand_46 hl (by decide) rfl (fun ls hl => ?_)
  refine lv_bipush (v := 10) hx hb dX12_readHand_48 zkb_10 ?_
  refine lv_iload_n hx hb dX12_readHand_50 rfl (lv_at hl 3 rfl) ?_
  refine lv_imul hx hb dX12_readHand_51 ?_
  refine lv_topi (fun z_20 ez_20 => ?_)
  replace hF := q_letX hF ez_20
  have iz_20 := q_mulI (A := 10) (B := r_4.toInt) ez_20 (by decide) rfl (by first | (clear hs hz hk h4 k3σ ahpσ_2 dhpσ_2 ehpσ_2 k3σ_2 kc_3 ahpσ_5 dhpσ_5 ehpσ_5 k3σ_5 kc_6 kc_7 ahpσ_9 chpσ_9 dhpσ_9 ehpσ_9 k3σ_9 ahpσ_11 bhpσ_11 chpσ_11 ahpσ_13 chpσ_13 dhpσ_13 ehpσ_13 k3σ_13 if_14 if_15 iz_16 kc_17 ahpσ_19 chpσ_19 dhpσ_19 ehpσ_19 k3σ_19 k4σ_19 smσ_19 onσ_19; omega) | omega) (by first | (clear hs hz hk h4 k3σ ahpσ_2 dhpσ_2 ehpσ_2 k3σ_2 kc_3 ahpσ_5 dhpσ_5 ehpσ_5 k3σ_5 kc_6 kc_7 ahpσ_9 chpσ_9 dhpσ_9 ehpσ_9 k3σ_9 ahpσ_11 bhpσ_11 chpσ_11 ahpσ_13 chpσ_13 dhpσ_13 ehpσ_13 k3σ_13 if_14 if_15 iz_16 kc_17 ahpσ_19 chpσ_19 dhpσ_19 ehpσ_19 k3σ_19 k4σ_19 smσ_19 onσ_19; omega) | omega)
  refine lv_iload hx hb dX12_readHand_52 (lv_at hl 0 rfl) ?_
  refine lv_iadd hx hb dX12_readHand_54 ?_
  refine lv_topi (fun z_21 ez_21 => ?_)
  replace hF := q_letX hF ez_21
  have iz_21 := q_addI (A := (10 * r_4.toInt)) (B := r_18.toInt) ez_21 iz_20 rfl (by first | (clear hs hz hk h4 k3σ ahpσ_2 dhpσ_2 ehpσ_2 k3σ_2 kc_3 ahpσ_5 dhpσ_5 ehpσ_5 k3σ_5 kc_6 kc_7 ahpσ_9 chpσ_9 dhpσ_9 ehpσ_9 k3σ_9 ahpσ_11 bhpσ_11 chpσ_11 ahpσ_13 chpσ_13 dhpσ_13 ehpσ_13 k3σ_13 if_14 if_15 iz_16 kc_17 ahpσ_19 dhpσ_19 ehpσ_19 k3σ_19 k4σ_19 smσ_19 onσ_19 iz_20; omega) | omega) (by first | (clear hs hz h4 k3σ ahpσ_2 dhpσ_2 ehpσ_2 kc_3 ahpσ_5 dhpσ_5 ehpσ_5 kc_6 kc_7 ahpσ_9 chpσ_9 dhpσ_9 ehpσ_9 ahpσ_11 bhpσ_11 chpσ_11 ahpσ_13 chpσ_13 dhpσ_13 ehpσ_13 if_14 kc_17 ahpσ_19 dhpσ_19 ehpσ_19 k4σ_19 smσ_19 onσ_19 iz_20; omega) | omega)
  refine lv_istore (lv' := [(5, .int z_21), (4, .int r_18), (3, .int f_14), (2, .int r_8), (1, .int r_4), (0, .ref a)]) hx hb dX12_readHand_55 hl (by decide) rfl (fun ls hl => ?_)
  refine lv_aload_n hx hb dX12_readHand_57 rfl (lv_at hl 5 rfl) ?_
  refine gs_X12_187_12 E hI ha dX12_readHand_58 ?_
  refine lv_topi (fun f_22 ef_22 => ?_)
  replace hF := q_letX hF ef_22
  have if_22 : f_22.toInt = (σ_19.1 a 12).toInt := congrArg Int32.toInt ef_22
  refine q_if_ne (A := f_22.toInt) E rfl (tgt := 100) dX12_readHand_61 (by decide) (fun c_23 => ?_) (fun c_23 => ?_)
  · skip
    replace hF := q_ifn hF c_23
    refine lv_aload_n hx hb dX12_readHand_100 rfl (lv_at hl 5 rfl) ?_
    refine gs_X12_187_12 E hI ha dX12_readHand_101 ?_
    refine lv_topi (fun f_24 ef_24 => ?_)
    replace hF := q_letX hF ef_24
    have if_24 : f_24.toInt = (σ_19.1 a 12).toInt := congrArg Int32.toInt ef_24
    refine q_if_le (A := f_24.toInt) E rfl (tgt := 108) dX12_readHand_104 (by decide) (fun c_25 => ?_) (fun c_25 => ?_)
    · skip
      replace hF := q_ifn hF (Int.not_lt.mpr c_25)
      refine lv_aload_n hx hb dX12_readHand_108 rfl (lv_at hl 5 rfl) ?_
      refine gs_X12_41_12 E hI ha dX12_readHand_109 ?_
      refine lv_iload hx hb dX12_readHand_112 (lv_at hl 0 rfl) ?_
      refine lv_iconst (v := 1) hx hb dX12_readHand_114 zki_1 ?_
      refine q_iastN E hI (q_tk (k' := 36) hI ha rfl (Nat.succ_ne_zero _)) ⟨by decide, rfl⟩ (by first | (clear hs hz h4 k3σ ahpσ_2 dhpσ_2 ehpσ_2 kc_3 ahpσ_5 dhpσ_5 ehpσ_5 kc_6 kc_7 ahpσ_9 chpσ_9 dhpσ_9 ehpσ_9 ahpσ_11 bhpσ_11 chpσ_11 ahpσ_13 chpσ_13 dhpσ_13 ehpσ_13 if_14 kc_17 ahpσ_19 dhpσ_19 ehpσ_19 k4σ_19 smσ_19 onσ_19 iz_20 if_22 c_23 if_24 c_25; omega) | omega) (by rw [q_lnk (v := 60) hI (q_tk (k' := 36) hI ha rfl (Nat.succ_ne_zero _)) rfl (by decide)]; omega) (show 1 < 9 by decide) (q_inU rfl) dX12_readHand_115 (fun H locs σ_26 hσ_26 hI => ?_)
      replace hF := q_letX hF hσ_26
      have fr_σ_26 := fr_σ_19.si hσ_26 (q_tk (k' := 36) hI ha rfl (Nat.succ_ne_zero _)) rfl
      have mv9_σ_26 : (σ_26.1 a 9).toInt = (σ_19.1 a 9).toInt := congrArg Int32.toInt ((hσ_26 ▸ (q_K.si (q_tk (k' := 36) hI ha rfl (Nat.succ_ne_zero _)) (show 8 < 9 by decide) : q_K 8 X σ_19 (q_si σ_19 (q_rf X a 22) (z_21 : Int32).toNatClampNeg _))) a 9 (by rw [ha]; decide))
      have mv12_σ_26 : (σ_26.1 a 12).toInt = (σ_19.1 a 12).toInt := congrArg Int32.toInt ((hσ_26 ▸ (q_K.si (q_tk (k' := 36) hI ha rfl (Nat.succ_ne_zero _)) (show 8 < 9 by decide) : q_K 8 X σ_19 (q_si σ_19 (q_rf X a 22) (z_21 : Int32).toNatClampNeg _))) a 12 (by rw [ha]; decide))
      have mv14_σ_26 : (σ_26.1 a 14).toInt = (σ_19.1 a 14).toInt := congrArg Int32.toInt ((hσ_26 ▸ (q_K.si (q_tk (k' := 36) hI ha rfl (Nat.succ_ne_zero _)) (show 8 < 9 by decide) : q_K 8 X σ_19 (q_si σ_19 (q_rf X a 22) (z_21 : Int32).toNatClampNeg _))) a 14 (by rw [ha]; decide))
      have mv15_σ_26 : (σ_26.1 a 15).toInt = (σ_19.1 a 15).toInt := congrArg Int32.toInt ((hσ_26 ▸ (q_K.si (q_tk (k' := 36) hI ha rfl (Nat.succ_ne_zero _)) (show 8 < 9 by decide) : q_K 8 X σ_19 (q_si σ_19 (q_rf X a 22) (z_21 : Int32).toNatClampNeg _))) a 15 (by rw [ha]; decide))
      have mv16_σ_26 : (σ_26.1 a 16).toInt = (σ_19.1 a 16).toInt := congrArg Int32.toInt ((hσ_26 ▸ (q_K.si (q_tk (k' := 36) hI ha rfl (Nat.succ_ne_zero _)) (show 8 < 9 by decide) : q_K 8 X σ_19 (q_si σ_19 (q_rf X a 22) (z_21 : Int32).toNatClampNeg _))) a 16 (by rw [ha]; decide))
      have mcσ_26 := m_wo hσ_26 (m_ne (q_tk (k' := 36) hI ha rfl (Nat.succ_ne_zero _)) (q_tk (f := 20) (k' := 34) hI ha rfl (by decide)) (by decide))
      have nnσ_26 : m_N (m_c X σ_26 a) := m_N.ext mcσ_26 nnσ_19
      have kpσ_26 : ∀ j, 0 ≤ j → j < 3720 → m_c X σ_26 a j = m_c X σ a j := fun j h0 h1 => (mcσ_26 j).trans (kpσ_19 j h0 h1)
      have k3σ_26 : m_c X σ_26 a 3720 = m_c X σ a 3720 ∧ m_c X σ_26 a 3721 = m_c X σ a 3721 := ⟨(mcσ_26 3720).trans k3σ_19.1, (mcσ_26 3721).trans k3σ_19.2⟩
      have k4σ_26 : 1 ≤ m_c X σ_26 a 3724 + 10 * (σ_26.1 a 12).toInt := (by have := mcσ_26 3724; omega)
      have smσ_26 : 0 ≤ (σ_26.1 a 15).toInt ∧ (σ_26.1 a 15).toInt ≤ (σ_26.1 a 16).toInt ∧ (σ_26.1 a 16).toInt ≤ (σ_26.1 a 9).toInt ∧ (σ_26.1 a 9).toInt ≤ 900 ∧ 0 ≤ (σ_26.1 a 14).toInt ∧ (σ_26.1 a 14).toInt ≤ 4 ∧ (σ_26.1 a 14).toInt ≤ 4 * ((σ_26.1 a 16).toInt - (σ_26.1 a 15).toInt) ∧ (σ_26.1 a 14).toInt ≤ 4 * ((σ_26.1 a 9).toInt - (σ_26.1 a 15).toInt) ∧ 0 ≤ (σ_26.1 a 12).toInt ∧ (σ_26.1 a 9).toInt = (σ.1 a 9).toInt ∧ (σ.1 a 15).toInt ≤ (σ_26.1 a 15).toInt ∧ (σ.1 a 12).toInt ≤ (σ_26.1 a 12).toInt := (by first | (rw [mv12_σ_26, mv14_σ_26, mv15_σ_26, mv16_σ_26, mv9_σ_26]; exact smσ_19) | omega)
      have onσ_26 : (σ.1 a 16).toInt ≤ (σ_26.1 a 15).toInt := (by first | (clear hs hz hk h4 k3σ ahpσ_2 dhpσ_2 ehpσ_2 k3σ_2 kc_3 ahpσ_5 chpσ_5 dhpσ_5 ehpσ_5 k3σ_5 kc_6 kc_7 ahpσ_9 chpσ_9 dhpσ_9 ehpσ_9 k3σ_9 ahpσ_11 bhpσ_11 chpσ_11 ahpσ_13 chpσ_13 dhpσ_13 ehpσ_13 k3σ_13 if_14 if_15 iz_16 kc_17 ahpσ_19 chpσ_19 dhpσ_19 ehpσ_19 k3σ_19 k4σ_19 smσ_19 iz_20 iz_21 if_22 c_23 if_24 c_25 mv9_σ_26 mv12_σ_26 mv14_σ_26 mv16_σ_26 k3σ_26 k4σ_26 smσ_26; omega) | omega)
      clear mv9_σ_26 mv12_σ_26 mv14_σ_26 mv15_σ_26 mv16_σ_26 k4σ_19 smσ_19 onσ_19
      refine lv_aload_n hx hb dX12_readHand_116 rfl (lv_at hl 5 rfl) ?_
      refine gs_X12_35_12 E hI ha dX12_readHand_117 ?_
      refine lv_sipush (v := 3754) hx hb dX12_readHand_120 zks_3754 ?_
      refine lv_iload hx hb dX12_readHand_123 (lv_at hl 0 rfl) ?_
      refine lv_iadd hx hb dX12_readHand_125 ?_
      refine lv_topi (fun z_27 ez_27 => ?_)
      replace hF := q_letX hF ez_27
      have iz_27 := q_addI (A := 3754) (B := ((10 * r_4.toInt) + r_18.toInt)) ez_27 (by decide) iz_21 (by first | (clear hs hz hk h4 k3σ ahpσ_2 dhpσ_2 ehpσ_2 k3σ_2 kc_3 ahpσ_5 dhpσ_5 ehpσ_5 k3σ_5 kc_7 ahpσ_9 chpσ_9 dhpσ_9 ehpσ_9 k3σ_9 ahpσ_11 bhpσ_11 chpσ_11 ahpσ_13 chpσ_13 dhpσ_13 ehpσ_13 k3σ_13 if_14 if_15 iz_16 kc_17 ahpσ_19 dhpσ_19 ehpσ_19 k3σ_19 iz_20 c_23 k3σ_26 k4σ_26 smσ_26 onσ_26; omega) | omega) (by first | (clear hs hz h4 k3σ ahpσ_2 dhpσ_2 ehpσ_2 kc_3 ahpσ_5 dhpσ_5 ehpσ_5 kc_6 kc_7 ahpσ_9 chpσ_9 dhpσ_9 ehpσ_9 ahpσ_11 bhpσ_11 chpσ_11 ahpσ_13 chpσ_13 dhpσ_13 ehpσ_13 if_14 kc_17 ahpσ_19 dhpσ_19 ehpσ_19 iz_20 if_22 c_23 if_24 c_25 k4σ_26 smσ_26 onσ_26; omega) | omega)
      refine lv_iload_n hx hb dX12_readHand_126 rfl (lv_at hl 3 rfl) ?_
      refine q_iastN E hI (q_tk (k' := 34) hI ha rfl (Nat.succ_ne_zero _)) ⟨by decide, rfl⟩ (by first | (clear hs hz h4 k3σ ahpσ_2 dhpσ_2 ehpσ_2 kc_3 ahpσ_5 dhpσ_5 ehpσ_5 kc_6 kc_7 ahpσ_9 chpσ_9 dhpσ_9 ehpσ_9 ahpσ_11 bhpσ_11 chpσ_11 ahpσ_13 chpσ_13 dhpσ_13 ehpσ_13 if_14 kc_17 ahpσ_19 dhpσ_19 ehpσ_19 iz_20 if_22 c_23 if_24 c_25 k4σ_26 smσ_26 onσ_26; omega) | omega) (by rw [q_lnk (v := 4650) hI (q_tk (k' := 34) hI ha rfl (Nat.succ_ne_zero _)) rfl (by decide)]; omega) (show 1 < 2 by decide) (q_inU rfl) dX12_readHand_127 (fun H locs σ_28 hσ_28 hI => ?_)
      replace hF := q_letX hF hσ_28
      have fr_σ_28 := fr_σ_26.si hσ_28 (q_tk (k' := 34) hI ha rfl (Nat.succ_ne_zero _)) rfl
      have mv9_σ_28 : (σ_28.1 a 9).toInt = (σ_26.1 a 9).toInt := congrArg Int32.toInt (q_rdn hσ_28 (Or.inl (m_ne ha (q_tk (k' := 34) hI ha rfl (Nat.succ_ne_zero _)) (by decide))))
      have mv12_σ_28 : (σ_28.1 a 12).toInt = (σ_26.1 a 12).toInt := congrArg Int32.toInt (q_rdn hσ_28 (Or.inl (m_ne ha (q_tk (k' := 34) hI ha rfl (Nat.succ_ne_zero _)) (by decide))))
      have mv14_σ_28 : (σ_28.1 a 14).toInt = (σ_26.1 a 14).toInt := congrArg Int32.toInt (q_rdn hσ_28 (Or.inl (m_ne ha (q_tk (k' := 34) hI ha rfl (Nat.succ_ne_zero _)) (by decide))))
      have mv15_σ_28 : (σ_28.1 a 15).toInt = (σ_26.1 a 15).toInt := congrArg Int32.toInt (q_rdn hσ_28 (Or.inl (m_ne ha (q_tk (k' := 34) hI ha rfl (Nat.succ_ne_zero _)) (by decide))))
      have mv16_σ_28 : (σ_28.1 a 16).toInt = (σ_26.1 a 16).toInt := congrArg Int32.toInt (q_rdn hσ_28 (Or.inl (m_ne ha (q_tk (k' := 34) hI ha rfl (Nat.succ_ne_zero _)) (by decide))))
      have mcσ_28 := m_wr (v := r_8) (A := (3754 + ((10 * r_4.toInt) + r_18.toInt))) hσ_28 iz_27 (by first | (clear hs hz h4 k3σ ahpσ_2 dhpσ_2 ehpσ_2 kc_3 ahpσ_5 dhpσ_5 ehpσ_5 kc_6 kc_7 ahpσ_9 chpσ_9 dhpσ_9 ehpσ_9 ahpσ_11 bhpσ_11 chpσ_11 ahpσ_13 chpσ_13 dhpσ_13 ehpσ_13 if_14 kc_17 ahpσ_19 dhpσ_19 ehpσ_19 iz_20 if_22 c_23 if_24 c_25 k4σ_26 smσ_26 onσ_26 mv9_σ_28 mv12_σ_28 mv14_σ_28 mv15_σ_28 mv16_σ_28; omega) | omega)
      have nnσ_28 : m_N (m_c X σ_28 a) := m_N.hand nnσ_26 (by first | (clear hs hz hk h4 k3σ ahpσ_2 dhpσ_2 ehpσ_2 k3σ_2 kc_3 ahpσ_5 dhpσ_5 ehpσ_5 k3σ_5 kc_6 kc_7 ahpσ_9 chpσ_9 dhpσ_9 ehpσ_9 k3σ_9 ahpσ_11 bhpσ_11 chpσ_11 ahpσ_13 chpσ_13 dhpσ_13 ehpσ_13 k3σ_13 if_14 if_15 iz_16 kc_17 ahpσ_19 chpσ_19 dhpσ_19 ehpσ_19 k3σ_19 iz_20 iz_21 if_22 c_23 if_24 c_25 k3σ_26 k4σ_26 smσ_26 onσ_26 iz_27 mv9_σ_28 mv12_σ_28 mv14_σ_28 mv15_σ_28 mv16_σ_28; omega) | omega) (by first | (clear hs hz h4 k3σ ahpσ_2 dhpσ_2 ehpσ_2 kc_3 ahpσ_5 chpσ_5 dhpσ_5 ehpσ_5 kc_6 kc_7 ahpσ_9 chpσ_9 dhpσ_9 ehpσ_9 ahpσ_11 bhpσ_11 chpσ_11 ahpσ_13 chpσ_13 dhpσ_13 ehpσ_13 if_14 kc_17 ahpσ_19 dhpσ_19 ehpσ_19 iz_20 if_22 c_23 if_24 c_25 k4σ_26 smσ_26 onσ_26 mv9_σ_28 mv12_σ_28 mv14_σ_28 mv15_σ_28 mv16_σ_28; omega) | omega) (by first | (clear hs hz hk h4 k3σ ahpσ_2 dhpσ_2 ehpσ_2 kc_3 ahpσ_5 chpσ_5 dhpσ_5 ehpσ_5 kc_6 kc_7 ahpσ_9 chpσ_9 dhpσ_9 ehpσ_9 ahpσ_11 bhpσ_11 chpσ_11 ahpσ_13 chpσ_13 dhpσ_13 ehpσ_13 if_14 kc_17 ahpσ_19 dhpσ_19 ehpσ_19 iz_20 if_22 c_23 if_24 c_25 k4σ_26 smσ_26 onσ_26 mv9_σ_28 mv12_σ_28 mv14_σ_28 mv15_σ_28 mv16_σ_28; omega) | omega) mcσ_28 (by first | (clear hs hz hk h4 k3σ ahpσ_2 dhpσ_2 ehpσ_2 k3σ_2 kc_3 ahpσ_5 chpσ_5 dhpσ_5 ehpσ_5 k3σ_5 kc_6 ahpσ_9 dhpσ_9 ehpσ_9 k3σ_9 ahpσ_11 bhpσ_11 chpσ_11 ahpσ_13 chpσ_13 dhpσ_13 ehpσ_13 k3σ_13 if_14 if_15 iz_16 kc_17 ahpσ_19 chpσ_19 dhpσ_19 ehpσ_19 k3σ_19 iz_20 iz_21 if_22 c_23 if_24 c_25 k3σ_26 k4σ_26 smσ_26 onσ_26 iz_27 mv9_σ_28 mv12_σ_28 mv14_σ_28 mv15_σ_28 mv16_σ_28; omega) | omega) (by rw [funext mcσ_26]; omega)
      have kpσ_28 : ∀ j, 0 ≤ j → j < 3720 → m_c X σ_28 a j = m_c X σ a j := fun j h0 h1 => by rw [mcσ_28 j h0, if_neg (by first | (clear hs hz h4 k3σ ahpσ_2 dhpσ_2 ehpσ_2 kc_3 ahpσ_5 dhpσ_5 ehpσ_5 kc_6 kc_7 ahpσ_9 chpσ_9 dhpσ_9 ehpσ_9 ahpσ_11 bhpσ_11 chpσ_11 ahpσ_13 chpσ_13 dhpσ_13 ehpσ_13 if_14 kc_17 ahpσ_19 dhpσ_19 ehpσ_19 iz_20 if_22 c_23 if_24 c_25 k4σ_26 smσ_26 onσ_26 mv9_σ_28 mv12_σ_28 mv14_σ_28 mv15_σ_28 mv16_σ_28; omega) | omega)]; exact kpσ_26 j h0 h1
      have k3σ_28 : m_c X σ_28 a 3720 = m_c X σ a 3720 ∧ m_c X σ_28 a 3721 = m_c X σ a 3721 := ⟨by rw [mcσ_28 3720 (by decide), if_neg (by first | (clear hs hz h4 k3σ ahpσ_2 dhpσ_2 ehpσ_2 kc_3 ahpσ_5 dhpσ_5 ehpσ_5 kc_6 kc_7 ahpσ_9 chpσ_9 dhpσ_9 ehpσ_9 ahpσ_11 bhpσ_11 chpσ_11 ahpσ_13 chpσ_13 dhpσ_13 ehpσ_13 if_14 kc_17 ahpσ_19 dhpσ_19 ehpσ_19 iz_20 if_22 c_23 if_24 c_25 k4σ_26 smσ_26 onσ_26 mv9_σ_28 mv12_σ_28 mv14_σ_28 mv15_σ_28 mv16_σ_28; omega) | omega)]; exact k3σ_26.1, by rw [mcσ_28 3721 (by decide), if_neg (by first | (clear hs hz h4 k3σ ahpσ_2 dhpσ_2 ehpσ_2 kc_3 ahpσ_5 dhpσ_5 ehpσ_5 kc_6 kc_7 ahpσ_9 chpσ_9 dhpσ_9 ehpσ_9 ahpσ_11 bhpσ_11 chpσ_11 ahpσ_13 chpσ_13 dhpσ_13 ehpσ_13 if_14 kc_17 ahpσ_19 dhpσ_19 ehpσ_19 iz_20 if_22 c_23 if_24 c_25 k4σ_26 smσ_26 onσ_26 mv9_σ_28 mv12_σ_28 mv14_σ_28 mv15_σ_28 mv16_σ_28; omega) | omega)]; exact k3σ_26.2⟩
      have k4σ_28 : 1 ≤ m_c X σ_28 a 3724 + 10 * (σ_28.1 a 12).toInt := (by have := mcσ_28 3724 (by decide); rw [if_neg (by first | (clear hs hz hk h4 k3σ ahpσ_2 dhpσ_2 ehpσ_2 k3σ_2 kc_3 ahpσ_5 dhpσ_5 ehpσ_5 k3σ_5 kc_6 kc_7 ahpσ_9 chpσ_9 dhpσ_9 ehpσ_9 k3σ_9 ahpσ_11 bhpσ_11 chpσ_11 ahpσ_13 chpσ_13 dhpσ_13 ehpσ_13 k3σ_13 if_14 if_15 iz_16 kc_17 ahpσ_19 dhpσ_19 ehpσ_19 k3σ_19 iz_20 if_22 c_23 if_24 c_25 k3σ_26 k4σ_26 smσ_26 onσ_26 mv9_σ_28 mv12_σ_28 mv14_σ_28 mv15_σ_28 mv16_σ_28 k3σ_28; omega) | omega)] at this; omega)
      have smσ_28 : 0 ≤ (σ_28.1 a 15).toInt ∧ (σ_28.1 a 15).toInt ≤ (σ_28.1 a 16).toInt ∧ (σ_28.1 a 16).toInt ≤ (σ_28.1 a 9).toInt ∧ (σ_28.1 a 9).toInt ≤ 900 ∧ 0 ≤ (σ_28.1 a 14).toInt ∧ (σ_28.1 a 14).toInt ≤ 4 ∧ (σ_28.1 a 14).toInt ≤ 4 * ((σ_28.1 a 16).toInt - (σ_28.1 a 15).toInt) ∧ (σ_28.1 a 14).toInt ≤ 4 * ((σ_28.1 a 9).toInt - (σ_28.1 a 15).toInt) ∧ 0 ≤ (σ_28.1 a 12).toInt ∧ (σ_28.1 a 9).toInt = (σ.1 a 9).toInt ∧ (σ.1 a 15).toInt ≤ (σ_28.1 a 15).toInt ∧ (σ.1 a 12).toInt ≤ (σ_28.1 a 12).toInt := (by first | (rw [mv12_σ_28, mv14_σ_28, mv15_σ_28, mv16_σ_28, mv9_σ_28]; exact smσ_26) | omega)
      have onσ_28 : (σ.1 a 16).toInt ≤ (σ_28.1 a 15).toInt := (by first | (clear hs hz hk h4 k3σ ahpσ_2 dhpσ_2 ehpσ_2 k3σ_2 kc_3 ahpσ_5 chpσ_5 dhpσ_5 ehpσ_5 k3σ_5 kc_6 kc_7 ahpσ_9 chpσ_9 dhpσ_9 ehpσ_9 k3σ_9 ahpσ_11 bhpσ_11 chpσ_11 ahpσ_13 chpσ_13 dhpσ_13 ehpσ_13 k3σ_13 if_14 if_15 iz_16 kc_17 ahpσ_19 chpσ_19 dhpσ_19 ehpσ_19 k3σ_19 iz_20 iz_21 if_22 c_23 if_24 c_25 k3σ_26 k4σ_26 smσ_26 iz_27 mv9_σ_28 mv12_σ_28 mv14_σ_28 mv16_σ_28 k3σ_28 k4σ_28 smσ_28; omega) | omega)
      clear mv9_σ_28 mv12_σ_28 mv14_σ_28 mv15_σ_28 mv16_σ_28 k4σ_26 smσ_26 onσ_26
      exact q_retv E hr hlk hI ⟨nnσ_28, kpσ_28, (by first | exact smσ_28 | omega), (by first | exact smσ_28 | omega), k3σ_28, k4σ_28, (hF.trans hout), fr_σ_28⟩ dX12_readHand_128
    · skip
      replace hF := q_ifp hF c_25
      exact q_retv E hr hlk hI ⟨nnσ_19, kpσ_19, (by first | exact smσ_19 | omega), (by first | exact smσ_19 | omega), k3σ_19, k4σ_19, (hF.trans hout), fr_σ_19⟩ dX12_readHand_107
  · skip
    replace hF := q_ifp hF c_23
    refine lv_aload_n hx hb dX12_readHand_64 rfl (lv_at hl 5 rfl) ?_
    refine gs_X12_41_12 E hI ha dX12_readHand_65 ?_
    refine lv_iload hx hb dX12_readHand_68 (lv_at hl 0 rfl) ?_
    refine q_iald E hI (q_tk (k' := 36) hI ha rfl (Nat.succ_ne_zero _)) ⟨by decide, rfl⟩ (by first | (clear hs hz hk h4 k3σ ahpσ_2 dhpσ_2 ehpσ_2 k3σ_2 kc_3 ahpσ_5 dhpσ_5 ehpσ_5 k3σ_5 kc_7 ahpσ_9 chpσ_9 dhpσ_9 ehpσ_9 k3σ_9 ahpσ_11 bhpσ_11 chpσ_11 ahpσ_13 chpσ_13 dhpσ_13 ehpσ_13 k3σ_13 if_14 if_15 iz_16 kc_17 ahpσ_19 dhpσ_19 ehpσ_19 k3σ_19 iz_20; omega) | omega) (by rw [q_lnk (v := 60) hI (q_tk (k' := 36) hI ha rfl (Nat.succ_ne_zero _)) rfl (by decide)]; omega) dX12_readHand_70 ?_
    refine lv_topi (fun f_29 ef_29 => ?_)
    replace hF := q_letX hF ef_29
    refine lv_iconst (v := 1) hx hb dX12_readHand_71 zki_1 ?_
    refine q_icmp_eq (A := f_29.toInt) (B := 1) E rfl (by decide) (tgt := 94) dX12_readHand_72 (by decide) (fun c_30 => ?_) (fun c_30 => ?_)
    · skip
      replace hF := q_ifp hF c_30
      refine lv_aload_n hx hb dX12_readHand_94 rfl (lv_at hl 5 rfl) ?_
      refine lv_iconst (v := 5) hx hb dX12_readHand_95 zki_5 ?_
      refine lv_iload_n hx hb dX12_readHand_96 rfl (lv_at hl 2 rfl) ?_
      have kc_31 : (5 : Int32).toInt = 5 := zt_5
      refine q_cv (q_rV11_2 (rest := []) E (hml.trans hl.1.symm) hI (c_X12_fail l X σ_19 a (5 : Int32) f_14 ha (by first | (clear hs hz hk h4 k3σ ahpσ_2 dhpσ_2 ehpσ_2 k3σ_2 kc_3 ahpσ_5 chpσ_5 dhpσ_5 ehpσ_5 k3σ_5 kc_6 kc_7 ahpσ_9 chpσ_9 dhpσ_9 ehpσ_9 k3σ_9 ahpσ_11 bhpσ_11 chpσ_11 ahpσ_13 chpσ_13 dhpσ_13 ehpσ_13 k3σ_13 if_14 if_15 iz_16 kc_17 ahpσ_19 chpσ_19 dhpσ_19 ehpσ_19 k3σ_19 iz_20 iz_21 c_30 kc_31; omega) | omega) (by first | (clear hs hz hk h4 k3σ ahpσ_2 dhpσ_2 ehpσ_2 k3σ_2 kc_3 ahpσ_5 chpσ_5 dhpσ_5 ehpσ_5 k3σ_5 kc_6 kc_7 ahpσ_9 chpσ_9 dhpσ_9 ehpσ_9 k3σ_9 ahpσ_11 bhpσ_11 chpσ_11 ahpσ_13 chpσ_13 dhpσ_13 ehpσ_13 k3σ_13 if_14 if_15 iz_16 kc_17 ahpσ_19 chpσ_19 dhpσ_19 ehpσ_19 k3σ_19 iz_20 iz_21 if_22 c_23 c_30; omega) | omega)) kv_X12_193 ha ⟨Nat.le_of_ble_eq_true rfl, Nat.le_of_ble_eq_true rfl⟩ (Nat.le_of_ble_eq_true rfl) dX12_readHand_97) hI (Nat.le_of_ble_eq_true rfl) (fun σ_33 H locs hpσ_33 hkσ_33 hI => ?_)
      have ahpσ_33 := hpσ_33.1
      have bhpσ_33 := hpσ_33.2.1
      have chpσ_33 := hpσ_33.2.2.1
      have dhpσ_33 := hpσ_33.2.2.2.1
      have ehpσ_33 := hpσ_33.2.2.2.2
      clear hpσ_33
      have fr_σ_33 := fr_σ_19.call ehpσ_33 rfl rfl
      replace hF := q_letX hF dhpσ_33
      have mcσ_33 := m_cK hkσ_33 hI.1 ha (by decide)
      have nnσ_33 : m_N (m_c X σ_33 a) := m_N.ext mcσ_33 nnσ_19
      have kpσ_33 : ∀ j, 0 ≤ j → j < 3720 → m_c X σ_33 a j = m_c X σ a j := fun j h0 h1 => (mcσ_33 j).trans (kpσ_19 j h0 h1)
      have k3σ_33 : m_c X σ_33 a 3720 = m_c X σ a 3720 ∧ m_c X σ_33 a 3721 = m_c X σ a 3721 := ⟨(mcσ_33 3720).trans k3σ_19.1, (mcσ_33 3721).trans k3σ_19.2⟩
      have k4σ_33 : 1 ≤ m_c X σ_33 a 3724 + 10 * (σ_33.1 a 12).toInt := (by have := mcσ_33 3724; omega)
      have smσ_33 : 0 ≤ (σ_33.1 a 15).toInt ∧ (σ_33.1 a 15).toInt ≤ (σ_33.1 a 16).toInt ∧ (σ_33.1 a 16).toInt ≤ (σ_33.1 a 9).toInt ∧ (σ_33.1 a 9).toInt ≤ 900 ∧ 0 ≤ (σ_33.1 a 14).toInt ∧ (σ_33.1 a 14).toInt ≤ 4 ∧ (σ_33.1 a 14).toInt ≤ 4 * ((σ_33.1 a 16).toInt - (σ_33.1 a 15).toInt) ∧ (σ_33.1 a 14).toInt ≤ 4 * ((σ_33.1 a 9).toInt - (σ_33.1 a 15).toInt) ∧ 0 ≤ (σ_33.1 a 12).toInt ∧ (σ_33.1 a 9).toInt = (σ.1 a 9).toInt ∧ (σ.1 a 15).toInt ≤ (σ_33.1 a 15).toInt ∧ (σ.1 a 12).toInt ≤ (σ_33.1 a 12).toInt := (by first | exact sm_fl smσ_19 bhpσ_33 chpσ_33 | omega)
      have onσ_33 : (σ.1 a 16).toInt ≤ (σ_33.1 a 15).toInt := (by first | (clear hs hz hk h4 k3σ ahpσ_2 dhpσ_2 ehpσ_2 k3σ_2 kc_3 ahpσ_5 chpσ_5 dhpσ_5 ehpσ_5 k3σ_5 kc_6 kc_7 ahpσ_9 chpσ_9 dhpσ_9 ehpσ_9 k3σ_9 ahpσ_11 bhpσ_11 chpσ_11 ahpσ_13 chpσ_13 dhpσ_13 ehpσ_13 k3σ_13 if_14 if_15 iz_16 kc_17 ahpσ_19 chpσ_19 dhpσ_19 ehpσ_19 k3σ_19 iz_20 iz_21 if_22 c_23 c_30 kc_31 ahpσ_33 chpσ_33 dhpσ_33 ehpσ_33 k3σ_33 k4σ_33 smσ_33; omega) | omega)
      clear k4σ_19 smσ_19 onσ_19 bhpσ_33
      refine lv_aload_n hx hb dX12_readHand_100 rfl (lv_at hl 5 rfl) ?_
      refine gs_X12_187_12 E hI ha dX12_readHand_101 ?_
      refine lv_topi (fun f_34 ef_34 => ?_)
      replace hF := q_letX hF ef_34
      have if_34 : f_34.toInt = (σ_33.1 a 12).toInt := congrArg Int32.toInt ef_34
      refine q_if_le (A := f_34.toInt) E rfl (tgt := 108) dX12_readHand_104 (by decide) (fun c_35 => ?_) (fun c_35 => ?_)
      · skip
        replace hF := q_ifn hF (Int.not_lt.mpr c_35)
        refine lv_aload_n hx hb dX12_readHand_108 rfl (lv_at hl 5 rfl) ?_
        refine gs_X12_41_12 E hI ha dX12_readHand_109 ?_
        refine lv_iload hx hb dX12_readHand_112 (lv_at hl 0 rfl) ?_
        refine lv_iconst (v := 1) hx hb dX12_readHand_114 zki_1 ?_
        refine q_iastN E hI (q_tk (k' := 36) hI ha rfl (Nat.succ_ne_zero _)) ⟨by decide, rfl⟩ (by first | (clear hs hz hk h4 k3σ ahpσ_2 dhpσ_2 ehpσ_2 k3σ_2 kc_3 ahpσ_5 chpσ_5 dhpσ_5 ehpσ_5 k3σ_5 kc_6 kc_7 ahpσ_9 chpσ_9 dhpσ_9 ehpσ_9 k3σ_9 ahpσ_11 bhpσ_11 chpσ_11 ahpσ_13 chpσ_13 dhpσ_13 ehpσ_13 k3σ_13 if_14 if_15 iz_16 kc_17 ahpσ_19 chpσ_19 dhpσ_19 ehpσ_19 k3σ_19 iz_20 iz_21 if_22 c_23 c_30 kc_31 ahpσ_33 dhpσ_33 ehpσ_33 k3σ_33 k4σ_33 smσ_33 onσ_33; omega) | omega) (by rw [q_lnk (v := 60) hI (q_tk (k' := 36) hI ha rfl (Nat.succ_ne_zero _)) rfl (by decide)]; omega) (show 1 < 9 by decide) (q_inU rfl) dX12_readHand_115 (fun H locs σ_36 hσ_36 hI => ?_)
        replace hF := q_letX hF hσ_36
        have fr_σ_36 := fr_σ_33.si hσ_36 (q_tk (k' := 36) hI ha rfl (Nat.succ_ne_zero _)) rfl
        have mv9_σ_36 : (σ_36.1 a 9).toInt = (σ_33.1 a 9).toInt := congrArg Int32.toInt ((hσ_36 ▸ (q_K.si (q_tk (k' := 36) hI ha rfl (Nat.succ_ne_zero _)) (show 8 < 9 by decide) : q_K 8 X σ_33 (q_si σ_33 (q_rf X a 22) (z_21 : Int32).toNatClampNeg _))) a 9 (by rw [ha]; decide))
        have mv12_σ_36 : (σ_36.1 a 12).toInt = (σ_33.1 a 12).toInt := congrArg Int32.toInt ((hσ_36 ▸ (q_K.si (q_tk (k' := 36) hI ha rfl (Nat.succ_ne_zero _)) (show 8 < 9 by decide) : q_K 8 X σ_33 (q_si σ_33 (q_rf X a 22) (z_21 : Int32).toNatClampNeg _))) a 12 (by rw [ha]; decide))
        have mv14_σ_36 : (σ_36.1 a 14).toInt = (σ_33.1 a 14).toInt := congrArg Int32.toInt ((hσ_36 ▸ (q_K.si (q_tk (k' := 36) hI ha rfl (Nat.succ_ne_zero _)) (show 8 < 9 by decide) : q_K 8 X σ_33 (q_si σ_33 (q_rf X a 22) (z_21 : Int32).toNatClampNeg _))) a 14 (by rw [ha]; decide))
        have mv15_σ_36 : (σ_36.1 a 15).toInt = (σ_33.1 a 15).toInt := congrArg Int32.toInt ((hσ_36 ▸ (q_K.si (q_tk (k' := 36) hI ha rfl (Nat.succ_ne_zero _)) (show 8 < 9 by decide) : q_K 8 X σ_33 (q_si σ_33 (q_rf X a 22) (z_21 : Int32).toNatClampNeg _))) a 15 (by rw [ha]; decide))
        have mv16_σ_36 : (σ_36.1 a 16).toInt = (σ_33.1 a 16).toInt := congrArg Int32.toInt ((hσ_36 ▸ (q_K.si (q_tk (k' := 36) hI ha rfl (Nat.succ_ne_zero _)) (show 8 < 9 by decide) : q_K 8 X σ_33 (q_si σ_33 (q_rf X a 22) (z_21 : Int32).toNatClampNeg _))) a 16 (by rw [ha]; decide))
        have mcσ_36 := m_wo hσ_36 (m_ne (q_tk (k' := 36) hI ha rfl (Nat.succ_ne_zero _)) (q_tk (f := 20) (k' := 34) hI ha rfl (by decide)) (by decide))
        have nnσ_36 : m_N (m_c X σ_36 a) := m_N.ext mcσ_36 nnσ_33
        have kpσ_36 : ∀ j, 0 ≤ j → j < 3720 → m_c X σ_36 a j = m_c X σ a j := fun j h0 h1 => (mcσ_36 j).trans (kpσ_33 j h0 h1)
        have k3σ_36 : m_c X σ_36 a 3720 = m_c X σ a 3720 ∧ m_c X σ_36 a 3721 = m_c X σ a 3721 := ⟨(mcσ_36 3720).trans k3σ_33.1, (mcσ_36 3721).trans k3σ_33.2⟩
        have k4σ_36 : 1 ≤ m_c X σ_36 a 3724 + 10 * (σ_36.1 a 12).toInt := (by have := mcσ_36 3724; omega)
        have smσ_36 : 0 ≤ (σ_36.1 a 15).toInt ∧ (σ_36.1 a 15).toInt ≤ (σ_36.1 a 16).toInt ∧ (σ_36.1 a 16).toInt ≤ (σ_36.1 a 9).toInt ∧ (σ_36.1 a 9).toInt ≤ 900 ∧ 0 ≤ (σ_36.1 a 14).toInt ∧ (σ_36.1 a 14).toInt ≤ 4 ∧ (σ_36.1 a 14).toInt ≤ 4 * ((σ_36.1 a 16).toInt - (σ_36.1 a 15).toInt) ∧ (σ_36.1 a 14).toInt ≤ 4 * ((σ_36.1 a 9).toInt - (σ_36.1 a 15).toInt) ∧ 0 ≤ (σ_36.1 a 12).toInt ∧ (σ_36.1 a 9).toInt = (σ.1 a 9).toInt ∧ (σ.1 a 15).toInt ≤ (σ_36.1 a 15).toInt ∧ (σ.1 a 12).toInt ≤ (σ_36.1 a 12).toInt := (by first | (rw [mv12_σ_36, mv14_σ_36, mv15_σ_36, mv16_σ_36, mv9_σ_36]; exact smσ_33) | omega)
        have onσ_36 : (σ.1 a 16).toInt ≤ (σ_36.1 a 15).toInt := (by first | (clear hs hz hk h4 k3σ ahpσ_2 dhpσ_2 ehpσ_2 k3σ_2 kc_3 ahpσ_5 chpσ_5 dhpσ_5 ehpσ_5 k3σ_5 kc_6 kc_7 ahpσ_9 chpσ_9 dhpσ_9 ehpσ_9 k3σ_9 ahpσ_11 bhpσ_11 chpσ_11 ahpσ_13 chpσ_13 dhpσ_13 ehpσ_13 k3σ_13 if_14 if_15 iz_16 kc_17 ahpσ_19 chpσ_19 dhpσ_19 ehpσ_19 k3σ_19 iz_20 iz_21 if_22 c_23 c_30 kc_31 ahpσ_33 dhpσ_33 ehpσ_33 k3σ_33 k4σ_33 smσ_33 onσ_33 mv9_σ_36 mv12_σ_36 mv14_σ_36 mv15_σ_36 mv16_σ_36 k3σ_36 k4σ_36 smσ_36; omega) | omega)
        clear mv9_σ_36 mv12_σ_36 mv14_σ_36 mv15_σ_36 mv16_σ_36 k4σ_33 smσ_33 onσ_33
        refine lv_aload_n hx hb dX12_readHand_116 rfl (lv_at hl 5 rfl) ?_
        refine gs_X12_35_12 E hI ha dX12_readHand_117 ?_
        refine lv_sipush (v := 3754) hx hb dX12_readHand_120 zks_3754 ?_
        refine lv_iload hx hb dX12_readHand_123 (lv_at hl 0 rfl) ?_
        refine lv_iadd hx hb dX12_readHand_125 ?_
        refine lv_topi (fun z_37 ez_37 => ?_)
        replace hF := q_letX hF ez_37
        have iz_37 := q_addI (A := 3754) (B := ((10 * r_4.toInt) + r_18.toInt)) ez_37 (by decide) iz_21 (by first | (clear hs hz hk h4 k3σ ahpσ_2 dhpσ_2 ehpσ_2 k3σ_2 kc_3 ahpσ_5 chpσ_5 dhpσ_5 ehpσ_5 k3σ_5 kc_6 kc_7 ahpσ_9 chpσ_9 dhpσ_9 ehpσ_9 k3σ_9 ahpσ_11 bhpσ_11 chpσ_11 ahpσ_13 chpσ_13 dhpσ_13 ehpσ_13 k3σ_13 if_14 if_15 iz_16 kc_17 ahpσ_19 chpσ_19 dhpσ_19 ehpσ_19 k3σ_19 iz_20 iz_21 if_22 c_23 c_30 kc_31 ahpσ_33 dhpσ_33 ehpσ_33 k3σ_33 k3σ_36 k4σ_36 smσ_36 onσ_36; omega) | omega) (by first | (clear hs hz hk h4 k3σ ahpσ_2 dhpσ_2 ehpσ_2 k3σ_2 kc_3 ahpσ_5 chpσ_5 dhpσ_5 ehpσ_5 k3σ_5 kc_6 kc_7 ahpσ_9 chpσ_9 dhpσ_9 ehpσ_9 k3σ_9 ahpσ_11 bhpσ_11 chpσ_11 ahpσ_13 chpσ_13 dhpσ_13 ehpσ_13 k3σ_13 if_14 if_15 iz_16 kc_17 ahpσ_19 chpσ_19 dhpσ_19 ehpσ_19 k3σ_19 iz_20 iz_21 if_22 c_23 c_30 kc_31 ahpσ_33 dhpσ_33 ehpσ_33 k3σ_33 k3σ_36 k4σ_36 smσ_36 onσ_36; omega) | omega)
        refine lv_iload_n hx hb dX12_readHand_126 rfl (lv_at hl 3 rfl) ?_
        refine q_iastN E hI (q_tk (k' := 34) hI ha rfl (Nat.succ_ne_zero _)) ⟨by decide, rfl⟩ (by first | (clear hs hz hk h4 k3σ ahpσ_2 dhpσ_2 ehpσ_2 k3σ_2 kc_3 ahpσ_5 chpσ_5 dhpσ_5 ehpσ_5 k3σ_5 kc_6 kc_7 ahpσ_9 chpσ_9 dhpσ_9 ehpσ_9 k3σ_9 ahpσ_11 bhpσ_11 chpσ_11 ahpσ_13 chpσ_13 dhpσ_13 ehpσ_13 k3σ_13 if_14 if_15 iz_16 kc_17 ahpσ_19 chpσ_19 dhpσ_19 ehpσ_19 k3σ_19 iz_20 iz_21 if_22 c_23 c_30 kc_31 ahpσ_33 dhpσ_33 ehpσ_33 k3σ_33 k3σ_36 k4σ_36 smσ_36 onσ_36 iz_37; omega) | omega) (by rw [q_lnk (v := 4650) hI (q_tk (k' := 34) hI ha rfl (Nat.succ_ne_zero _)) rfl (by decide)]; omega) (show 1 < 2 by decide) (q_inU rfl) dX12_readHand_127 (fun H locs σ_38 hσ_38 hI => ?_)
        replace hF := q_letX hF hσ_38
        have fr_σ_38 := fr_σ_36.si hσ_38 (q_tk (k' := 34) hI ha rfl (Nat.succ_ne_zero _)) rfl
        have mv9_σ_38 : (σ_38.1 a 9).toInt = (σ_36.1 a 9).toInt := congrArg Int32.toInt (q_rdn hσ_38 (Or.inl (m_ne ha (q_tk (k' := 34) hI ha rfl (Nat.succ_ne_zero _)) (by decide))))
        have mv12_σ_38 : (σ_38.1 a 12).toInt = (σ_36.1 a 12).toInt := congrArg Int32.toInt (q_rdn hσ_38 (Or.inl (m_ne ha (q_tk (k' := 34) hI ha rfl (Nat.succ_ne_zero _)) (by decide))))
        have mv14_σ_38 : (σ_38.1 a 14).toInt = (σ_36.1 a 14).toInt := congrArg Int32.toInt (q_rdn hσ_38 (Or.inl (m_ne ha (q_tk (k' := 34) hI ha rfl (Nat.succ_ne_zero _)) (by decide))))
        have mv15_σ_38 : (σ_38.1 a 15).toInt = (σ_36.1 a 15).toInt := congrArg Int32.toInt (q_rdn hσ_38 (Or.inl (m_ne ha (q_tk (k' := 34) hI ha rfl (Nat.succ_ne_zero _)) (by decide))))
        have mv16_σ_38 : (σ_38.1 a 16).toInt = (σ_36.1 a 16).toInt := congrArg Int32.toInt (q_rdn hσ_38 (Or.inl (m_ne ha (q_tk (k' := 34) hI ha rfl (Nat.succ_ne_zero _)) (by decide))))
        have mcσ_38 := m_wr (v := r_8) (A := (3754 + ((10 * r_4.toInt) + r_18.toInt))) hσ_38 iz_37 (by first | (clear hs hz hk h4 k3σ ahpσ_2 dhpσ_2 ehpσ_2 k3σ_2 kc_3 ahpσ_5 chpσ_5 dhpσ_5 ehpσ_5 k3σ_5 kc_6 kc_7 ahpσ_9 chpσ_9 dhpσ_9 ehpσ_9 k3σ_9 ahpσ_11 bhpσ_11 chpσ_11 ahpσ_13 chpσ_13 dhpσ_13 ehpσ_13 k3σ_13 if_14 if_15 iz_16 kc_17 ahpσ_19 chpσ_19 dhpσ_19 ehpσ_19 k3σ_19 iz_20 iz_21 if_22 c_23 c_30 kc_31 ahpσ_33 dhpσ_33 ehpσ_33 k3σ_33 k3σ_36 k4σ_36 smσ_36 onσ_36 iz_37 mv9_σ_38 mv12_σ_38 mv14_σ_38 mv15_σ_38 mv16_σ_38; omega) | omega)
        have nnσ_38 : m_N (m_c X σ_38 a) := m_N.hand nnσ_36 (by first | (clear hs hz hk h4 k3σ ahpσ_2 dhpσ_2 ehpσ_2 k3σ_2 kc_3 ahpσ_5 chpσ_5 dhpσ_5 ehpσ_5 k3σ_5 kc_6 kc_7 ahpσ_9 chpσ_9 dhpσ_9 ehpσ_9 k3σ_9 ahpσ_11 bhpσ_11 chpσ_11 ahpσ_13 chpσ_13 dhpσ_13 ehpσ_13 k3σ_13 if_14 if_15 iz_16 kc_17 ahpσ_19 chpσ_19 dhpσ_19 ehpσ_19 k3σ_19 iz_20 iz_21 if_22 c_23 c_30 kc_31 ahpσ_33 dhpσ_33 ehpσ_33 k3σ_33 k3σ_36 k4σ_36 smσ_36 onσ_36 iz_37 mv9_σ_38 mv12_σ_38 mv14_σ_38 mv15_σ_38 mv16_σ_38; omega) | omega) (by first | (clear hs hz hk h4 k3σ ahpσ_2 dhpσ_2 ehpσ_2 k3σ_2 kc_3 ahpσ_5 chpσ_5 dhpσ_5 ehpσ_5 k3σ_5 kc_6 kc_7 ahpσ_9 chpσ_9 dhpσ_9 ehpσ_9 k3σ_9 ahpσ_11 bhpσ_11 chpσ_11 ahpσ_13 chpσ_13 dhpσ_13 ehpσ_13 k3σ_13 if_14 if_15 iz_16 kc_17 ahpσ_19 chpσ_19 dhpσ_19 ehpσ_19 k3σ_19 iz_20 iz_21 if_22 c_23 c_30 kc_31 ahpσ_33 dhpσ_33 ehpσ_33 k3σ_33 k3σ_36 k4σ_36 smσ_36 onσ_36 iz_37 mv9_σ_38 mv12_σ_38 mv14_σ_38 mv15_σ_38 mv16_σ_38; omega) | omega) (by first | (clear hs hz hk h4 k3σ ahpσ_2 dhpσ_2 ehpσ_2 k3σ_2 kc_3 ahpσ_5 chpσ_5 dhpσ_5 ehpσ_5 k3σ_5 kc_6 kc_7 ahpσ_9 chpσ_9 dhpσ_9 ehpσ_9 k3σ_9 ahpσ_11 bhpσ_11 chpσ_11 ahpσ_13 chpσ_13 dhpσ_13 ehpσ_13 k3σ_13 if_14 if_15 iz_16 kc_17 ahpσ_19 chpσ_19 dhpσ_19 ehpσ_19 k3σ_19 iz_20 iz_21 if_22 c_23 c_30 kc_31 ahpσ_33 dhpσ_33 ehpσ_33 k3σ_33 k3σ_36 k4σ_36 smσ_36 onσ_36 iz_37 mv9_σ_38 mv12_σ_38 mv14_σ_38 mv15_σ_38 mv16_σ_38; omega) | omega) mcσ_38 (by first | (clear hs hz hk h4 k3σ ahpσ_2 dhpσ_2 ehpσ_2 k3σ_2 kc_3 ahpσ_5 chpσ_5 dhpσ_5 ehpσ_5 k3σ_5 kc_6 kc_7 ahpσ_9 chpσ_9 dhpσ_9 ehpσ_9 k3σ_9 ahpσ_11 bhpσ_11 chpσ_11 ahpσ_13 chpσ_13 dhpσ_13 ehpσ_13 k3σ_13 if_14 if_15 iz_16 kc_17 ahpσ_19 chpσ_19 dhpσ_19 ehpσ_19 k3σ_19 iz_20 iz_21 if_22 c_23 c_30 kc_31 ahpσ_33 dhpσ_33 ehpσ_33 k3σ_33 k3σ_36 k4σ_36 smσ_36 onσ_36 iz_37 mv9_σ_38 mv12_σ_38 mv14_σ_38 mv15_σ_38 mv16_σ_38; omega) | omega) (by rw [funext mcσ_36]; omega)
        have kpσ_38 : ∀ j, 0 ≤ j → j < 3720 → m_c X σ_38 a j = m_c X σ a j := fun j h0 h1 => by rw [mcσ_38 j h0, if_neg (by first | (clear hs hz hk h4 k3σ ahpσ_2 dhpσ_2 ehpσ_2 k3σ_2 kc_3 ahpσ_5 chpσ_5 dhpσ_5 ehpσ_5 k3σ_5 kc_6 kc_7 ahpσ_9 chpσ_9 dhpσ_9 ehpσ_9 k3σ_9 ahpσ_11 bhpσ_11 chpσ_11 ahpσ_13 chpσ_13 dhpσ_13 ehpσ_13 k3σ_13 if_14 if_15 iz_16 kc_17 ahpσ_19 chpσ_19 dhpσ_19 ehpσ_19 k3σ_19 iz_20 iz_21 if_22 c_23 c_30 kc_31 ahpσ_33 dhpσ_33 ehpσ_33 k3σ_33 k3σ_36 k4σ_36 smσ_36 onσ_36 iz_37 mv9_σ_38 mv12_σ_38 mv14_σ_38 mv15_σ_38 mv16_σ_38; omega) | omega)]; exact kpσ_36 j h0 h1
        have k3σ_38 : m_c X σ_38 a 3720 = m_c X σ a 3720 ∧ m_c X σ_38 a 3721 = m_c X σ a 3721 := ⟨by rw [mcσ_38 3720 (by decide), if_neg (by first | (clear hs hz hk h4 k3σ ahpσ_2 dhpσ_2 ehpσ_2 k3σ_2 kc_3 ahpσ_5 chpσ_5 dhpσ_5 ehpσ_5 k3σ_5 kc_6 kc_7 ahpσ_9 chpσ_9 dhpσ_9 ehpσ_9 k3σ_9 ahpσ_11 bhpσ_11 chpσ_11 ahpσ_13 chpσ_13 dhpσ_13 ehpσ_13 k3σ_13 if_14 if_15 iz_16 kc_17 ahpσ_19 chpσ_19 dhpσ_19 ehpσ_19 k3σ_19 iz_20 iz_21 if_22 c_23 c_30 kc_31 ahpσ_33 dhpσ_33 ehpσ_33 k3σ_33 k3σ_36 k4σ_36 smσ_36 onσ_36 iz_37 mv9_σ_38 mv12_σ_38 mv14_σ_38 mv15_σ_38 mv16_σ_38; omega) | omega)]; exact k3σ_36.1, by rw [mcσ_38 3721 (by decide), if_neg (by first | (clear hs hz hk h4 k3σ ahpσ_2 dhpσ_2 ehpσ_2 k3σ_2 kc_3 ahpσ_5 chpσ_5 dhpσ_5 ehpσ_5 k3σ_5 kc_6 kc_7 ahpσ_9 chpσ_9 dhpσ_9 ehpσ_9 k3σ_9 ahpσ_11 bhpσ_11 chpσ_11 ahpσ_13 chpσ_13 dhpσ_13 ehpσ_13 k3σ_13 if_14 if_15 iz_16 kc_17 ahpσ_19 chpσ_19 dhpσ_19 ehpσ_19 k3σ_19 iz_20 iz_21 if_22 c_23 c_30 kc_31 ahpσ_33 dhpσ_33 ehpσ_33 k3σ_33 k3σ_36 k4σ_36 smσ_36 onσ_36 iz_37 mv9_σ_38 mv12_σ_38 mv14_σ_38 mv15_σ_38 mv16_σ_38; omega) | omega)]; exact k3σ_36.2⟩
        have k4σ_38 : 1 ≤ m_c X σ_38 a 3724 + 10 * (σ_38.1 a 12).toInt := (by have := mcσ_38 3724 (by decide); rw [if_neg (by first | (clear hs hz hk h4 k3σ ahpσ_2 dhpσ_2 ehpσ_2 k3σ_2 kc_3 ahpσ_5 chpσ_5 dhpσ_5 ehpσ_5 k3σ_5 kc_6 kc_7 ahpσ_9 chpσ_9 dhpσ_9 ehpσ_9 k3σ_9 ahpσ_11 bhpσ_11 chpσ_11 ahpσ_13 chpσ_13 dhpσ_13 ehpσ_13 k3σ_13 if_14 if_15 iz_16 kc_17 ahpσ_19 chpσ_19 dhpσ_19 ehpσ_19 k3σ_19 iz_20 iz_21 if_22 c_23 c_30 kc_31 ahpσ_33 dhpσ_33 ehpσ_33 k3σ_33 k3σ_36 k4σ_36 smσ_36 onσ_36 iz_37 mv9_σ_38 mv12_σ_38 mv14_σ_38 mv15_σ_38 mv16_σ_38 k3σ_38; omega) | omega)] at this; omega)
        have smσ_38 : 0 ≤ (σ_38.1 a 15).toInt ∧ (σ_38.1 a 15).toInt ≤ (σ_38.1 a 16).toInt ∧ (σ_38.1 a 16).toInt ≤ (σ_38.1 a 9).toInt ∧ (σ_38.1 a 9).toInt ≤ 900 ∧ 0 ≤ (σ_38.1 a 14).toInt ∧ (σ_38.1 a 14).toInt ≤ 4 ∧ (σ_38.1 a 14).toInt ≤ 4 * ((σ_38.1 a 16).toInt - (σ_38.1 a 15).toInt) ∧ (σ_38.1 a 14).toInt ≤ 4 * ((σ_38.1 a 9).toInt - (σ_38.1 a 15).toInt) ∧ 0 ≤ (σ_38.1 a 12).toInt ∧ (σ_38.1 a 9).toInt = (σ.1 a 9).toInt ∧ (σ.1 a 15).toInt ≤ (σ_38.1 a 15).toInt ∧ (σ.1 a 12).toInt ≤ (σ_38.1 a 12).toInt := (by first | (rw [mv12_σ_38, mv14_σ_38, mv15_σ_38, mv16_σ_38, mv9_σ_38]; exact smσ_36) | omega)
        have onσ_38 : (σ.1 a 16).toInt ≤ (σ_38.1 a 15).toInt := (by first | (clear hs hz hk h4 k3σ ahpσ_2 dhpσ_2 ehpσ_2 k3σ_2 kc_3 ahpσ_5 chpσ_5 dhpσ_5 ehpσ_5 k3σ_5 kc_6 kc_7 ahpσ_9 chpσ_9 dhpσ_9 ehpσ_9 k3σ_9 ahpσ_11 bhpσ_11 chpσ_11 ahpσ_13 chpσ_13 dhpσ_13 ehpσ_13 k3σ_13 if_14 if_15 iz_16 kc_17 ahpσ_19 chpσ_19 dhpσ_19 ehpσ_19 k3σ_19 iz_20 iz_21 if_22 c_23 c_30 kc_31 ahpσ_33 dhpσ_33 ehpσ_33 k3σ_33 k3σ_36 k4σ_36 smσ_36 onσ_36 iz_37 mv9_σ_38 mv12_σ_38 mv14_σ_38 mv15_σ_38 mv16_σ_38 k3σ_38 k4σ_38 smσ_38; omega) | omega)
        clear mv9_σ_38 mv12_σ_38 mv14_σ_38 mv15_σ_38 mv16_σ_38 k4σ_36 smσ_36 onσ_36
        exact q_retv E hr hlk hI ⟨nnσ_38, kpσ_38, (by first | exact smσ_38 | omega), (by first | exact smσ_38 | omega), k3σ_38, k4σ_38, (hF.trans hout), fr_σ_38⟩ dX12_readHand_128
      · skip
        replace hF := q_ifp hF c_35
        exact q_retv E hr hlk hI ⟨nnσ_33, kpσ_33, (by first | exact smσ_33 | omega), (by first | exact smσ_33 | omega), k3σ_33, k4σ_33, (hF.trans hout), fr_σ_33⟩ dX12_readHand_107
    · skip
      replace hF := q_ifn hF c_30
      refine lv_aload_n hx hb dX12_readHand_75 rfl (lv_at hl 5 rfl) ?_
      refine lv_iload hx hb dX12_readHand_76 (lv_at hl 1 rfl) ?_
      refine q_ci (q_rV11_1 (rest := []) E (hml.trans hl.1.symm) hI (c_X12_toldOf l X σ_19 a r_18 ha (by first | (clear hs hz hk h4 k3σ ahpσ_2 dhpσ_2 ehpσ_2 k3σ_2 kc_3 ahpσ_5 chpσ_5 dhpσ_5 ehpσ_5 k3σ_5 kc_6 kc_7 ahpσ_9 chpσ_9 dhpσ_9 ehpσ_9 k3σ_9 ahpσ_11 bhpσ_11 chpσ_11 ahpσ_13 chpσ_13 dhpσ_13 ehpσ_13 k3σ_13 if_14 if_15 iz_16 kc_17 ahpσ_19 dhpσ_19 ehpσ_19 k3σ_19 iz_20 if_22 c_23 c_30; omega) | omega) (by first | (clear hs hz h4 k3σ ahpσ_2 dhpσ_2 ehpσ_2 kc_3 ahpσ_5 chpσ_5 dhpσ_5 ehpσ_5 kc_6 kc_7 ahpσ_9 chpσ_9 dhpσ_9 ehpσ_9 ahpσ_11 bhpσ_11 chpσ_11 ahpσ_13 chpσ_13 dhpσ_13 ehpσ_13 if_14 kc_17 ahpσ_19 dhpσ_19 ehpσ_19 iz_20 if_22 c_23 c_30; omega) | omega) nnσ_19) kv_X12_229 ha ⟨Nat.le_of_ble_eq_true rfl, Nat.le_of_ble_eq_true rfl⟩ (Nat.le_of_ble_eq_true rfl) dX12_readHand_78) hI (Nat.le_of_ble_eq_true rfl) (fun r_39 σ_40 H locs hpσ_40 hkσ_40 hI => ?_)
      have ahpσ_40 := hpσ_40.1
      have bhpσ_40 := hpσ_40.2.1
      have chpσ_40 := hpσ_40.2.2
      clear hpσ_40
      replace hI := q_Irw ahpσ_40 hI
      replace hF := q_letX hF chpσ_40
      have ts := m_ps_bd nnσ_19 ⟨(by omega : 0 ≤ r_18.toInt), (by first | (clear hs hz h4 k3σ ahpσ_2 dhpσ_2 ehpσ_2 kc_3 ahpσ_5 chpσ_5 dhpσ_5 ehpσ_5 kc_6 kc_7 ahpσ_9 chpσ_9 dhpσ_9 ehpσ_9 ahpσ_11 bhpσ_11 chpσ_11 ahpσ_13 chpσ_13 dhpσ_13 ehpσ_13 if_14 kc_17 ahpσ_19 dhpσ_19 ehpσ_19 iz_20 if_22 c_23 c_30 ahpσ_40 bhpσ_40 chpσ_40; omega) | omega)⟩ 6 (by decide)
      rw [m_ps_6] at ts
      refine lv_iload_n hx hb dX12_readHand_81 rfl (lv_at hl 3 rfl) ?_
      refine lv_iadd hx hb dX12_readHand_82 ?_
      refine lv_topi (fun z_41 ez_41 => ?_)
      replace hF := q_letX hF ez_41
      have iz_41 := q_addI (A := r_39.toInt) (B := r_8.toInt) ez_41 rfl rfl (by first | (clear hs hz hk h4 k3σ ahpσ_2 dhpσ_2 ehpσ_2 k3σ_2 kc_3 ahpσ_5 chpσ_5 dhpσ_5 ehpσ_5 k3σ_5 kc_6 ahpσ_9 dhpσ_9 ehpσ_9 k3σ_9 ahpσ_11 bhpσ_11 chpσ_11 ahpσ_13 chpσ_13 dhpσ_13 ehpσ_13 k3σ_13 if_14 if_15 iz_16 kc_17 ahpσ_19 chpσ_19 dhpσ_19 ehpσ_19 k3σ_19 iz_20 iz_21 if_22 c_23 c_30 ahpσ_40 chpσ_40; omega) | omega) (by first | (clear hs hz hk h4 k3σ ahpσ_2 dhpσ_2 ehpσ_2 k3σ_2 kc_3 ahpσ_5 chpσ_5 dhpσ_5 ehpσ_5 k3σ_5 kc_6 ahpσ_9 dhpσ_9 ehpσ_9 k3σ_9 ahpσ_11 bhpσ_11 chpσ_11 ahpσ_13 chpσ_13 dhpσ_13 ehpσ_13 k3σ_13 if_14 if_15 iz_16 kc_17 ahpσ_19 chpσ_19 dhpσ_19 ehpσ_19 k3σ_19 iz_20 iz_21 if_22 c_23 c_30 ahpσ_40 chpσ_40; omega) | omega)
      refine lv_aload_n hx hb dX12_readHand_83 rfl (lv_at hl 5 rfl) ?_
      refine gs_X12_35_12 E hI ha dX12_readHand_84 ?_
      refine lv_sipush (v := 3721) hx hb dX12_readHand_87 zks_3721 ?_
      refine q_iald E hI (q_tk (k' := 34) hI ha rfl (Nat.succ_ne_zero _)) ⟨by decide, rfl⟩ (by decide) (by rw [q_lnk (v := 4650) hI (q_tk (k' := 34) hI ha rfl (Nat.succ_ne_zero _)) rfl (by decide)]; decide) dX12_readHand_90 ?_
      refine lv_topi (fun f_42 ef_42 => ?_)
      replace hF := q_letX hF ef_42
      have if_42 : f_42.toInt = m_c X σ_19 a 3721 := m_rd ef_42 (by decide)
      refine q_icmp_le (A := z_41.toInt) (B := f_42.toInt) E rfl rfl (tgt := 100) dX12_readHand_91 (by decide) (fun c_43 => ?_) (fun c_43 => ?_)
      · skip
        replace hF := q_ifn hF (Int.not_lt.mpr c_43)
        refine lv_aload_n hx hb dX12_readHand_100 rfl (lv_at hl 5 rfl) ?_
        refine gs_X12_187_12 E hI ha dX12_readHand_101 ?_
        refine lv_topi (fun f_44 ef_44 => ?_)
        replace hF := q_letX hF ef_44
        have if_44 : f_44.toInt = (σ_19.1 a 12).toInt := congrArg Int32.toInt ef_44
        refine q_if_le (A := f_44.toInt) E rfl (tgt := 108) dX12_readHand_104 (by decide) (fun c_45 => ?_) (fun c_45 => ?_)
        · skip
          replace hF := q_ifn hF (Int.not_lt.mpr c_45)
          refine lv_aload_n hx hb dX12_readHand_108 rfl (lv_at hl 5 rfl) ?_
          refine gs_X12_41_12 E hI ha dX12_readHand_109 ?_
          refine lv_iload hx hb dX12_readHand_112 (lv_at hl 0 rfl) ?_
          refine lv_iconst (v := 1) hx hb dX12_readHand_114 zki_1 ?_
          refine q_iastN E hI (q_tk (k' := 36) hI ha rfl (Nat.succ_ne_zero _)) ⟨by decide, rfl⟩ (by first | (clear hs hz hk h4 k3σ ahpσ_2 dhpσ_2 ehpσ_2 k3σ_2 kc_3 ahpσ_5 dhpσ_5 ehpσ_5 k3σ_5 kc_7 ahpσ_9 chpσ_9 dhpσ_9 ehpσ_9 k3σ_9 ahpσ_11 bhpσ_11 chpσ_11 ahpσ_13 chpσ_13 dhpσ_13 ehpσ_13 k3σ_13 if_14 if_15 iz_16 kc_17 ahpσ_19 dhpσ_19 ehpσ_19 k3σ_19 iz_20 c_30 ahpσ_40 bhpσ_40 chpσ_40 ts iz_41 if_42 c_43 if_44 c_45; omega) | omega) (by rw [q_lnk (v := 60) hI (q_tk (k' := 36) hI ha rfl (Nat.succ_ne_zero _)) rfl (by decide)]; omega) (show 1 < 9 by decide) (q_inU rfl) dX12_readHand_115 (fun H locs σ_46 hσ_46 hI => ?_)
          replace hF := q_letX hF hσ_46
          have fr_σ_46 := fr_σ_19.si hσ_46 (q_tk (k' := 36) hI ha rfl (Nat.succ_ne_zero _)) rfl
          have mv9_σ_46 : (σ_46.1 a 9).toInt = (σ_19.1 a 9).toInt := congrArg Int32.toInt ((hσ_46 ▸ (q_K.si (q_tk (k' := 36) hI ha rfl (Nat.succ_ne_zero _)) (show 8 < 9 by decide) : q_K 8 X σ_19 (q_si σ_19 (q_rf X a 22) (z_21 : Int32).toNatClampNeg _))) a 9 (by rw [ha]; decide))
          have mv12_σ_46 : (σ_46.1 a 12).toInt = (σ_19.1 a 12).toInt := congrArg Int32.toInt ((hσ_46 ▸ (q_K.si (q_tk (k' := 36) hI ha rfl (Nat.succ_ne_zero _)) (show 8 < 9 by decide) : q_K 8 X σ_19 (q_si σ_19 (q_rf X a 22) (z_21 : Int32).toNatClampNeg _))) a 12 (by rw [ha]; decide))
          have mv14_σ_46 : (σ_46.1 a 14).toInt = (σ_19.1 a 14).toInt := congrArg Int32.toInt ((hσ_46 ▸ (q_K.si (q_tk (k' := 36) hI ha rfl (Nat.succ_ne_zero _)) (show 8 < 9 by decide) : q_K 8 X σ_19 (q_si σ_19 (q_rf X a 22) (z_21 : Int32).toNatClampNeg _))) a 14 (by rw [ha]; decide))
          have mv15_σ_46 : (σ_46.1 a 15).toInt = (σ_19.1 a 15).toInt := congrArg Int32.toInt ((hσ_46 ▸ (q_K.si (q_tk (k' := 36) hI ha rfl (Nat.succ_ne_zero _)) (show 8 < 9 by decide) : q_K 8 X σ_19 (q_si σ_19 (q_rf X a 22) (z_21 : Int32).toNatClampNeg _))) a 15 (by rw [ha]; decide))
          have mv16_σ_46 : (σ_46.1 a 16).toInt = (σ_19.1 a 16).toInt := congrArg Int32.toInt ((hσ_46 ▸ (q_K.si (q_tk (k' := 36) hI ha rfl (Nat.succ_ne_zero _)) (show 8 < 9 by decide) : q_K 8 X σ_19 (q_si σ_19 (q_rf X a 22) (z_21 : Int32).toNatClampNeg _))) a 16 (by rw [ha]; decide))
          have mcσ_46 := m_wo hσ_46 (m_ne (q_tk (k' := 36) hI ha rfl (Nat.succ_ne_zero _)) (q_tk (f := 20) (k' := 34) hI ha rfl (by decide)) (by decide))
          have nnσ_46 : m_N (m_c X σ_46 a) := m_N.ext mcσ_46 nnσ_19
          have kpσ_46 : ∀ j, 0 ≤ j → j < 3720 → m_c X σ_46 a j = m_c X σ a j := fun j h0 h1 => (mcσ_46 j).trans (kpσ_19 j h0 h1)
          have k3σ_46 : m_c X σ_46 a 3720 = m_c X σ a 3720 ∧ m_c X σ_46 a 3721 = m_c X σ a 3721 := ⟨(mcσ_46 3720).trans k3σ_19.1, (mcσ_46 3721).trans k3σ_19.2⟩
          have k4σ_46 : 1 ≤ m_c X σ_46 a 3724 + 10 * (σ_46.1 a 12).toInt := (by have := mcσ_46 3724; omega)
          have smσ_46 : 0 ≤ (σ_46.1 a 15).toInt ∧ (σ_46.1 a 15).toInt ≤ (σ_46.1 a 16).toInt ∧ (σ_46.1 a 16).toInt ≤ (σ_46.1 a 9).toInt ∧ (σ_46.1 a 9).toInt ≤ 900 ∧ 0 ≤ (σ_46.1 a 14).toInt ∧ (σ_46.1 a 14).toInt ≤ 4 ∧ (σ_46.1 a 14).toInt ≤ 4 * ((σ_46.1 a 16).toInt - (σ_46.1 a 15).toInt) ∧ (σ_46.1 a 14).toInt ≤ 4 * ((σ_46.1 a 9).toInt - (σ_46.1 a 15).toInt) ∧ 0 ≤ (σ_46.1 a 12).toInt ∧ (σ_46.1 a 9).toInt = (σ.1 a 9).toInt ∧ (σ.1 a 15).toInt ≤ (σ_46.1 a 15).toInt ∧ (σ.1 a 12).toInt ≤ (σ_46.1 a 12).toInt := (by first | (rw [mv12_σ_46, mv14_σ_46, mv15_σ_46, mv16_σ_46, mv9_σ_46]; exact smσ_19) | omega)
          have onσ_46 : (σ.1 a 16).toInt ≤ (σ_46.1 a 15).toInt := (by first | (clear hs hz hk h4 k3σ ahpσ_2 dhpσ_2 ehpσ_2 k3σ_2 kc_3 ahpσ_5 chpσ_5 dhpσ_5 ehpσ_5 k3σ_5 kc_6 kc_7 ahpσ_9 chpσ_9 dhpσ_9 ehpσ_9 k3σ_9 ahpσ_11 bhpσ_11 chpσ_11 ahpσ_13 chpσ_13 dhpσ_13 ehpσ_13 k3σ_13 if_14 if_15 iz_16 kc_17 ahpσ_19 chpσ_19 dhpσ_19 ehpσ_19 k3σ_19 iz_20 iz_21 if_22 c_23 c_30 ahpσ_40 bhpσ_40 chpσ_40 ts iz_41 if_42 c_43 if_44 c_45 mv9_σ_46 mv12_σ_46 mv14_σ_46 mv16_σ_46 k3σ_46 k4σ_46 smσ_46; omega) | omega)
          clear mv9_σ_46 mv12_σ_46 mv14_σ_46 mv15_σ_46 mv16_σ_46 k4σ_19 smσ_19 onσ_19
          refine lv_aload_n hx hb dX12_readHand_116 rfl (lv_at hl 5 rfl) ?_
          refine gs_X12_35_12 E hI ha dX12_readHand_117 ?_
          refine lv_sipush (v := 3754) hx hb dX12_readHand_120 zks_3754 ?_
          refine lv_iload hx hb dX12_readHand_123 (lv_at hl 0 rfl) ?_
          refine lv_iadd hx hb dX12_readHand_125 ?_
          refine lv_topi (fun z_47 ez_47 => ?_)
          replace hF := q_letX hF ez_47
          have iz_47 := q_addI (A := 3754) (B := ((10 * r_4.toInt) + r_18.toInt)) ez_47 (by decide) iz_21 (by first | (clear hs hz hk h4 k3σ ahpσ_2 dhpσ_2 ehpσ_2 k3σ_2 kc_3 ahpσ_5 dhpσ_5 ehpσ_5 k3σ_5 kc_6 kc_7 ahpσ_9 chpσ_9 dhpσ_9 ehpσ_9 k3σ_9 ahpσ_11 bhpσ_11 chpσ_11 ahpσ_13 chpσ_13 dhpσ_13 ehpσ_13 k3σ_13 if_14 if_15 iz_16 kc_17 ahpσ_19 dhpσ_19 ehpσ_19 k3σ_19 iz_20 if_22 c_23 c_30 ahpσ_40 bhpσ_40 chpσ_40 ts iz_41 if_42 c_43 if_44 c_45 k3σ_46 k4σ_46 smσ_46 onσ_46; omega) | omega) (by first | (clear hs hz h4 k3σ ahpσ_2 dhpσ_2 ehpσ_2 kc_3 ahpσ_5 dhpσ_5 ehpσ_5 kc_6 kc_7 ahpσ_9 chpσ_9 dhpσ_9 ehpσ_9 ahpσ_11 bhpσ_11 chpσ_11 ahpσ_13 chpσ_13 dhpσ_13 ehpσ_13 if_14 kc_17 ahpσ_19 dhpσ_19 ehpσ_19 iz_20 if_22 c_23 c_30 ahpσ_40 bhpσ_40 chpσ_40 ts iz_41 if_42 c_43 if_44 c_45 k4σ_46 smσ_46 onσ_46; omega) | omega)
          refine lv_iload_n hx hb dX12_readHand_126 rfl (lv_at hl 3 rfl) ?_
          refine q_iastN E hI (q_tk (k' := 34) hI ha rfl (Nat.succ_ne_zero _)) ⟨by decide, rfl⟩ (by first | (clear hs hz h4 k3σ ahpσ_2 dhpσ_2 ehpσ_2 kc_3 ahpσ_5 dhpσ_5 ehpσ_5 kc_7 ahpσ_9 chpσ_9 dhpσ_9 ehpσ_9 ahpσ_11 bhpσ_11 chpσ_11 ahpσ_13 chpσ_13 dhpσ_13 ehpσ_13 if_14 kc_17 ahpσ_19 dhpσ_19 ehpσ_19 iz_20 c_30 ahpσ_40 bhpσ_40 chpσ_40 ts iz_41 if_42 c_43 if_44 c_45 k4σ_46 smσ_46 onσ_46; omega) | omega) (by rw [q_lnk (v := 4650) hI (q_tk (k' := 34) hI ha rfl (Nat.succ_ne_zero _)) rfl (by decide)]; omega) (show 1 < 2 by decide) (q_inU rfl) dX12_readHand_127 (fun H locs σ_48 hσ_48 hI => ?_)
          replace hF := q_letX hF hσ_48
          have fr_σ_48 := fr_σ_46.si hσ_48 (q_tk (k' := 34) hI ha rfl (Nat.succ_ne_zero _)) rfl
          have mv9_σ_48 : (σ_48.1 a 9).toInt = (σ_46.1 a 9).toInt := congrArg Int32.toInt (q_rdn hσ_48 (Or.inl (m_ne ha (q_tk (k' := 34) hI ha rfl (Nat.succ_ne_zero _)) (by decide))))
          have mv12_σ_48 : (σ_48.1 a 12).toInt = (σ_46.1 a 12).toInt := congrArg Int32.toInt (q_rdn hσ_48 (Or.inl (m_ne ha (q_tk (k' := 34) hI ha rfl (Nat.succ_ne_zero _)) (by decide))))
          have mv14_σ_48 : (σ_48.1 a 14).toInt = (σ_46.1 a 14).toInt := congrArg Int32.toInt (q_rdn hσ_48 (Or.inl (m_ne ha (q_tk (k' := 34) hI ha rfl (Nat.succ_ne_zero _)) (by decide))))
          have mv15_σ_48 : (σ_48.1 a 15).toInt = (σ_46.1 a 15).toInt := congrArg Int32.toInt (q_rdn hσ_48 (Or.inl (m_ne ha (q_tk (k' := 34) hI ha rfl (Nat.succ_ne_zero _)) (by decide))))
          have mv16_σ_48 : (σ_48.1 a 16).toInt = (σ_46.1 a 16).toInt := congrArg Int32.toInt (q_rdn hσ_48 (Or.inl (m_ne ha (q_tk (k' := 34) hI ha rfl (Nat.succ_ne_zero _)) (by decide))))
          have mcσ_48 := m_wr (v := r_8) (A := (3754 + ((10 * r_4.toInt) + r_18.toInt))) hσ_48 iz_47 (by first | (clear hs hz h4 k3σ ahpσ_2 dhpσ_2 ehpσ_2 kc_3 ahpσ_5 dhpσ_5 ehpσ_5 kc_7 ahpσ_9 chpσ_9 dhpσ_9 ehpσ_9 ahpσ_11 bhpσ_11 chpσ_11 ahpσ_13 chpσ_13 dhpσ_13 ehpσ_13 if_14 kc_17 ahpσ_19 dhpσ_19 ehpσ_19 iz_20 c_30 ahpσ_40 bhpσ_40 chpσ_40 ts iz_41 if_42 c_43 if_44 c_45 k4σ_46 smσ_46 onσ_46 mv9_σ_48 mv12_σ_48 mv14_σ_48 mv15_σ_48 mv16_σ_48; omega) | omega)
          have nnσ_48 : m_N (m_c X σ_48 a) := m_N.hand nnσ_46 (by first | (clear hs hz hk h4 k3σ ahpσ_2 dhpσ_2 ehpσ_2 k3σ_2 kc_3 ahpσ_5 dhpσ_5 ehpσ_5 k3σ_5 kc_6 kc_7 ahpσ_9 chpσ_9 dhpσ_9 ehpσ_9 k3σ_9 ahpσ_11 bhpσ_11 chpσ_11 ahpσ_13 chpσ_13 dhpσ_13 ehpσ_13 k3σ_13 if_14 if_15 iz_16 kc_17 ahpσ_19 chpσ_19 dhpσ_19 ehpσ_19 k3σ_19 iz_20 iz_21 if_22 c_23 c_30 ahpσ_40 bhpσ_40 chpσ_40 ts iz_41 if_42 c_43 if_44 c_45 k3σ_46 k4σ_46 smσ_46 onσ_46 iz_47 mv9_σ_48 mv12_σ_48 mv14_σ_48 mv15_σ_48 mv16_σ_48; omega) | omega) (by first | (clear hs hz h4 k3σ ahpσ_2 dhpσ_2 ehpσ_2 kc_3 ahpσ_5 chpσ_5 dhpσ_5 ehpσ_5 kc_7 ahpσ_9 chpσ_9 dhpσ_9 ehpσ_9 ahpσ_11 bhpσ_11 chpσ_11 ahpσ_13 chpσ_13 dhpσ_13 ehpσ_13 if_14 kc_17 ahpσ_19 dhpσ_19 ehpσ_19 iz_20 c_30 ahpσ_40 bhpσ_40 chpσ_40 ts iz_41 if_42 c_43 if_44 c_45 k4σ_46 smσ_46 onσ_46 mv9_σ_48 mv12_σ_48 mv14_σ_48 mv15_σ_48 mv16_σ_48; omega) | omega) (by first | (clear hs hz hk h4 k3σ ahpσ_2 dhpσ_2 ehpσ_2 kc_3 ahpσ_5 chpσ_5 dhpσ_5 ehpσ_5 kc_6 kc_7 ahpσ_9 chpσ_9 dhpσ_9 ehpσ_9 ahpσ_11 bhpσ_11 chpσ_11 ahpσ_13 chpσ_13 dhpσ_13 ehpσ_13 if_14 kc_17 ahpσ_19 dhpσ_19 ehpσ_19 iz_20 if_22 c_23 c_30 ahpσ_40 bhpσ_40 chpσ_40 ts iz_41 if_42 c_43 if_44 c_45 k4σ_46 smσ_46 onσ_46 mv9_σ_48 mv12_σ_48 mv14_σ_48 mv15_σ_48 mv16_σ_48; omega) | omega) mcσ_48 (by first | (clear hs hz hk h4 k3σ ahpσ_2 dhpσ_2 ehpσ_2 k3σ_2 kc_3 ahpσ_5 chpσ_5 dhpσ_5 ehpσ_5 k3σ_5 kc_6 ahpσ_9 dhpσ_9 ehpσ_9 k3σ_9 ahpσ_11 bhpσ_11 chpσ_11 ahpσ_13 chpσ_13 dhpσ_13 ehpσ_13 k3σ_13 if_14 if_15 iz_16 kc_17 ahpσ_19 chpσ_19 dhpσ_19 ehpσ_19 k3σ_19 iz_20 iz_21 if_22 c_23 c_30 ahpσ_40 chpσ_40 ts if_42 c_43 if_44 c_45 k3σ_46 k4σ_46 smσ_46 onσ_46 iz_47 mv9_σ_48 mv12_σ_48 mv14_σ_48 mv15_σ_48 mv16_σ_48; omega) | omega) (by rw [funext mcσ_46]; omega)
          have kpσ_48 : ∀ j, 0 ≤ j → j < 3720 → m_c X σ_48 a j = m_c X σ a j := fun j h0 h1 => by rw [mcσ_48 j h0, if_neg (by first | (clear hs hz h4 k3σ ahpσ_2 dhpσ_2 ehpσ_2 kc_3 ahpσ_5 dhpσ_5 ehpσ_5 kc_7 ahpσ_9 chpσ_9 dhpσ_9 ehpσ_9 ahpσ_11 bhpσ_11 chpσ_11 ahpσ_13 chpσ_13 dhpσ_13 ehpσ_13 if_14 kc_17 ahpσ_19 dhpσ_19 ehpσ_19 iz_20 c_30 ahpσ_40 bhpσ_40 chpσ_40 ts iz_41 if_42 c_43 if_44 c_45 k4σ_46 smσ_46 onσ_46 mv9_σ_48 mv12_σ_48 mv14_σ_48 mv15_σ_48 mv16_σ_48; omega) | omega)]; exact kpσ_46 j h0 h1
          have k3σ_48 : m_c X σ_48 a 3720 = m_c X σ a 3720 ∧ m_c X σ_48 a 3721 = m_c X σ a 3721 := ⟨by rw [mcσ_48 3720 (by decide), if_neg (by first | (clear hs hz h4 k3σ ahpσ_2 dhpσ_2 ehpσ_2 kc_3 ahpσ_5 dhpσ_5 ehpσ_5 kc_7 ahpσ_9 chpσ_9 dhpσ_9 ehpσ_9 ahpσ_11 bhpσ_11 chpσ_11 ahpσ_13 chpσ_13 dhpσ_13 ehpσ_13 if_14 kc_17 ahpσ_19 dhpσ_19 ehpσ_19 iz_20 c_30 ahpσ_40 bhpσ_40 chpσ_40 ts iz_41 if_42 c_43 if_44 c_45 k4σ_46 smσ_46 onσ_46 mv9_σ_48 mv12_σ_48 mv14_σ_48 mv15_σ_48 mv16_σ_48; omega) | omega)]; exact k3σ_46.1, by rw [mcσ_48 3721 (by decide), if_neg (by first | (clear hs hz h4 k3σ ahpσ_2 dhpσ_2 ehpσ_2 kc_3 ahpσ_5 dhpσ_5 ehpσ_5 kc_7 ahpσ_9 chpσ_9 dhpσ_9 ehpσ_9 ahpσ_11 bhpσ_11 chpσ_11 ahpσ_13 chpσ_13 dhpσ_13 ehpσ_13 if_14 kc_17 ahpσ_19 dhpσ_19 ehpσ_19 iz_20 c_30 ahpσ_40 bhpσ_40 chpσ_40 ts iz_41 if_42 c_43 if_44 c_45 k4σ_46 smσ_46 onσ_46 mv9_σ_48 mv12_σ_48 mv14_σ_48 mv15_σ_48 mv16_σ_48; omega) | omega)]; exact k3σ_46.2⟩
          have k4σ_48 : 1 ≤ m_c X σ_48 a 3724 + 10 * (σ_48.1 a 12).toInt := (by have := mcσ_48 3724 (by decide); rw [if_neg (by first | (clear hs hz hk h4 k3σ ahpσ_2 dhpσ_2 ehpσ_2 k3σ_2 kc_3 ahpσ_5 dhpσ_5 ehpσ_5 k3σ_5 kc_7 ahpσ_9 chpσ_9 dhpσ_9 ehpσ_9 k3σ_9 ahpσ_11 bhpσ_11 chpσ_11 ahpσ_13 chpσ_13 dhpσ_13 ehpσ_13 k3σ_13 if_14 if_15 iz_16 kc_17 ahpσ_19 dhpσ_19 ehpσ_19 k3σ_19 iz_20 c_30 ahpσ_40 bhpσ_40 chpσ_40 ts iz_41 if_42 c_43 if_44 c_45 k3σ_46 k4σ_46 smσ_46 onσ_46 mv9_σ_48 mv12_σ_48 mv14_σ_48 mv15_σ_48 mv16_σ_48 k3σ_48; omega) | omega)] at this; omega)
          have smσ_48 : 0 ≤ (σ_48.1 a 15).toInt ∧ (σ_48.1 a 15).toInt ≤ (σ_48.1 a 16).toInt ∧ (σ_48.1 a 16).toInt ≤ (σ_48.1 a 9).toInt ∧ (σ_48.1 a 9).toInt ≤ 900 ∧ 0 ≤ (σ_48.1 a 14).toInt ∧ (σ_48.1 a 14).toInt ≤ 4 ∧ (σ_48.1 a 14).toInt ≤ 4 * ((σ_48.1 a 16).toInt - (σ_48.1 a 15).toInt) ∧ (σ_48.1 a 14).toInt ≤ 4 * ((σ_48.1 a 9).toInt - (σ_48.1 a 15).toInt) ∧ 0 ≤ (σ_48.1 a 12).toInt ∧ (σ_48.1 a 9).toInt = (σ.1 a 9).toInt ∧ (σ.1 a 15).toInt ≤ (σ_48.1 a 15).toInt ∧ (σ.1 a 12).toInt ≤ (σ_48.1 a 12).toInt := (by first | (rw [mv12_σ_48, mv14_σ_48, mv15_σ_48, mv16_σ_48, mv9_σ_48]; exact smσ_46) | omega)
          have onσ_48 : (σ.1 a 16).toInt ≤ (σ_48.1 a 15).toInt := (by first | (clear hs hz hk h4 k3σ ahpσ_2 dhpσ_2 ehpσ_2 k3σ_2 kc_3 ahpσ_5 chpσ_5 dhpσ_5 ehpσ_5 k3σ_5 kc_6 kc_7 ahpσ_9 chpσ_9 dhpσ_9 ehpσ_9 k3σ_9 ahpσ_11 bhpσ_11 chpσ_11 ahpσ_13 chpσ_13 dhpσ_13 ehpσ_13 k3σ_13 if_14 if_15 iz_16 kc_17 ahpσ_19 chpσ_19 dhpσ_19 ehpσ_19 k3σ_19 iz_20 iz_21 if_22 c_23 c_30 ahpσ_40 bhpσ_40 chpσ_40 ts iz_41 if_42 c_43 if_44 c_45 k3σ_46 k4σ_46 smσ_46 iz_47 mv9_σ_48 mv12_σ_48 mv14_σ_48 mv16_σ_48 k3σ_48 k4σ_48 smσ_48; omega) | omega)
          clear mv9_σ_48 mv12_σ_48 mv14_σ_48 mv15_σ_48 mv16_σ_48 k4σ_46 smσ_46 onσ_46
          exact q_retv E hr hlk hI ⟨nnσ_48, kpσ_48, (by first | exact smσ_48 | omega), (by first | exact smσ_48 | omega), k3σ_48, k4σ_48, (hF.trans hout), fr_σ_48⟩ dX12_readHand_128
        · skip
          replace hF := q_ifp hF c_45
          exact q_retv E hr hlk hI ⟨nnσ_19, kpσ_19, (by first | exact smσ_19 | omega), (by first | exact smσ_19 | omega), k3σ_19, k4σ_19, (hF.trans hout), fr_σ_19⟩ dX12_readHand_107
      · skip
        replace hF := q_ifp hF c_43
        refine lv_aload_n hx hb dX12_readHand_94 rfl (lv_at hl 5 rfl) ?_
        refine lv_iconst (v := 5) hx hb dX12_readHand_95 zki_5 ?_
        refine lv_iload_n hx hb dX12_readHand_96 rfl (lv_at hl 2 rfl) ?_
        have kc_49 : (5 : Int32).toInt = 5 := zt_5
        refine q_cv (q_rV11_2 (rest := []) E (hml.trans hl.1.symm) hI (c_X12_fail l X σ_19 a (5 : Int32) f_14 ha (by first | (clear hs hz hk h4 k3σ ahpσ_2 dhpσ_2 ehpσ_2 k3σ_2 kc_3 ahpσ_5 chpσ_5 dhpσ_5 ehpσ_5 k3σ_5 kc_6 kc_7 ahpσ_9 chpσ_9 dhpσ_9 ehpσ_9 k3σ_9 ahpσ_11 bhpσ_11 chpσ_11 ahpσ_13 chpσ_13 dhpσ_13 ehpσ_13 k3σ_13 if_14 if_15 iz_16 kc_17 ahpσ_19 chpσ_19 dhpσ_19 ehpσ_19 k3σ_19 iz_20 iz_21 c_30 ahpσ_40 bhpσ_40 chpσ_40 ts iz_41 if_42 c_43 kc_49; omega) | omega) (by first | (clear hs hz hk h4 k3σ ahpσ_2 dhpσ_2 ehpσ_2 k3σ_2 kc_3 ahpσ_5 chpσ_5 dhpσ_5 ehpσ_5 k3σ_5 kc_6 kc_7 ahpσ_9 chpσ_9 dhpσ_9 ehpσ_9 k3σ_9 ahpσ_11 bhpσ_11 chpσ_11 ahpσ_13 chpσ_13 dhpσ_13 ehpσ_13 k3σ_13 if_14 if_15 iz_16 kc_17 ahpσ_19 chpσ_19 dhpσ_19 ehpσ_19 k3σ_19 iz_20 iz_21 if_22 c_23 c_30 ahpσ_40 bhpσ_40 chpσ_40 ts iz_41 if_42 c_43; omega) | omega)) kv_X12_193 ha ⟨Nat.le_of_ble_eq_true rfl, Nat.le_of_ble_eq_true rfl⟩ (Nat.le_of_ble_eq_true rfl) dX12_readHand_97) hI (Nat.le_of_ble_eq_true rfl) (fun σ_51 H locs hpσ_51 hkσ_51 hI => ?_)
        have ahpσ_51 := hpσ_51.1
        have bhpσ_51 := hpσ_51.2.1
        have chpσ_51 := hpσ_51.2.2.1
        have dhpσ_51 := hpσ_51.2.2.2.1
        have ehpσ_51 := hpσ_51.2.2.2.2
        clear hpσ_51
        have fr_σ_51 := fr_σ_19.call ehpσ_51 rfl rfl
        replace hF := q_letX hF dhpσ_51
        have mcσ_51 := m_cK hkσ_51 hI.1 ha (by decide)
        have nnσ_51 : m_N (m_c X σ_51 a) := m_N.ext mcσ_51 nnσ_19
        have kpσ_51 : ∀ j, 0 ≤ j → j < 3720 → m_c X σ_51 a j = m_c X σ a j := fun j h0 h1 => (mcσ_51 j).trans (kpσ_19 j h0 h1)
        have k3σ_51 : m_c X σ_51 a 3720 = m_c X σ a 3720 ∧ m_c X σ_51 a 3721 = m_c X σ a 3721 := ⟨(mcσ_51 3720).trans k3σ_19.1, (mcσ_51 3721).trans k3σ_19.2⟩
        have k4σ_51 : 1 ≤ m_c X σ_51 a 3724 + 10 * (σ_51.1 a 12).toInt := (by have := mcσ_51 3724; omega)
        have smσ_51 : 0 ≤ (σ_51.1 a 15).toInt ∧ (σ_51.1 a 15).toInt ≤ (σ_51.1 a 16).toInt ∧ (σ_51.1 a 16).toInt ≤ (σ_51.1 a 9).toInt ∧ (σ_51.1 a 9).toInt ≤ 900 ∧ 0 ≤ (σ_51.1 a 14).toInt ∧ (σ_51.1 a 14).toInt ≤ 4 ∧ (σ_51.1 a 14).toInt ≤ 4 * ((σ_51.1 a 16).toInt - (σ_51.1 a 15).toInt) ∧ (σ_51.1 a 14).toInt ≤ 4 * ((σ_51.1 a 9).toInt - (σ_51.1 a 15).toInt) ∧ 0 ≤ (σ_51.1 a 12).toInt ∧ (σ_51.1 a 9).toInt = (σ.1 a 9).toInt ∧ (σ.1 a 15).toInt ≤ (σ_51.1 a 15).toInt ∧ (σ.1 a 12).toInt ≤ (σ_51.1 a 12).toInt := (by first | exact sm_fl smσ_19 bhpσ_51 chpσ_51 | omega)
        have onσ_51 : (σ.1 a 16).toInt ≤ (σ_51.1 a 15).toInt := (by first | (clear hs hz hk h4 k3σ ahpσ_2 dhpσ_2 ehpσ_2 k3σ_2 kc_3 ahpσ_5 chpσ_5 dhpσ_5 ehpσ_5 k3σ_5 kc_6 kc_7 ahpσ_9 chpσ_9 dhpσ_9 ehpσ_9 k3σ_9 ahpσ_11 bhpσ_11 chpσ_11 ahpσ_13 chpσ_13 dhpσ_13 ehpσ_13 k3σ_13 if_14 if_15 iz_16 kc_17 ahpσ_19 chpσ_19 dhpσ_19 ehpσ_19 k3σ_19 iz_20 iz_21 if_22 c_23 c_30 ahpσ_40 bhpσ_40 chpσ_40 ts iz_41 if_42 c_43 kc_49 ahpσ_51 chpσ_51 dhpσ_51 ehpσ_51 k3σ_51 k4σ_51 smσ_51; omega) | omega)
        clear k4σ_19 smσ_19 onσ_19 bhpσ_51
        refine lv_aload_n hx hb dX12_readHand_100 rfl (lv_at hl 5 rfl) ?_
        refine gs_X12_187_12 E hI ha dX12_readHand_101 ?_
        refine lv_topi (fun f_52 ef_52 => ?_)
        replace hF := q_letX hF ef_52
        have if_52 : f_52.toInt = (σ_51.1 a 12).toInt := congrArg Int32.toInt ef_52
        refine q_if_le (A := f_52.toInt) E rfl (tgt := 108) dX12_readHand_104 (by decide) (fun c_53 => ?_) (fun c_53 => ?_)
        · skip
          replace hF := q_ifn hF (Int.not_lt.mpr c_53)
          refine lv_aload_n hx hb dX12_readHand_108 rfl (lv_at hl 5 rfl) ?_
          refine gs_X12_41_12 E hI ha dX12_readHand_109 ?_
          refine lv_iload hx hb dX12_readHand_112 (lv_at hl 0 rfl) ?_
          refine lv_iconst (v := 1) hx hb dX12_readHand_114 zki_1 ?_
          refine q_iastN E hI (q_tk (k' := 36) hI ha rfl (Nat.succ_ne_zero _)) ⟨by decide, rfl⟩ (by first | (clear hs hz hk h4 k3σ ahpσ_2 dhpσ_2 ehpσ_2 k3σ_2 kc_3 ahpσ_5 chpσ_5 dhpσ_5 ehpσ_5 k3σ_5 kc_6 kc_7 ahpσ_9 chpσ_9 dhpσ_9 ehpσ_9 k3σ_9 ahpσ_11 bhpσ_11 chpσ_11 ahpσ_13 chpσ_13 dhpσ_13 ehpσ_13 k3σ_13 if_14 if_15 iz_16 kc_17 ahpσ_19 chpσ_19 dhpσ_19 ehpσ_19 k3σ_19 iz_20 iz_21 if_22 c_23 c_30 ahpσ_40 bhpσ_40 chpσ_40 ts iz_41 if_42 c_43 kc_49 ahpσ_51 dhpσ_51 ehpσ_51 k3σ_51 k4σ_51 smσ_51 onσ_51; omega) | omega) (by rw [q_lnk (v := 60) hI (q_tk (k' := 36) hI ha rfl (Nat.succ_ne_zero _)) rfl (by decide)]; omega) (show 1 < 9 by decide) (q_inU rfl) dX12_readHand_115 (fun H locs σ_54 hσ_54 hI => ?_)
          replace hF := q_letX hF hσ_54
          have fr_σ_54 := fr_σ_51.si hσ_54 (q_tk (k' := 36) hI ha rfl (Nat.succ_ne_zero _)) rfl
          have mv9_σ_54 : (σ_54.1 a 9).toInt = (σ_51.1 a 9).toInt := congrArg Int32.toInt ((hσ_54 ▸ (q_K.si (q_tk (k' := 36) hI ha rfl (Nat.succ_ne_zero _)) (show 8 < 9 by decide) : q_K 8 X σ_51 (q_si σ_51 (q_rf X a 22) (z_21 : Int32).toNatClampNeg _))) a 9 (by rw [ha]; decide))
          have mv12_σ_54 : (σ_54.1 a 12).toInt = (σ_51.1 a 12).toInt := congrArg Int32.toInt ((hσ_54 ▸ (q_K.si (q_tk (k' := 36) hI ha rfl (Nat.succ_ne_zero _)) (show 8 < 9 by decide) : q_K 8 X σ_51 (q_si σ_51 (q_rf X a 22) (z_21 : Int32).toNatClampNeg _))) a 12 (by rw [ha]; decide))
          have mv14_σ_54 : (σ_54.1 a 14).toInt = (σ_51.1 a 14).toInt := congrArg Int32.toInt ((hσ_54 ▸ (q_K.si (q_tk (k' := 36) hI ha rfl (Nat.succ_ne_zero _)) (show 8 < 9 by decide) : q_K 8 X σ_51 (q_si σ_51 (q_rf X a 22) (z_21 : Int32).toNatClampNeg _))) a 14 (by rw [ha]; decide))
          have mv15_σ_54 : (σ_54.1 a 15).toInt = (σ_51.1 a 15).toInt := congrArg Int32.toInt ((hσ_54 ▸ (q_K.si (q_tk (k' := 36) hI ha rfl (Nat.succ_ne_zero _)) (show 8 < 9 by decide) : q_K 8 X σ_51 (q_si σ_51 (q_rf X a 22) (z_21 : Int32).toNatClampNeg _))) a 15 (by rw [ha]; decide))
          have mv16_σ_54 : (σ_54.1 a 16).toInt = (σ_51.1 a 16).toInt := congrArg Int32.toInt ((hσ_54 ▸ (q_K.si (q_tk (k' := 36) hI ha rfl (Nat.succ_ne_zero _)) (show 8 < 9 by decide) : q_K 8 X σ_51 (q_si σ_51 (q_rf X a 22) (z_21 : Int32).toNatClampNeg _))) a 16 (by rw [ha]; decide))
          have mcσ_54 := m_wo hσ_54 (m_ne (q_tk (k' := 36) hI ha rfl (Nat.succ_ne_zero _)) (q_tk (f := 20) (k' := 34) hI ha rfl (by decide)) (by decide))
          have nnσ_54 : m_N (m_c X σ_54 a) := m_N.ext mcσ_54 nnσ_51
          have kpσ_54 : ∀ j, 0 ≤ j → j < 3720 → m_c X σ_54 a j = m_c X σ a j := fun j h0 h1 => (mcσ_54 j).trans (kpσ_51 j h0 h1)
          have k3σ_54 : m_c X σ_54 a 3720 = m_c X σ a 3720 ∧ m_c X σ_54 a 3721 = m_c X σ a 3721 := ⟨(mcσ_54 3720).trans k3σ_51.1, (mcσ_54 3721).trans k3σ_51.2⟩
          have k4σ_54 : 1 ≤ m_c X σ_54 a 3724 + 10 * (σ_54.1 a 12).toInt := (by have := mcσ_54 3724; omega)
          have smσ_54 : 0 ≤ (σ_54.1 a 15).toInt ∧ (σ_54.1 a 15).toInt ≤ (σ_54.1 a 16).toInt ∧ (σ_54.1 a 16).toInt ≤ (σ_54.1 a 9).toInt ∧ (σ_54.1 a 9).toInt ≤ 900 ∧ 0 ≤ (σ_54.1 a 14).toInt ∧ (σ_54.1 a 14).toInt ≤ 4 ∧ (σ_54.1 a 14).toInt ≤ 4 * ((σ_54.1 a 16).toInt - (σ_54.1 a 15).toInt) ∧ (σ_54.1 a 14).toInt ≤ 4 * ((σ_54.1 a 9).toInt - (σ_54.1 a 15).toInt) ∧ 0 ≤ (σ_54.1 a 12).toInt ∧ (σ_54.1 a 9).toInt = (σ.1 a 9).toInt ∧ (σ.1 a 15).toInt ≤ (σ_54.1 a 15).toInt ∧ (σ.1 a 12).toInt ≤ (σ_54.1 a 12).toInt := (by first | (rw [mv12_σ_54, mv14_σ_54, mv15_σ_54, mv16_σ_54, mv9_σ_54]; exact smσ_51) | omega)
          have onσ_54 : (σ.1 a 16).toInt ≤ (σ_54.1 a 15).toInt := (by first | (clear hs hz hk h4 k3σ ahpσ_2 dhpσ_2 ehpσ_2 k3σ_2 kc_3 ahpσ_5 chpσ_5 dhpσ_5 ehpσ_5 k3σ_5 kc_6 kc_7 ahpσ_9 chpσ_9 dhpσ_9 ehpσ_9 k3σ_9 ahpσ_11 bhpσ_11 chpσ_11 ahpσ_13 chpσ_13 dhpσ_13 ehpσ_13 k3σ_13 if_14 if_15 iz_16 kc_17 ahpσ_19 chpσ_19 dhpσ_19 ehpσ_19 k3σ_19 iz_20 iz_21 if_22 c_23 c_30 ahpσ_40 bhpσ_40 chpσ_40 ts iz_41 if_42 c_43 kc_49 ahpσ_51 dhpσ_51 ehpσ_51 k3σ_51 k4σ_51 smσ_51 onσ_51 mv9_σ_54 mv12_σ_54 mv14_σ_54 mv15_σ_54 mv16_σ_54 k3σ_54 k4σ_54 smσ_54; omega) | omega)
          clear mv9_σ_54 mv12_σ_54 mv14_σ_54 mv15_σ_54 mv16_σ_54 k4σ_51 smσ_51 onσ_51
          refine lv_aload_n hx hb dX12_readHand_116 rfl (lv_at hl 5 rfl) ?_
          refine gs_X12_35_12 E hI ha dX12_readHand_117 ?_
          refine lv_sipush (v := 3754) hx hb dX12_readHand_120 zks_3754 ?_
          refine lv_iload hx hb dX12_readHand_123 (lv_at hl 0 rfl) ?_
          refine lv_iadd hx hb dX12_readHand_125 ?_
          refine lv_topi (fun z_55 ez_55 => ?_)
          replace hF := q_letX hF ez_55
          have iz_55 := q_addI (A := 3754) (B := ((10 * r_4.toInt) + r_18.toInt)) ez_55 (by decide) iz_21 (by first | (clear hs hz hk h4 k3σ ahpσ_2 dhpσ_2 ehpσ_2 k3σ_2 kc_3 ahpσ_5 chpσ_5 dhpσ_5 ehpσ_5 k3σ_5 kc_6 kc_7 ahpσ_9 chpσ_9 dhpσ_9 ehpσ_9 k3σ_9 ahpσ_11 bhpσ_11 chpσ_11 ahpσ_13 chpσ_13 dhpσ_13 ehpσ_13 k3σ_13 if_14 if_15 iz_16 kc_17 ahpσ_19 chpσ_19 dhpσ_19 ehpσ_19 k3σ_19 iz_20 iz_21 if_22 c_23 c_30 ahpσ_40 bhpσ_40 chpσ_40 ts iz_41 if_42 c_43 kc_49 ahpσ_51 dhpσ_51 ehpσ_51 k3σ_51 k3σ_54 k4σ_54 smσ_54 onσ_54; omega) | omega) (by first | (clear hs hz hk h4 k3σ ahpσ_2 dhpσ_2 ehpσ_2 k3σ_2 kc_3 ahpσ_5 chpσ_5 dhpσ_5 ehpσ_5 k3σ_5 kc_6 kc_7 ahpσ_9 chpσ_9 dhpσ_9 ehpσ_9 k3σ_9 ahpσ_11 bhpσ_11 chpσ_11 ahpσ_13 chpσ_13 dhpσ_13 ehpσ_13 k3σ_13 if_14 if_15 iz_16 kc_17 ahpσ_19 chpσ_19 dhpσ_19 ehpσ_19 k3σ_19 iz_20 iz_21 if_22 c_23 c_30 ahpσ_40 bhpσ_40 chpσ_40 ts iz_41 if_42 c_43 kc_49 ahpσ_51 dhpσ_51 ehpσ_51 k3σ_51 k3σ_54 k4σ_54 smσ_54 onσ_54; omega) | omega)
          refine lv_iload_n hx hb dX12_readHand_126 rfl (lv_at hl 3 rfl) ?_
          refine q_iastN E hI (q_tk (k' := 34) hI ha rfl (Nat.succ_ne_zero _)) ⟨by decide, rfl⟩ (by first | (clear hs hz hk h4 k3σ ahpσ_2 dhpσ_2 ehpσ_2 k3σ_2 kc_3 ahpσ_5 chpσ_5 dhpσ_5 ehpσ_5 k3σ_5 kc_6 kc_7 ahpσ_9 chpσ_9 dhpσ_9 ehpσ_9 k3σ_9 ahpσ_11 bhpσ_11 chpσ_11 ahpσ_13 chpσ_13 dhpσ_13 ehpσ_13 k3σ_13 if_14 if_15 iz_16 kc_17 ahpσ_19 chpσ_19 dhpσ_19 ehpσ_19 k3σ_19 iz_20 iz_21 if_22 c_23 c_30 ahpσ_40 bhpσ_40 chpσ_40 ts iz_41 if_42 c_43 kc_49 ahpσ_51 dhpσ_51 ehpσ_51 k3σ_51 k3σ_54 k4σ_54 smσ_54 onσ_54 iz_55; omega) | omega) (by rw [q_lnk (v := 4650) hI (q_tk (k' := 34) hI ha rfl (Nat.succ_ne_zero _)) rfl (by decide)]; omega) (show 1 < 2 by decide) (q_inU rfl) dX12_readHand_127 (fun H locs σ_56 hσ_56 hI => ?_)
          replace hF := q_letX hF hσ_56
          have fr_σ_56 := fr_σ_54.si hσ_56 (q_tk (k' := 34) hI ha rfl (Nat.succ_ne_zero _)) rfl
          have mv9_σ_56 : (σ_56.1 a 9).toInt = (σ_54.1 a 9).toInt := congrArg Int32.toInt (q_rdn hσ_56 (Or.inl (m_ne ha (q_tk (k' := 34) hI ha rfl (Nat.succ_ne_zero _)) (by decide))))
          have mv12_σ_56 : (σ_56.1 a 12).toInt = (σ_54.1 a 12).toInt := congrArg Int32.toInt (q_rdn hσ_56 (Or.inl (m_ne ha (q_tk (k' := 34) hI ha rfl (Nat.succ_ne_zero _)) (by decide))))
          have mv14_σ_56 : (σ_56.1 a 14).toInt = (σ_54.1 a 14).toInt := congrArg Int32.toInt (q_rdn hσ_56 (Or.inl (m_ne ha (q_tk (k' := 34) hI ha rfl (Nat.succ_ne_zero _)) (by decide))))
          have mv15_σ_56 : (σ_56.1 a 15).toInt = (σ_54.1 a 15).toInt := congrArg Int32.toInt (q_rdn hσ_56 (Or.inl (m_ne ha (q_tk (k' := 34) hI ha rfl (Nat.succ_ne_zero _)) (by decide))))
          have mv16_σ_56 : (σ_56.1 a 16).toInt = (σ_54.1 a 16).toInt := congrArg Int32.toInt (q_rdn hσ_56 (Or.inl (m_ne ha (q_tk (k' := 34) hI ha rfl (Nat.succ_ne_zero _)) (by decide))))
          have mcσ_56 := m_wr (v := r_8) (A := (3754 + ((10 * r_4.toInt) + r_18.toInt))) hσ_56 iz_55 (by first | (clear hs hz hk h4 k3σ ahpσ_2 dhpσ_2 ehpσ_2 k3σ_2 kc_3 ahpσ_5 chpσ_5 dhpσ_5 ehpσ_5 k3σ_5 kc_6 kc_7 ahpσ_9 chpσ_9 dhpσ_9 ehpσ_9 k3σ_9 ahpσ_11 bhpσ_11 chpσ_11 ahpσ_13 chpσ_13 dhpσ_13 ehpσ_13 k3σ_13 if_14 if_15 iz_16 kc_17 ahpσ_19 chpσ_19 dhpσ_19 ehpσ_19 k3σ_19 iz_20 iz_21 if_22 c_23 c_30 ahpσ_40 bhpσ_40 chpσ_40 ts iz_41 if_42 c_43 kc_49 ahpσ_51 dhpσ_51 ehpσ_51 k3σ_51 k3σ_54 k4σ_54 smσ_54 onσ_54 iz_55 mv9_σ_56 mv12_σ_56 mv14_σ_56 mv15_σ_56 mv16_σ_56; omega) | omega)
          have nnσ_56 : m_N (m_c X σ_56 a) := m_N.hand nnσ_54 (by first | (clear hs hz hk h4 k3σ ahpσ_2 dhpσ_2 ehpσ_2 k3σ_2 kc_3 ahpσ_5 chpσ_5 dhpσ_5 ehpσ_5 k3σ_5 kc_6 kc_7 ahpσ_9 chpσ_9 dhpσ_9 ehpσ_9 k3σ_9 ahpσ_11 bhpσ_11 chpσ_11 ahpσ_13 chpσ_13 dhpσ_13 ehpσ_13 k3σ_13 if_14 if_15 iz_16 kc_17 ahpσ_19 chpσ_19 dhpσ_19 ehpσ_19 k3σ_19 iz_20 iz_21 if_22 c_23 c_30 ahpσ_40 bhpσ_40 chpσ_40 ts iz_41 if_42 c_43 kc_49 ahpσ_51 dhpσ_51 ehpσ_51 k3σ_51 k3σ_54 k4σ_54 smσ_54 onσ_54 iz_55 mv9_σ_56 mv12_σ_56 mv14_σ_56 mv15_σ_56 mv16_σ_56; omega) | omega) (by first | (clear hs hz hk h4 k3σ ahpσ_2 dhpσ_2 ehpσ_2 k3σ_2 kc_3 ahpσ_5 chpσ_5 dhpσ_5 ehpσ_5 k3σ_5 kc_6 kc_7 ahpσ_9 chpσ_9 dhpσ_9 ehpσ_9 k3σ_9 ahpσ_11 bhpσ_11 chpσ_11 ahpσ_13 chpσ_13 dhpσ_13 ehpσ_13 k3σ_13 if_14 if_15 iz_16 kc_17 ahpσ_19 chpσ_19 dhpσ_19 ehpσ_19 k3σ_19 iz_20 iz_21 if_22 c_23 c_30 ahpσ_40 bhpσ_40 chpσ_40 ts iz_41 if_42 c_43 kc_49 ahpσ_51 dhpσ_51 ehpσ_51 k3σ_51 k3σ_54 k4σ_54 smσ_54 onσ_54 iz_55 mv9_σ_56 mv12_σ_56 mv14_σ_56 mv15_σ_56 mv16_σ_56; omega) | omega) (by first | (clear hs hz hk h4 k3σ ahpσ_2 dhpσ_2 ehpσ_2 k3σ_2 kc_3 ahpσ_5 chpσ_5 dhpσ_5 ehpσ_5 k3σ_5 kc_6 kc_7 ahpσ_9 chpσ_9 dhpσ_9 ehpσ_9 k3σ_9 ahpσ_11 bhpσ_11 chpσ_11 ahpσ_13 chpσ_13 dhpσ_13 ehpσ_13 k3σ_13 if_14 if_15 iz_16 kc_17 ahpσ_19 chpσ_19 dhpσ_19 ehpσ_19 k3σ_19 iz_20 iz_21 if_22 c_23 c_30 ahpσ_40 bhpσ_40 chpσ_40 ts iz_41 if_42 c_43 kc_49 ahpσ_51 dhpσ_51 ehpσ_51 k3σ_51 k3σ_54 k4σ_54 smσ_54 onσ_54 iz_55 mv9_σ_56 mv12_σ_56 mv14_σ_56 mv15_σ_56 mv16_σ_56; omega) | omega) mcσ_56 (by first | (clear hs hz hk h4 k3σ ahpσ_2 dhpσ_2 ehpσ_2 k3σ_2 kc_3 ahpσ_5 chpσ_5 dhpσ_5 ehpσ_5 k3σ_5 kc_6 kc_7 ahpσ_9 chpσ_9 dhpσ_9 ehpσ_9 k3σ_9 ahpσ_11 bhpσ_11 chpσ_11 ahpσ_13 chpσ_13 dhpσ_13 ehpσ_13 k3σ_13 if_14 if_15 iz_16 kc_17 ahpσ_19 chpσ_19 dhpσ_19 ehpσ_19 k3σ_19 iz_20 iz_21 if_22 c_23 c_30 ahpσ_40 bhpσ_40 chpσ_40 ts iz_41 if_42 c_43 kc_49 ahpσ_51 dhpσ_51 ehpσ_51 k3σ_51 k3σ_54 k4σ_54 smσ_54 onσ_54 iz_55 mv9_σ_56 mv12_σ_56 mv14_σ_56 mv15_σ_56 mv16_σ_56; omega) | omega) (by rw [funext mcσ_54]; omega)
          have kpσ_56 : ∀ j, 0 ≤ j → j < 3720 → m_c X σ_56 a j = m_c X σ a j := fun j h0 h1 => by rw [mcσ_56 j h0, if_neg (by first | (clear hs hz hk h4 k3σ ahpσ_2 dhpσ_2 ehpσ_2 k3σ_2 kc_3 ahpσ_5 chpσ_5 dhpσ_5 ehpσ_5 k3σ_5 kc_6 kc_7 ahpσ_9 chpσ_9 dhpσ_9 ehpσ_9 k3σ_9 ahpσ_11 bhpσ_11 chpσ_11 ahpσ_13 chpσ_13 dhpσ_13 ehpσ_13 k3σ_13 if_14 if_15 iz_16 kc_17 ahpσ_19 chpσ_19 dhpσ_19 ehpσ_19 k3σ_19 iz_20 iz_21 if_22 c_23 c_30 ahpσ_40 bhpσ_40 chpσ_40 ts iz_41 if_42 c_43 kc_49 ahpσ_51 dhpσ_51 ehpσ_51 k3σ_51 k3σ_54 k4σ_54 smσ_54 onσ_54 iz_55 mv9_σ_56 mv12_σ_56 mv14_σ_56 mv15_σ_56 mv16_σ_56; omega) | omega)]; exact kpσ_54 j h0 h1
          have k3σ_56 : m_c X σ_56 a 3720 = m_c X σ a 3720 ∧ m_c X σ_56 a 3721 = m_c X σ a 3721 := ⟨by rw [mcσ_56 3720 (by decide), if_neg (by first | (clear hs hz hk h4 k3σ ahpσ_2 dhpσ_2 ehpσ_2 k3σ_2 kc_3 ahpσ_5 chpσ_5 dhpσ_5 ehpσ_5 k3σ_5 kc_6 kc_7 ahpσ_9 chpσ_9 dhpσ_9 ehpσ_9 k3σ_9 ahpσ_11 bhpσ_11 chpσ_11 ahpσ_13 chpσ_13 dhpσ_13 ehpσ_13 k3σ_13 if_14 if_15 iz_16 kc_17 ahpσ_19 chpσ_19 dhpσ_19 ehpσ_19 k3σ_19 iz_20 iz_21 if_22 c_23 c_30 ahpσ_40 bhpσ_40 chpσ_40 ts iz_41 if_42 c_43 kc_49 ahpσ_51 dhpσ_51 ehpσ_51 k3σ_51 k3σ_54 k4σ_54 smσ_54 onσ_54 iz_55 mv9_σ_56 mv12_σ_56 mv14_σ_56 mv15_σ_56 mv16_σ_56; omega) | omega)]; exact k3σ_54.1, by rw [mcσ_56 3721 (by decide), if_neg (by first | (clear hs hz hk h4 k3σ ahpσ_2 dhpσ_2 ehpσ_2 k3σ_2 kc_3 ahpσ_5 chpσ_5 dhpσ_5 ehpσ_5 k3σ_5 kc_6 kc_7 ahpσ_9 chpσ_9 dhpσ_9 ehpσ_9 k3σ_9 ahpσ_11 bhpσ_11 chpσ_11 ahpσ_13 chpσ_13 dhpσ_13 ehpσ_13 k3σ_13 if_14 if_15 iz_16 kc_17 ahpσ_19 chpσ_19 dhpσ_19 ehpσ_19 k3σ_19 iz_20 iz_21 if_22 c_23 c_30 ahpσ_40 bhpσ_40 chpσ_40 ts iz_41 if_42 c_43 kc_49 ahpσ_51 dhpσ_51 ehpσ_51 k3σ_51 k3σ_54 k4σ_54 smσ_54 onσ_54 iz_55 mv9_σ_56 mv12_σ_56 mv14_σ_56 mv15_σ_56 mv16_σ_56; omega) | omega)]; exact k3σ_54.2⟩
          have k4σ_56 : 1 ≤ m_c X σ_56 a 3724 + 10 * (σ_56.1 a 12).toInt := (by have := mcσ_56 3724 (by decide); rw [if_neg (by first | (clear hs hz hk h4 k3σ ahpσ_2 dhpσ_2 ehpσ_2 k3σ_2 kc_3 ahpσ_5 chpσ_5 dhpσ_5 ehpσ_5 k3σ_5 kc_6 kc_7 ahpσ_9 chpσ_9 dhpσ_9 ehpσ_9 k3σ_9 ahpσ_11 bhpσ_11 chpσ_11 ahpσ_13 chpσ_13 dhpσ_13 ehpσ_13 k3σ_13 if_14 if_15 iz_16 kc_17 ahpσ_19 chpσ_19 dhpσ_19 ehpσ_19 k3σ_19 iz_20 iz_21 if_22 c_23 c_30 ahpσ_40 bhpσ_40 chpσ_40 ts iz_41 if_42 c_43 kc_49 ahpσ_51 dhpσ_51 ehpσ_51 k3σ_51 k3σ_54 k4σ_54 smσ_54 onσ_54 iz_55 mv9_σ_56 mv12_σ_56 mv14_σ_56 mv15_σ_56 mv16_σ_56 k3σ_56; omega) | omega)] at this; omega)
          have smσ_56 : 0 ≤ (σ_56.1 a 15).toInt ∧ (σ_56.1 a 15).toInt ≤ (σ_56.1 a 16).toInt ∧ (σ_56.1 a 16).toInt ≤ (σ_56.1 a 9).toInt ∧ (σ_56.1 a 9).toInt ≤ 900 ∧ 0 ≤ (σ_56.1 a 14).toInt ∧ (σ_56.1 a 14).toInt ≤ 4 ∧ (σ_56.1 a 14).toInt ≤ 4 * ((σ_56.1 a 16).toInt - (σ_56.1 a 15).toInt) ∧ (σ_56.1 a 14).toInt ≤ 4 * ((σ_56.1 a 9).toInt - (σ_56.1 a 15).toInt) ∧ 0 ≤ (σ_56.1 a 12).toInt ∧ (σ_56.1 a 9).toInt = (σ.1 a 9).toInt ∧ (σ.1 a 15).toInt ≤ (σ_56.1 a 15).toInt ∧ (σ.1 a 12).toInt ≤ (σ_56.1 a 12).toInt := (by first | (rw [mv12_σ_56, mv14_σ_56, mv15_σ_56, mv16_σ_56, mv9_σ_56]; exact smσ_54) | omega)
          have onσ_56 : (σ.1 a 16).toInt ≤ (σ_56.1 a 15).toInt := (by first | (clear hs hz hk h4 k3σ ahpσ_2 dhpσ_2 ehpσ_2 k3σ_2 kc_3 ahpσ_5 chpσ_5 dhpσ_5 ehpσ_5 k3σ_5 kc_6 kc_7 ahpσ_9 chpσ_9 dhpσ_9 ehpσ_9 k3σ_9 ahpσ_11 bhpσ_11 chpσ_11 ahpσ_13 chpσ_13 dhpσ_13 ehpσ_13 k3σ_13 if_14 if_15 iz_16 kc_17 ahpσ_19 chpσ_19 dhpσ_19 ehpσ_19 k3σ_19 iz_20 iz_21 if_22 c_23 c_30 ahpσ_40 bhpσ_40 chpσ_40 ts iz_41 if_42 c_43 kc_49 ahpσ_51 dhpσ_51 ehpσ_51 k3σ_51 k3σ_54 k4σ_54 smσ_54 onσ_54 iz_55 mv9_σ_56 mv12_σ_56 mv14_σ_56 mv15_σ_56 mv16_σ_56 k3σ_56 k4σ_56 smσ_56; omega) | omega)
          clear mv9_σ_56 mv12_σ_56 mv14_σ_56 mv15_σ_56 mv16_σ_56 k4σ_54 smσ_54 onσ_54
          exact q_retv E hr hlk hI ⟨nnσ_56, kpσ_56, (by first | exact smσ_56 | omega), (by first | exact smσ_56 | omega), k3σ_56, k4σ_56, (hF.trans hout), fr_σ_56⟩ dX12_readHand_128
        · skip
          replace hF := q_ifp hF c_53
          exact q_retv E hr hlk hI ⟨nnσ_51, kpσ_51, (by first | exact smσ_51 | omega), (by first | exact smσ_51 | omega), k3σ_51, k4σ_51, (hF.trans hout), fr_σ_51⟩ dX12_readHand_107
end
/-! FROM 36z.cpy.lean.txt -/
section
theorem m_cpy_n {c c0 : Int → Int} {B D k n : Int} (h : ∀ j : Int, 0 ≤ j → c j = if D ≤ j ∧ j < D + k then c0 (B + (j - D)) else c0 j) (e : k = n) : ∀ j : Int, 0 ≤ j → c j = if D ≤ j ∧ j < D + n then c0 (B + (j - D)) else c0 j := by
  subst e
  exact h
theorem m_cpy40 {c c' : Int → Int} {z w : Int} (hz : z = 0) (hw : w = 4) (h : ∀ j : Int, 0 ≤ j → c' j = if 930 * z ≤ j ∧ j < 930 * z + 930 then c (930 * w + (j - 930 * z)) else c j) : (∀ j : Int, 0 ≤ j → j < 930 → c' j = c (3720 + j)) ∧ ∀ j : Int, 930 ≤ j → c' j = c j := by
  subst hz
  subst hw
  refine ⟨fun j a b => ?_, fun j a => ?_⟩
  · rw [h j a, if_pos (by omega)]
    have e : (930 : Int) * 4 + (j - 930 * 0) = 3720 + j := by omega
    rw [e]
  · rw [h j (by omega), if_neg (by omega)]
theorem m_zs {c c' : Int → Int} {b k v : Int} (h : ∀ j, b ≤ j → j < b + k → c j = 0) (e : ∀ j : Int, 0 ≤ j → c' j = if j = b + k then v else c j) (hv : v = 0) (hb : 0 ≤ b) : ∀ j, b ≤ j → j < b + (k + 1) → c' j = 0 := by
  intro j h0 h1
  rw [e j (by omega)]
  split
  · exact hv
  · exact h j h0 (by omega)
end
/-! FROM 37.table.a.lean.txt -/
section
section QS
variable {p : Program} {l : Launch} {e : Env} {R : Room} {s : State} {m : MethodId} {args : Array Value} {below : List Frame} {meth : Method} {c : Code} {H : Heap} {locs : List Loc} {cells slots : Nat} {Q : State → Prop} {cc : ByteArray} {X : XW} {n : Nat} {σ0 σ : ST} {H0 : Heap} {pc : Nat} {ls : Array Slot} {rest : List Value} {a : Nat}
theorem ps_X12_98_12 (E : q_E p c cc s m args RX12 X) (hI : q_I X n σ0 H0 locs σ H) (ha : q_kd X a = 12) {v : Int32} (hcl : n < 3) (hdg : decode cc pc = .ok (.putfield 98, 3)) (kk : ∀ (H1 : Heap) (locs1 : List Loc) (σ1 : ST), σ1 = q_si σ a 9 v → q_I X n σ0 H0 locs1 σ1 H1 → W p l e R s m args below meth c H1 locs1 cells slots Q (F0 m (pc + 3) ls rest)) : W p l e R s m args below meth c H locs cells slots Q (F0 m pc ls (.int v :: .ref a :: rest)) :=
  q_puti (ref := "CheatHeapModel") E hI ha ⟨rfl, by decide⟩ (show vwCl[11]? = some (RX12, TX12, 46) from rfl) q_inX12 tyX12_ok nmX12 (f := 9) (by decide) (q_in_t6 (i := 234) (by first | rfl | decide +kernel) rfl) (Or.inl rfl) rfl rfl hcl hdg (q_inU rfl) (Or.inl rfl) (fun H1 l1 h => kk H1 l1 _ rfl h)
theorem ps_X12_28_12 (E : q_E p c cc s m args RX12 X) (hI : q_I X n σ0 H0 locs σ H) (ha : q_kd X a = 12) {v : Int32} (hcl : n < 9) (hdg : decode cc pc = .ok (.putfield 28, 3)) (kk : ∀ (H1 : Heap) (locs1 : List Loc) (σ1 : ST), σ1 = q_si σ a 10 v → q_I X n σ0 H0 locs1 σ1 H1 → W p l e R s m args below meth c H1 locs1 cells slots Q (F0 m (pc + 3) ls rest)) : W p l e R s m args below meth c H locs cells slots Q (F0 m pc ls (.int v :: .ref a :: rest)) :=
  q_puti (ref := "CheatHeapModel") E hI ha ⟨rfl, by decide⟩ (show vwCl[11]? = some (RX12, TX12, 46) from rfl) q_inX12 tyX12_ok nmX12 (f := 10) (by decide) (q_in_t6 (i := 235) (by first | rfl | decide +kernel) rfl) (Or.inl rfl) rfl rfl hcl hdg (q_inU rfl) (Or.inl rfl) (fun H1 l1 h => kk H1 l1 _ rfl h)
theorem gs_X12_190_12 (E : q_E p c cc s m args RX12 X) (hI : q_I X n σ0 H0 locs σ H) (ha : q_kd X a = 12) (hdg : decode cc pc = .ok (.getfield 190, 3)) (kk : W p l e R s m args below meth c H locs cells slots Q (F0 m (pc + 3) ls (.int (σ.1 a 13) :: rest))) : W p l e R s m args below meth c H locs cells slots Q (F0 m pc ls (.ref a :: rest)) :=
  q_getf (ref := "CheatHeapModel") E hI ha ⟨rfl, by decide⟩ (show vwCl[11]? = some (RX12, TX12, 46) from rfl) q_inX12 (f := 13) (by decide) (q_in_t6 (i := 238) (by first | rfl | decide +kernel) rfl) (Or.inl rfl) rfl hdg kk
theorem ps_X12_32_12 (E : q_E p c cc s m args RX12 X) (hI : q_I X n σ0 H0 locs σ H) (ha : q_kd X a = 12) {v : Int32} (hcl : n < 9) (hdg : decode cc pc = .ok (.putfield 32, 3)) (kk : ∀ (H1 : Heap) (locs1 : List Loc) (σ1 : ST), σ1 = q_si σ a 11 v → q_I X n σ0 H0 locs1 σ1 H1 → W p l e R s m args below meth c H1 locs1 cells slots Q (F0 m (pc + 3) ls rest)) : W p l e R s m args below meth c H locs cells slots Q (F0 m pc ls (.int v :: .ref a :: rest)) :=
  q_puti (ref := "CheatHeapModel") E hI ha ⟨rfl, by decide⟩ (show vwCl[11]? = some (RX12, TX12, 46) from rfl) q_inX12 tyX12_ok nmX12 (f := 11) (by decide) (q_in_t6 (i := 236) (by first | rfl | decide +kernel) rfl) (Or.inl rfl) rfl rfl hcl hdg (q_inU rfl) (Or.inl rfl) (fun H1 l1 h => kk H1 l1 _ rfl h)
theorem kv_X12_239 : q_okV RX12 239 RX12 yX12_opens cX12_opens 3 (some .boolean) 2 := ⟨(q_in_t7 (i := 184) (by first | rfl | decide +kernel) rfl), (q_in_t7 (i := 186) (by first | rfl | decide +kernel) rfl), (q_in_p (i := 41) (by decide +kernel) rfl), (q_in_t1 (i := 14) (by first | rfl | decide +kernel) rfl), (q_in_t7 (i := 187) (by first | rfl | decide +kernel) rfl), ⟨rfl, by decide, by decide, rfl⟩⟩
theorem kv_X12_243 : q_okV RX12 243 RX12 yX12_isSign cX12_isSign 2 (some .boolean) 1 := ⟨(q_in_t8 (i := 2) (by first | rfl | decide +kernel) rfl), (q_in_t8 (i := 4) (by first | rfl | decide +kernel) rfl), (q_in_p (i := 52) (by decide +kernel) rfl), (q_in_t1 (i := 14) (by first | rfl | decide +kernel) rfl), (q_in_t8 (i := 5) (by first | rfl | decide +kernel) rfl), ⟨rfl, by decide, by decide, rfl⟩⟩
theorem kv_X12_258 : q_okV RX12 258 RX12 yX12_isWell cX12_isWell 1 (some .boolean) 0 := ⟨(q_in_t8 (i := 87) (by first | rfl | decide +kernel) rfl), (q_in_t8 (i := 89) (by first | rfl | decide +kernel) rfl), (q_in_p (i := 73) (by decide +kernel) rfl), (q_in_t1 (i := 14) (by first | rfl | decide +kernel) rfl), (q_in_t8 (i := 90) (by first | rfl | decide +kernel) rfl), ⟨rfl, by decide, by decide, rfl⟩⟩
theorem kv_X12_261 : q_okV RX12 261 RX12 yX12_copy cX12_copy 4 none 2 := ⟨(q_in_t8 (i := 91) (by first | rfl | decide +kernel) rfl), (q_in_t8 (i := 93) (by first | rfl | decide +kernel) rfl), (q_in_p (i := 74) (by decide +kernel) rfl), (q_in_t1 (i := 14) (by first | rfl | decide +kernel) rfl), (q_in_t8 (i := 94) (by first | rfl | decide +kernel) rfl), ⟨rfl, by decide, by decide, rfl⟩⟩
theorem kv_X12_255 : q_okV RX12 255 RX12 yX12_readHand cX12_readHand 6 none 0 := ⟨(q_in_t8 (i := 75) (by first | rfl | decide +kernel) rfl), (q_in_t8 (i := 77) (by first | rfl | decide +kernel) rfl), (q_in_p (i := 70) (by decide +kernel) rfl), (q_in_t1 (i := 14) (by first | rfl | decide +kernel) rfl), (q_in_t8 (i := 78) (by first | rfl | decide +kernel) rfl), ⟨rfl, by decide, by decide, rfl⟩⟩
theorem kv_X12_252 : q_okV RX12 252 RX12 yX12_readPlayer cX12_readPlayer 2 none 0 := ⟨(q_in_t8 (i := 31) (by first | rfl | decide +kernel) rfl), (q_in_t8 (i := 33) (by first | rfl | decide +kernel) rfl), (q_in_p (i := 59) (by decide +kernel) rfl), (q_in_t1 (i := 14) (by first | rfl | decide +kernel) rfl), (q_in_t8 (i := 34) (by first | rfl | decide +kernel) rfl), ⟨rfl, by decide, by decide, rfl⟩⟩
theorem kv_X12_249 : q_okV RX12 249 RX12 yX12_readMost cX12_readMost 1 none 0 := ⟨(q_in_t8 (i := 23) (by first | rfl | decide +kernel) rfl), (q_in_t8 (i := 25) (by first | rfl | decide +kernel) rfl), (q_in_p (i := 57) (by decide +kernel) rfl), (q_in_t1 (i := 14) (by first | rfl | decide +kernel) rfl), (q_in_t8 (i := 26) (by first | rfl | decide +kernel) rfl), ⟨rfl, by decide, by decide, rfl⟩⟩
theorem kv_X12_246 : q_okV RX12 246 RX12 yX12_readLaw cX12_readLaw 1 none 0 := ⟨(q_in_t8 (i := 10) (by first | rfl | decide +kernel) rfl), (q_in_t8 (i := 12) (by first | rfl | decide +kernel) rfl), (q_in_p (i := 54) (by decide +kernel) rfl), (q_in_t1 (i := 14) (by first | rfl | decide +kernel) rfl), (q_in_t8 (i := 13) (by first | rfl | decide +kernel) rfl), ⟨rfl, by decide, by decide, rfl⟩⟩
end QS
end
/-! FROM 37.table.b00.lean.txt -/
section
set_option maxRecDepth 100000 in
set_option maxHeartbeats 4000000 in
theorem c_X12_opens (l : Launch) (X : XW) (σ : ST) (a : Nat) (v1 : Int32) (v2 : Int32) (ha : q_kd X a = 12) (h0 : v2.toInt ≤ 900) : Met l yX12_opens (q_ws yX12_opens cX12_opens 3 (some .boolean)) (q_rm 2 42) (q_P X σ [.ref a, .int v1, .int v2]) (q_Qi X 0 σ (fun (r : Int32) (σ' : ST) => (0 ≤ r.toInt ∧ r.toInt ≤ 1) ∧ (q_KS (fun b g => b = a ∧ 8 ≤ g ∧ g ≤ 18) 8 X σ σ') ∧ (r.toInt = 1 → (0 ≤ (σ'.1 a 15).toInt ∧ (σ'.1 a 15).toInt ≤ (σ'.1 a 16).toInt ∧ (σ'.1 a 16).toInt ≤ (σ'.1 a 9).toInt ∧ (σ'.1 a 9).toInt ≤ 900 ∧ 0 ≤ (σ'.1 a 14).toInt ∧ (σ'.1 a 14).toInt ≤ 4 ∧ (σ'.1 a 14).toInt ≤ 4 * ((σ'.1 a 16).toInt - (σ'.1 a 15).toInt) ∧ (σ'.1 a 14).toInt ≤ 4 * ((σ'.1 a 9).toInt - (σ'.1 a 15).toInt) ∧ 0 ≤ (σ'.1 a 12).toInt ∧ (σ'.1 a 12).toInt = 0 ∧ (σ'.1 a 8).toInt = 0 ∧ 0 ≤ v1.toInt ∧ v1.toInt ≤ (σ.1 a 8).toInt ∧ v1.toInt ≤ v2.toInt)) ∧ (r.toInt = 0 → ((σ'.1 a 8).toInt = (σ.1 a 8).toInt ∧ (v1.toInt < 0 ∨ (σ.1 a 8).toInt < v1.toInt ∨ v2.toInt < v1.toInt))) ∧ (∀ j, m_c X σ' a j = m_c X σ a j) ∧ (r, σ') = F_X12_opens X σ a v1 v2 ∧ q_ow [(12, 0), (12, 8), (12, 9), (12, 12), (12, 14), (12, 15), (12, 16), (12, 17), (12, 18)] [(12, 19)] X σ σ')) 0 0 (q_reg X) := by
  refine q_met 0 (by first | exact rfl | decide +kernel) rfl (Nat.le_of_ble_eq_true rfl) (fun p e s m below meth c E hml hr hlk hI ls hl => ?_)
  have hx := E.1
  have hb := E.2.1
  have hl : lv_has ls 3 [(0, .ref a), (1, .int v1), (2, .int v2)] := hl
  have ks_σ : q_KS (fun b g => b = a ∧ 8 ≤ g ∧ g ≤ 18) 8 X σ σ := q_KS.rf
  have kcσ : ∀ j, m_c X σ a j = m_c X σ a j := fun _ => rfl
  have fr_σ : q_ow [(12, 0), (12, 8), (12, 9), (12, 12), (12, 14), (12, 15), (12, 16), (12, 17), (12, 18)] [(12, 19)] X σ σ := q_ow.rf
  obtain ⟨out, hout⟩ : ∃ o, o = F_X12_opens X σ a v1 v2 := ⟨_, rfl⟩
  have hF := hout.symm
  unfold F_X12_opens at hF
  refine lv_iload_n hx hb dX12_opens_0 rfl (lv_at hl 1 rfl) ?_
  refine q_if_lt (A := v1.toInt) E rfl (tgt := 17) dX12_opens_1 (by decide) (fun c_1 => ?_) (fun c_1 => ?_)
  · skip
    replace hF := q_ifp hF c_1
    refine lv_aload_n hx hb dX12_opens_17 rfl (lv_at hl 0 rfl) ?_
    refine lv_iconst (v := 5) hx hb dX12_opens_18 zki_5 ?_
    have kc_2 : (5 : Int32).toInt = 5 := zt_5
    refine q_ci (q_rV11_1 (rest := []) E (hml.trans hl.1.symm) hI (c_X12_no l X σ a (5 : Int32) ha) kv_X12_74 ha ⟨Nat.le_of_ble_eq_true rfl, Nat.le_of_ble_eq_true rfl⟩ (Nat.le_of_ble_eq_true rfl) dX12_opens_19) hI (Nat.le_of_ble_eq_true rfl) (fun r_3 σ_4 H locs hpσ_4 hkσ_4 hI => ?_)
    have ahpσ_4 := hpσ_4.1
    have bhpσ_4 := hpσ_4.2.1
    have chpσ_4 := hpσ_4.2.2.1
    have dhpσ_4 := hpσ_4.2.2.2
    clear hpσ_4
    have fr_σ_4 := fr_σ.call dhpσ_4 rfl rfl
    replace hF := q_biX hF chpσ_4
    have mv9_σ_4 : (σ_4.1 a 9).toInt = (σ.1 a 9).toInt := congrArg Int32.toInt ((q_K.le hkσ_4 (by decide) : q_K 8 X σ σ_4) a 9 (by rw [ha]; decide))
    have mv12_σ_4 : (σ_4.1 a 12).toInt = (σ.1 a 12).toInt := congrArg Int32.toInt ((q_K.le hkσ_4 (by decide) : q_K 8 X σ σ_4) a 12 (by rw [ha]; decide))
    have mv14_σ_4 : (σ_4.1 a 14).toInt = (σ.1 a 14).toInt := congrArg Int32.toInt ((q_K.le hkσ_4 (by decide) : q_K 8 X σ σ_4) a 14 (by rw [ha]; decide))
    have mv15_σ_4 : (σ_4.1 a 15).toInt = (σ.1 a 15).toInt := congrArg Int32.toInt ((q_K.le hkσ_4 (by decide) : q_K 8 X σ σ_4) a 15 (by rw [ha]; decide))
    have mv16_σ_4 : (σ_4.1 a 16).toInt = (σ.1 a 16).toInt := congrArg Int32.toInt ((q_K.le hkσ_4 (by decide) : q_K 8 X σ σ_4) a 16 (by rw [ha]; decide))
    have mv17_σ_4 : (σ_4.1 a 17).toInt = (σ.1 a 17).toInt := congrArg Int32.toInt ((q_K.le hkσ_4 (by decide) : q_K 8 X σ σ_4) a 17 (by rw [ha]; decide))
    have mv8_σ_4 : (σ_4.1 a 8).toInt = (σ.1 a 8).toInt := congrArg Int32.toInt ((q_K.le hkσ_4 (by decide) : q_K 8 X σ σ_4) a 8 (by rw [ha]; decide))
    have mcσ_4 := m_cK hkσ_4 hI.1 ha (by decide)
    have kcσ_4 : ∀ j, m_c X σ_4 a j = m_c X σ a j := fun j => (mcσ_4 j).trans (kcσ j)
    have ks_σ_4 : q_KS (fun b g => b = a ∧ 8 ≤ g ∧ g ≤ 18) 8 X σ σ_4 := ks_σ.K hkσ_4 (by decide)
    exact q_retz E hr hlk hI ⟨by omega, by omega⟩ ⟨⟨by omega, by omega⟩, ks_σ_4, (by first | (clear h0 kcσ c_1 kc_2 ahpσ_4 chpσ_4 dhpσ_4 mv9_σ_4 mv12_σ_4 mv14_σ_4 mv15_σ_4 mv16_σ_4 mv17_σ_4 mv8_σ_4 kcσ_4; omega) | omega), (by first | (clear h0 kcσ kc_2 ahpσ_4 bhpσ_4 chpσ_4 dhpσ_4 mv9_σ_4 mv12_σ_4 mv14_σ_4 mv15_σ_4 mv16_σ_4 mv17_σ_4 kcσ_4; omega) | omega), kcσ_4, (hF.trans hout), fr_σ_4⟩ dX12_opens_22
  · skip
    replace hF := q_ifn hF (Int.not_lt.mpr c_1)
    refine lv_iload_n hx hb dX12_opens_4 rfl (lv_at hl 1 rfl) ?_
    refine lv_aload_n hx hb dX12_opens_5 rfl (lv_at hl 0 rfl) ?_
    refine gs_X12_203_12 E hI ha dX12_opens_6 ?_
    refine lv_topi (fun f_5 ef_5 => ?_)
    replace hF := q_letX hF ef_5
    have if_5 : f_5.toInt = (σ.1 a 8).toInt := congrArg Int32.toInt ef_5
    have bf_5 : 0 ≤ f_5.toInt ∧ f_5.toInt ≤ 900 := by rw [ef_5]; exact q_bd hI ha rfl
    refine q_icmp_gt (A := v1.toInt) (B := f_5.toInt) E rfl rfl (tgt := 17) dX12_opens_9 (by decide) (fun c_6 => ?_) (fun c_6 => ?_)
    · skip
      replace hF := q_ifp hF c_6
      refine lv_aload_n hx hb dX12_opens_17 rfl (lv_at hl 0 rfl) ?_
      refine lv_iconst (v := 5) hx hb dX12_opens_18 zki_5 ?_
      have kc_7 : (5 : Int32).toInt = 5 := zt_5
      refine q_ci (q_rV11_1 (rest := []) E (hml.trans hl.1.symm) hI (c_X12_no l X σ a (5 : Int32) ha) kv_X12_74 ha ⟨Nat.le_of_ble_eq_true rfl, Nat.le_of_ble_eq_true rfl⟩ (Nat.le_of_ble_eq_true rfl) dX12_opens_19) hI (Nat.le_of_ble_eq_true rfl) (fun r_8 σ_9 H locs hpσ_9 hkσ_9 hI => ?_)
      have ahpσ_9 := hpσ_9.1
      have bhpσ_9 := hpσ_9.2.1
      have chpσ_9 := hpσ_9.2.2.1
      have dhpσ_9 := hpσ_9.2.2.2
      clear hpσ_9
      have fr_σ_9 := fr_σ.call dhpσ_9 rfl rfl
      replace hF := q_biX hF chpσ_9
      have mv9_σ_9 : (σ_9.1 a 9).toInt = (σ.1 a 9).toInt := congrArg Int32.toInt ((q_K.le hkσ_9 (by decide) : q_K 8 X σ σ_9) a 9 (by rw [ha]; decide))
      have mv12_σ_9 : (σ_9.1 a 12).toInt = (σ.1 a 12).toInt := congrArg Int32.toInt ((q_K.le hkσ_9 (by decide) : q_K 8 X σ σ_9) a 12 (by rw [ha]; decide))
      have mv14_σ_9 : (σ_9.1 a 14).toInt = (σ.1 a 14).toInt := congrArg Int32.toInt ((q_K.le hkσ_9 (by decide) : q_K 8 X σ σ_9) a 14 (by rw [ha]; decide))
      have mv15_σ_9 : (σ_9.1 a 15).toInt = (σ.1 a 15).toInt := congrArg Int32.toInt ((q_K.le hkσ_9 (by decide) : q_K 8 X σ σ_9) a 15 (by rw [ha]; decide))
      have mv16_σ_9 : (σ_9.1 a 16).toInt = (σ.1 a 16).toInt := congrArg Int32.toInt ((q_K.le hkσ_9 (by decide) : q_K 8 X σ σ_9) a 16 (by rw [ha]; decide))
      have mv17_σ_9 : (σ_9.1 a 17).toInt = (σ.1 a 17).toInt := congrArg Int32.toInt ((q_K.le hkσ_9 (by decide) : q_K 8 X σ σ_9) a 17 (by rw [ha]; decide))
      have mv8_σ_9 : (σ_9.1 a 8).toInt = (σ.1 a 8).toInt := congrArg Int32.toInt ((q_K.le hkσ_9 (by decide) : q_K 8 X σ σ_9) a 8 (by rw [ha]; decide))
      have mcσ_9 := m_cK hkσ_9 hI.1 ha (by decide)
      have kcσ_9 : ∀ j, m_c X σ_9 a j = m_c X σ a j := fun j => (mcσ_9 j).trans (kcσ j)
      have ks_σ_9 : q_KS (fun b g => b = a ∧ 8 ≤ g ∧ g ≤ 18) 8 X σ σ_9 := ks_σ.K hkσ_9 (by decide)
      exact q_retz E hr hlk hI ⟨by omega, by omega⟩ ⟨⟨by omega, by omega⟩, ks_σ_9, (by first | (clear h0 kcσ c_1 if_5 bf_5 c_6 kc_7 ahpσ_9 chpσ_9 dhpσ_9 mv9_σ_9 mv12_σ_9 mv14_σ_9 mv15_σ_9 mv16_σ_9 mv17_σ_9 mv8_σ_9 kcσ_9; omega) | omega), (by first | (clear h0 kcσ c_1 bf_5 kc_7 ahpσ_9 bhpσ_9 chpσ_9 dhpσ_9 mv9_σ_9 mv12_σ_9 mv14_σ_9 mv15_σ_9 mv16_σ_9 mv17_σ_9 kcσ_9; omega) | omega), kcσ_9, (hF.trans hout), fr_σ_9⟩ dX12_opens_22
    · skip
      replace hF := q_ifn hF (Int.not_lt.mpr c_6)
      refine lv_iload_n hx hb dX12_opens_12 rfl (lv_at hl 1 rfl) ?_
      refine lv_iload_n hx hb dX12_opens_13 rfl (lv_at hl 2 rfl) ?_
      refine q_icmp_le (A := v1.toInt) (B := v2.toInt) E rfl rfl (tgt := 23) dX12_opens_14 (by decide) (fun c_10 => ?_) (fun c_10 => ?_)
      · skip
        replace hF := q_ifn hF (Int.not_lt.mpr c_10)
        refine lv_aload_n hx hb dX12_opens_23 rfl (lv_at hl 0 rfl) ?_
        refine lv_iload_n hx hb dX12_opens_24 rfl (lv_at hl 1 rfl) ?_
        refine ps_X12_98_12 E hI ha (by decide) dX12_opens_25 (fun H locs σ_11 hσ_11 hI => ?_)
        replace hF := q_letX hF hσ_11
        have fr_σ_11 := fr_σ.si hσ_11 ha rfl
        have ks_σ_11 : q_KS (fun b g => b = a ∧ 8 ≤ g ∧ g ≤ 18) 8 X σ σ_11 := ks_σ.siS hσ_11 ⟨rfl, by decide, by decide⟩
        have mv9_σ_11 : (σ_11.1 a 9).toInt = v1.toInt := congrArg Int32.toInt (q_rd hσ_11)
        have mv12_σ_11 : (σ_11.1 a 12).toInt = (σ.1 a 12).toInt := congrArg Int32.toInt (q_rdn hσ_11 (Or.inr (by decide)))
        have mv14_σ_11 : (σ_11.1 a 14).toInt = (σ.1 a 14).toInt := congrArg Int32.toInt (q_rdn hσ_11 (Or.inr (by decide)))
        have mv15_σ_11 : (σ_11.1 a 15).toInt = (σ.1 a 15).toInt := congrArg Int32.toInt (q_rdn hσ_11 (Or.inr (by decide)))
        have mv16_σ_11 : (σ_11.1 a 16).toInt = (σ.1 a 16).toInt := congrArg Int32.toInt (q_rdn hσ_11 (Or.inr (by decide)))
        have mv17_σ_11 : (σ_11.1 a 17).toInt = (σ.1 a 17).toInt := congrArg Int32.toInt (q_rdn hσ_11 (Or.inr (by decide)))
        have mv8_σ_11 : (σ_11.1 a 8).toInt = (σ.1 a 8).toInt := congrArg Int32.toInt (q_rdn hσ_11 (Or.inr (by decide)))
        have mcσ_11 := m_wo hσ_11 (m_ne ha (q_tk (f := 20) (k' := 34) hI ha rfl (by decide)) (by decide))
        have kcσ_11 : ∀ j, m_c X σ_11 a j = m_c X σ a j := fun j => (mcσ_11 j).trans (kcσ j)
        refine lv_aload_n hx hb dX12_opens_28 rfl (lv_at hl 0 rfl) ?_
        refine lv_iconst (v := 0) hx hb dX12_opens_29 zki_0 ?_
        refine ps_X12_203_12 E hI ha (by decide) (by decide) (by decide) dX12_opens_30 (fun H locs σ_12 hσ_12 hI => ?_)
        replace hF := q_letX hF hσ_12
        have fr_σ_12 := fr_σ_11.si hσ_12 ha rfl
        have ks_σ_12 : q_KS (fun b g => b = a ∧ 8 ≤ g ∧ g ≤ 18) 8 X σ σ_12 := ks_σ_11.siS hσ_12 ⟨rfl, by decide, by decide⟩
        have mv9_σ_12 : (σ_12.1 a 9).toInt = (σ_11.1 a 9).toInt := congrArg Int32.toInt (q_rdn hσ_12 (Or.inr (by decide)))
        have mv12_σ_12 : (σ_12.1 a 12).toInt = (σ_11.1 a 12).toInt := congrArg Int32.toInt (q_rdn hσ_12 (Or.inr (by decide)))
        have mv14_σ_12 : (σ_12.1 a 14).toInt = (σ_11.1 a 14).toInt := congrArg Int32.toInt (q_rdn hσ_12 (Or.inr (by decide)))
        have mv15_σ_12 : (σ_12.1 a 15).toInt = (σ_11.1 a 15).toInt := congrArg Int32.toInt (q_rdn hσ_12 (Or.inr (by decide)))
        have mv16_σ_12 : (σ_12.1 a 16).toInt = (σ_11.1 a 16).toInt := congrArg Int32.toInt (q_rdn hσ_12 (Or.inr (by decide)))
        have mv17_σ_12 : (σ_12.1 a 17).toInt = (σ_11.1 a 17).toInt := congrArg Int32.toInt (q_rdn hσ_12 (Or.inr (by decide)))
        have mv8_σ_12 : (σ_12.1 a 8).toInt = 0 := by rw [q_rd hσ_12]; rfl
        have mcσ_12 := m_wo hσ_12 (m_ne ha (q_tk (f := 20) (k' := 34) hI ha rfl (by decide)) (by decide))
        have kcσ_12 : ∀ j, m_c X σ_12 a j = m_c X σ a j := fun j => (mcσ_12 j).trans (kcσ_11 j)
        refine lv_aload_n hx hb dX12_opens_33 rfl (lv_at hl 0 rfl) ?_
        refine lv_iconst (v := 0) hx hb dX12_opens_34 zki_0 ?_
        refine ps_X12_101_12 E hI ha (by decide) dX12_opens_35 (fun H locs σ_13 hσ_13 hI => ?_)
        replace hF := q_letX hF hσ_13
        have fr_σ_13 := fr_σ_12.si hσ_13 ha rfl
        have ks_σ_13 : q_KS (fun b g => b = a ∧ 8 ≤ g ∧ g ≤ 18) 8 X σ σ_13 := ks_σ_12.siS hσ_13 ⟨rfl, by decide, by decide⟩
        have mv9_σ_13 : (σ_13.1 a 9).toInt = (σ_12.1 a 9).toInt := congrArg Int32.toInt (q_rdn hσ_13 (Or.inr (by decide)))
        have mv12_σ_13 : (σ_13.1 a 12).toInt = (σ_12.1 a 12).toInt := congrArg Int32.toInt (q_rdn hσ_13 (Or.inr (by decide)))
        have mv14_σ_13 : (σ_13.1 a 14).toInt = (σ_12.1 a 14).toInt := congrArg Int32.toInt (q_rdn hσ_13 (Or.inr (by decide)))
        have mv15_σ_13 : (σ_13.1 a 15).toInt = (σ_12.1 a 15).toInt := congrArg Int32.toInt (q_rdn hσ_13 (Or.inr (by decide)))
        have mv16_σ_13 : (σ_13.1 a 16).toInt = 0 := by rw [q_rd hσ_13]; rfl
        have mv17_σ_13 : (σ_13.1 a 17).toInt = (σ_12.1 a 17).toInt := congrArg Int32.toInt (q_rdn hσ_13 (Or.inr (by decide)))
        have mv8_σ_13 : (σ_13.1 a 8).toInt = (σ_12.1 a 8).toInt := congrArg Int32.toInt (q_rdn hσ_13 (Or.inr (by decide)))
        have mcσ_13 := m_wo hσ_13 (m_ne ha (q_tk (f := 20) (k' := 34) hI ha rfl (by decide)) (by decide))
        have kcσ_13 : ∀ j, m_c X σ_13 a j = m_c X σ a j := fun j => (mcσ_13 j).trans (kcσ_12 j)
        refine lv_aload_n hx hb dX12_opens_38 rfl (lv_at hl 0 rfl) ?_
        refine lv_iconst (v := 0) hx hb dX12_opens_39 zki_0 ?_
        refine ps_X12_187_12 E hI ha (by decide) dX12_opens_40 (fun H locs σ_14 hσ_14 hI => ?_)
        replace hF := q_letX hF hσ_14
        have fr_σ_14 := fr_σ_13.si hσ_14 ha rfl
        have ks_σ_14 : q_KS (fun b g => b = a ∧ 8 ≤ g ∧ g ≤ 18) 8 X σ σ_14 := ks_σ_13.siS hσ_14 ⟨rfl, by decide, by decide⟩
        have mv9_σ_14 : (σ_14.1 a 9).toInt = (σ_13.1 a 9).toInt := congrArg Int32.toInt (q_rdn hσ_14 (Or.inr (by decide)))
        have mv12_σ_14 : (σ_14.1 a 12).toInt = 0 := by rw [q_rd hσ_14]; rfl
        have mv14_σ_14 : (σ_14.1 a 14).toInt = (σ_13.1 a 14).toInt := congrArg Int32.toInt (q_rdn hσ_14 (Or.inr (by decide)))
        have mv15_σ_14 : (σ_14.1 a 15).toInt = (σ_13.1 a 15).toInt := congrArg Int32.toInt (q_rdn hσ_14 (Or.inr (by decide)))
        have mv16_σ_14 : (σ_14.1 a 16).toInt = (σ_13.1 a 16).toInt := congrArg Int32.toInt (q_rdn hσ_14 (Or.inr (by decide)))
        have mv17_σ_14 : (σ_14.1 a 17).toInt = (σ_13.1 a 17).toInt := congrArg Int32.toInt (q_rdn hσ_14 (Or.inr (by decide)))
        have mv8_σ_14 : (σ_14.1 a 8).toInt = (σ_13.1 a 8).toInt := congrArg Int32.toInt (q_rdn hσ_14 (Or.inr (by decide)))
        have mcσ_14 := m_wo hσ_14 (m_ne ha (q_tk (f := 20) (k' := 34) hI ha rfl (by decide)) (by decide))
        have kcσ_14 : ∀ j, m_c X σ_14 a j = m_c X σ a j := fun j => (mcσ_14 j).trans (kcσ_13 j)
        refine lv_aload_n hx hb dX12_opens_43 rfl (lv_at hl 0 rfl) ?_
        refine q_cv (q_rV11_0 (rest := []) E (hml.trans hl.1.symm) hI (c_X12_next l X σ_14 a ha (by first | (clear h0 kcσ c_1 if_5 bf_5 c_6 c_10 mv9_σ_11 mv12_σ_11 mv14_σ_11 mv15_σ_11 mv16_σ_11 mv17_σ_11 mv8_σ_11 kcσ_11 mv9_σ_12 mv12_σ_12 mv14_σ_12 mv15_σ_12 mv16_σ_12 mv17_σ_12 mv8_σ_12 kcσ_12 mv9_σ_13 mv12_σ_13 mv14_σ_13 mv15_σ_13 mv17_σ_13 mv8_σ_13 kcσ_13 mv9_σ_14 mv12_σ_14 mv14_σ_14 mv15_σ_14 mv17_σ_14 mv8_σ_14 kcσ_14; omega) | omega) (by first | (clear h0 kcσ if_5 bf_5 c_6 mv12_σ_11 mv14_σ_11 mv15_σ_11 mv16_σ_11 mv17_σ_11 mv8_σ_11 kcσ_11 mv12_σ_12 mv14_σ_12 mv15_σ_12 mv16_σ_12 mv17_σ_12 mv8_σ_12 kcσ_12 mv12_σ_13 mv14_σ_13 mv15_σ_13 mv17_σ_13 mv8_σ_13 kcσ_13 mv12_σ_14 mv14_σ_14 mv15_σ_14 mv17_σ_14 mv8_σ_14 kcσ_14; omega) | omega) (by first | (clear h0 kcσ c_1 if_5 bf_5 c_6 mv12_σ_11 mv14_σ_11 mv15_σ_11 mv16_σ_11 mv17_σ_11 mv8_σ_11 kcσ_11 mv12_σ_12 mv14_σ_12 mv15_σ_12 mv16_σ_12 mv17_σ_12 mv8_σ_12 kcσ_12 mv12_σ_13 mv14_σ_13 mv15_σ_13 mv16_σ_13 mv17_σ_13 mv8_σ_13 kcσ_13 mv12_σ_14 mv14_σ_14 mv15_σ_14 mv16_σ_14 mv17_σ_14 mv8_σ_14 kcσ_14; omega) | omega)) kv_X12_197 ha ⟨Nat.le_of_ble_eq_true rfl, Nat.le_of_ble_eq_true rfl⟩ (Nat.le_of_ble_eq_true rfl) dX12_opens_44) hI (Nat.le_of_ble_eq_true rfl) (fun σ_16 H locs hpσ_16 hkσ_16 hI => ?_)
        have ahpσ_16 := hpσ_16.1
        have bhpσ_16 := hpσ_16.2.1
        have chpσ_16 := hpσ_16.2.2.1
        have dhpσ_16 := hpσ_16.2.2.2.1
        have ehpσ_16 := hpσ_16.2.2.2.2
        clear hpσ_16
        have fr_σ_16 := fr_σ_14.call ehpσ_16 rfl rfl
        replace hF := q_letX hF dhpσ_16
        have mv8_σ_16 : (σ_16.1 a 8).toInt = (σ_14.1 a 8).toInt := congrArg Int32.toInt (hkσ_16 a 8 (by rw [ha]; decide))
        have mcσ_16 := m_cK hkσ_16 hI.1 ha (by decide)
        have kcσ_16 : ∀ j, m_c X σ_16 a j = m_c X σ a j := fun j => (mcσ_16 j).trans (kcσ_14 j)
        have ks_σ_16 : q_KS (fun b g => b = a ∧ 8 ≤ g ∧ g ≤ 18) 8 X σ σ_16 := ks_σ_14.KS ahpσ_16 (by decide) (fun b g h => ⟨h.1, by have := h.2; omega⟩)
        refine lv_iconst (v := 1) hx hb dX12_opens_47 zki_1 ?_
        have hrv : (1 : Int32).toInt = 1 := zt_1
        exact q_retz E hr hlk hI ⟨by decide, by decide⟩ ⟨⟨by decide, by decide⟩, ks_σ_16, (by first | (clear h0 kcσ bf_5 mv12_σ_11 mv14_σ_11 mv15_σ_11 mv16_σ_11 mv17_σ_11 kcσ_11 mv12_σ_12 mv14_σ_12 mv15_σ_12 mv16_σ_12 mv17_σ_12 kcσ_12 mv12_σ_13 mv14_σ_13 mv15_σ_13 mv16_σ_13 mv17_σ_13 kcσ_13 mv14_σ_14 mv15_σ_14 mv16_σ_14 mv17_σ_14 kcσ_14 ahpσ_16 dhpσ_16 ehpσ_16 kcσ_16 hrv; omega) | omega), (by first | (clear h0 kcσ c_1 if_5 bf_5 c_6 c_10 mv9_σ_11 mv12_σ_11 mv14_σ_11 mv15_σ_11 mv16_σ_11 mv17_σ_11 mv8_σ_11 kcσ_11 mv9_σ_12 mv12_σ_12 mv14_σ_12 mv15_σ_12 mv16_σ_12 mv17_σ_12 mv8_σ_12 kcσ_12 mv9_σ_13 mv12_σ_13 mv14_σ_13 mv15_σ_13 mv16_σ_13 mv17_σ_13 mv8_σ_13 kcσ_13 mv9_σ_14 mv12_σ_14 mv14_σ_14 mv15_σ_14 mv16_σ_14 mv17_σ_14 mv8_σ_14 kcσ_14 ahpσ_16 bhpσ_16 chpσ_16 dhpσ_16 ehpσ_16 mv8_σ_16 kcσ_16; omega) | omega), kcσ_16, (hF.trans hout), fr_σ_16⟩ dX12_opens_48
      · skip
        replace hF := q_ifp hF c_10
        refine lv_aload_n hx hb dX12_opens_17 rfl (lv_at hl 0 rfl) ?_
        refine lv_iconst (v := 5) hx hb dX12_opens_18 zki_5 ?_
        have kc_17 : (5 : Int32).toInt = 5 := zt_5
        refine q_ci (q_rV11_1 (rest := []) E (hml.trans hl.1.symm) hI (c_X12_no l X σ a (5 : Int32) ha) kv_X12_74 ha ⟨Nat.le_of_ble_eq_true rfl, Nat.le_of_ble_eq_true rfl⟩ (Nat.le_of_ble_eq_true rfl) dX12_opens_19) hI (Nat.le_of_ble_eq_true rfl) (fun r_18 σ_19 H locs hpσ_19 hkσ_19 hI => ?_)
        have ahpσ_19 := hpσ_19.1
        have bhpσ_19 := hpσ_19.2.1
        have chpσ_19 := hpσ_19.2.2.1
        have dhpσ_19 := hpσ_19.2.2.2
        clear hpσ_19
        have fr_σ_19 := fr_σ.call dhpσ_19 rfl rfl
        replace hF := q_biX hF chpσ_19
        have mv9_σ_19 : (σ_19.1 a 9).toInt = (σ.1 a 9).toInt := congrArg Int32.toInt ((q_K.le hkσ_19 (by decide) : q_K 8 X σ σ_19) a 9 (by rw [ha]; decide))
        have mv12_σ_19 : (σ_19.1 a 12).toInt = (σ.1 a 12).toInt := congrArg Int32.toInt ((q_K.le hkσ_19 (by decide) : q_K 8 X σ σ_19) a 12 (by rw [ha]; decide))
        have mv14_σ_19 : (σ_19.1 a 14).toInt = (σ.1 a 14).toInt := congrArg Int32.toInt ((q_K.le hkσ_19 (by decide) : q_K 8 X σ σ_19) a 14 (by rw [ha]; decide))
        have mv15_σ_19 : (σ_19.1 a 15).toInt = (σ.1 a 15).toInt := congrArg Int32.toInt ((q_K.le hkσ_19 (by decide) : q_K 8 X σ σ_19) a 15 (by rw [ha]; decide))
        have mv16_σ_19 : (σ_19.1 a 16).toInt = (σ.1 a 16).toInt := congrArg Int32.toInt ((q_K.le hkσ_19 (by decide) : q_K 8 X σ σ_19) a 16 (by rw [ha]; decide))
        have mv17_σ_19 : (σ_19.1 a 17).toInt = (σ.1 a 17).toInt := congrArg Int32.toInt ((q_K.le hkσ_19 (by decide) : q_K 8 X σ σ_19) a 17 (by rw [ha]; decide))
        have mv8_σ_19 : (σ_19.1 a 8).toInt = (σ.1 a 8).toInt := congrArg Int32.toInt ((q_K.le hkσ_19 (by decide) : q_K 8 X σ σ_19) a 8 (by rw [ha]; decide))
        have mcσ_19 := m_cK hkσ_19 hI.1 ha (by decide)
        have kcσ_19 : ∀ j, m_c X σ_19 a j = m_c X σ a j := fun j => (mcσ_19 j).trans (kcσ j)
        have ks_σ_19 : q_KS (fun b g => b = a ∧ 8 ≤ g ∧ g ≤ 18) 8 X σ σ_19 := ks_σ.K hkσ_19 (by decide)
        exact q_retz E hr hlk hI ⟨by omega, by omega⟩ ⟨⟨by omega, by omega⟩, ks_σ_19, (by first | (clear h0 kcσ c_1 if_5 bf_5 c_6 c_10 kc_17 ahpσ_19 chpσ_19 dhpσ_19 mv9_σ_19 mv12_σ_19 mv14_σ_19 mv15_σ_19 mv16_σ_19 mv17_σ_19 mv8_σ_19 kcσ_19; omega) | omega), (by first | (clear h0 kcσ c_1 if_5 bf_5 c_6 kc_17 ahpσ_19 bhpσ_19 chpσ_19 dhpσ_19 mv9_σ_19 mv12_σ_19 mv14_σ_19 mv15_σ_19 mv16_σ_19 mv17_σ_19 kcσ_19; omega) | omega), kcσ_19, (hF.trans hout), fr_σ_19⟩ dX12_opens_22

set_option maxRecDepth 100000 in
set_option maxHeartbeats 4000000 in
theorem c_X12_isWell (l : Launch) (X : XW) (σ : ST) (a : Nat) (ha : q_kd X a = 12) : Met l yX12_isWell (q_ws yX12_isWell cX12_isWell 1 (some .boolean)) (q_rm 1 21) (q_P X σ [.ref a]) (q_Qi X 8 σ (fun (r : Int32) (σ' : ST) => (0 ≤ r.toInt ∧ r.toInt ≤ 1) ∧ (r.toInt = 1 → (σ.1 a 12).toInt = 0) ∧ (r, σ') = F_X12_isWell X σ a ∧ q_ow [(12, 0), (12, 10), (12, 11)] [] X σ σ')) 0 0 (q_reg X) := by
  refine q_met 8 (by first | exact rfl | decide +kernel) rfl (Nat.le_of_ble_eq_true rfl) (fun p e s m below meth c E hml hr hlk hI ls hl => ?_)
  have hx := E.1
  have hb := E.2.1
  have hl : lv_has ls 1 [(0, .ref a)] := hl
  have fr_σ : q_ow [(12, 0), (12, 10), (12, 11)] [] X σ σ := q_ow.rf
  obtain ⟨out, hout⟩ : ∃ o, o = F_X12_isWell X σ a := ⟨_, rfl⟩
  have hF := hout.symm
  unfold F_X12_isWell at hF
  refine lv_aload_n hx hb dX12_isWell_0 rfl (lv_at hl 0 rfl) ?_
  refine lv_aload_n hx hb dX12_isWell_1 rfl (lv_at hl 0 rfl) ?_
  refine gs_X12_187_12 E hI ha dX12_isWell_2 ?_
  refine lv_topi (fun f_1 ef_1 => ?_)
  replace hF := q_letX hF ef_1
  have if_1 : f_1.toInt = (σ.1 a 12).toInt := congrArg Int32.toInt ef_1
  refine ps_X12_28_12 E hI ha (by decide) dX12_isWell_5 (fun H locs σ_2 hσ_2 hI => ?_)
  replace hF := q_letX hF hσ_2
  have fr_σ_2 := fr_σ.si hσ_2 ha rfl
  have mv12_σ_2 : (σ_2.1 a 12).toInt = (σ.1 a 12).toInt := congrArg Int32.toInt (q_rdn hσ_2 (Or.inr (by decide)))
  refine lv_aload_n hx hb dX12_isWell_8 rfl (lv_at hl 0 rfl) ?_
  refine lv_aload_n hx hb dX12_isWell_9 rfl (lv_at hl 0 rfl) ?_
  refine gs_X12_187_12 E hI ha dX12_isWell_10 ?_
  refine lv_topi (fun f_3 ef_3 => ?_)
  replace hF := q_letX hF ef_3
  have if_3 : f_3.toInt = (σ_2.1 a 12).toInt := congrArg Int32.toInt ef_3
  refine q_if_ne (A := f_3.toInt) E rfl (tgt := 20) dX12_isWell_13 (by decide) (fun c_4 => ?_) (fun c_4 => ?_)
  · skip
    replace hF := q_ifn hF c_4
    refine lv_aload_n hx hb dX12_isWell_20 rfl (lv_at hl 0 rfl) ?_
    refine gs_X12_190_12 E hI ha dX12_isWell_21 ?_
    refine lv_topi (fun f_5 ef_5 => ?_)
    replace hF := q_letX hF ef_5
    have if_5 : f_5.toInt = (σ_2.1 a 13).toInt := congrArg Int32.toInt ef_5
    refine ps_X12_32_12 E hI ha (by decide) dX12_isWell_24 (fun H locs σ_6 hσ_6 hI => ?_)
    replace hF := q_letX hF hσ_6
    have fr_σ_6 := fr_σ_2.si hσ_6 ha rfl
    have mv12_σ_6 : (σ_6.1 a 12).toInt = (σ_2.1 a 12).toInt := congrArg Int32.toInt (q_rdn hσ_6 (Or.inr (by decide)))
    refine lv_aload_n hx hb dX12_isWell_27 rfl (lv_at hl 0 rfl) ?_
    refine gs_X12_187_12 E hI ha dX12_isWell_28 ?_
    refine lv_topi (fun f_7 ef_7 => ?_)
    replace hF := q_letX hF ef_7
    have if_7 : f_7.toInt = (σ_6.1 a 12).toInt := congrArg Int32.toInt ef_7
    refine q_if_eq (A := f_7.toInt) E rfl (tgt := 43) dX12_isWell_31 (by decide) (fun c_8 => ?_) (fun c_8 => ?_)
    · skip
      replace hF := q_ifp hF c_8
      refine lv_iconst (v := 1) hx hb dX12_isWell_43 zki_1 ?_
      refine lv_goto (tgt := 48) hx hb dX12_isWell_44 (by decide) ?_
      have hrv : (1 : Int32).toInt = 1 := zt_1
      exact q_retz E hr hlk hI ⟨by decide, by decide⟩ ⟨⟨by decide, by decide⟩, (by first | (clear if_1 c_4 if_5 hrv; omega) | omega), (hF.trans hout), fr_σ_6⟩ dX12_isWell_48
    · skip
      replace hF := q_ifn hF c_8
      refine lv_aload_n hx hb dX12_isWell_34 rfl (lv_at hl 0 rfl) ?_
      refine lv_bipush (v := 10) hx hb dX12_isWell_35 zkb_10 ?_
      have kc_9 : (10 : Int32).toInt = 10 := zt_10
      refine q_ci (q_rV11_1 (rest := []) E (hml.trans hl.1.symm) hI (c_X12_no l X σ_6 a (10 : Int32) ha) kv_X12_74 ha ⟨Nat.le_of_ble_eq_true rfl, Nat.le_of_ble_eq_true rfl⟩ (Nat.le_of_ble_eq_true rfl) dX12_isWell_37) hI (Nat.le_of_ble_eq_true rfl) (fun r_10 σ_11 H locs hpσ_11 hkσ_11 hI => ?_)
      have ahpσ_11 := hpσ_11.1
      have bhpσ_11 := hpσ_11.2.1
      have chpσ_11 := hpσ_11.2.2.1
      have dhpσ_11 := hpσ_11.2.2.2
      clear hpσ_11
      have fr_σ_11 := fr_σ_6.call dhpσ_11 rfl rfl
      replace hF := q_biX hF chpσ_11
      have mv12_σ_11 : (σ_11.1 a 12).toInt = (σ_6.1 a 12).toInt := congrArg Int32.toInt ((q_K.le hkσ_11 (by decide) : q_K 8 X σ_6 σ_11) a 12 (by rw [ha]; decide))
      refine q_if_eq (A := r_10.toInt) E rfl (tgt := 47) dX12_isWell_40 (by decide) (fun c_12 => ?_) (fun c_12 => ?_)
      · skip
        replace hF := q_ifp hF c_12
        refine lv_iconst (v := 0) hx hb dX12_isWell_47 zki_0 ?_
        have hrv : (0 : Int32).toInt = 0 := zt_0
        exact q_retz E hr hlk hI ⟨by decide, by decide⟩ ⟨⟨by decide, by decide⟩, (by first | (clear if_1 mv12_σ_2 if_3 c_4 if_5 mv12_σ_6 if_7 c_8 kc_9 ahpσ_11 bhpσ_11 chpσ_11 dhpσ_11 mv12_σ_11 c_12; omega) | omega), (hF.trans hout), fr_σ_11⟩ dX12_isWell_48
      · skip
        replace hF := q_ifn hF c_12
        replace c_12 := q_ifOne ahpσ_11 c_12
        refine lv_iconst (v := 1) hx hb dX12_isWell_43 zki_1 ?_
        refine lv_goto (tgt := 48) hx hb dX12_isWell_44 (by decide) ?_
        have hrv : (1 : Int32).toInt = 1 := zt_1
        exact q_retz E hr hlk hI ⟨by decide, by decide⟩ ⟨⟨by decide, by decide⟩, (by first | (clear if_1 mv12_σ_2 if_3 c_4 if_5 mv12_σ_6 if_7 c_8 kc_9 ahpσ_11 chpσ_11 dhpσ_11 mv12_σ_11 hrv; omega) | omega), (hF.trans hout), fr_σ_11⟩ dX12_isWell_48
  · skip
    replace hF := q_ifp hF c_4
    refine lv_iconst (v := (-1)) hx hb dX12_isWell_16 zki_m1 ?_
    refine lv_goto (tgt := 24) hx hb dX12_isWell_17 (by decide) ?_
    refine ps_X12_32_12 E hI ha (by decide) dX12_isWell_24 (fun H locs σ_13 hσ_13 hI => ?_)
    replace hF := q_letX hF hσ_13
    have fr_σ_13 := fr_σ_2.si hσ_13 ha rfl
    have mv12_σ_13 : (σ_13.1 a 12).toInt = (σ_2.1 a 12).toInt := congrArg Int32.toInt (q_rdn hσ_13 (Or.inr (by decide)))
    refine lv_aload_n hx hb dX12_isWell_27 rfl (lv_at hl 0 rfl) ?_
    refine gs_X12_187_12 E hI ha dX12_isWell_28 ?_
    refine lv_topi (fun f_14 ef_14 => ?_)
    replace hF := q_letX hF ef_14
    have if_14 : f_14.toInt = (σ_13.1 a 12).toInt := congrArg Int32.toInt ef_14
    refine q_if_eq (A := f_14.toInt) E rfl (tgt := 43) dX12_isWell_31 (by decide) (fun c_15 => ?_) (fun c_15 => ?_)
    · skip
      replace hF := q_ifp hF c_15
      refine lv_iconst (v := 1) hx hb dX12_isWell_43 zki_1 ?_
      refine lv_goto (tgt := 48) hx hb dX12_isWell_44 (by decide) ?_
      have hrv : (1 : Int32).toInt = 1 := zt_1
      exact q_retz E hr hlk hI ⟨by decide, by decide⟩ ⟨⟨by decide, by decide⟩, (by first | (clear if_1 mv12_σ_13 if_14 c_15 hrv; omega) | omega), (hF.trans hout), fr_σ_13⟩ dX12_isWell_48
    · skip
      replace hF := q_ifn hF c_15
      refine lv_aload_n hx hb dX12_isWell_34 rfl (lv_at hl 0 rfl) ?_
      refine lv_bipush (v := 10) hx hb dX12_isWell_35 zkb_10 ?_
      have kc_16 : (10 : Int32).toInt = 10 := zt_10
      refine q_ci (q_rV11_1 (rest := []) E (hml.trans hl.1.symm) hI (c_X12_no l X σ_13 a (10 : Int32) ha) kv_X12_74 ha ⟨Nat.le_of_ble_eq_true rfl, Nat.le_of_ble_eq_true rfl⟩ (Nat.le_of_ble_eq_true rfl) dX12_isWell_37) hI (Nat.le_of_ble_eq_true rfl) (fun r_17 σ_18 H locs hpσ_18 hkσ_18 hI => ?_)
      have ahpσ_18 := hpσ_18.1
      have bhpσ_18 := hpσ_18.2.1
      have chpσ_18 := hpσ_18.2.2.1
      have dhpσ_18 := hpσ_18.2.2.2
      clear hpσ_18
      have fr_σ_18 := fr_σ_13.call dhpσ_18 rfl rfl
      replace hF := q_biX hF chpσ_18
      have mv12_σ_18 : (σ_18.1 a 12).toInt = (σ_13.1 a 12).toInt := congrArg Int32.toInt ((q_K.le hkσ_18 (by decide) : q_K 8 X σ_13 σ_18) a 12 (by rw [ha]; decide))
      refine q_if_eq (A := r_17.toInt) E rfl (tgt := 47) dX12_isWell_40 (by decide) (fun c_19 => ?_) (fun c_19 => ?_)
      · skip
        replace hF := q_ifp hF c_19
        refine lv_iconst (v := 0) hx hb dX12_isWell_47 zki_0 ?_
        have hrv : (0 : Int32).toInt = 0 := zt_0
        exact q_retz E hr hlk hI ⟨by decide, by decide⟩ ⟨⟨by decide, by decide⟩, (by first | (clear if_1 mv12_σ_2 if_3 c_4 mv12_σ_13 if_14 c_15 kc_16 ahpσ_18 bhpσ_18 chpσ_18 dhpσ_18 mv12_σ_18 c_19; omega) | omega), (hF.trans hout), fr_σ_18⟩ dX12_isWell_48
      · skip
        replace hF := q_ifn hF c_19
        replace c_19 := q_ifOne ahpσ_18 c_19
        refine lv_iconst (v := 1) hx hb dX12_isWell_43 zki_1 ?_
        refine lv_goto (tgt := 48) hx hb dX12_isWell_44 (by decide) ?_
        have hrv : (1 : Int32).toInt = 1 := zt_1
        exact q_retz E hr hlk hI ⟨by decide, by decide⟩ ⟨⟨by decide, by decide⟩, (by first | (clear if_1 mv12_σ_2 if_3 c_4 mv12_σ_13 if_14 c_15 kc_16 ahpσ_18 chpσ_18 dhpσ_18 mv12_σ_18 hrv; omega) | omega), (hF.trans hout), fr_σ_18⟩ dX12_isWell_48

set_option maxRecDepth 100000 in
set_option maxHeartbeats 4000000 in
theorem c_X12_copy (l : Launch) (X : XW) (σ : ST) (a : Nat) (v1 : Int32) (v2 : Int32) (ha : q_kd X a = 12) (h0 : 0 ≤ v1.toInt ∧ v1.toInt ≤ 4) (h1 : 0 ≤ v2.toInt ∧ v2.toInt ≤ 3) (h2 : v1.toInt ≠ v2.toInt) : Met l yX12_copy (q_ws yX12_copy cX12_copy 4 none) (q_rm 0 0) (q_P X σ [.ref a, .int v1, .int v2]) (q_Qv X 1 σ (fun (σ' : ST) => (∀ j : Int, 0 ≤ j → m_c X σ' a j = if 930 * v2.toInt ≤ j ∧ j < 930 * v2.toInt + 930 then m_c X σ a (930 * v1.toInt + (j - 930 * v2.toInt)) else m_c X σ a j) ∧ σ' = F_X12_copy X σ a v1 v2 ∧ q_ow [(34, 99)] [(37, 99)] X σ σ')) 0 0 (q_reg X) := by
  refine q_met 1 (by first | exact rfl | decide +kernel) rfl (Nat.le_of_ble_eq_true rfl) (fun p e s m below meth c E hml hr hlk hI ls hl => ?_)
  have hx := E.1
  have hb := E.2.1
  have hl : lv_has ls 4 [(0, .ref a), (1, .int v1), (2, .int v2)] := hl
  have fr_σ : q_ow [(34, 99)] [(37, 99)] X σ σ := q_ow.rf
  obtain ⟨out, hout⟩ : ∃ o, o = F_X12_copy X σ a v1 v2 := ⟨_, rfl⟩
  have hF := hout.symm
  unfold F_X12_copy at hF
  refine lv_iconst (v := 0) hx hb dX12_copy_0 zki_0 ?_
  refine lv_istore_n (lv' := [(3, .int 0), (0, .ref a), (1, .int v1), (2, .int v2)]) hx hb dX12_copy_1 rfl hl (by decide) rfl (fun ls hl => ?_)
  have L_2_3 : ∀ (k_3 : Nat) (x_1 : Int32) (σ_2 : ST) (H : Heap) (locs : List Loc) (ls : Array Slot), (2147483647 - x_1.toInt).toNat < k_3 → (0 ≤ x_1.toInt ∧ x_1.toInt ≤ 930) → (∀ j : Int, 0 ≤ j → m_c X σ_2 a j = if 930 * v2.toInt ≤ j ∧ j < 930 * v2.toInt + x_1.toInt then m_c X σ a (930 * v1.toInt + (j - 930 * v2.toInt)) else m_c X σ a j) → (q_ow [(34, 99)] [(37, 99)] X σ σ_2) → (F_X12_copy_L2_1 X v2 v1 a k_3 x_1 σ_2 = out) → q_I X 1 σ s.heap locs σ_2 H → lv_has ls 4 [(0, .ref a), (1, .int v1), (2, .int v2), (3, .int x_1)] → W p l e (q_rm 0 0) s m ([.ref a, .int v1, .int v2] : List Value).toArray below meth c H locs 0 0 (MQ below (q_Qv X 1 σ (fun (σ' : ST) => (∀ j : Int, 0 ≤ j → m_c X σ' a j = if 930 * v2.toInt ≤ j ∧ j < 930 * v2.toInt + 930 then m_c X σ a (930 * v1.toInt + (j - 930 * v2.toInt)) else m_c X σ a j) ∧ σ' = F_X12_copy X σ a v1 v2 ∧ q_ow [(34, 99)] [(37, 99)] X σ σ')) ([.ref a, .int v1, .int v2] : List Value).toArray s 0 0 (q_reg X)) (F0 m 2 ls []) := by
    clear hF
    intro k_3
    induction k_3 with
    | zero =>
      intro x_1 σ_2 H locs ls hms
      try clear fr_σ
      exact absurd hms (Nat.not_lt_zero _)
    | succ k_3 ih2 =>
      intro x_1 σ_2 H locs ls hm2 hge2 cpσ_2 fr_σ_2 hF hI hl
      replace hF := (F_X12_copy_L2_1_s).symm.trans hF
      unfold F_X12_copy_B2_1 at hF
      refine lv_iload_n hx hb dX12_copy_2 rfl (lv_at hl 3 rfl) ?_
      refine lv_sipush (v := 930) hx hb dX12_copy_3 zks_930 ?_
      have gc_4_x_1 := q_rng x_1
      refine q_icmp_ge (A := x_1.toInt) (B := 930) E rfl (by decide) (tgt := 39) dX12_copy_6 (by decide) (fun c_4 => ?_) (fun c_4 => ?_)
      · skip
        replace hF := q_ifn hF (Int.not_lt.mpr c_4)
        skip
        refine lv_iconst (v := 0) hx hb dX12_copy_39 zki_0 ?_
        refine lv_istore_n (lv' := [(3, .int 0), (0, .ref a), (1, .int v1), (2, .int v2)]) hx hb dX12_copy_40 rfl hl (by decide) rfl (fun ls hl => ?_)
        have L_41_7 : ∀ (k_7 : Nat) (x_5 : Int32) (σ_6 : ST) (H : Heap) (locs : List Loc) (ls : Array Slot), (2147483647 - x_5.toInt).toNat < k_7 → (0 ≤ x_5.toInt ∧ x_5.toInt ≤ 6) → (∀ j : Int, 0 ≤ j → m_c X σ_6 a j = if 930 * v2.toInt ≤ j ∧ j < 930 * v2.toInt + 930 then m_c X σ a (930 * v1.toInt + (j - 930 * v2.toInt)) else m_c X σ a j) → (q_ow [(34, 99)] [(37, 99)] X σ σ_6) → (F_X12_copy_L41_3 X v2 v1 a k_7 x_5 σ_6 = out) → q_I X 1 σ s.heap locs σ_6 H → lv_has ls 4 [(0, .ref a), (1, .int v1), (2, .int v2), (3, .int x_5)] → W p l e (q_rm 0 0) s m ([.ref a, .int v1, .int v2] : List Value).toArray below meth c H locs 0 0 (MQ below (q_Qv X 1 σ (fun (σ' : ST) => (∀ j : Int, 0 ≤ j → m_c X σ' a j = if 930 * v2.toInt ≤ j ∧ j < 930 * v2.toInt + 930 then m_c X σ a (930 * v1.toInt + (j - 930 * v2.toInt)) else m_c X σ a j) ∧ σ' = F_X12_copy X σ a v1 v2 ∧ q_ow [(34, 99)] [(37, 99)] X σ σ')) ([.ref a, .int v1, .int v2] : List Value).toArray s 0 0 (q_reg X)) (F0 m 41 ls []) := by
          clear hF
          intro k_7
          induction k_7 with
          | zero =>
            intro x_5 σ_6 H locs ls hms
            exact absurd hms (Nat.not_lt_zero _)
          | succ k_7 ih41 =>
            intro x_5 σ_6 H locs ls hm41 hge41 cpσ_6 fr_σ_6 hF hI hl
            replace hF := (F_X12_copy_L41_3_s).symm.trans hF
            unfold F_X12_copy_B41_3 at hF
            refine lv_iload_n hx hb dX12_copy_41 rfl (lv_at hl 3 rfl) ?_
            refine lv_bipush (v := 6) hx hb dX12_copy_42 zkb_6 ?_
            have gc_8_x_5 := q_rng x_5
            refine q_icmp_ge (A := x_5.toInt) (B := 6) E rfl (by decide) (tgt := 75) dX12_copy_44 (by decide) (fun c_8 => ?_) (fun c_8 => ?_)
            · skip
              replace hF := q_ifn hF (Int.not_lt.mpr c_8)
              skip
              exact q_retv E hr hlk hI ⟨cpσ_6, (hF.trans hout), fr_σ_6⟩ dX12_copy_75
            · skip
              replace hF := q_ifp hF c_8
              refine lv_aload_n hx hb dX12_copy_47 rfl (lv_at hl 0 rfl) ?_
              refine gs_X12_44_12 E hI ha dX12_copy_48 ?_
              refine lv_bipush (v := 6) hx hb dX12_copy_51 zkb_6 ?_
              refine lv_iload_n hx hb dX12_copy_53 rfl (lv_at hl 2 rfl) ?_
              refine lv_imul hx hb dX12_copy_54 ?_
              refine lv_topi (fun z_9 ez_9 => ?_)
              replace hF := q_letX hF ez_9
              have iz_9 := q_mulI (A := 6) (B := v2.toInt) ez_9 (by decide) rfl (by first | (clear h0 h1 h2 hm2 hge2 gc_4_x_1 c_4 hm41 hge41 gc_8_x_5 c_8; omega) | omega) (by first | (clear h0 h1 h2 hm2 hge2 gc_4_x_1 c_4 hm41 hge41 gc_8_x_5 c_8; omega) | omega)
              refine lv_iload_n hx hb dX12_copy_55 rfl (lv_at hl 3 rfl) ?_
              refine lv_iadd hx hb dX12_copy_56 ?_
              refine lv_topi (fun z_10 ez_10 => ?_)
              replace hF := q_letX hF ez_10
              have iz_10 := q_addI (A := (6 * v2.toInt)) (B := x_5.toInt) ez_10 iz_9 rfl (by first | (clear h0 h1 h2 hm2 hge2 gc_4_x_1 c_4 hm41 gc_8_x_5 iz_9; omega) | omega) (by first | (clear h0 h1 h2 hm2 hge2 gc_4_x_1 c_4 hm41 gc_8_x_5 iz_9; omega) | omega)
              refine lv_aload_n hx hb dX12_copy_57 rfl (lv_at hl 0 rfl) ?_
              refine gs_X12_44_12 E hI ha dX12_copy_58 ?_
              refine lv_bipush (v := 6) hx hb dX12_copy_61 zkb_6 ?_
              refine lv_iload_n hx hb dX12_copy_63 rfl (lv_at hl 1 rfl) ?_
              refine lv_imul hx hb dX12_copy_64 ?_
              refine lv_topi (fun z_11 ez_11 => ?_)
              replace hF := q_letX hF ez_11
              have iz_11 := q_mulI (A := 6) (B := v1.toInt) ez_11 (by decide) rfl (by first | (clear h0 h1 h2 hm2 hge2 gc_4_x_1 c_4 hm41 hge41 gc_8_x_5 c_8 iz_9 iz_10; omega) | omega) (by first | (clear h0 h1 h2 hm2 hge2 gc_4_x_1 c_4 hm41 hge41 gc_8_x_5 c_8 iz_9 iz_10; omega) | omega)
              refine lv_iload_n hx hb dX12_copy_65 rfl (lv_at hl 3 rfl) ?_
              refine lv_iadd hx hb dX12_copy_66 ?_
              refine lv_topi (fun z_12 ez_12 => ?_)
              replace hF := q_letX hF ez_12
              have iz_12 := q_addI (A := (6 * v1.toInt)) (B := x_5.toInt) ez_12 iz_11 rfl (by first | (clear h0 h1 h2 hm2 hge2 gc_4_x_1 c_4 hm41 gc_8_x_5 iz_9 iz_11; omega) | omega) (by first | (clear h0 h1 h2 hm2 hge2 gc_4_x_1 c_4 hm41 gc_8_x_5 iz_9 iz_11; omega) | omega)
              refine q_lald E hI (q_tk (k' := 37) hI ha rfl (Nat.succ_ne_zero _)) ⟨by decide, rfl⟩ (by first | (clear h0 h1 h2 hm2 hge2 gc_4_x_1 c_4 hm41 gc_8_x_5 iz_9 iz_11; omega) | omega) (by rw [q_lnk (v := 30) hI (q_tk (k' := 37) hI ha rfl (Nat.succ_ne_zero _)) rfl (by decide)]; omega) dX12_copy_67 ?_
              refine lv_topl (fun g_13 eg_13 => ?_)
              replace hF := q_letX hF eg_13
              refine q_lastN E hI (q_tk (k' := 37) hI ha rfl (Nat.succ_ne_zero _)) ⟨by decide, rfl⟩ (by first | (clear h0 h1 h2 hm2 hge2 gc_4_x_1 c_4 hm41 gc_8_x_5 iz_9 iz_11; omega) | omega) (by rw [q_lnk (v := 30) hI (q_tk (k' := 37) hI ha rfl (Nat.succ_ne_zero _)) rfl (by decide)]; omega) dX12_copy_68 (fun H locs σ_14 hσ_14 hI => ?_)
              replace hF := q_letX hF hσ_14
              have fr_σ_14 := fr_σ_6.sl hσ_14 (q_tk (k' := 37) hI ha rfl (Nat.succ_ne_zero _)) rfl
              have mcσ_14 := m_wl (X := X) hσ_14 a
              have cpσ_14 : ∀ j : Int, 0 ≤ j → m_c X σ_14 a j = if 930 * v2.toInt ≤ j ∧ j < 930 * v2.toInt + 930 then m_c X σ a (930 * v1.toInt + (j - 930 * v2.toInt)) else m_c X σ a j := fun j hj => (mcσ_14 j).trans (cpσ_6 j hj)
              obtain ⟨z_15, ez_15⟩ : ∃ y : Int32, y = x_5 + 1 := ⟨_, rfl⟩
              replace hF := q_letX hF ez_15
              refine lv_iinc (v := z_15) (lv' := [(3, .int z_15), (0, .ref a), (1, .int v1), (2, .int v2)]) hx hb dX12_copy_69 hl (k := 3) rfl (by rw [ez_15]; rfl) (by decide) rfl (fun ls hl => ?_)
              have iz_15 : z_15.toInt = x_5.toInt + 1 := q_inc ez_15 (by first | (clear h0 h1 h2 hm2 hge2 gc_4_x_1 c_4 hm41 gc_8_x_5 iz_9 iz_11; omega) | omega)
              refine lv_goto (tgt := 41) hx hb dX12_copy_72 (by decide) ?_
              exact ih41 z_15 σ_14 _ _ ls (by first | (clear h0 h1 h2 hm2 hge2 gc_4_x_1 c_4 gc_8_x_5 iz_9 iz_11; omega) | omega) (by first | (clear h0 h1 h2 hm2 hge2 gc_4_x_1 c_4 hm41 gc_8_x_5 iz_9 iz_11; omega) | omega) cpσ_14 fr_σ_14 hF hI (lv_sub hl [1, 2, 3, 0] rfl)
        exact L_41_7 ((2147483647 - (0 : Int32).toInt).toNat + 1) 0 σ_2 _ _ ls (Nat.lt_succ_self _) (by decide) (m_cpy_n cpσ_2 (by first | (clear h0 h1 h2 hm2 gc_4_x_1; omega) | omega)) fr_σ_2 hF hI (lv_sub hl [1, 2, 3, 0] rfl)
      · skip
        replace hF := q_ifp hF c_4
        refine lv_aload_n hx hb dX12_copy_9 rfl (lv_at hl 0 rfl) ?_
        refine gs_X12_35_12 E hI ha dX12_copy_10 ?_
        refine lv_sipush (v := 930) hx hb dX12_copy_13 zks_930 ?_
        refine lv_iload_n hx hb dX12_copy_16 rfl (lv_at hl 2 rfl) ?_
        refine lv_imul hx hb dX12_copy_17 ?_
        refine lv_topi (fun z_16 ez_16 => ?_)
        replace hF := q_letX hF ez_16
        have iz_16 := q_mulI (A := 930) (B := v2.toInt) ez_16 (by decide) rfl (by first | (clear h0 h1 h2 hm2 hge2 gc_4_x_1 c_4; omega) | omega) (by first | (clear h0 h1 h2 hm2 hge2 gc_4_x_1 c_4; omega) | omega)
        refine lv_iload_n hx hb dX12_copy_18 rfl (lv_at hl 3 rfl) ?_
        refine lv_iadd hx hb dX12_copy_19 ?_
        refine lv_topi (fun z_17 ez_17 => ?_)
        replace hF := q_letX hF ez_17
        have iz_17 := q_addI (A := (930 * v2.toInt)) (B := x_1.toInt) ez_17 iz_16 rfl (by first | (clear h0 h1 h2 hm2 gc_4_x_1 iz_16; omega) | omega) (by first | (clear h0 h1 h2 hm2 gc_4_x_1 iz_16; omega) | omega)
        refine lv_aload_n hx hb dX12_copy_20 rfl (lv_at hl 0 rfl) ?_
        refine gs_X12_35_12 E hI ha dX12_copy_21 ?_
        refine lv_sipush (v := 930) hx hb dX12_copy_24 zks_930 ?_
        refine lv_iload_n hx hb dX12_copy_27 rfl (lv_at hl 1 rfl) ?_
        refine lv_imul hx hb dX12_copy_28 ?_
        refine lv_topi (fun z_18 ez_18 => ?_)
        replace hF := q_letX hF ez_18
        have iz_18 := q_mulI (A := 930) (B := v1.toInt) ez_18 (by decide) rfl (by first | (clear h0 h1 h2 hm2 hge2 gc_4_x_1 c_4 iz_16 iz_17; omega) | omega) (by first | (clear h0 h1 h2 hm2 hge2 gc_4_x_1 c_4 iz_16 iz_17; omega) | omega)
        refine lv_iload_n hx hb dX12_copy_29 rfl (lv_at hl 3 rfl) ?_
        refine lv_iadd hx hb dX12_copy_30 ?_
        refine lv_topi (fun z_19 ez_19 => ?_)
        replace hF := q_letX hF ez_19
        have iz_19 := q_addI (A := (930 * v1.toInt)) (B := x_1.toInt) ez_19 iz_18 rfl (by first | (clear h0 h1 h2 hm2 gc_4_x_1 iz_16 iz_18; omega) | omega) (by first | (clear h0 h1 h2 hm2 gc_4_x_1 iz_16 iz_18; omega) | omega)
        refine q_iald E hI (q_tk (k' := 34) hI ha rfl (Nat.succ_ne_zero _)) ⟨by decide, rfl⟩ (by first | (clear h0 h1 h2 hm2 gc_4_x_1 iz_16 iz_18; omega) | omega) (by rw [q_lnk (v := 4650) hI (q_tk (k' := 34) hI ha rfl (Nat.succ_ne_zero _)) rfl (by decide)]; omega) dX12_copy_31 ?_
        refine lv_topi (fun f_20 ef_20 => ?_)
        replace hF := q_letX hF ef_20
        have if_20 : f_20.toInt = m_c X σ_2 a ((930 * v1.toInt) + x_1.toInt) := m_rd ef_20 iz_19
        refine q_iastN E hI (q_tk (k' := 34) hI ha rfl (Nat.succ_ne_zero _)) ⟨by decide, rfl⟩ (by first | (clear h0 h1 h2 hm2 gc_4_x_1 iz_16 iz_18 if_20; omega) | omega) (by rw [q_lnk (v := 4650) hI (q_tk (k' := 34) hI ha rfl (Nat.succ_ne_zero _)) rfl (by decide)]; omega) (show 1 < 2 by decide) (q_inU rfl) dX12_copy_32 (fun H locs σ_21 hσ_21 hI => ?_)
        replace hF := q_letX hF hσ_21
        have fr_σ_21 := fr_σ_2.si hσ_21 (q_tk (k' := 34) hI ha rfl (Nat.succ_ne_zero _)) rfl
        have mcσ_21 := m_wr (v := f_20) (A := ((930 * v2.toInt) + x_1.toInt)) hσ_21 iz_17 (by first | (clear h0 h1 h2 hm2 gc_4_x_1 iz_16 iz_18 if_20; omega) | omega)
        have cpσ_21 := m_cpy (n := 930) cpσ_2 mcσ_21 if_20 (by first | (clear h0 h1 h2 hm2 gc_4_x_1 iz_16 iz_18 if_20; omega) | omega) (by first | (clear h0 h1 h2 hm2 hge2 gc_4_x_1 c_4 iz_16 iz_17 iz_18 iz_19 if_20; omega) | omega) (by first | (clear h0 h1 h2 hm2 gc_4_x_1 iz_16 iz_18 if_20; omega) | omega)
        obtain ⟨z_22, ez_22⟩ : ∃ y : Int32, y = x_1 + 1 := ⟨_, rfl⟩
        replace hF := q_letX hF ez_22
        refine lv_iinc (v := z_22) (lv' := [(3, .int z_22), (0, .ref a), (1, .int v1), (2, .int v2)]) hx hb dX12_copy_33 hl (k := 3) rfl (by rw [ez_22]; rfl) (by decide) rfl (fun ls hl => ?_)
        have iz_22 : z_22.toInt = x_1.toInt + 1 := q_inc ez_22 (by first | (clear h0 h1 h2 hm2 gc_4_x_1 iz_16 iz_18 if_20; omega) | omega)
        refine lv_goto (tgt := 2) hx hb dX12_copy_36 (by decide) ?_
        exact ih2 z_22 σ_21 _ _ ls (by first | (clear h0 h1 h2 gc_4_x_1 iz_16 iz_18 if_20; omega) | omega) (by first | (clear h0 h1 h2 hm2 gc_4_x_1 iz_16 iz_18 if_20; omega) | omega) (by rw [iz_22]; exact cpσ_21) fr_σ_21 hF hI (lv_sub hl [1, 2, 3, 0] rfl)
  exact L_2_3 ((2147483647 - (0 : Int32).toInt).toNat + 1) 0 σ _ _ ls (Nat.lt_succ_self _) (by decide) (fun j hj => by rw [if_neg (by have q : (0 : Int32).toInt = 0 := rfl; omega)]) fr_σ hF hI (lv_sub hl [1, 2, 3, 0] rfl)

set_option maxRecDepth 100000 in
set_option maxHeartbeats 4000000 in
theorem c_X12_table (l : Launch) (X : XW) (σ : ST) (a : Nat) (v1 : Int32) (n : Int) (ha : q_kd X a = 12) (hG : m_G (m_c X σ a)) (hW : m_W (m_c X σ a) n) (hn : 0 ≤ n) : Met l yX12_table (q_ws yX12_table cX12_table 3 (some .int)) (q_rm 7 154) (q_P X σ [.ref a, .int v1]) (q_Qi X 0 σ (fun (r : Int32) (σ' : ST) => (q_KS (fun b g => b = a ∧ 8 ≤ g ∧ g ≤ 18) 1 X σ σ') ∧ (m_G (m_c X σ' a)) ∧ (m_W (m_c X σ' a) n) ∧ (∀ j, 930 ≤ j → j < 3720 → m_c X σ' a j = m_c X σ a j) ∧ ((v1.toInt < 0 ∨ (σ.1 a 8).toInt < v1.toInt) → (σ'.1 a 8).toInt = (σ.1 a 8).toInt) ∧ ((0 ≤ v1.toInt ∧ v1.toInt ≤ (σ.1 a 8).toInt) → (σ'.1 a 8).toInt = 0) ∧ (r, σ') = F_X12_table X σ a v1 ∧ q_ow [(12, 0), (12, 1), (12, 8), (12, 9), (12, 10), (12, 11), (12, 12), (12, 13), (12, 14), (12, 15), (12, 16), (12, 17), (12, 18), (12, 25), (12, 26), (34, 99), (36, 99)] [(12, 19), (37, 99)] X σ σ')) 0 0 (q_reg X) := by
  refine q_met 0 (by first | exact rfl | decide +kernel) rfl (Nat.le_of_ble_eq_true rfl) (fun p e s m below meth c E hml hr hlk hI ls hl => ?_)
  have hx := E.1
  have hb := E.2.1
  have hl : lv_has ls 3 [(0, .ref a), (1, .int v1)] := hl
  have ks_σ : q_KS (fun b g => b = a ∧ 8 ≤ g ∧ g ≤ 18) 1 X σ σ := q_KS.rf
  have kpσ : ∀ j, 0 ≤ j → j < 3720 → m_c X σ a j = m_c X σ a j := fun _ _ _ => rfl
  have fr_σ : q_ow [(12, 0), (12, 1), (12, 8), (12, 9), (12, 10), (12, 11), (12, 12), (12, 13), (12, 14), (12, 15), (12, 16), (12, 17), (12, 18), (12, 25), (12, 26), (34, 99), (36, 99)] [(12, 19), (37, 99)] X σ σ := q_ow.rf
  have tb8 := q_bd (f := 8) (lo := 0) (hi := 900) hI ha rfl
  obtain ⟨out, hout⟩ : ∃ o, o = F_X12_table X σ a v1 := ⟨_, rfl⟩
  have hF := hout.symm
  unfold F_X12_table at hF
  refine lv_aload_n hx hb dX12_table_0 rfl (lv_at hl 0 rfl) ?_
  refine lv_iconst (v := 0) hx hb dX12_table_1 zki_0 ?_
  refine ps_X12_59_12 E hI ha (by decide) dX12_table_2 (fun H locs σ_1 hσ_1 hI => ?_)
  replace hF := q_letX hF hσ_1
  have fr_σ_1 := fr_σ.si hσ_1 ha rfl
  have ks_σ_1 : q_KS (fun b g => b = a ∧ 8 ≤ g ∧ g ≤ 18) 1 X σ σ_1 := ks_σ.si hσ_1 ha (show 1 < 9 by decide)
  have mv9_σ_1 : (σ_1.1 a 9).toInt = (σ.1 a 9).toInt := congrArg Int32.toInt (q_rdn hσ_1 (Or.inr (by decide)))
  have mv12_σ_1 : (σ_1.1 a 12).toInt = (σ.1 a 12).toInt := congrArg Int32.toInt (q_rdn hσ_1 (Or.inr (by decide)))
  have mv14_σ_1 : (σ_1.1 a 14).toInt = (σ.1 a 14).toInt := congrArg Int32.toInt (q_rdn hσ_1 (Or.inr (by decide)))
  have mv15_σ_1 : (σ_1.1 a 15).toInt = (σ.1 a 15).toInt := congrArg Int32.toInt (q_rdn hσ_1 (Or.inr (by decide)))
  have mv16_σ_1 : (σ_1.1 a 16).toInt = (σ.1 a 16).toInt := congrArg Int32.toInt (q_rdn hσ_1 (Or.inr (by decide)))
  have mv8_σ_1 : (σ_1.1 a 8).toInt = (σ.1 a 8).toInt := congrArg Int32.toInt (q_rdn hσ_1 (Or.inr (by decide)))
  have mcσ_1 := m_wo hσ_1 (m_ne ha (q_tk (f := 20) (k' := 34) hI ha rfl (by decide)) (by decide))
  have kpσ_1 : ∀ j, 0 ≤ j → j < 3720 → m_c X σ_1 a j = m_c X σ a j := fun j h0 h1 => (mcσ_1 j).trans (kpσ j h0 h1)
  refine lv_aload_n hx hb dX12_table_5 rfl (lv_at hl 0 rfl) ?_
  refine lv_iconst (v := 0) hx hb dX12_table_6 zki_0 ?_
  refine ps_X12_62_12 E hI ha (by decide) dX12_table_7 (fun H locs σ_2 hσ_2 hI => ?_)
  replace hF := q_letX hF hσ_2
  have fr_σ_2 := fr_σ_1.si hσ_2 ha rfl
  have ks_σ_2 : q_KS (fun b g => b = a ∧ 8 ≤ g ∧ g ≤ 18) 1 X σ σ_2 := ks_σ_1.si hσ_2 ha (show 1 < 9 by decide)
  have mv9_σ_2 : (σ_2.1 a 9).toInt = (σ_1.1 a 9).toInt := congrArg Int32.toInt (q_rdn hσ_2 (Or.inr (by decide)))
  have mv12_σ_2 : (σ_2.1 a 12).toInt = (σ_1.1 a 12).toInt := congrArg Int32.toInt (q_rdn hσ_2 (Or.inr (by decide)))
  have mv14_σ_2 : (σ_2.1 a 14).toInt = (σ_1.1 a 14).toInt := congrArg Int32.toInt (q_rdn hσ_2 (Or.inr (by decide)))
  have mv15_σ_2 : (σ_2.1 a 15).toInt = (σ_1.1 a 15).toInt := congrArg Int32.toInt (q_rdn hσ_2 (Or.inr (by decide)))
  have mv16_σ_2 : (σ_2.1 a 16).toInt = (σ_1.1 a 16).toInt := congrArg Int32.toInt (q_rdn hσ_2 (Or.inr (by decide)))
  have mv8_σ_2 : (σ_2.1 a 8).toInt = (σ_1.1 a 8).toInt := congrArg Int32.toInt (q_rdn hσ_2 (Or.inr (by decide)))
  have mcσ_2 := m_wo hσ_2 (m_ne ha (q_tk (f := 20) (k' := 34) hI ha rfl (by decide)) (by decide))
  have kpσ_2 : ∀ j, 0 ≤ j → j < 3720 → m_c X σ_2 a j = m_c X σ a j := fun j h0 h1 => (mcσ_2 j).trans (kpσ_1 j h0 h1)
  refine lv_aload_n hx hb dX12_table_10 rfl (lv_at hl 0 rfl) ?_
  refine lv_iload_n hx hb dX12_table_11 rfl (lv_at hl 1 rfl) ?_
  refine lv_sipush (v := 900) hx hb dX12_table_12 zks_900 ?_
  have kc_3 : (900 : Int32).toInt = 900 := zt_900
  refine q_ci (q_rV11_2 (rest := []) E (hml.trans hl.1.symm) hI (c_X12_opens l X σ_2 a v1 (900 : Int32) ha (by decide)) kv_X12_239 ha ⟨Nat.le_of_ble_eq_true rfl, Nat.le_of_ble_eq_true rfl⟩ (Nat.le_of_ble_eq_true rfl) dX12_table_15) hI (Nat.le_of_ble_eq_true rfl) (fun r_4 σ_5 H locs hpσ_5 hkσ_5 hI => ?_)
  have ahpσ_5 := hpσ_5.1
  have bhpσ_5 := hpσ_5.2.1
  have chpσ_5 := hpσ_5.2.2.1
  have dhpσ_5 := hpσ_5.2.2.2.1
  have ehpσ_5 := hpσ_5.2.2.2.2.1
  have fhpσ_5 := hpσ_5.2.2.2.2.2.1
  have ghpσ_5 := hpσ_5.2.2.2.2.2.2
  clear hpσ_5
  have fr_σ_5 := fr_σ_2.call ghpσ_5 rfl rfl
  replace hF := q_biX hF fhpσ_5
  have mcσ_5 := ehpσ_5
  have kpσ_5 : ∀ j, 0 ≤ j → j < 3720 → m_c X σ_5 a j = m_c X σ a j := fun j h0 h1 => (mcσ_5 j).trans (kpσ_2 j h0 h1)
  have ks_σ_5 : q_KS (fun b g => b = a ∧ 8 ≤ g ∧ g ≤ 18) 1 X σ σ_5 := ks_σ_2.KS bhpσ_5 (by decide) (fun b g h => ⟨h.1, by have := h.2; omega⟩)
  have so := chpσ_5
  have sf := dhpσ_5
  clear chpσ_5 dhpσ_5
  refine q_if_ne (A := r_4.toInt) E rfl (tgt := 23) dX12_table_18 (by decide) (fun c_6 => ?_) (fun c_6 => ?_)
  · skip
    replace hF := q_ifn hF c_6
    replace c_6 := q_ifOne ahpσ_5 c_6
    replace so := so (by omega)
    clear sf
    have smσ_5 : 0 ≤ (σ_5.1 a 15).toInt ∧ (σ_5.1 a 15).toInt ≤ (σ_5.1 a 16).toInt ∧ (σ_5.1 a 16).toInt ≤ (σ_5.1 a 9).toInt ∧ (σ_5.1 a 9).toInt ≤ 900 ∧ 0 ≤ (σ_5.1 a 14).toInt ∧ (σ_5.1 a 14).toInt ≤ 4 ∧ (σ_5.1 a 14).toInt ≤ 4 * ((σ_5.1 a 16).toInt - (σ_5.1 a 15).toInt) ∧ (σ_5.1 a 14).toInt ≤ 4 * ((σ_5.1 a 9).toInt - (σ_5.1 a 15).toInt) ∧ 0 ≤ (σ_5.1 a 12).toInt ∧ (σ_5.1 a 8).toInt = 0 := (by first | (clear hn tb8 mv9_σ_1 mv12_σ_1 mv14_σ_1 mv15_σ_1 mv16_σ_1 mv8_σ_1 mv9_σ_2 mv12_σ_2 mv14_σ_2 mv15_σ_2 mv16_σ_2 mv8_σ_2 kc_3 ahpσ_5 bhpσ_5 ehpσ_5 fhpσ_5 c_6; omega) | omega)
    have sv : 0 ≤ v1.toInt ∧ v1.toInt ≤ (σ.1 a 8).toInt := (by first | (clear hn tb8 mv9_σ_1 mv12_σ_1 mv14_σ_1 mv15_σ_1 mv16_σ_1 mv9_σ_2 mv12_σ_2 mv14_σ_2 mv15_σ_2 mv16_σ_2 ahpσ_5 bhpσ_5 ehpσ_5 fhpσ_5 c_6 smσ_5; omega) | omega)
    clear so
    refine lv_iconst (v := 0) hx hb dX12_table_23 zki_0 ?_
    refine lv_istore_n (lv' := [(2, .int 0), (0, .ref a), (1, .int v1)]) hx hb dX12_table_24 rfl hl (by decide) rfl (fun ls hl => ?_)
    have L_25_9 : ∀ (k_9 : Nat) (x_7 : Int32) (σ_8 : ST) (H : Heap) (locs : List Loc) (ls : Array Slot), (2147483647 - x_7.toInt).toNat < k_9 → (0 ≤ x_7.toInt ∧ x_7.toInt ≤ 930) → (∀ j, 3720 ≤ j → j < 3720 + x_7.toInt → m_c X σ_8 a j = 0) → (q_KS (fun b g => b = a ∧ 8 ≤ g ∧ g ≤ 18) 1 X σ σ_8) → (q_ow [(12, 0), (12, 1), (12, 8), (12, 9), (12, 10), (12, 11), (12, 12), (12, 13), (12, 14), (12, 15), (12, 16), (12, 17), (12, 18), (12, 25), (12, 26), (34, 99), (36, 99)] [(12, 19), (37, 99)] X σ σ_8) → (∀ j, 0 ≤ j → j < 3720 → m_c X σ_8 a j = m_c X σ a j) → (0 ≤ (σ_8.1 a 15).toInt ∧ (σ_8.1 a 15).toInt ≤ (σ_8.1 a 16).toInt ∧ (σ_8.1 a 16).toInt ≤ (σ_8.1 a 9).toInt ∧ (σ_8.1 a 9).toInt ≤ 900 ∧ 0 ≤ (σ_8.1 a 14).toInt ∧ (σ_8.1 a 14).toInt ≤ 4 ∧ (σ_8.1 a 14).toInt ≤ 4 * ((σ_8.1 a 16).toInt - (σ_8.1 a 15).toInt) ∧ (σ_8.1 a 14).toInt ≤ 4 * ((σ_8.1 a 9).toInt - (σ_8.1 a 15).toInt) ∧ 0 ≤ (σ_8.1 a 12).toInt ∧ (σ_8.1 a 8).toInt = 0) → (F_X12_table_L25_1 X a k_9 x_7 σ_8 = out) → q_I X 0 σ s.heap locs σ_8 H → lv_has ls 3 [(0, .ref a), (1, .int v1), (2, .int x_7)] → W p l e (q_rm 7 154) s m ([.ref a, .int v1] : List Value).toArray below meth c H locs 0 0 (MQ below (q_Qi X 0 σ (fun (r : Int32) (σ' : ST) => (q_KS (fun b g => b = a ∧ 8 ≤ g ∧ g ≤ 18) 1 X σ σ') ∧ (m_G (m_c X σ' a)) ∧ (m_W (m_c X σ' a) n) ∧ (∀ j, 930 ≤ j → j < 3720 → m_c X σ' a j = m_c X σ a j) ∧ ((v1.toInt < 0 ∨ (σ.1 a 8).toInt < v1.toInt) → (σ'.1 a 8).toInt = (σ.1 a 8).toInt) ∧ ((0 ≤ v1.toInt ∧ v1.toInt ≤ (σ.1 a 8).toInt) → (σ'.1 a 8).toInt = 0) ∧ (r, σ') = F_X12_table X σ a v1 ∧ q_ow [(12, 0), (12, 1), (12, 8), (12, 9), (12, 10), (12, 11), (12, 12), (12, 13), (12, 14), (12, 15), (12, 16), (12, 17), (12, 18), (12, 25), (12, 26), (34, 99), (36, 99)] [(12, 19), (37, 99)] X σ σ')) ([.ref a, .int v1] : List Value).toArray s 0 0 (q_reg X)) (F0 m 25 ls []) := by
      clear hF
      intro k_9
      induction k_9 with
      | zero =>
        intro x_7 σ_8 H locs ls hms
        try clear smσ_5
        exact absurd hms (Nat.not_lt_zero _)
      | succ k_9 ih25 =>
        intro x_7 σ_8 H locs ls hm25 hge25 hzσ_8 ks_σ_8 fr_σ_8 kpσ_8 smσ_8 hF hI hl
        replace hF := (F_X12_table_L25_1_s).symm.trans hF
        unfold F_X12_table_B25_1 at hF
        refine lv_iload_n hx hb dX12_table_25 rfl (lv_at hl 2 rfl) ?_
        refine lv_sipush (v := 930) hx hb dX12_table_26 zks_930 ?_
        have gc_10_x_7 := q_rng x_7
        refine q_icmp_ge (A := x_7.toInt) (B := 930) E rfl (by decide) (tgt := 49) dX12_table_29 (by decide) (fun c_10 => ?_) (fun c_10 => ?_)
        · skip
          replace hF := q_ifn hF (Int.not_lt.mpr c_10)
          skip
          have zzσ_8 : ∀ j, 3720 ≤ j → j < 4650 → m_c X σ_8 a j = 0 := fun j h0 h1 => hzσ_8 j h0 (by first | (clear hn tb8 mv9_σ_1 mv12_σ_1 mv14_σ_1 mv15_σ_1 mv16_σ_1 mv8_σ_1 mv9_σ_2 mv12_σ_2 mv14_σ_2 mv15_σ_2 mv16_σ_2 mv8_σ_2 kc_3 ahpσ_5 bhpσ_5 ehpσ_5 fhpσ_5 c_6 sv hm25 hzσ_8 smσ_8 gc_10_x_7; omega) | omega)
          refine lv_iconst (v := 0) hx hb dX12_table_49 zki_0 ?_
          refine lv_istore_n (lv' := [(2, .int 0), (0, .ref a), (1, .int v1)]) hx hb dX12_table_50 rfl hl (by decide) rfl (fun ls hl => ?_)
          have L_51_13 : ∀ (k_13 : Nat) (x_11 : Int32) (σ_12 : ST) (H : Heap) (locs : List Loc) (ls : Array Slot), (2147483647 - x_11.toInt).toNat < k_13 → (0 ≤ x_11.toInt ∧ x_11.toInt ≤ 60) → (q_KS (fun b g => b = a ∧ 8 ≤ g ∧ g ≤ 18) 1 X σ σ_12) → (q_ow [(12, 0), (12, 1), (12, 8), (12, 9), (12, 10), (12, 11), (12, 12), (12, 13), (12, 14), (12, 15), (12, 16), (12, 17), (12, 18), (12, 25), (12, 26), (34, 99), (36, 99)] [(12, 19), (37, 99)] X σ σ_12) → (∀ j, 0 ≤ j → j < 3720 → m_c X σ_12 a j = m_c X σ a j) → (0 ≤ (σ_12.1 a 15).toInt ∧ (σ_12.1 a 15).toInt ≤ (σ_12.1 a 16).toInt ∧ (σ_12.1 a 16).toInt ≤ (σ_12.1 a 9).toInt ∧ (σ_12.1 a 9).toInt ≤ 900 ∧ 0 ≤ (σ_12.1 a 14).toInt ∧ (σ_12.1 a 14).toInt ≤ 4 ∧ (σ_12.1 a 14).toInt ≤ 4 * ((σ_12.1 a 16).toInt - (σ_12.1 a 15).toInt) ∧ (σ_12.1 a 14).toInt ≤ 4 * ((σ_12.1 a 9).toInt - (σ_12.1 a 15).toInt) ∧ 0 ≤ (σ_12.1 a 12).toInt ∧ (σ_12.1 a 8).toInt = 0) → (∀ j, 3720 ≤ j → j < 4650 → m_c X σ_12 a j = 0) → (F_X12_table_L51_3 X a k_13 x_11 σ_12 = out) → q_I X 0 σ s.heap locs σ_12 H → lv_has ls 3 [(0, .ref a), (1, .int v1), (2, .int x_11)] → W p l e (q_rm 7 154) s m ([.ref a, .int v1] : List Value).toArray below meth c H locs 0 0 (MQ below (q_Qi X 0 σ (fun (r : Int32) (σ' : ST) => (q_KS (fun b g => b = a ∧ 8 ≤ g ∧ g ≤ 18) 1 X σ σ') ∧ (m_G (m_c X σ' a)) ∧ (m_W (m_c X σ' a) n) ∧ (∀ j, 930 ≤ j → j < 3720 → m_c X σ' a j = m_c X σ a j) ∧ ((v1.toInt < 0 ∨ (σ.1 a 8).toInt < v1.toInt) → (σ'.1 a 8).toInt = (σ.1 a 8).toInt) ∧ ((0 ≤ v1.toInt ∧ v1.toInt ≤ (σ.1 a 8).toInt) → (σ'.1 a 8).toInt = 0) ∧ (r, σ') = F_X12_table X σ a v1 ∧ q_ow [(12, 0), (12, 1), (12, 8), (12, 9), (12, 10), (12, 11), (12, 12), (12, 13), (12, 14), (12, 15), (12, 16), (12, 17), (12, 18), (12, 25), (12, 26), (34, 99), (36, 99)] [(12, 19), (37, 99)] X σ σ')) ([.ref a, .int v1] : List Value).toArray s 0 0 (q_reg X)) (F0 m 51 ls []) := by
            clear hF
            intro k_13
            induction k_13 with
            | zero =>
              intro x_11 σ_12 H locs ls hms
              try clear zzσ_8
              exact absurd hms (Nat.not_lt_zero _)
            | succ k_13 ih51 =>
              intro x_11 σ_12 H locs ls hm51 hge51 ks_σ_12 fr_σ_12 kpσ_12 smσ_12 zzσ_12 hF hI hl
              replace hF := (F_X12_table_L51_3_s).symm.trans hF
              unfold F_X12_table_B51_3 at hF
              refine lv_iload_n hx hb dX12_table_51 rfl (lv_at hl 2 rfl) ?_
              refine lv_bipush (v := 60) hx hb dX12_table_52 zkb_60 ?_
              have gc_14_x_11 := q_rng x_11
              refine q_icmp_ge (A := x_11.toInt) (B := 60) E rfl (by decide) (tgt := 70) dX12_table_54 (by decide) (fun c_14 => ?_) (fun c_14 => ?_)
              · skip
                replace hF := q_ifn hF (Int.not_lt.mpr c_14)
                unfold F_X12_table_E70_7 at hF
                refine lv_aload_n hx hb dX12_table_70 rfl (lv_at hl 0 rfl) ?_
                refine lv_iconst (v := 0) hx hb dX12_table_71 zki_0 ?_
                refine ps_X12_232_12 E hI ha (by decide) (by decide) (by decide) dX12_table_72 (fun H locs σ_15 hσ_15 hI => ?_)
                replace hF := q_letX hF hσ_15
                have fr_σ_15 := fr_σ_12.si hσ_15 ha rfl
                have ks_σ_15 : q_KS (fun b g => b = a ∧ 8 ≤ g ∧ g ≤ 18) 1 X σ σ_15 := ks_σ_12.si hσ_15 ha (show 1 < 3 by decide)
                have mv9_σ_15 : (σ_15.1 a 9).toInt = (σ_12.1 a 9).toInt := congrArg Int32.toInt (q_rdn hσ_15 (Or.inr (by decide)))
                have mv12_σ_15 : (σ_15.1 a 12).toInt = (σ_12.1 a 12).toInt := congrArg Int32.toInt (q_rdn hσ_15 (Or.inr (by decide)))
                have mv14_σ_15 : (σ_15.1 a 14).toInt = (σ_12.1 a 14).toInt := congrArg Int32.toInt (q_rdn hσ_15 (Or.inr (by decide)))
                have mv15_σ_15 : (σ_15.1 a 15).toInt = (σ_12.1 a 15).toInt := congrArg Int32.toInt (q_rdn hσ_15 (Or.inr (by decide)))
                have mv16_σ_15 : (σ_15.1 a 16).toInt = (σ_12.1 a 16).toInt := congrArg Int32.toInt (q_rdn hσ_15 (Or.inr (by decide)))
                have mv8_σ_15 : (σ_15.1 a 8).toInt = (σ_12.1 a 8).toInt := congrArg Int32.toInt (q_rdn hσ_15 (Or.inr (by decide)))
                have mcσ_15 := m_wo hσ_15 (m_ne ha (q_tk (f := 20) (k' := 34) hI ha rfl (by decide)) (by decide))
                have kpσ_15 : ∀ j, 0 ≤ j → j < 3720 → m_c X σ_15 a j = m_c X σ a j := fun j h0 h1 => (mcσ_15 j).trans (kpσ_12 j h0 h1)
                have smσ_15 : 0 ≤ (σ_15.1 a 15).toInt ∧ (σ_15.1 a 15).toInt ≤ (σ_15.1 a 16).toInt ∧ (σ_15.1 a 16).toInt ≤ (σ_15.1 a 9).toInt ∧ (σ_15.1 a 9).toInt ≤ 900 ∧ 0 ≤ (σ_15.1 a 14).toInt ∧ (σ_15.1 a 14).toInt ≤ 4 ∧ (σ_15.1 a 14).toInt ≤ 4 * ((σ_15.1 a 16).toInt - (σ_15.1 a 15).toInt) ∧ (σ_15.1 a 14).toInt ≤ 4 * ((σ_15.1 a 9).toInt - (σ_15.1 a 15).toInt) ∧ 0 ≤ (σ_15.1 a 12).toInt ∧ (σ_15.1 a 8).toInt = 0 := (by first | (rw [mv12_σ_15, mv14_σ_15, mv15_σ_15, mv16_σ_15, mv8_σ_15, mv9_σ_15]; exact smσ_12) | omega)
                have zzσ_15 : ∀ j, 3720 ≤ j → j < 4650 → m_c X σ_15 a j = 0 := fun j h0 h1 => (mcσ_15 j).trans (zzσ_12 j h0 h1)
                clear mv9_σ_15 mv12_σ_15 mv14_σ_15 mv15_σ_15 mv16_σ_15 mv8_σ_15 smσ_12
                refine lv_aload_n hx hb dX12_table_75 rfl (lv_at hl 0 rfl) ?_
                refine lv_iconst (v := 0) hx hb dX12_table_76 zki_0 ?_
                refine ps_X12_236_12 E hI ha (by decide) (by decide) (by decide) dX12_table_77 (fun H locs σ_16 hσ_16 hI => ?_)
                replace hF := q_letX hF hσ_16
                have fr_σ_16 := fr_σ_15.si hσ_16 ha rfl
                have ks_σ_16 : q_KS (fun b g => b = a ∧ 8 ≤ g ∧ g ≤ 18) 1 X σ σ_16 := ks_σ_15.si hσ_16 ha (show 1 < 3 by decide)
                have mv9_σ_16 : (σ_16.1 a 9).toInt = (σ_15.1 a 9).toInt := congrArg Int32.toInt (q_rdn hσ_16 (Or.inr (by decide)))
                have mv12_σ_16 : (σ_16.1 a 12).toInt = (σ_15.1 a 12).toInt := congrArg Int32.toInt (q_rdn hσ_16 (Or.inr (by decide)))
                have mv14_σ_16 : (σ_16.1 a 14).toInt = (σ_15.1 a 14).toInt := congrArg Int32.toInt (q_rdn hσ_16 (Or.inr (by decide)))
                have mv15_σ_16 : (σ_16.1 a 15).toInt = (σ_15.1 a 15).toInt := congrArg Int32.toInt (q_rdn hσ_16 (Or.inr (by decide)))
                have mv16_σ_16 : (σ_16.1 a 16).toInt = (σ_15.1 a 16).toInt := congrArg Int32.toInt (q_rdn hσ_16 (Or.inr (by decide)))
                have mv8_σ_16 : (σ_16.1 a 8).toInt = (σ_15.1 a 8).toInt := congrArg Int32.toInt (q_rdn hσ_16 (Or.inr (by decide)))
                have mcσ_16 := m_wo hσ_16 (m_ne ha (q_tk (f := 20) (k' := 34) hI ha rfl (by decide)) (by decide))
                have kpσ_16 : ∀ j, 0 ≤ j → j < 3720 → m_c X σ_16 a j = m_c X σ a j := fun j h0 h1 => (mcσ_16 j).trans (kpσ_15 j h0 h1)
                have smσ_16 : 0 ≤ (σ_16.1 a 15).toInt ∧ (σ_16.1 a 15).toInt ≤ (σ_16.1 a 16).toInt ∧ (σ_16.1 a 16).toInt ≤ (σ_16.1 a 9).toInt ∧ (σ_16.1 a 9).toInt ≤ 900 ∧ 0 ≤ (σ_16.1 a 14).toInt ∧ (σ_16.1 a 14).toInt ≤ 4 ∧ (σ_16.1 a 14).toInt ≤ 4 * ((σ_16.1 a 16).toInt - (σ_16.1 a 15).toInt) ∧ (σ_16.1 a 14).toInt ≤ 4 * ((σ_16.1 a 9).toInt - (σ_16.1 a 15).toInt) ∧ 0 ≤ (σ_16.1 a 12).toInt ∧ (σ_16.1 a 8).toInt = 0 := (by first | (rw [mv12_σ_16, mv14_σ_16, mv15_σ_16, mv16_σ_16, mv8_σ_16, mv9_σ_16]; exact smσ_15) | omega)
                have zzσ_16 : ∀ j, 3720 ≤ j → j < 4650 → m_c X σ_16 a j = 0 := fun j h0 h1 => (mcσ_16 j).trans (zzσ_15 j h0 h1)
                clear mv9_σ_16 mv12_σ_16 mv14_σ_16 mv15_σ_16 mv16_σ_16 mv8_σ_16 smσ_15
                refine lv_aload_n hx hb dX12_table_80 rfl (lv_at hl 0 rfl) ?_
                refine gs_X12_35_12 E hI ha dX12_table_81 ?_
                refine lv_sipush (v := 3724) hx hb dX12_table_84 zks_3724 ?_
                refine lv_iconst (v := 4) hx hb dX12_table_87 zki_4 ?_
                refine q_iastN E hI (q_tk (k' := 34) hI ha rfl (Nat.succ_ne_zero _)) ⟨by decide, rfl⟩ (by decide) (by rw [q_lnk (v := 4650) hI (q_tk (k' := 34) hI ha rfl (Nat.succ_ne_zero _)) rfl (by decide)]; decide) (show 0 < 2 by decide) (q_inU rfl) dX12_table_88 (fun H locs σ_17 hσ_17 hI => ?_)
                replace hF := q_letX hF hσ_17
                have fr_σ_17 := fr_σ_16.si hσ_17 (q_tk (k' := 34) hI ha rfl (Nat.succ_ne_zero _)) rfl
                have mv9_σ_17 : (σ_17.1 a 9).toInt = (σ_16.1 a 9).toInt := congrArg Int32.toInt (q_rdn hσ_17 (Or.inl (m_ne ha (q_tk (k' := 34) hI ha rfl (Nat.succ_ne_zero _)) (by decide))))
                have mv12_σ_17 : (σ_17.1 a 12).toInt = (σ_16.1 a 12).toInt := congrArg Int32.toInt (q_rdn hσ_17 (Or.inl (m_ne ha (q_tk (k' := 34) hI ha rfl (Nat.succ_ne_zero _)) (by decide))))
                have mv14_σ_17 : (σ_17.1 a 14).toInt = (σ_16.1 a 14).toInt := congrArg Int32.toInt (q_rdn hσ_17 (Or.inl (m_ne ha (q_tk (k' := 34) hI ha rfl (Nat.succ_ne_zero _)) (by decide))))
                have mv15_σ_17 : (σ_17.1 a 15).toInt = (σ_16.1 a 15).toInt := congrArg Int32.toInt (q_rdn hσ_17 (Or.inl (m_ne ha (q_tk (k' := 34) hI ha rfl (Nat.succ_ne_zero _)) (by decide))))
                have mv16_σ_17 : (σ_17.1 a 16).toInt = (σ_16.1 a 16).toInt := congrArg Int32.toInt (q_rdn hσ_17 (Or.inl (m_ne ha (q_tk (k' := 34) hI ha rfl (Nat.succ_ne_zero _)) (by decide))))
                have mv8_σ_17 : (σ_17.1 a 8).toInt = (σ_16.1 a 8).toInt := congrArg Int32.toInt (q_rdn hσ_17 (Or.inl (m_ne ha (q_tk (k' := 34) hI ha rfl (Nat.succ_ne_zero _)) (by decide))))
                have ks_σ_17 : q_KS (fun b g => b = a ∧ 8 ≤ g ∧ g ≤ 18) 1 X σ σ_17 := ks_σ_16.si hσ_17 (q_tk (k' := 34) hI ha rfl (Nat.succ_ne_zero _)) (show 1 < 2 by decide)
                have mcσ_17 := m_wr (v := (4 : Int32)) (A := 3724) hσ_17 (by decide) (by decide)
                have kpσ_17 : ∀ j, 0 ≤ j → j < 3720 → m_c X σ_17 a j = m_c X σ a j := fun j h0 h1 => by rw [mcσ_17 j h0, if_neg (by first | (clear hn tb8 mv9_σ_1 mv12_σ_1 mv14_σ_1 mv15_σ_1 mv16_σ_1 mv8_σ_1 mv9_σ_2 mv12_σ_2 mv14_σ_2 mv15_σ_2 mv16_σ_2 mv8_σ_2 kc_3 ahpσ_5 bhpσ_5 ehpσ_5 fhpσ_5 c_6 sv hm25 hge25 hzσ_8 smσ_8 gc_10_x_7 c_10 hm51 hge51 gc_14_x_11 c_14 smσ_16 mv9_σ_17 mv12_σ_17 mv14_σ_17 mv15_σ_17 mv16_σ_17 mv8_σ_17; omega) | omega)]; exact kpσ_16 j h0 h1
                have smσ_17 : 0 ≤ (σ_17.1 a 15).toInt ∧ (σ_17.1 a 15).toInt ≤ (σ_17.1 a 16).toInt ∧ (σ_17.1 a 16).toInt ≤ (σ_17.1 a 9).toInt ∧ (σ_17.1 a 9).toInt ≤ 900 ∧ 0 ≤ (σ_17.1 a 14).toInt ∧ (σ_17.1 a 14).toInt ≤ 4 ∧ (σ_17.1 a 14).toInt ≤ 4 * ((σ_17.1 a 16).toInt - (σ_17.1 a 15).toInt) ∧ (σ_17.1 a 14).toInt ≤ 4 * ((σ_17.1 a 9).toInt - (σ_17.1 a 15).toInt) ∧ 0 ≤ (σ_17.1 a 12).toInt ∧ (σ_17.1 a 8).toInt = 0 := (by first | (rw [mv12_σ_17, mv14_σ_17, mv15_σ_17, mv16_σ_17, mv8_σ_17, mv9_σ_17]; exact smσ_16) | omega)
                have zhσ_17 : ∀ j, 3754 ≤ j → j < 3814 → m_c X σ_17 a j = 0 := fun j h0 h1 => by rw [mcσ_17 j (by first | (clear hn tb8 mv9_σ_1 mv12_σ_1 mv14_σ_1 mv15_σ_1 mv16_σ_1 mv8_σ_1 mv9_σ_2 mv12_σ_2 mv14_σ_2 mv15_σ_2 mv16_σ_2 mv8_σ_2 kc_3 ahpσ_5 bhpσ_5 ehpσ_5 fhpσ_5 c_6 sv hm25 hge25 hzσ_8 smσ_8 gc_10_x_7 c_10 hm51 hge51 gc_14_x_11 c_14 smσ_16 mv9_σ_17 mv12_σ_17 mv14_σ_17 mv15_σ_17 mv16_σ_17 mv8_σ_17 smσ_17; omega) | omega), if_neg (by first | (clear hn tb8 mv9_σ_1 mv12_σ_1 mv14_σ_1 mv15_σ_1 mv16_σ_1 mv8_σ_1 mv9_σ_2 mv12_σ_2 mv14_σ_2 mv15_σ_2 mv16_σ_2 mv8_σ_2 kc_3 ahpσ_5 bhpσ_5 ehpσ_5 fhpσ_5 c_6 sv hm25 hge25 hzσ_8 smσ_8 gc_10_x_7 c_10 hm51 hge51 gc_14_x_11 c_14 smσ_16 mv9_σ_17 mv12_σ_17 mv14_σ_17 mv15_σ_17 mv16_σ_17 mv8_σ_17 smσ_17; omega) | omega)]; exact zzσ_16 j (by first | (clear hn tb8 mv9_σ_1 mv12_σ_1 mv14_σ_1 mv15_σ_1 mv16_σ_1 mv8_σ_1 mv9_σ_2 mv12_σ_2 mv14_σ_2 mv15_σ_2 mv16_σ_2 mv8_σ_2 kc_3 ahpσ_5 bhpσ_5 ehpσ_5 fhpσ_5 c_6 sv hm25 hge25 hzσ_8 smσ_8 gc_10_x_7 c_10 hm51 hge51 gc_14_x_11 c_14 smσ_16 mv9_σ_17 mv12_σ_17 mv14_σ_17 mv15_σ_17 mv16_σ_17 mv8_σ_17 smσ_17; omega) | omega) (by first | (clear hn tb8 mv9_σ_1 mv12_σ_1 mv14_σ_1 mv15_σ_1 mv16_σ_1 mv8_σ_1 mv9_σ_2 mv12_σ_2 mv14_σ_2 mv15_σ_2 mv16_σ_2 mv8_σ_2 kc_3 ahpσ_5 bhpσ_5 ehpσ_5 fhpσ_5 c_6 sv hm25 hge25 hzσ_8 smσ_8 gc_10_x_7 c_10 hm51 hge51 gc_14_x_11 c_14 smσ_16 mv9_σ_17 mv12_σ_17 mv14_σ_17 mv15_σ_17 mv16_σ_17 mv8_σ_17 smσ_17; omega) | omega)
                have nnσ_17 : m_N (m_c X σ_17 a) := m_N.new zzσ_16 mcσ_17 rfl
                have k4σ_17 : 1 ≤ m_c X σ_17 a 3724 + 10 * (σ_17.1 a 12).toInt := (by have := mcσ_17 3724 (by decide); rw [if_pos rfl] at this; have q : (4 : Int32).toInt = 4 := rfl; omega)
                clear mv9_σ_17 mv12_σ_17 mv14_σ_17 mv15_σ_17 mv16_σ_17 mv8_σ_17 smσ_16
                refine lv_aload_n hx hb dX12_table_89 rfl (lv_at hl 0 rfl) ?_
                refine lv_aload_n hx hb dX12_table_90 rfl (lv_at hl 0 rfl) ?_
                refine q_ci (q_rV11_0 (rest := [.ref a]) E (hml.trans hl.1.symm) hI (c_X12_isKinds l X σ_17 a ha) kv_X12_150 ha ⟨Nat.le_of_ble_eq_true rfl, Nat.le_of_ble_eq_true rfl⟩ (Nat.le_of_ble_eq_true rfl) dX12_table_91) hI (Nat.le_of_ble_eq_true rfl) (fun r_18 σ_19 H locs hpσ_19 hkσ_19 hI => ?_)
                have ahpσ_19 := hpσ_19.1
                have bhpσ_19 := hpσ_19.2.1
                have chpσ_19 := hpσ_19.2.2
                clear hpσ_19
                replace hI := q_Irw ahpσ_19 hI
                replace hF := q_letX hF chpσ_19
                refine q_cv (q_rV11_1 (rest := []) E (hml.trans hl.1.symm) hI (c_X12_must l X σ_17 a r_18 ha (by first | exact sm_9 smσ_17 | exact hs | omega) (by first | (clear hn tb8 mv9_σ_1 mv12_σ_1 mv14_σ_1 mv15_σ_1 mv16_σ_1 mv8_σ_1 mv9_σ_2 mv12_σ_2 mv14_σ_2 mv15_σ_2 mv16_σ_2 mv8_σ_2 kc_3 ahpσ_5 bhpσ_5 ehpσ_5 fhpσ_5 c_6 sv hm25 hge25 hzσ_8 smσ_8 gc_10_x_7 c_10 hm51 hge51 gc_14_x_11 c_14 smσ_17 k4σ_17 ahpσ_19 chpσ_19; omega) | omega)) kv_X12_216 ha ⟨Nat.le_of_ble_eq_true rfl, Nat.le_of_ble_eq_true rfl⟩ (Nat.le_of_ble_eq_true rfl) dX12_table_94) hI (Nat.le_of_ble_eq_true rfl) (fun σ_21 H locs hpσ_21 hkσ_21 hI => ?_)
                have ahpσ_21 := hpσ_21.1
                have bhpσ_21 := hpσ_21.2.1
                have chpσ_21 := hpσ_21.2.2.1
                have dhpσ_21 := hpσ_21.2.2.2.1
                have ehpσ_21 := hpσ_21.2.2.2.2
                clear hpσ_21
                have fr_σ_21 := fr_σ_17.call ehpσ_21 rfl rfl
                replace hF := q_letX hF dhpσ_21
                have mv8_σ_21 : (σ_21.1 a 8).toInt = (σ_17.1 a 8).toInt := congrArg Int32.toInt (hkσ_21 a 8 (by rw [ha]; decide))
                have mcσ_21 := m_cK hkσ_21 hI.1 ha (by decide)
                have kpσ_21 : ∀ j, 0 ≤ j → j < 3720 → m_c X σ_21 a j = m_c X σ a j := fun j h0 h1 => (mcσ_21 j).trans (kpσ_17 j h0 h1)
                have smσ_21 : 0 ≤ (σ_21.1 a 15).toInt ∧ (σ_21.1 a 15).toInt ≤ (σ_21.1 a 16).toInt ∧ (σ_21.1 a 16).toInt ≤ (σ_21.1 a 9).toInt ∧ (σ_21.1 a 9).toInt ≤ 900 ∧ 0 ≤ (σ_21.1 a 14).toInt ∧ (σ_21.1 a 14).toInt ≤ 4 ∧ (σ_21.1 a 14).toInt ≤ 4 * ((σ_21.1 a 16).toInt - (σ_21.1 a 15).toInt) ∧ (σ_21.1 a 14).toInt ≤ 4 * ((σ_21.1 a 9).toInt - (σ_21.1 a 15).toInt) ∧ 0 ≤ (σ_21.1 a 12).toInt ∧ (σ_21.1 a 8).toInt = 0 := (by first | (clear hn tb8 mv9_σ_1 mv12_σ_1 mv14_σ_1 mv15_σ_1 mv16_σ_1 mv8_σ_1 mv9_σ_2 mv12_σ_2 mv14_σ_2 mv15_σ_2 mv16_σ_2 mv8_σ_2 kc_3 ahpσ_5 bhpσ_5 ehpσ_5 fhpσ_5 c_6 sv hm25 hge25 hzσ_8 smσ_8 gc_10_x_7 c_10 hm51 hge51 gc_14_x_11 c_14 k4σ_17 ahpσ_19 bhpσ_19 chpσ_19 ahpσ_21 chpσ_21 dhpσ_21 ehpσ_21; omega) | omega)
                have zhσ_21 : ∀ j, 3754 ≤ j → j < 3814 → m_c X σ_21 a j = 0 := fun j h0 h1 => (mcσ_21 j).trans (zhσ_17 j h0 h1)
                have nnσ_21 : m_N (m_c X σ_21 a) := m_N.ext mcσ_21 nnσ_17
                have k4σ_21 : 1 ≤ m_c X σ_21 a 3724 + 10 * (σ_21.1 a 12).toInt := (by have := mcσ_21 3724; omega)
                clear mv8_σ_21 smσ_17 k4σ_17 bhpσ_21
                have ks_σ_21 : q_KS (fun b g => b = a ∧ 8 ≤ g ∧ g ≤ 18) 1 X σ σ_21 := ks_σ_17.K hkσ_21 (by decide)
                refine lv_aload_n hx hb dX12_table_97 rfl (lv_at hl 0 rfl) ?_
                refine gs_X12_35_12 E hI ha dX12_table_98 ?_
                refine lv_sipush (v := 3720) hx hb dX12_table_101 zks_3720 ?_
                refine lv_aload_n hx hb dX12_table_104 rfl (lv_at hl 0 rfl) ?_
                refine lv_iconst (v := 2) hx hb dX12_table_105 zki_2 ?_
                refine lv_bipush (v := 10) hx hb dX12_table_106 zkb_10 ?_
                have kc_22 : (2 : Int32).toInt = 2 := zt_2
                have kc_23 : (10 : Int32).toInt = 10 := zt_10
                refine q_ci (q_rV11_2 (rest := [.int 3720, .ref (q_rf X a 20)]) E (hml.trans hl.1.symm) hI (c_X12_count l X σ_21 a (2 : Int32) (10 : Int32) ha (by first | exact sm_9 smσ_21 | exact hs | omega) (by first | (clear hn tb8 mv9_σ_1 mv12_σ_1 mv14_σ_1 mv15_σ_1 mv16_σ_1 mv8_σ_1 mv9_σ_2 mv12_σ_2 mv14_σ_2 mv15_σ_2 mv16_σ_2 mv8_σ_2 kc_3 ahpσ_5 bhpσ_5 ehpσ_5 fhpσ_5 c_6 sv hm25 hge25 hzσ_8 smσ_8 gc_10_x_7 c_10 hm51 hge51 gc_14_x_11 c_14 ahpσ_19 bhpσ_19 chpσ_19 ahpσ_21 chpσ_21 dhpσ_21 ehpσ_21 smσ_21 k4σ_21; omega) | omega)) kv_X12_223 ha ⟨Nat.le_of_ble_eq_true rfl, Nat.le_of_ble_eq_true rfl⟩ (Nat.le_of_ble_eq_true rfl) dX12_table_108) hI (Nat.le_of_ble_eq_true rfl) (fun r_24 σ_25 H locs hpσ_25 hkσ_25 hI => ?_)
                have ahpσ_25 := hpσ_25.1
                have bhpσ_25 := hpσ_25.2.1
                have chpσ_25 := hpσ_25.2.2.1
                have dhpσ_25 := hpσ_25.2.2.2.1
                have ehpσ_25 := hpσ_25.2.2.2.2
                clear hpσ_25
                have fr_σ_25 := fr_σ_21.call ehpσ_25 rfl rfl
                replace hF := q_biX hF dhpσ_25
                have mv8_σ_25 : (σ_25.1 a 8).toInt = (σ_21.1 a 8).toInt := congrArg Int32.toInt (hkσ_25 a 8 (by rw [ha]; decide))
                have mcσ_25 := m_cK hkσ_25 hI.1 ha (by decide)
                have kpσ_25 : ∀ j, 0 ≤ j → j < 3720 → m_c X σ_25 a j = m_c X σ a j := fun j h0 h1 => (mcσ_25 j).trans (kpσ_21 j h0 h1)
                have smσ_25 : 0 ≤ (σ_25.1 a 15).toInt ∧ (σ_25.1 a 15).toInt ≤ (σ_25.1 a 16).toInt ∧ (σ_25.1 a 16).toInt ≤ (σ_25.1 a 9).toInt ∧ (σ_25.1 a 9).toInt ≤ 900 ∧ 0 ≤ (σ_25.1 a 14).toInt ∧ (σ_25.1 a 14).toInt ≤ 4 ∧ (σ_25.1 a 14).toInt ≤ 4 * ((σ_25.1 a 16).toInt - (σ_25.1 a 15).toInt) ∧ (σ_25.1 a 14).toInt ≤ 4 * ((σ_25.1 a 9).toInt - (σ_25.1 a 15).toInt) ∧ 0 ≤ (σ_25.1 a 12).toInt ∧ (σ_25.1 a 8).toInt = 0 := (by first | (clear hn tb8 mv9_σ_1 mv12_σ_1 mv14_σ_1 mv15_σ_1 mv16_σ_1 mv8_σ_1 mv9_σ_2 mv12_σ_2 mv14_σ_2 mv15_σ_2 mv16_σ_2 mv8_σ_2 kc_3 ahpσ_5 bhpσ_5 ehpσ_5 fhpσ_5 c_6 sv hm25 hge25 hzσ_8 smσ_8 gc_10_x_7 c_10 hm51 hge51 gc_14_x_11 c_14 ahpσ_19 bhpσ_19 chpσ_19 ahpσ_21 chpσ_21 dhpσ_21 ehpσ_21 k4σ_21 kc_22 kc_23 ahpσ_25 chpσ_25 dhpσ_25 ehpσ_25; omega) | omega)
                have zhσ_25 : ∀ j, 3754 ≤ j → j < 3814 → m_c X σ_25 a j = 0 := fun j h0 h1 => (mcσ_25 j).trans (zhσ_21 j h0 h1)
                have nnσ_25 : m_N (m_c X σ_25 a) := m_N.ext mcσ_25 nnσ_21
                have k4σ_25 : 1 ≤ m_c X σ_25 a 3724 + 10 * (σ_25.1 a 12).toInt := (by have := mcσ_25 3724; omega)
                clear mv8_σ_25 smσ_21 k4σ_21 bhpσ_25
                have ks_σ_25 : q_KS (fun b g => b = a ∧ 8 ≤ g ∧ g ≤ 18) 1 X σ σ_25 := ks_σ_21.K hkσ_25 (by decide)
                refine q_iastN E hI (q_tk (k' := 34) hI ha rfl (Nat.succ_ne_zero _)) ⟨by decide, rfl⟩ (by decide) (by rw [q_lnk (v := 4650) hI (q_tk (k' := 34) hI ha rfl (Nat.succ_ne_zero _)) rfl (by decide)]; decide) (show 0 < 2 by decide) (q_inU rfl) dX12_table_111 (fun H locs σ_26 hσ_26 hI => ?_)
                replace hF := q_letX hF hσ_26
                have fr_σ_26 := fr_σ_25.si hσ_26 (q_tk (k' := 34) hI ha rfl (Nat.succ_ne_zero _)) rfl
                have mv9_σ_26 : (σ_26.1 a 9).toInt = (σ_25.1 a 9).toInt := congrArg Int32.toInt (q_rdn hσ_26 (Or.inl (m_ne ha (q_tk (k' := 34) hI ha rfl (Nat.succ_ne_zero _)) (by decide))))
                have mv12_σ_26 : (σ_26.1 a 12).toInt = (σ_25.1 a 12).toInt := congrArg Int32.toInt (q_rdn hσ_26 (Or.inl (m_ne ha (q_tk (k' := 34) hI ha rfl (Nat.succ_ne_zero _)) (by decide))))
                have mv14_σ_26 : (σ_26.1 a 14).toInt = (σ_25.1 a 14).toInt := congrArg Int32.toInt (q_rdn hσ_26 (Or.inl (m_ne ha (q_tk (k' := 34) hI ha rfl (Nat.succ_ne_zero _)) (by decide))))
                have mv15_σ_26 : (σ_26.1 a 15).toInt = (σ_25.1 a 15).toInt := congrArg Int32.toInt (q_rdn hσ_26 (Or.inl (m_ne ha (q_tk (k' := 34) hI ha rfl (Nat.succ_ne_zero _)) (by decide))))
                have mv16_σ_26 : (σ_26.1 a 16).toInt = (σ_25.1 a 16).toInt := congrArg Int32.toInt (q_rdn hσ_26 (Or.inl (m_ne ha (q_tk (k' := 34) hI ha rfl (Nat.succ_ne_zero _)) (by decide))))
                have mv8_σ_26 : (σ_26.1 a 8).toInt = (σ_25.1 a 8).toInt := congrArg Int32.toInt (q_rdn hσ_26 (Or.inl (m_ne ha (q_tk (k' := 34) hI ha rfl (Nat.succ_ne_zero _)) (by decide))))
                have ks_σ_26 : q_KS (fun b g => b = a ∧ 8 ≤ g ∧ g ≤ 18) 1 X σ σ_26 := ks_σ_25.si hσ_26 (q_tk (k' := 34) hI ha rfl (Nat.succ_ne_zero _)) (show 1 < 2 by decide)
                have mcσ_26 := m_wr (v := r_24) (A := 3720) hσ_26 (by decide) (by decide)
                have kpσ_26 : ∀ j, 0 ≤ j → j < 3720 → m_c X σ_26 a j = m_c X σ a j := fun j h0 h1 => by rw [mcσ_26 j h0, if_neg (by first | (clear hn tb8 mv9_σ_1 mv12_σ_1 mv14_σ_1 mv15_σ_1 mv16_σ_1 mv8_σ_1 mv9_σ_2 mv12_σ_2 mv14_σ_2 mv15_σ_2 mv16_σ_2 mv8_σ_2 kc_3 ahpσ_5 bhpσ_5 ehpσ_5 fhpσ_5 c_6 sv hm25 hge25 hzσ_8 smσ_8 gc_10_x_7 c_10 hm51 hge51 gc_14_x_11 c_14 ahpσ_19 bhpσ_19 chpσ_19 ahpσ_21 chpσ_21 dhpσ_21 ehpσ_21 kc_22 kc_23 ahpσ_25 chpσ_25 dhpσ_25 ehpσ_25 smσ_25 k4σ_25 mv9_σ_26 mv12_σ_26 mv14_σ_26 mv15_σ_26 mv16_σ_26 mv8_σ_26; omega) | omega)]; exact kpσ_25 j h0 h1
                have smσ_26 : 0 ≤ (σ_26.1 a 15).toInt ∧ (σ_26.1 a 15).toInt ≤ (σ_26.1 a 16).toInt ∧ (σ_26.1 a 16).toInt ≤ (σ_26.1 a 9).toInt ∧ (σ_26.1 a 9).toInt ≤ 900 ∧ 0 ≤ (σ_26.1 a 14).toInt ∧ (σ_26.1 a 14).toInt ≤ 4 ∧ (σ_26.1 a 14).toInt ≤ 4 * ((σ_26.1 a 16).toInt - (σ_26.1 a 15).toInt) ∧ (σ_26.1 a 14).toInt ≤ 4 * ((σ_26.1 a 9).toInt - (σ_26.1 a 15).toInt) ∧ 0 ≤ (σ_26.1 a 12).toInt ∧ (σ_26.1 a 8).toInt = 0 := (by first | (rw [mv12_σ_26, mv14_σ_26, mv15_σ_26, mv16_σ_26, mv8_σ_26, mv9_σ_26]; exact smσ_25) | omega)
                have nnσ_26 : m_N (m_c X σ_26 a) := m_N.w0 nnσ_25 zhσ_25 mcσ_26 (by first | (clear hn tb8 mv9_σ_1 mv12_σ_1 mv14_σ_1 mv15_σ_1 mv16_σ_1 mv8_σ_1 mv9_σ_2 mv12_σ_2 mv14_σ_2 mv15_σ_2 mv16_σ_2 mv8_σ_2 kc_3 ahpσ_5 bhpσ_5 ehpσ_5 fhpσ_5 c_6 sv hm25 hge25 hzσ_8 smσ_8 gc_10_x_7 c_10 hm51 hge51 gc_14_x_11 c_14 ahpσ_19 bhpσ_19 chpσ_19 ahpσ_21 chpσ_21 dhpσ_21 ehpσ_21 kc_22 ahpσ_25 dhpσ_25 ehpσ_25 smσ_25 k4σ_25 mv9_σ_26 mv12_σ_26 mv14_σ_26 mv15_σ_26 mv16_σ_26 mv8_σ_26 smσ_26; omega) | omega)
                have k0σ_26 : 2 ≤ m_c X σ_26 a 3720 + 10 * (σ_26.1 a 12).toInt := (by have := mcσ_26 3720 (by decide); rw [if_pos rfl] at this; omega)
                have k4σ_26 : 1 ≤ m_c X σ_26 a 3724 + 10 * (σ_26.1 a 12).toInt := (by have := mcσ_26 3724 (by decide); rw [if_neg (by first | (clear hn tb8 mv9_σ_1 mv12_σ_1 mv14_σ_1 mv15_σ_1 mv16_σ_1 mv8_σ_1 mv9_σ_2 mv12_σ_2 mv14_σ_2 mv15_σ_2 mv16_σ_2 mv8_σ_2 kc_3 ahpσ_5 bhpσ_5 ehpσ_5 fhpσ_5 c_6 sv hm25 hge25 hzσ_8 smσ_8 gc_10_x_7 c_10 hm51 hge51 gc_14_x_11 c_14 ahpσ_19 bhpσ_19 chpσ_19 ahpσ_21 chpσ_21 dhpσ_21 ehpσ_21 kc_22 kc_23 ahpσ_25 chpσ_25 dhpσ_25 ehpσ_25 smσ_25 k4σ_25 mv9_σ_26 mv12_σ_26 mv14_σ_26 mv15_σ_26 mv16_σ_26 mv8_σ_26 smσ_26 k0σ_26; omega) | omega)] at this; omega)
                clear mv9_σ_26 mv12_σ_26 mv14_σ_26 mv15_σ_26 mv16_σ_26 mv8_σ_26 smσ_25 k4σ_25
                refine lv_aload_n hx hb dX12_table_112 rfl (lv_at hl 0 rfl) ?_
                refine lv_aload_n hx hb dX12_table_113 rfl (lv_at hl 0 rfl) ?_
                refine q_ci (q_rV11_0 (rest := [.ref a]) E (hml.trans hl.1.symm) hI (c_X12_isEach l X σ_26 a ha) kv_X12_153 ha ⟨Nat.le_of_ble_eq_true rfl, Nat.le_of_ble_eq_true rfl⟩ (Nat.le_of_ble_eq_true rfl) dX12_table_114) hI (Nat.le_of_ble_eq_true rfl) (fun r_27 σ_28 H locs hpσ_28 hkσ_28 hI => ?_)
                have ahpσ_28 := hpσ_28.1
                have bhpσ_28 := hpσ_28.2.1
                have chpσ_28 := hpσ_28.2.2
                clear hpσ_28
                replace hI := q_Irw ahpσ_28 hI
                replace hF := q_letX hF chpσ_28
                refine q_cv (q_rV11_1 (rest := []) E (hml.trans hl.1.symm) hI (c_X12_must l X σ_26 a r_27 ha (by first | exact sm_9 smσ_26 | exact hs | omega) (by first | (clear hn tb8 mv9_σ_1 mv12_σ_1 mv14_σ_1 mv15_σ_1 mv16_σ_1 mv8_σ_1 mv9_σ_2 mv12_σ_2 mv14_σ_2 mv15_σ_2 mv16_σ_2 mv8_σ_2 kc_3 ahpσ_5 bhpσ_5 ehpσ_5 fhpσ_5 c_6 sv hm25 hge25 hzσ_8 smσ_8 gc_10_x_7 c_10 hm51 hge51 gc_14_x_11 c_14 ahpσ_19 bhpσ_19 chpσ_19 ahpσ_21 chpσ_21 dhpσ_21 ehpσ_21 kc_22 kc_23 ahpσ_25 chpσ_25 dhpσ_25 ehpσ_25 smσ_26 k0σ_26 k4σ_26 ahpσ_28 chpσ_28; omega) | omega)) kv_X12_216 ha ⟨Nat.le_of_ble_eq_true rfl, Nat.le_of_ble_eq_true rfl⟩ (Nat.le_of_ble_eq_true rfl) dX12_table_117) hI (Nat.le_of_ble_eq_true rfl) (fun σ_30 H locs hpσ_30 hkσ_30 hI => ?_)
                have ahpσ_30 := hpσ_30.1
                have bhpσ_30 := hpσ_30.2.1
                have chpσ_30 := hpσ_30.2.2.1
                have dhpσ_30 := hpσ_30.2.2.2.1
                have ehpσ_30 := hpσ_30.2.2.2.2
                clear hpσ_30
                have fr_σ_30 := fr_σ_26.call ehpσ_30 rfl rfl
                replace hF := q_letX hF dhpσ_30
                have mv8_σ_30 : (σ_30.1 a 8).toInt = (σ_26.1 a 8).toInt := congrArg Int32.toInt (hkσ_30 a 8 (by rw [ha]; decide))
                have mcσ_30 := m_cK hkσ_30 hI.1 ha (by decide)
                have kpσ_30 : ∀ j, 0 ≤ j → j < 3720 → m_c X σ_30 a j = m_c X σ a j := fun j h0 h1 => (mcσ_30 j).trans (kpσ_26 j h0 h1)
                have smσ_30 : 0 ≤ (σ_30.1 a 15).toInt ∧ (σ_30.1 a 15).toInt ≤ (σ_30.1 a 16).toInt ∧ (σ_30.1 a 16).toInt ≤ (σ_30.1 a 9).toInt ∧ (σ_30.1 a 9).toInt ≤ 900 ∧ 0 ≤ (σ_30.1 a 14).toInt ∧ (σ_30.1 a 14).toInt ≤ 4 ∧ (σ_30.1 a 14).toInt ≤ 4 * ((σ_30.1 a 16).toInt - (σ_30.1 a 15).toInt) ∧ (σ_30.1 a 14).toInt ≤ 4 * ((σ_30.1 a 9).toInt - (σ_30.1 a 15).toInt) ∧ 0 ≤ (σ_30.1 a 12).toInt ∧ (σ_30.1 a 8).toInt = 0 := (by first | (clear hn tb8 mv9_σ_1 mv12_σ_1 mv14_σ_1 mv15_σ_1 mv16_σ_1 mv8_σ_1 mv9_σ_2 mv12_σ_2 mv14_σ_2 mv15_σ_2 mv16_σ_2 mv8_σ_2 kc_3 ahpσ_5 bhpσ_5 ehpσ_5 fhpσ_5 c_6 sv hm25 hge25 hzσ_8 smσ_8 gc_10_x_7 c_10 hm51 hge51 gc_14_x_11 c_14 ahpσ_19 bhpσ_19 chpσ_19 ahpσ_21 chpσ_21 dhpσ_21 ehpσ_21 kc_22 kc_23 ahpσ_25 chpσ_25 dhpσ_25 ehpσ_25 k0σ_26 k4σ_26 ahpσ_28 bhpσ_28 chpσ_28 ahpσ_30 chpσ_30 dhpσ_30 ehpσ_30; omega) | omega)
                have nnσ_30 : m_N (m_c X σ_30 a) := m_N.ext mcσ_30 nnσ_26
                have k0σ_30 : 2 ≤ m_c X σ_30 a 3720 + 10 * (σ_30.1 a 12).toInt := (by have := mcσ_30 3720; omega)
                have k4σ_30 : 1 ≤ m_c X σ_30 a 3724 + 10 * (σ_30.1 a 12).toInt := (by have := mcσ_30 3724; omega)
                clear mv8_σ_30 smσ_26 k0σ_26 k4σ_26 bhpσ_30
                have ks_σ_30 : q_KS (fun b g => b = a ∧ 8 ≤ g ∧ g ≤ 18) 1 X σ σ_30 := ks_σ_26.K hkσ_30 (by decide)
                refine lv_aload_n hx hb dX12_table_120 rfl (lv_at hl 0 rfl) ?_
                refine gs_X12_35_12 E hI ha dX12_table_121 ?_
                refine lv_sipush (v := 3721) hx hb dX12_table_124 zks_3721 ?_
                refine lv_aload_n hx hb dX12_table_127 rfl (lv_at hl 0 rfl) ?_
                refine lv_iconst (v := 1) hx hb dX12_table_128 zki_1 ?_
                refine lv_bipush (v := 8) hx hb dX12_table_129 zkb_8 ?_
                have kc_31 : (1 : Int32).toInt = 1 := zt_1
                have kc_32 : (8 : Int32).toInt = 8 := zt_8
                refine q_ci (q_rV11_2 (rest := [.int 3721, .ref (q_rf X a 20)]) E (hml.trans hl.1.symm) hI (c_X12_count l X σ_30 a (1 : Int32) (8 : Int32) ha (by first | exact sm_9 smσ_30 | exact hs | omega) (by first | (clear hn tb8 mv9_σ_1 mv12_σ_1 mv14_σ_1 mv15_σ_1 mv16_σ_1 mv8_σ_1 mv9_σ_2 mv12_σ_2 mv14_σ_2 mv15_σ_2 mv16_σ_2 mv8_σ_2 kc_3 ahpσ_5 bhpσ_5 ehpσ_5 fhpσ_5 c_6 sv hm25 hge25 hzσ_8 smσ_8 gc_10_x_7 c_10 hm51 hge51 gc_14_x_11 c_14 ahpσ_19 bhpσ_19 chpσ_19 ahpσ_21 chpσ_21 dhpσ_21 ehpσ_21 kc_22 kc_23 ahpσ_25 chpσ_25 dhpσ_25 ehpσ_25 ahpσ_28 bhpσ_28 chpσ_28 ahpσ_30 chpσ_30 dhpσ_30 ehpσ_30 smσ_30 k0σ_30 k4σ_30; omega) | omega)) kv_X12_223 ha ⟨Nat.le_of_ble_eq_true rfl, Nat.le_of_ble_eq_true rfl⟩ (Nat.le_of_ble_eq_true rfl) dX12_table_131) hI (Nat.le_of_ble_eq_true rfl) (fun r_33 σ_34 H locs hpσ_34 hkσ_34 hI => ?_)
                have ahpσ_34 := hpσ_34.1
                have bhpσ_34 := hpσ_34.2.1
                have chpσ_34 := hpσ_34.2.2.1
                have dhpσ_34 := hpσ_34.2.2.2.1
                have ehpσ_34 := hpσ_34.2.2.2.2
                clear hpσ_34
                have fr_σ_34 := fr_σ_30.call ehpσ_34 rfl rfl
                replace hF := q_biX hF dhpσ_34
                have mv8_σ_34 : (σ_34.1 a 8).toInt = (σ_30.1 a 8).toInt := congrArg Int32.toInt (hkσ_34 a 8 (by rw [ha]; decide))
                have mcσ_34 := m_cK hkσ_34 hI.1 ha (by decide)
                have kpσ_34 : ∀ j, 0 ≤ j → j < 3720 → m_c X σ_34 a j = m_c X σ a j := fun j h0 h1 => (mcσ_34 j).trans (kpσ_30 j h0 h1)
                have smσ_34 : 0 ≤ (σ_34.1 a 15).toInt ∧ (σ_34.1 a 15).toInt ≤ (σ_34.1 a 16).toInt ∧ (σ_34.1 a 16).toInt ≤ (σ_34.1 a 9).toInt ∧ (σ_34.1 a 9).toInt ≤ 900 ∧ 0 ≤ (σ_34.1 a 14).toInt ∧ (σ_34.1 a 14).toInt ≤ 4 ∧ (σ_34.1 a 14).toInt ≤ 4 * ((σ_34.1 a 16).toInt - (σ_34.1 a 15).toInt) ∧ (σ_34.1 a 14).toInt ≤ 4 * ((σ_34.1 a 9).toInt - (σ_34.1 a 15).toInt) ∧ 0 ≤ (σ_34.1 a 12).toInt ∧ (σ_34.1 a 8).toInt = 0 := (by first | (clear hn tb8 mv9_σ_1 mv12_σ_1 mv14_σ_1 mv15_σ_1 mv16_σ_1 mv8_σ_1 mv9_σ_2 mv12_σ_2 mv14_σ_2 mv15_σ_2 mv16_σ_2 mv8_σ_2 kc_3 ahpσ_5 bhpσ_5 ehpσ_5 fhpσ_5 c_6 sv hm25 hge25 hzσ_8 smσ_8 gc_10_x_7 c_10 hm51 hge51 gc_14_x_11 c_14 ahpσ_19 bhpσ_19 chpσ_19 ahpσ_21 chpσ_21 dhpσ_21 ehpσ_21 kc_22 kc_23 ahpσ_25 chpσ_25 dhpσ_25 ehpσ_25 ahpσ_28 bhpσ_28 chpσ_28 ahpσ_30 chpσ_30 dhpσ_30 ehpσ_30 k0σ_30 k4σ_30 kc_31 kc_32 ahpσ_34 chpσ_34 dhpσ_34 ehpσ_34; omega) | omega)
                have nnσ_34 : m_N (m_c X σ_34 a) := m_N.ext mcσ_34 nnσ_30
                have k0σ_34 : 2 ≤ m_c X σ_34 a 3720 + 10 * (σ_34.1 a 12).toInt := (by have := mcσ_34 3720; omega)
                have k4σ_34 : 1 ≤ m_c X σ_34 a 3724 + 10 * (σ_34.1 a 12).toInt := (by have := mcσ_34 3724; omega)
                clear mv8_σ_34 smσ_30 k0σ_30 k4σ_30 bhpσ_34
                have ks_σ_34 : q_KS (fun b g => b = a ∧ 8 ≤ g ∧ g ≤ 18) 1 X σ σ_34 := ks_σ_30.K hkσ_34 (by decide)
                refine q_iastN E hI (q_tk (k' := 34) hI ha rfl (Nat.succ_ne_zero _)) ⟨by decide, rfl⟩ (by decide) (by rw [q_lnk (v := 4650) hI (q_tk (k' := 34) hI ha rfl (Nat.succ_ne_zero _)) rfl (by decide)]; decide) (show 0 < 2 by decide) (q_inU rfl) dX12_table_134 (fun H locs σ_35 hσ_35 hI => ?_)
                replace hF := q_letX hF hσ_35
                have fr_σ_35 := fr_σ_34.si hσ_35 (q_tk (k' := 34) hI ha rfl (Nat.succ_ne_zero _)) rfl
                have mv9_σ_35 : (σ_35.1 a 9).toInt = (σ_34.1 a 9).toInt := congrArg Int32.toInt (q_rdn hσ_35 (Or.inl (m_ne ha (q_tk (k' := 34) hI ha rfl (Nat.succ_ne_zero _)) (by decide))))
                have mv12_σ_35 : (σ_35.1 a 12).toInt = (σ_34.1 a 12).toInt := congrArg Int32.toInt (q_rdn hσ_35 (Or.inl (m_ne ha (q_tk (k' := 34) hI ha rfl (Nat.succ_ne_zero _)) (by decide))))
                have mv14_σ_35 : (σ_35.1 a 14).toInt = (σ_34.1 a 14).toInt := congrArg Int32.toInt (q_rdn hσ_35 (Or.inl (m_ne ha (q_tk (k' := 34) hI ha rfl (Nat.succ_ne_zero _)) (by decide))))
                have mv15_σ_35 : (σ_35.1 a 15).toInt = (σ_34.1 a 15).toInt := congrArg Int32.toInt (q_rdn hσ_35 (Or.inl (m_ne ha (q_tk (k' := 34) hI ha rfl (Nat.succ_ne_zero _)) (by decide))))
                have mv16_σ_35 : (σ_35.1 a 16).toInt = (σ_34.1 a 16).toInt := congrArg Int32.toInt (q_rdn hσ_35 (Or.inl (m_ne ha (q_tk (k' := 34) hI ha rfl (Nat.succ_ne_zero _)) (by decide))))
                have mv8_σ_35 : (σ_35.1 a 8).toInt = (σ_34.1 a 8).toInt := congrArg Int32.toInt (q_rdn hσ_35 (Or.inl (m_ne ha (q_tk (k' := 34) hI ha rfl (Nat.succ_ne_zero _)) (by decide))))
                have ks_σ_35 : q_KS (fun b g => b = a ∧ 8 ≤ g ∧ g ≤ 18) 1 X σ σ_35 := ks_σ_34.si hσ_35 (q_tk (k' := 34) hI ha rfl (Nat.succ_ne_zero _)) (show 1 < 2 by decide)
                have mcσ_35 := m_wr (v := r_33) (A := 3721) hσ_35 (by decide) (by decide)
                have kpσ_35 : ∀ j, 0 ≤ j → j < 3720 → m_c X σ_35 a j = m_c X σ a j := fun j h0 h1 => by rw [mcσ_35 j h0, if_neg (by first | (clear hn tb8 mv9_σ_1 mv12_σ_1 mv14_σ_1 mv15_σ_1 mv16_σ_1 mv8_σ_1 mv9_σ_2 mv12_σ_2 mv14_σ_2 mv15_σ_2 mv16_σ_2 mv8_σ_2 kc_3 ahpσ_5 bhpσ_5 ehpσ_5 fhpσ_5 c_6 sv hm25 hge25 hzσ_8 smσ_8 gc_10_x_7 c_10 hm51 hge51 gc_14_x_11 c_14 ahpσ_19 bhpσ_19 chpσ_19 ahpσ_21 chpσ_21 dhpσ_21 ehpσ_21 kc_22 kc_23 ahpσ_25 chpσ_25 dhpσ_25 ehpσ_25 ahpσ_28 bhpσ_28 chpσ_28 ahpσ_30 chpσ_30 dhpσ_30 ehpσ_30 kc_31 kc_32 ahpσ_34 chpσ_34 dhpσ_34 ehpσ_34 smσ_34 k0σ_34 k4σ_34 mv9_σ_35 mv12_σ_35 mv14_σ_35 mv15_σ_35 mv16_σ_35 mv8_σ_35; omega) | omega)]; exact kpσ_34 j h0 h1
                have smσ_35 : 0 ≤ (σ_35.1 a 15).toInt ∧ (σ_35.1 a 15).toInt ≤ (σ_35.1 a 16).toInt ∧ (σ_35.1 a 16).toInt ≤ (σ_35.1 a 9).toInt ∧ (σ_35.1 a 9).toInt ≤ 900 ∧ 0 ≤ (σ_35.1 a 14).toInt ∧ (σ_35.1 a 14).toInt ≤ 4 ∧ (σ_35.1 a 14).toInt ≤ 4 * ((σ_35.1 a 16).toInt - (σ_35.1 a 15).toInt) ∧ (σ_35.1 a 14).toInt ≤ 4 * ((σ_35.1 a 9).toInt - (σ_35.1 a 15).toInt) ∧ 0 ≤ (σ_35.1 a 12).toInt ∧ (σ_35.1 a 8).toInt = 0 := (by first | (rw [mv12_σ_35, mv14_σ_35, mv15_σ_35, mv16_σ_35, mv8_σ_35, mv9_σ_35]; exact smσ_34) | omega)
                have nnσ_35 : m_N (m_c X σ_35 a) := m_N.wr nnσ_34 mcσ_35 (by first | (clear hn tb8 mv9_σ_1 mv12_σ_1 mv14_σ_1 mv15_σ_1 mv16_σ_1 mv8_σ_1 mv9_σ_2 mv12_σ_2 mv14_σ_2 mv15_σ_2 mv16_σ_2 mv8_σ_2 kc_3 ahpσ_5 bhpσ_5 ehpσ_5 fhpσ_5 c_6 sv hm25 hge25 hzσ_8 smσ_8 gc_10_x_7 c_10 hm51 hge51 gc_14_x_11 c_14 ahpσ_19 bhpσ_19 chpσ_19 ahpσ_21 chpσ_21 dhpσ_21 ehpσ_21 kc_22 kc_23 ahpσ_25 chpσ_25 dhpσ_25 ehpσ_25 ahpσ_28 bhpσ_28 chpσ_28 ahpσ_30 chpσ_30 dhpσ_30 ehpσ_30 kc_31 ahpσ_34 dhpσ_34 ehpσ_34 smσ_34 k0σ_34 k4σ_34 mv9_σ_35 mv12_σ_35 mv14_σ_35 mv15_σ_35 mv16_σ_35 mv8_σ_35 smσ_35; omega) | omega)
                have k0σ_35 : 2 ≤ m_c X σ_35 a 3720 + 10 * (σ_35.1 a 12).toInt := (by have := mcσ_35 3720 (by decide); rw [if_neg (by first | (clear hn tb8 mv9_σ_1 mv12_σ_1 mv14_σ_1 mv15_σ_1 mv16_σ_1 mv8_σ_1 mv9_σ_2 mv12_σ_2 mv14_σ_2 mv15_σ_2 mv16_σ_2 mv8_σ_2 kc_3 ahpσ_5 bhpσ_5 ehpσ_5 fhpσ_5 c_6 sv hm25 hge25 hzσ_8 smσ_8 gc_10_x_7 c_10 hm51 hge51 gc_14_x_11 c_14 ahpσ_19 bhpσ_19 chpσ_19 ahpσ_21 chpσ_21 dhpσ_21 ehpσ_21 kc_22 kc_23 ahpσ_25 chpσ_25 dhpσ_25 ehpσ_25 ahpσ_28 bhpσ_28 chpσ_28 ahpσ_30 chpσ_30 dhpσ_30 ehpσ_30 kc_31 kc_32 ahpσ_34 chpσ_34 dhpσ_34 ehpσ_34 smσ_34 k0σ_34 k4σ_34 mv9_σ_35 mv12_σ_35 mv14_σ_35 mv15_σ_35 mv16_σ_35 mv8_σ_35 smσ_35; omega) | omega)] at this; omega)
                have k4σ_35 : 1 ≤ m_c X σ_35 a 3724 + 10 * (σ_35.1 a 12).toInt := (by have := mcσ_35 3724 (by decide); rw [if_neg (by first | (clear hn tb8 mv9_σ_1 mv12_σ_1 mv14_σ_1 mv15_σ_1 mv16_σ_1 mv8_σ_1 mv9_σ_2 mv12_σ_2 mv14_σ_2 mv15_σ_2 mv16_σ_2 mv8_σ_2 kc_3 ahpσ_5 bhpσ_5 ehpσ_5 fhpσ_5 c_6 sv hm25 hge25 hzσ_8 smσ_8 gc_10_x_7 c_10 hm51 hge51 gc_14_x_11 c_14 ahpσ_19 bhpσ_19 chpσ_19 ahpσ_21 chpσ_21 dhpσ_21 ehpσ_21 kc_22 kc_23 ahpσ_25 chpσ_25 dhpσ_25 ehpσ_25 ahpσ_28 bhpσ_28 chpσ_28 ahpσ_30 chpσ_30 dhpσ_30 ehpσ_30 kc_31 kc_32 ahpσ_34 chpσ_34 dhpσ_34 ehpσ_34 smσ_34 k0σ_34 k4σ_34 mv9_σ_35 mv12_σ_35 mv14_σ_35 mv15_σ_35 mv16_σ_35 mv8_σ_35 smσ_35 k0σ_35; omega) | omega)] at this; omega)
                clear mv9_σ_35 mv12_σ_35 mv14_σ_35 mv15_σ_35 mv16_σ_35 mv8_σ_35 smσ_34 k0σ_34 k4σ_34
                refine lv_aload_n hx hb dX12_table_135 rfl (lv_at hl 0 rfl) ?_
                refine lv_aload_n hx hb dX12_table_136 rfl (lv_at hl 0 rfl) ?_
                refine lv_bipush (v := 59) hx hb dX12_table_137 zkb_59 ?_
                have kc_36 : (59 : Int32).toInt = 59 := zt_59
                refine q_ci (q_rV11_1 (rest := [.ref a]) E (hml.trans hl.1.symm) hI (c_X12_isSign l X σ_35 a (59 : Int32) ha) kv_X12_243 ha ⟨Nat.le_of_ble_eq_true rfl, Nat.le_of_ble_eq_true rfl⟩ (Nat.le_of_ble_eq_true rfl) dX12_table_139) hI (Nat.le_of_ble_eq_true rfl) (fun r_37 σ_38 H locs hpσ_38 hkσ_38 hI => ?_)
                have ahpσ_38 := hpσ_38.1
                have bhpσ_38 := hpσ_38.2.1
                have chpσ_38 := hpσ_38.2.2
                clear hpσ_38
                replace hI := q_Irw ahpσ_38 hI
                replace hF := q_letX hF chpσ_38
                refine q_cv (q_rV11_1 (rest := []) E (hml.trans hl.1.symm) hI (c_X12_must l X σ_35 a r_37 ha (by first | exact sm_9 smσ_35 | exact hs | omega) (by first | (clear hn tb8 mv9_σ_1 mv12_σ_1 mv14_σ_1 mv15_σ_1 mv16_σ_1 mv8_σ_1 mv9_σ_2 mv12_σ_2 mv14_σ_2 mv15_σ_2 mv16_σ_2 mv8_σ_2 kc_3 ahpσ_5 bhpσ_5 ehpσ_5 fhpσ_5 c_6 sv hm25 hge25 hzσ_8 smσ_8 gc_10_x_7 c_10 hm51 hge51 gc_14_x_11 c_14 ahpσ_19 bhpσ_19 chpσ_19 ahpσ_21 chpσ_21 dhpσ_21 ehpσ_21 kc_22 kc_23 ahpσ_25 chpσ_25 dhpσ_25 ehpσ_25 ahpσ_28 bhpσ_28 chpσ_28 ahpσ_30 chpσ_30 dhpσ_30 ehpσ_30 kc_31 kc_32 ahpσ_34 chpσ_34 dhpσ_34 ehpσ_34 smσ_35 k0σ_35 k4σ_35 kc_36 ahpσ_38 chpσ_38; omega) | omega)) kv_X12_216 ha ⟨Nat.le_of_ble_eq_true rfl, Nat.le_of_ble_eq_true rfl⟩ (Nat.le_of_ble_eq_true rfl) dX12_table_142) hI (Nat.le_of_ble_eq_true rfl) (fun σ_40 H locs hpσ_40 hkσ_40 hI => ?_)
                have ahpσ_40 := hpσ_40.1
                have bhpσ_40 := hpσ_40.2.1
                have chpσ_40 := hpσ_40.2.2.1
                have dhpσ_40 := hpσ_40.2.2.2.1
                have ehpσ_40 := hpσ_40.2.2.2.2
                clear hpσ_40
                have fr_σ_40 := fr_σ_35.call ehpσ_40 rfl rfl
                replace hF := q_letX hF dhpσ_40
                have mv8_σ_40 : (σ_40.1 a 8).toInt = (σ_35.1 a 8).toInt := congrArg Int32.toInt (hkσ_40 a 8 (by rw [ha]; decide))
                have mcσ_40 := m_cK hkσ_40 hI.1 ha (by decide)
                have kpσ_40 : ∀ j, 0 ≤ j → j < 3720 → m_c X σ_40 a j = m_c X σ a j := fun j h0 h1 => (mcσ_40 j).trans (kpσ_35 j h0 h1)
                have smσ_40 : 0 ≤ (σ_40.1 a 15).toInt ∧ (σ_40.1 a 15).toInt ≤ (σ_40.1 a 16).toInt ∧ (σ_40.1 a 16).toInt ≤ (σ_40.1 a 9).toInt ∧ (σ_40.1 a 9).toInt ≤ 900 ∧ 0 ≤ (σ_40.1 a 14).toInt ∧ (σ_40.1 a 14).toInt ≤ 4 ∧ (σ_40.1 a 14).toInt ≤ 4 * ((σ_40.1 a 16).toInt - (σ_40.1 a 15).toInt) ∧ (σ_40.1 a 14).toInt ≤ 4 * ((σ_40.1 a 9).toInt - (σ_40.1 a 15).toInt) ∧ 0 ≤ (σ_40.1 a 12).toInt ∧ (σ_40.1 a 8).toInt = 0 := (by first | (clear hn tb8 mv9_σ_1 mv12_σ_1 mv14_σ_1 mv15_σ_1 mv16_σ_1 mv8_σ_1 mv9_σ_2 mv12_σ_2 mv14_σ_2 mv15_σ_2 mv16_σ_2 mv8_σ_2 kc_3 ahpσ_5 bhpσ_5 ehpσ_5 fhpσ_5 c_6 sv hm25 hge25 hzσ_8 smσ_8 gc_10_x_7 c_10 hm51 hge51 gc_14_x_11 c_14 ahpσ_19 bhpσ_19 chpσ_19 ahpσ_21 chpσ_21 dhpσ_21 ehpσ_21 kc_22 kc_23 ahpσ_25 chpσ_25 dhpσ_25 ehpσ_25 ahpσ_28 bhpσ_28 chpσ_28 ahpσ_30 chpσ_30 dhpσ_30 ehpσ_30 kc_31 kc_32 ahpσ_34 chpσ_34 dhpσ_34 ehpσ_34 k0σ_35 k4σ_35 kc_36 ahpσ_38 bhpσ_38 chpσ_38 ahpσ_40 chpσ_40 dhpσ_40 ehpσ_40; omega) | omega)
                have nnσ_40 : m_N (m_c X σ_40 a) := m_N.ext mcσ_40 nnσ_35
                have k0σ_40 : 2 ≤ m_c X σ_40 a 3720 + 10 * (σ_40.1 a 12).toInt := (by have := mcσ_40 3720; omega)
                have k4σ_40 : 1 ≤ m_c X σ_40 a 3724 + 10 * (σ_40.1 a 12).toInt := (by have := mcσ_40 3724; omega)
                clear mv8_σ_40 smσ_35 k0σ_35 k4σ_35 bhpσ_40
                have ks_σ_40 : q_KS (fun b g => b = a ∧ 8 ≤ g ∧ g ≤ 18) 1 X σ σ_40 := ks_σ_35.K hkσ_40 (by decide)
                have L_145_42 : ∀ (k_42 : Nat)  (σ_41 : ST) (H : Heap) (locs : List Loc) (ls : Array Slot), (901 - (σ_41.1 a 15).toInt).toNat + (1 - (σ_41.1 a 12).toInt).toNat < k_42 → (q_KS (fun b g => b = a ∧ 8 ≤ g ∧ g ≤ 18) 1 X σ σ_41) → (q_ow [(12, 0), (12, 1), (12, 8), (12, 9), (12, 10), (12, 11), (12, 12), (12, 13), (12, 14), (12, 15), (12, 16), (12, 17), (12, 18), (12, 25), (12, 26), (34, 99), (36, 99)] [(12, 19), (37, 99)] X σ σ_41) → (∀ j, 0 ≤ j → j < 3720 → m_c X σ_41 a j = m_c X σ a j) → (0 ≤ (σ_41.1 a 15).toInt ∧ (σ_41.1 a 15).toInt ≤ (σ_41.1 a 16).toInt ∧ (σ_41.1 a 16).toInt ≤ (σ_41.1 a 9).toInt ∧ (σ_41.1 a 9).toInt ≤ 900 ∧ 0 ≤ (σ_41.1 a 14).toInt ∧ (σ_41.1 a 14).toInt ≤ 4 ∧ (σ_41.1 a 14).toInt ≤ 4 * ((σ_41.1 a 16).toInt - (σ_41.1 a 15).toInt) ∧ (σ_41.1 a 14).toInt ≤ 4 * ((σ_41.1 a 9).toInt - (σ_41.1 a 15).toInt) ∧ 0 ≤ (σ_41.1 a 12).toInt ∧ (σ_41.1 a 8).toInt = 0) → (m_N (m_c X σ_41 a)) → (2 ≤ m_c X σ_41 a 3720 + 10 * (σ_41.1 a 12).toInt) → (1 ≤ m_c X σ_41 a 3724 + 10 * (σ_41.1 a 12).toInt) → (F_X12_table_L145_5 X a k_42 σ_41 = out) → q_I X 0 σ s.heap locs σ_41 H → lv_has ls 3 [(0, .ref a), (1, .int v1), (2, .int x_11)] → W p l e (q_rm 7 154) s m ([.ref a, .int v1] : List Value).toArray below meth c H locs 0 0 (MQ below (q_Qi X 0 σ (fun (r : Int32) (σ' : ST) => (q_KS (fun b g => b = a ∧ 8 ≤ g ∧ g ≤ 18) 1 X σ σ') ∧ (m_G (m_c X σ' a)) ∧ (m_W (m_c X σ' a) n) ∧ (∀ j, 930 ≤ j → j < 3720 → m_c X σ' a j = m_c X σ a j) ∧ ((v1.toInt < 0 ∨ (σ.1 a 8).toInt < v1.toInt) → (σ'.1 a 8).toInt = (σ.1 a 8).toInt) ∧ ((0 ≤ v1.toInt ∧ v1.toInt ≤ (σ.1 a 8).toInt) → (σ'.1 a 8).toInt = 0) ∧ (r, σ') = F_X12_table X σ a v1 ∧ q_ow [(12, 0), (12, 1), (12, 8), (12, 9), (12, 10), (12, 11), (12, 12), (12, 13), (12, 14), (12, 15), (12, 16), (12, 17), (12, 18), (12, 25), (12, 26), (34, 99), (36, 99)] [(12, 19), (37, 99)] X σ σ')) ([.ref a, .int v1] : List Value).toArray s 0 0 (q_reg X)) (F0 m 145 ls []) := by
                  clear hF
                  intro k_42
                  induction k_42 with
                  | zero =>
                    intro σ_41 H locs ls hms
                    try clear fr_σ_15; try clear mcσ_15; try clear kpσ_15; try clear zzσ_15; try clear fr_σ_16; try clear mcσ_16; try clear kpσ_16; try clear zzσ_16; try clear fr_σ_17; try clear mcσ_17; try clear kpσ_17; try clear zhσ_17; try clear nnσ_17; try clear ahpσ_19; try clear ahpσ_21; try clear fr_σ_21; try clear mcσ_21; try clear kpσ_21; try clear zhσ_21; try clear nnσ_21; try clear ahpσ_25; try clear fr_σ_25; try clear mcσ_25; try clear kpσ_25; try clear zhσ_25; try clear nnσ_25; try clear fr_σ_26; try clear mcσ_26; try clear kpσ_26; try clear nnσ_26; try clear ahpσ_28; try clear ahpσ_30; try clear fr_σ_30; try clear mcσ_30; try clear kpσ_30; try clear nnσ_30; try clear ahpσ_34; try clear fr_σ_34; try clear mcσ_34; try clear kpσ_34; try clear nnσ_34; try clear fr_σ_35; try clear mcσ_35; try clear kpσ_35; try clear nnσ_35; try clear ahpσ_38; try clear ahpσ_40; try clear fr_σ_40; try clear mcσ_40; try clear kpσ_40; try clear smσ_40; try clear nnσ_40
                    exact absurd hms (Nat.not_lt_zero _)
                  | succ k_42 ih145 =>
                    intro σ_41 H locs ls hm145 ks_σ_41 fr_σ_41 kpσ_41 smσ_41 nnσ_41 k0σ_41 k4σ_41 hF hI hl
                    replace hF := (F_X12_table_L145_5_s).symm.trans hF
                    unfold F_X12_table_B145_5 at hF
                    refine lv_aload_n hx hb dX12_table_145 rfl (lv_at hl 0 rfl) ?_
                    refine gs_X12_187_12 E hI ha dX12_table_146 ?_
                    refine lv_topi (fun f_43 ef_43 => ?_)
                    replace hF := q_letX hF ef_43
                    have if_43 : f_43.toInt = (σ_41.1 a 12).toInt := congrArg Int32.toInt ef_43
                    refine q_if_ne (A := f_43.toInt) E rfl (tgt := 232) dX12_table_149 (by decide) (fun c_44 => ?_) (fun c_44 => ?_)
                    · skip
                      replace hF := q_ifn hF c_44
                      unfold F_X12_table_E232_6 at hF
                      refine lv_aload_n hx hb dX12_table_232 rfl (lv_at hl 0 rfl) ?_
                      refine q_ci (q_rV11_0 (rest := []) E (hml.trans hl.1.symm) hI (c_X12_isWell l X σ_41 a ha) kv_X12_258 ha ⟨Nat.le_of_ble_eq_true rfl, Nat.le_of_ble_eq_true rfl⟩ (Nat.le_of_ble_eq_true rfl) dX12_table_233) hI (Nat.le_of_ble_eq_true rfl) (fun r_45 σ_46 H locs hpσ_46 hkσ_46 hI => ?_)
                      have ahpσ_46 := hpσ_46.1
                      have bhpσ_46 := hpσ_46.2.1
                      have chpσ_46 := hpσ_46.2.2.1
                      have dhpσ_46 := hpσ_46.2.2.2
                      clear hpσ_46
                      have fr_σ_46 := fr_σ_41.call dhpσ_46 rfl rfl
                      replace hF := q_biX hF chpσ_46
                      have mv9_σ_46 : (σ_46.1 a 9).toInt = (σ_41.1 a 9).toInt := congrArg Int32.toInt ((q_K.le hkσ_46 (by decide) : q_K 8 X σ_41 σ_46) a 9 (by rw [ha]; decide))
                      have mv12_σ_46 : (σ_46.1 a 12).toInt = (σ_41.1 a 12).toInt := congrArg Int32.toInt ((q_K.le hkσ_46 (by decide) : q_K 8 X σ_41 σ_46) a 12 (by rw [ha]; decide))
                      have mv14_σ_46 : (σ_46.1 a 14).toInt = (σ_41.1 a 14).toInt := congrArg Int32.toInt ((q_K.le hkσ_46 (by decide) : q_K 8 X σ_41 σ_46) a 14 (by rw [ha]; decide))
                      have mv15_σ_46 : (σ_46.1 a 15).toInt = (σ_41.1 a 15).toInt := congrArg Int32.toInt ((q_K.le hkσ_46 (by decide) : q_K 8 X σ_41 σ_46) a 15 (by rw [ha]; decide))
                      have mv16_σ_46 : (σ_46.1 a 16).toInt = (σ_41.1 a 16).toInt := congrArg Int32.toInt ((q_K.le hkσ_46 (by decide) : q_K 8 X σ_41 σ_46) a 16 (by rw [ha]; decide))
                      have mv8_σ_46 : (σ_46.1 a 8).toInt = (σ_41.1 a 8).toInt := congrArg Int32.toInt ((q_K.le hkσ_46 (by decide) : q_K 8 X σ_41 σ_46) a 8 (by rw [ha]; decide))
                      have mcσ_46 := m_cK hkσ_46 hI.1 ha (by decide)
                      have kpσ_46 : ∀ j, 0 ≤ j → j < 3720 → m_c X σ_46 a j = m_c X σ a j := fun j h0 h1 => (mcσ_46 j).trans (kpσ_41 j h0 h1)
                      have smσ_46 : 0 ≤ (σ_46.1 a 15).toInt ∧ (σ_46.1 a 15).toInt ≤ (σ_46.1 a 16).toInt ∧ (σ_46.1 a 16).toInt ≤ (σ_46.1 a 9).toInt ∧ (σ_46.1 a 9).toInt ≤ 900 ∧ 0 ≤ (σ_46.1 a 14).toInt ∧ (σ_46.1 a 14).toInt ≤ 4 ∧ (σ_46.1 a 14).toInt ≤ 4 * ((σ_46.1 a 16).toInt - (σ_46.1 a 15).toInt) ∧ (σ_46.1 a 14).toInt ≤ 4 * ((σ_46.1 a 9).toInt - (σ_46.1 a 15).toInt) ∧ 0 ≤ (σ_46.1 a 12).toInt ∧ (σ_46.1 a 8).toInt = 0 := (by first | (rw [mv12_σ_46, mv14_σ_46, mv15_σ_46, mv16_σ_46, mv8_σ_46, mv9_σ_46]; exact smσ_41) | omega)
                      have nnσ_46 : m_N (m_c X σ_46 a) := m_N.ext mcσ_46 nnσ_41
                      have k0σ_46 : 2 ≤ m_c X σ_46 a 3720 + 10 * (σ_46.1 a 12).toInt := (by have := mcσ_46 3720; omega)
                      have k4σ_46 : 1 ≤ m_c X σ_46 a 3724 + 10 * (σ_46.1 a 12).toInt := (by have := mcσ_46 3724; omega)
                      have ks_σ_46 : q_KS (fun b g => b = a ∧ 8 ≤ g ∧ g ≤ 18) 1 X σ σ_46 := ks_σ_41.K hkσ_46 (by decide)
                      refine q_if_ne (A := r_45.toInt) E rfl (tgt := 241) dX12_table_236 (by decide) (fun c_47 => ?_) (fun c_47 => ?_)
                      · skip
                        replace hF := q_ifn hF c_47
                        replace c_47 := q_ifOne ahpσ_46 c_47
                        replace bhpσ_46 := bhpσ_46 c_47
                        refine lv_aload_n hx hb dX12_table_241 rfl (lv_at hl 0 rfl) ?_
                        refine gs_X12_35_12 E hI ha dX12_table_242 ?_
                        refine lv_sipush (v := 3728) hx hb dX12_table_245 zks_3728 ?_
                        refine lv_iconst (v := (-1)) hx hb dX12_table_248 zki_m1 ?_
                        refine q_iastN E hI (q_tk (k' := 34) hI ha rfl (Nat.succ_ne_zero _)) ⟨by decide, rfl⟩ (by decide) (by rw [q_lnk (v := 4650) hI (q_tk (k' := 34) hI ha rfl (Nat.succ_ne_zero _)) rfl (by decide)]; decide) (show 0 < 2 by decide) (q_inU rfl) dX12_table_249 (fun H locs σ_48 hσ_48 hI => ?_)
                        replace hF := q_letX hF hσ_48
                        have fr_σ_48 := fr_σ_46.si hσ_48 (q_tk (k' := 34) hI ha rfl (Nat.succ_ne_zero _)) rfl
                        have mv9_σ_48 : (σ_48.1 a 9).toInt = (σ_46.1 a 9).toInt := congrArg Int32.toInt (q_rdn hσ_48 (Or.inl (m_ne ha (q_tk (k' := 34) hI ha rfl (Nat.succ_ne_zero _)) (by decide))))
                        have mv12_σ_48 : (σ_48.1 a 12).toInt = (σ_46.1 a 12).toInt := congrArg Int32.toInt (q_rdn hσ_48 (Or.inl (m_ne ha (q_tk (k' := 34) hI ha rfl (Nat.succ_ne_zero _)) (by decide))))
                        have mv14_σ_48 : (σ_48.1 a 14).toInt = (σ_46.1 a 14).toInt := congrArg Int32.toInt (q_rdn hσ_48 (Or.inl (m_ne ha (q_tk (k' := 34) hI ha rfl (Nat.succ_ne_zero _)) (by decide))))
                        have mv15_σ_48 : (σ_48.1 a 15).toInt = (σ_46.1 a 15).toInt := congrArg Int32.toInt (q_rdn hσ_48 (Or.inl (m_ne ha (q_tk (k' := 34) hI ha rfl (Nat.succ_ne_zero _)) (by decide))))
                        have mv16_σ_48 : (σ_48.1 a 16).toInt = (σ_46.1 a 16).toInt := congrArg Int32.toInt (q_rdn hσ_48 (Or.inl (m_ne ha (q_tk (k' := 34) hI ha rfl (Nat.succ_ne_zero _)) (by decide))))
                        have mv8_σ_48 : (σ_48.1 a 8).toInt = (σ_46.1 a 8).toInt := congrArg Int32.toInt (q_rdn hσ_48 (Or.inl (m_ne ha (q_tk (k' := 34) hI ha rfl (Nat.succ_ne_zero _)) (by decide))))
                        have ks_σ_48 : q_KS (fun b g => b = a ∧ 8 ≤ g ∧ g ≤ 18) 1 X σ σ_48 := ks_σ_46.si hσ_48 (q_tk (k' := 34) hI ha rfl (Nat.succ_ne_zero _)) (show 1 < 2 by decide)
                        have mcσ_48 := m_wr (v := ((-1) : Int32)) (A := 3728) hσ_48 (by decide) (by decide)
                        have kpσ_48 : ∀ j, 0 ≤ j → j < 3720 → m_c X σ_48 a j = m_c X σ a j := fun j h0 h1 => by rw [mcσ_48 j h0, if_neg (by first | (clear hn tb8 mv9_σ_1 mv12_σ_1 mv14_σ_1 mv15_σ_1 mv16_σ_1 mv8_σ_1 mv9_σ_2 mv12_σ_2 mv14_σ_2 mv15_σ_2 mv16_σ_2 mv8_σ_2 kc_3 ahpσ_5 bhpσ_5 ehpσ_5 fhpσ_5 c_6 sv hm25 hge25 hzσ_8 smσ_8 gc_10_x_7 c_10 hm51 hge51 gc_14_x_11 c_14 bhpσ_19 chpσ_19 chpσ_21 dhpσ_21 ehpσ_21 kc_22 kc_23 chpσ_25 dhpσ_25 ehpσ_25 bhpσ_28 chpσ_28 chpσ_30 dhpσ_30 ehpσ_30 kc_31 kc_32 chpσ_34 dhpσ_34 ehpσ_34 kc_36 bhpσ_38 chpσ_38 chpσ_40 dhpσ_40 ehpσ_40 k0σ_40 k4σ_40 hm145 smσ_41 k0σ_41 k4σ_41 if_43 c_44 ahpσ_46 chpσ_46 dhpσ_46 mv9_σ_46 mv12_σ_46 mv14_σ_46 mv15_σ_46 mv16_σ_46 mv8_σ_46 smσ_46 k0σ_46 k4σ_46 c_47 bhpσ_46 mv9_σ_48 mv12_σ_48 mv14_σ_48 mv15_σ_48 mv16_σ_48 mv8_σ_48; omega) | omega)]; exact kpσ_46 j h0 h1
                        have smσ_48 : 0 ≤ (σ_48.1 a 15).toInt ∧ (σ_48.1 a 15).toInt ≤ (σ_48.1 a 16).toInt ∧ (σ_48.1 a 16).toInt ≤ (σ_48.1 a 9).toInt ∧ (σ_48.1 a 9).toInt ≤ 900 ∧ 0 ≤ (σ_48.1 a 14).toInt ∧ (σ_48.1 a 14).toInt ≤ 4 ∧ (σ_48.1 a 14).toInt ≤ 4 * ((σ_48.1 a 16).toInt - (σ_48.1 a 15).toInt) ∧ (σ_48.1 a 14).toInt ≤ 4 * ((σ_48.1 a 9).toInt - (σ_48.1 a 15).toInt) ∧ 0 ≤ (σ_48.1 a 12).toInt ∧ (σ_48.1 a 8).toInt = 0 := (by first | (rw [mv12_σ_48, mv14_σ_48, mv15_σ_48, mv16_σ_48, mv8_σ_48, mv9_σ_48]; exact smσ_46) | omega)
                        have nbσ_48 : ∃ c1, m_N c1 ∧ 2 ≤ c1 3720 ∧ 1 ≤ c1 3724 ∧ (c1 3722 = m_c X σ_48 a 3722) ∧ ∀ j : Int, 0 ≤ j → m_c X σ_48 a j = if j = 3728 then -1 else c1 j := ⟨_, nnσ_46, by omega, by omega, by rw [mcσ_48 3722 (by decide)]; rfl, mcσ_48⟩
                        refine lv_aload_n hx hb dX12_table_250 rfl (lv_at hl 0 rfl) ?_
                        refine gs_X12_35_12 E hI ha dX12_table_251 ?_
                        refine lv_sipush (v := 3726) hx hb dX12_table_254 zks_3726 ?_
                        refine lv_aload_n hx hb dX12_table_257 rfl (lv_at hl 0 rfl) ?_
                        refine gs_X12_35_12 E hI ha dX12_table_258 ?_
                        refine lv_sipush (v := 3722) hx hb dX12_table_261 zks_3722 ?_
                        refine q_iald E hI (q_tk (k' := 34) hI ha rfl (Nat.succ_ne_zero _)) ⟨by decide, rfl⟩ (by decide) (by rw [q_lnk (v := 4650) hI (q_tk (k' := 34) hI ha rfl (Nat.succ_ne_zero _)) rfl (by decide)]; decide) dX12_table_264 ?_
                        refine lv_topi (fun f_49 ef_49 => ?_)
                        replace hF := q_letX hF ef_49
                        have if_49 : f_49.toInt = m_c X σ_48 a 3722 := m_rd ef_49 (by decide)
                        refine q_if_ne (A := f_49.toInt) E rfl (tgt := 272) dX12_table_265 (by decide) (fun c_50 => ?_) (fun c_50 => ?_)
                        · skip
                          replace hF := q_ifn hF c_50
                          refine lv_iconst (v := 0) hx hb dX12_table_272 zki_0 ?_
                          refine q_iastN E hI (q_tk (k' := 34) hI ha rfl (Nat.succ_ne_zero _)) ⟨by decide, rfl⟩ (by decide) (by rw [q_lnk (v := 4650) hI (q_tk (k' := 34) hI ha rfl (Nat.succ_ne_zero _)) rfl (by decide)]; decide) (show 0 < 2 by decide) (q_inU rfl) dX12_table_273 (fun H locs σ_51 hσ_51 hI => ?_)
                          replace hF := q_letX hF hσ_51
                          have fr_σ_51 := fr_σ_48.si hσ_51 (q_tk (k' := 34) hI ha rfl (Nat.succ_ne_zero _)) rfl
                          have mv9_σ_51 : (σ_51.1 a 9).toInt = (σ_48.1 a 9).toInt := congrArg Int32.toInt (q_rdn hσ_51 (Or.inl (m_ne ha (q_tk (k' := 34) hI ha rfl (Nat.succ_ne_zero _)) (by decide))))
                          have mv12_σ_51 : (σ_51.1 a 12).toInt = (σ_48.1 a 12).toInt := congrArg Int32.toInt (q_rdn hσ_51 (Or.inl (m_ne ha (q_tk (k' := 34) hI ha rfl (Nat.succ_ne_zero _)) (by decide))))
                          have mv14_σ_51 : (σ_51.1 a 14).toInt = (σ_48.1 a 14).toInt := congrArg Int32.toInt (q_rdn hσ_51 (Or.inl (m_ne ha (q_tk (k' := 34) hI ha rfl (Nat.succ_ne_zero _)) (by decide))))
                          have mv15_σ_51 : (σ_51.1 a 15).toInt = (σ_48.1 a 15).toInt := congrArg Int32.toInt (q_rdn hσ_51 (Or.inl (m_ne ha (q_tk (k' := 34) hI ha rfl (Nat.succ_ne_zero _)) (by decide))))
                          have mv16_σ_51 : (σ_51.1 a 16).toInt = (σ_48.1 a 16).toInt := congrArg Int32.toInt (q_rdn hσ_51 (Or.inl (m_ne ha (q_tk (k' := 34) hI ha rfl (Nat.succ_ne_zero _)) (by decide))))
                          have mv8_σ_51 : (σ_51.1 a 8).toInt = (σ_48.1 a 8).toInt := congrArg Int32.toInt (q_rdn hσ_51 (Or.inl (m_ne ha (q_tk (k' := 34) hI ha rfl (Nat.succ_ne_zero _)) (by decide))))
                          have ks_σ_51 : q_KS (fun b g => b = a ∧ 8 ≤ g ∧ g ≤ 18) 1 X σ σ_51 := ks_σ_48.si hσ_51 (q_tk (k' := 34) hI ha rfl (Nat.succ_ne_zero _)) (show 1 < 2 by decide)
                          have mcσ_51 := m_wr (v := (0 : Int32)) (A := 3726) hσ_51 (by decide) (by decide)
                          have kpσ_51 : ∀ j, 0 ≤ j → j < 3720 → m_c X σ_51 a j = m_c X σ a j := fun j h0 h1 => by rw [mcσ_51 j h0, if_neg (by first | (clear hn tb8 mv9_σ_1 mv12_σ_1 mv14_σ_1 mv15_σ_1 mv16_σ_1 mv8_σ_1 mv9_σ_2 mv12_σ_2 mv14_σ_2 mv15_σ_2 mv16_σ_2 mv8_σ_2 kc_3 ahpσ_5 bhpσ_5 ehpσ_5 fhpσ_5 c_6 sv hm25 hge25 hzσ_8 smσ_8 gc_10_x_7 c_10 hm51 hge51 gc_14_x_11 c_14 bhpσ_19 chpσ_19 chpσ_21 dhpσ_21 ehpσ_21 kc_22 kc_23 chpσ_25 dhpσ_25 ehpσ_25 bhpσ_28 chpσ_28 chpσ_30 dhpσ_30 ehpσ_30 kc_31 kc_32 chpσ_34 dhpσ_34 ehpσ_34 kc_36 bhpσ_38 chpσ_38 chpσ_40 dhpσ_40 ehpσ_40 k0σ_40 k4σ_40 hm145 smσ_41 k0σ_41 k4σ_41 if_43 c_44 ahpσ_46 chpσ_46 dhpσ_46 mv9_σ_46 mv12_σ_46 mv14_σ_46 mv15_σ_46 mv16_σ_46 mv8_σ_46 smσ_46 k0σ_46 k4σ_46 c_47 bhpσ_46 mv9_σ_48 mv12_σ_48 mv14_σ_48 mv15_σ_48 mv16_σ_48 mv8_σ_48 smσ_48 if_49 c_50 mv9_σ_51 mv12_σ_51 mv14_σ_51 mv15_σ_51 mv16_σ_51 mv8_σ_51; omega) | omega)]; exact kpσ_48 j h0 h1
                          have smσ_51 : 0 ≤ (σ_51.1 a 15).toInt ∧ (σ_51.1 a 15).toInt ≤ (σ_51.1 a 16).toInt ∧ (σ_51.1 a 16).toInt ≤ (σ_51.1 a 9).toInt ∧ (σ_51.1 a 9).toInt ≤ 900 ∧ 0 ≤ (σ_51.1 a 14).toInt ∧ (σ_51.1 a 14).toInt ≤ 4 ∧ (σ_51.1 a 14).toInt ≤ 4 * ((σ_51.1 a 16).toInt - (σ_51.1 a 15).toInt) ∧ (σ_51.1 a 14).toInt ≤ 4 * ((σ_51.1 a 9).toInt - (σ_51.1 a 15).toInt) ∧ 0 ≤ (σ_51.1 a 12).toInt ∧ (σ_51.1 a 8).toInt = 0 := (by first | (rw [mv12_σ_51, mv14_σ_51, mv15_σ_51, mv16_σ_51, mv8_σ_51, mv9_σ_51]; exact smσ_48) | omega)
                          obtain ⟨c1, hN1, q0, q4, q2, qe⟩ := nbσ_48
                          have ncσ_51 := m_new.mk hN1 q0 q4 qe rfl mcσ_51 (by have q : (0 : Int32).toInt = 0 := rfl; omega)
                          have nkσ_51 := kpσ_51
                          refine lv_aload_n hx hb dX12_table_274 rfl (lv_at hl 0 rfl) ?_
                          refine lv_iconst (v := 4) hx hb dX12_table_275 zki_4 ?_
                          refine lv_iconst (v := 0) hx hb dX12_table_276 zki_0 ?_
                          have kc_52 : (4 : Int32).toInt = 4 := zt_4
                          have kc_53 : (0 : Int32).toInt = 0 := zt_0
                          refine q_cv (q_rV11_2 (rest := []) E (hml.trans hl.1.symm) hI (c_X12_copy l X σ_51 a (4 : Int32) (0 : Int32) ha (by decide) (by decide) (by decide)) kv_X12_261 ha ⟨Nat.le_of_ble_eq_true rfl, Nat.le_of_ble_eq_true rfl⟩ (Nat.le_of_ble_eq_true rfl) dX12_table_277) hI (Nat.le_of_ble_eq_true rfl) (fun σ_55 H locs hpσ_55 hkσ_55 hI => ?_)
                          have ahpσ_55 := hpσ_55.1
                          have bhpσ_55 := hpσ_55.2.1
                          have chpσ_55 := hpσ_55.2.2
                          clear hpσ_55
                          have fr_σ_55 := fr_σ_51.call chpσ_55 rfl rfl
                          replace hF := q_letX hF bhpσ_55
                          have mv8_σ_55 : (σ_55.1 a 8).toInt = (σ_51.1 a 8).toInt := congrArg Int32.toInt (hkσ_55 a 8 (by rw [ha]; decide))
                          have ks_σ_55 : q_KS (fun b g => b = a ∧ 8 ≤ g ∧ g ≤ 18) 1 X σ σ_55 := ks_σ_51.K hkσ_55 (by decide)
                          have cqσ_55 := m_cpy40 (by decide) (by decide) ahpσ_55
                          have g2σ_55 := m_G.new ncσ_51 cqσ_55.1
                          have kbσ_55 : ∀ j, 930 ≤ j → j < 3720 → m_c X σ_55 a j = m_c X σ a j := fun j a b => (cqσ_55.2 j a).trans ((nkσ_51 j (by first | (clear hn tb8 mv9_σ_1 mv12_σ_1 mv14_σ_1 mv15_σ_1 mv16_σ_1 mv8_σ_1 mv9_σ_2 mv12_σ_2 mv14_σ_2 mv15_σ_2 mv16_σ_2 mv8_σ_2 kc_3 ahpσ_5 bhpσ_5 ehpσ_5 fhpσ_5 c_6 sv hm25 hge25 hzσ_8 smσ_8 gc_10_x_7 c_10 hm51 hge51 gc_14_x_11 c_14 bhpσ_19 chpσ_19 chpσ_21 dhpσ_21 ehpσ_21 kc_22 kc_23 chpσ_25 dhpσ_25 ehpσ_25 bhpσ_28 chpσ_28 chpσ_30 dhpσ_30 ehpσ_30 kc_31 kc_32 chpσ_34 dhpσ_34 ehpσ_34 kc_36 bhpσ_38 chpσ_38 chpσ_40 dhpσ_40 ehpσ_40 k0σ_40 k4σ_40 hm145 smσ_41 k0σ_41 k4σ_41 if_43 c_44 ahpσ_46 chpσ_46 dhpσ_46 mv9_σ_46 mv12_σ_46 mv14_σ_46 mv15_σ_46 mv16_σ_46 mv8_σ_46 smσ_46 k0σ_46 k4σ_46 c_47 bhpσ_46 mv9_σ_48 mv12_σ_48 mv14_σ_48 mv15_σ_48 mv16_σ_48 mv8_σ_48 smσ_48 nbσ_48 if_49 c_50 mv9_σ_51 mv12_σ_51 mv14_σ_51 mv15_σ_51 mv16_σ_51 mv8_σ_51 smσ_51 kc_52 kc_53 ahpσ_55 bhpσ_55 chpσ_55 mv8_σ_55 g2σ_55; omega) | omega) b))
                          refine lv_aload_n hx hb dX12_table_280 rfl (lv_at hl 0 rfl) ?_
                          refine gs_X12_35_12 E hI ha dX12_table_281 ?_
                          refine lv_iconst (v := 2) hx hb dX12_table_284 zki_2 ?_
                          refine q_iald E hI (q_tk (k' := 34) hI ha rfl (Nat.succ_ne_zero _)) ⟨by decide, rfl⟩ (by decide) (by rw [q_lnk (v := 4650) hI (q_tk (k' := 34) hI ha rfl (Nat.succ_ne_zero _)) rfl (by decide)]; decide) dX12_table_285 ?_
                          refine lv_topi (fun f_56 ef_56 => ?_)
                          replace hF := q_letX hF ef_56
                          have if_56 : f_56.toInt = m_c X σ_55 a 2 := m_rd ef_56 (by decide)
                          exact q_reti E hr hlk hI ⟨ks_σ_55, (g2σ_55.1), (m_W.le g2σ_55.2 hn), kbσ_55, (by first | exact smσ_55 | omega), (by first | exact smσ_55 | omega), (hF.trans hout), fr_σ_55⟩ dX12_table_286
                        · skip
                          replace hF := q_ifp hF c_50
                          refine lv_iconst (v := (-1)) hx hb dX12_table_268 zki_m1 ?_
                          refine lv_goto (tgt := 273) hx hb dX12_table_269 (by decide) ?_
                          refine q_iastN E hI (q_tk (k' := 34) hI ha rfl (Nat.succ_ne_zero _)) ⟨by decide, rfl⟩ (by decide) (by rw [q_lnk (v := 4650) hI (q_tk (k' := 34) hI ha rfl (Nat.succ_ne_zero _)) rfl (by decide)]; decide) (show 0 < 2 by decide) (q_inU rfl) dX12_table_273 (fun H locs σ_57 hσ_57 hI => ?_)
                          replace hF := q_letX hF hσ_57
                          have fr_σ_57 := fr_σ_48.si hσ_57 (q_tk (k' := 34) hI ha rfl (Nat.succ_ne_zero _)) rfl
                          have mv9_σ_57 : (σ_57.1 a 9).toInt = (σ_48.1 a 9).toInt := congrArg Int32.toInt (q_rdn hσ_57 (Or.inl (m_ne ha (q_tk (k' := 34) hI ha rfl (Nat.succ_ne_zero _)) (by decide))))
                          have mv12_σ_57 : (σ_57.1 a 12).toInt = (σ_48.1 a 12).toInt := congrArg Int32.toInt (q_rdn hσ_57 (Or.inl (m_ne ha (q_tk (k' := 34) hI ha rfl (Nat.succ_ne_zero _)) (by decide))))
                          have mv14_σ_57 : (σ_57.1 a 14).toInt = (σ_48.1 a 14).toInt := congrArg Int32.toInt (q_rdn hσ_57 (Or.inl (m_ne ha (q_tk (k' := 34) hI ha rfl (Nat.succ_ne_zero _)) (by decide))))
                          have mv15_σ_57 : (σ_57.1 a 15).toInt = (σ_48.1 a 15).toInt := congrArg Int32.toInt (q_rdn hσ_57 (Or.inl (m_ne ha (q_tk (k' := 34) hI ha rfl (Nat.succ_ne_zero _)) (by decide))))
                          have mv16_σ_57 : (σ_57.1 a 16).toInt = (σ_48.1 a 16).toInt := congrArg Int32.toInt (q_rdn hσ_57 (Or.inl (m_ne ha (q_tk (k' := 34) hI ha rfl (Nat.succ_ne_zero _)) (by decide))))
                          have mv8_σ_57 : (σ_57.1 a 8).toInt = (σ_48.1 a 8).toInt := congrArg Int32.toInt (q_rdn hσ_57 (Or.inl (m_ne ha (q_tk (k' := 34) hI ha rfl (Nat.succ_ne_zero _)) (by decide))))
                          have ks_σ_57 : q_KS (fun b g => b = a ∧ 8 ≤ g ∧ g ≤ 18) 1 X σ σ_57 := ks_σ_48.si hσ_57 (q_tk (k' := 34) hI ha rfl (Nat.succ_ne_zero _)) (show 1 < 2 by decide)
                          have mcσ_57 := m_wr (v := ((-1) : Int32)) (A := 3726) hσ_57 (by decide) (by decide)
                          have kpσ_57 : ∀ j, 0 ≤ j → j < 3720 → m_c X σ_57 a j = m_c X σ a j := fun j h0 h1 => by rw [mcσ_57 j h0, if_neg (by first | (clear hn tb8 mv9_σ_1 mv12_σ_1 mv14_σ_1 mv15_σ_1 mv16_σ_1 mv8_σ_1 mv9_σ_2 mv12_σ_2 mv14_σ_2 mv15_σ_2 mv16_σ_2 mv8_σ_2 kc_3 ahpσ_5 bhpσ_5 ehpσ_5 fhpσ_5 c_6 sv hm25 hge25 hzσ_8 smσ_8 gc_10_x_7 c_10 hm51 hge51 gc_14_x_11 c_14 bhpσ_19 chpσ_19 chpσ_21 dhpσ_21 ehpσ_21 kc_22 kc_23 chpσ_25 dhpσ_25 ehpσ_25 bhpσ_28 chpσ_28 chpσ_30 dhpσ_30 ehpσ_30 kc_31 kc_32 chpσ_34 dhpσ_34 ehpσ_34 kc_36 bhpσ_38 chpσ_38 chpσ_40 dhpσ_40 ehpσ_40 k0σ_40 k4σ_40 hm145 smσ_41 k0σ_41 k4σ_41 if_43 c_44 ahpσ_46 chpσ_46 dhpσ_46 mv9_σ_46 mv12_σ_46 mv14_σ_46 mv15_σ_46 mv16_σ_46 mv8_σ_46 smσ_46 k0σ_46 k4σ_46 c_47 bhpσ_46 mv9_σ_48 mv12_σ_48 mv14_σ_48 mv15_σ_48 mv16_σ_48 mv8_σ_48 smσ_48 if_49 c_50 mv9_σ_57 mv12_σ_57 mv14_σ_57 mv15_σ_57 mv16_σ_57 mv8_σ_57; omega) | omega)]; exact kpσ_48 j h0 h1
                          have smσ_57 : 0 ≤ (σ_57.1 a 15).toInt ∧ (σ_57.1 a 15).toInt ≤ (σ_57.1 a 16).toInt ∧ (σ_57.1 a 16).toInt ≤ (σ_57.1 a 9).toInt ∧ (σ_57.1 a 9).toInt ≤ 900 ∧ 0 ≤ (σ_57.1 a 14).toInt ∧ (σ_57.1 a 14).toInt ≤ 4 ∧ (σ_57.1 a 14).toInt ≤ 4 * ((σ_57.1 a 16).toInt - (σ_57.1 a 15).toInt) ∧ (σ_57.1 a 14).toInt ≤ 4 * ((σ_57.1 a 9).toInt - (σ_57.1 a 15).toInt) ∧ 0 ≤ (σ_57.1 a 12).toInt ∧ (σ_57.1 a 8).toInt = 0 := (by first | (rw [mv12_σ_57, mv14_σ_57, mv15_σ_57, mv16_σ_57, mv8_σ_57, mv9_σ_57]; exact smσ_48) | omega)
                          obtain ⟨c1, hN1, q0, q4, q2, qe⟩ := nbσ_48
                          have ncσ_57 := m_new.mk hN1 q0 q4 qe rfl mcσ_57 (by have q : ((-1) : Int32).toInt = (-1) := rfl; omega)
                          have nkσ_57 := kpσ_57
                          refine lv_aload_n hx hb dX12_table_274 rfl (lv_at hl 0 rfl) ?_
                          refine lv_iconst (v := 4) hx hb dX12_table_275 zki_4 ?_
                          refine lv_iconst (v := 0) hx hb dX12_table_276 zki_0 ?_
                          have kc_58 : (4 : Int32).toInt = 4 := zt_4
                          have kc_59 : (0 : Int32).toInt = 0 := zt_0
                          refine q_cv (q_rV11_2 (rest := []) E (hml.trans hl.1.symm) hI (c_X12_copy l X σ_57 a (4 : Int32) (0 : Int32) ha (by decide) (by decide) (by decide)) kv_X12_261 ha ⟨Nat.le_of_ble_eq_true rfl, Nat.le_of_ble_eq_true rfl⟩ (Nat.le_of_ble_eq_true rfl) dX12_table_277) hI (Nat.le_of_ble_eq_true rfl) (fun σ_61 H locs hpσ_61 hkσ_61 hI => ?_)
                          have ahpσ_61 := hpσ_61.1
                          have bhpσ_61 := hpσ_61.2.1
                          have chpσ_61 := hpσ_61.2.2
                          clear hpσ_61
                          have fr_σ_61 := fr_σ_57.call chpσ_61 rfl rfl
                          replace hF := q_letX hF bhpσ_61
                          have mv8_σ_61 : (σ_61.1 a 8).toInt = (σ_57.1 a 8).toInt := congrArg Int32.toInt (hkσ_61 a 8 (by rw [ha]; decide))
                          have ks_σ_61 : q_KS (fun b g => b = a ∧ 8 ≤ g ∧ g ≤ 18) 1 X σ σ_61 := ks_σ_57.K hkσ_61 (by decide)
                          have cqσ_61 := m_cpy40 (by decide) (by decide) ahpσ_61
                          have g2σ_61 := m_G.new ncσ_57 cqσ_61.1
                          have kbσ_61 : ∀ j, 930 ≤ j → j < 3720 → m_c X σ_61 a j = m_c X σ a j := fun j a b => (cqσ_61.2 j a).trans ((nkσ_57 j (by first | (clear hn tb8 mv9_σ_1 mv12_σ_1 mv14_σ_1 mv15_σ_1 mv16_σ_1 mv8_σ_1 mv9_σ_2 mv12_σ_2 mv14_σ_2 mv15_σ_2 mv16_σ_2 mv8_σ_2 kc_3 ahpσ_5 bhpσ_5 ehpσ_5 fhpσ_5 c_6 sv hm25 hge25 hzσ_8 smσ_8 gc_10_x_7 c_10 hm51 hge51 gc_14_x_11 c_14 bhpσ_19 chpσ_19 chpσ_21 dhpσ_21 ehpσ_21 kc_22 kc_23 chpσ_25 dhpσ_25 ehpσ_25 bhpσ_28 chpσ_28 chpσ_30 dhpσ_30 ehpσ_30 kc_31 kc_32 chpσ_34 dhpσ_34 ehpσ_34 kc_36 bhpσ_38 chpσ_38 chpσ_40 dhpσ_40 ehpσ_40 k0σ_40 k4σ_40 hm145 smσ_41 k0σ_41 k4σ_41 if_43 c_44 ahpσ_46 chpσ_46 dhpσ_46 mv9_σ_46 mv12_σ_46 mv14_σ_46 mv15_σ_46 mv16_σ_46 mv8_σ_46 smσ_46 k0σ_46 k4σ_46 c_47 bhpσ_46 mv9_σ_48 mv12_σ_48 mv14_σ_48 mv15_σ_48 mv16_σ_48 mv8_σ_48 smσ_48 nbσ_48 if_49 c_50 mv9_σ_57 mv12_σ_57 mv14_σ_57 mv15_σ_57 mv16_σ_57 mv8_σ_57 smσ_57 kc_58 kc_59 ahpσ_61 bhpσ_61 chpσ_61 mv8_σ_61 g2σ_61; omega) | omega) b))
                          refine lv_aload_n hx hb dX12_table_280 rfl (lv_at hl 0 rfl) ?_
                          refine gs_X12_35_12 E hI ha dX12_table_281 ?_
                          refine lv_iconst (v := 2) hx hb dX12_table_284 zki_2 ?_
                          refine q_iald E hI (q_tk (k' := 34) hI ha rfl (Nat.succ_ne_zero _)) ⟨by decide, rfl⟩ (by decide) (by rw [q_lnk (v := 4650) hI (q_tk (k' := 34) hI ha rfl (Nat.succ_ne_zero _)) rfl (by decide)]; decide) dX12_table_285 ?_
                          refine lv_topi (fun f_62 ef_62 => ?_)
                          replace hF := q_letX hF ef_62
                          have if_62 : f_62.toInt = m_c X σ_61 a 2 := m_rd ef_62 (by decide)
                          exact q_reti E hr hlk hI ⟨ks_σ_61, (g2σ_61.1), (m_W.le g2σ_61.2 hn), kbσ_61, (by first | exact smσ_61 | omega), (by first | exact smσ_61 | omega), (hF.trans hout), fr_σ_61⟩ dX12_table_286
                      · skip
                        replace hF := q_ifp hF c_47
                        clear bhpσ_46
                        refine lv_iconst (v := (-1)) hx hb dX12_table_239 zki_m1 ?_
                        have hrv : ((-1) : Int32).toInt = (-1) := zt_m1
                        exact q_reti E hr hlk hI ⟨ks_σ_46, (m_G.ext (fun j a b => kpσ_46 j a (by first | exact smσ_46 | omega)) hG), (m_W.ext (fun j a b => kpσ_46 j (by first | exact smσ_46 | omega) (by first | exact smσ_46 | omega)) hW), (fun j a b => kpσ_46 j (by first | exact smσ_46 | omega) b), (by first | exact smσ_46 | omega), (by first | exact smσ_46 | omega), (hF.trans hout), fr_σ_46⟩ dX12_table_240
                    · skip
                      replace hF := q_ifp hF c_44
                      refine lv_aload_n hx hb dX12_table_152 rfl (lv_at hl 0 rfl) ?_
                      refine gs_X12_110_12 E hI ha dX12_table_153 ?_
                      refine lv_topi (fun f_63 ef_63 => ?_)
                      replace hF := q_letX hF ef_63
                      have if_63 : f_63.toInt = (σ_41.1 a 14).toInt := congrArg Int32.toInt ef_63
                      refine q_if_eq (A := f_63.toInt) E rfl (tgt := 232) dX12_table_156 (by decide) (fun c_64 => ?_) (fun c_64 => ?_)
                      · skip
                        replace hF := q_ifp hF c_64
                        unfold F_X12_table_E232_7 at hF
                        refine lv_aload_n hx hb dX12_table_232 rfl (lv_at hl 0 rfl) ?_
                        refine q_ci (q_rV11_0 (rest := []) E (hml.trans hl.1.symm) hI (c_X12_isWell l X σ_41 a ha) kv_X12_258 ha ⟨Nat.le_of_ble_eq_true rfl, Nat.le_of_ble_eq_true rfl⟩ (Nat.le_of_ble_eq_true rfl) dX12_table_233) hI (Nat.le_of_ble_eq_true rfl) (fun r_65 σ_66 H locs hpσ_66 hkσ_66 hI => ?_)
                        have ahpσ_66 := hpσ_66.1
                        have bhpσ_66 := hpσ_66.2.1
                        have chpσ_66 := hpσ_66.2.2.1
                        have dhpσ_66 := hpσ_66.2.2.2
                        clear hpσ_66
                        have fr_σ_66 := fr_σ_41.call dhpσ_66 rfl rfl
                        replace hF := q_biX hF chpσ_66
                        have mv9_σ_66 : (σ_66.1 a 9).toInt = (σ_41.1 a 9).toInt := congrArg Int32.toInt ((q_K.le hkσ_66 (by decide) : q_K 8 X σ_41 σ_66) a 9 (by rw [ha]; decide))
                        have mv12_σ_66 : (σ_66.1 a 12).toInt = (σ_41.1 a 12).toInt := congrArg Int32.toInt ((q_K.le hkσ_66 (by decide) : q_K 8 X σ_41 σ_66) a 12 (by rw [ha]; decide))
                        have mv14_σ_66 : (σ_66.1 a 14).toInt = (σ_41.1 a 14).toInt := congrArg Int32.toInt ((q_K.le hkσ_66 (by decide) : q_K 8 X σ_41 σ_66) a 14 (by rw [ha]; decide))
                        have mv15_σ_66 : (σ_66.1 a 15).toInt = (σ_41.1 a 15).toInt := congrArg Int32.toInt ((q_K.le hkσ_66 (by decide) : q_K 8 X σ_41 σ_66) a 15 (by rw [ha]; decide))
                        have mv16_σ_66 : (σ_66.1 a 16).toInt = (σ_41.1 a 16).toInt := congrArg Int32.toInt ((q_K.le hkσ_66 (by decide) : q_K 8 X σ_41 σ_66) a 16 (by rw [ha]; decide))
                        have mv8_σ_66 : (σ_66.1 a 8).toInt = (σ_41.1 a 8).toInt := congrArg Int32.toInt ((q_K.le hkσ_66 (by decide) : q_K 8 X σ_41 σ_66) a 8 (by rw [ha]; decide))
                        have mcσ_66 := m_cK hkσ_66 hI.1 ha (by decide)
                        have kpσ_66 : ∀ j, 0 ≤ j → j < 3720 → m_c X σ_66 a j = m_c X σ a j := fun j h0 h1 => (mcσ_66 j).trans (kpσ_41 j h0 h1)
                        have smσ_66 : 0 ≤ (σ_66.1 a 15).toInt ∧ (σ_66.1 a 15).toInt ≤ (σ_66.1 a 16).toInt ∧ (σ_66.1 a 16).toInt ≤ (σ_66.1 a 9).toInt ∧ (σ_66.1 a 9).toInt ≤ 900 ∧ 0 ≤ (σ_66.1 a 14).toInt ∧ (σ_66.1 a 14).toInt ≤ 4 ∧ (σ_66.1 a 14).toInt ≤ 4 * ((σ_66.1 a 16).toInt - (σ_66.1 a 15).toInt) ∧ (σ_66.1 a 14).toInt ≤ 4 * ((σ_66.1 a 9).toInt - (σ_66.1 a 15).toInt) ∧ 0 ≤ (σ_66.1 a 12).toInt ∧ (σ_66.1 a 8).toInt = 0 := (by first | (rw [mv12_σ_66, mv14_σ_66, mv15_σ_66, mv16_σ_66, mv8_σ_66, mv9_σ_66]; exact smσ_41) | omega)
                        have nnσ_66 : m_N (m_c X σ_66 a) := m_N.ext mcσ_66 nnσ_41
                        have k0σ_66 : 2 ≤ m_c X σ_66 a 3720 + 10 * (σ_66.1 a 12).toInt := (by have := mcσ_66 3720; omega)
                        have k4σ_66 : 1 ≤ m_c X σ_66 a 3724 + 10 * (σ_66.1 a 12).toInt := (by have := mcσ_66 3724; omega)
                        have ks_σ_66 : q_KS (fun b g => b = a ∧ 8 ≤ g ∧ g ≤ 18) 1 X σ σ_66 := ks_σ_41.K hkσ_66 (by decide)
                        refine q_if_ne (A := r_65.toInt) E rfl (tgt := 241) dX12_table_236 (by decide) (fun c_67 => ?_) (fun c_67 => ?_)
                        · skip
                          replace hF := q_ifn hF c_67
                          replace c_67 := q_ifOne ahpσ_66 c_67
                          replace bhpσ_66 := bhpσ_66 c_67
                          refine lv_aload_n hx hb dX12_table_241 rfl (lv_at hl 0 rfl) ?_
                          refine gs_X12_35_12 E hI ha dX12_table_242 ?_
                          refine lv_sipush (v := 3728) hx hb dX12_table_245 zks_3728 ?_
                          refine lv_iconst (v := (-1)) hx hb dX12_table_248 zki_m1 ?_
                          refine q_iastN E hI (q_tk (k' := 34) hI ha rfl (Nat.succ_ne_zero _)) ⟨by decide, rfl⟩ (by decide) (by rw [q_lnk (v := 4650) hI (q_tk (k' := 34) hI ha rfl (Nat.succ_ne_zero _)) rfl (by decide)]; decide) (show 0 < 2 by decide) (q_inU rfl) dX12_table_249 (fun H locs σ_68 hσ_68 hI => ?_)
                          replace hF := q_letX hF hσ_68
                          have fr_σ_68 := fr_σ_66.si hσ_68 (q_tk (k' := 34) hI ha rfl (Nat.succ_ne_zero _)) rfl
                          have mv9_σ_68 : (σ_68.1 a 9).toInt = (σ_66.1 a 9).toInt := congrArg Int32.toInt (q_rdn hσ_68 (Or.inl (m_ne ha (q_tk (k' := 34) hI ha rfl (Nat.succ_ne_zero _)) (by decide))))
                          have mv12_σ_68 : (σ_68.1 a 12).toInt = (σ_66.1 a 12).toInt := congrArg Int32.toInt (q_rdn hσ_68 (Or.inl (m_ne ha (q_tk (k' := 34) hI ha rfl (Nat.succ_ne_zero _)) (by decide))))
                          have mv14_σ_68 : (σ_68.1 a 14).toInt = (σ_66.1 a 14).toInt := congrArg Int32.toInt (q_rdn hσ_68 (Or.inl (m_ne ha (q_tk (k' := 34) hI ha rfl (Nat.succ_ne_zero _)) (by decide))))
                          have mv15_σ_68 : (σ_68.1 a 15).toInt = (σ_66.1 a 15).toInt := congrArg Int32.toInt (q_rdn hσ_68 (Or.inl (m_ne ha (q_tk (k' := 34) hI ha rfl (Nat.succ_ne_zero _)) (by decide))))
                          have mv16_σ_68 : (σ_68.1 a 16).toInt = (σ_66.1 a 16).toInt := congrArg Int32.toInt (q_rdn hσ_68 (Or.inl (m_ne ha (q_tk (k' := 34) hI ha rfl (Nat.succ_ne_zero _)) (by decide))))
                          have mv8_σ_68 : (σ_68.1 a 8).toInt = (σ_66.1 a 8).toInt := congrArg Int32.toInt (q_rdn hσ_68 (Or.inl (m_ne ha (q_tk (k' := 34) hI ha rfl (Nat.succ_ne_zero _)) (by decide))))
                          have ks_σ_68 : q_KS (fun b g => b = a ∧ 8 ≤ g ∧ g ≤ 18) 1 X σ σ_68 := ks_σ_66.si hσ_68 (q_tk (k' := 34) hI ha rfl (Nat.succ_ne_zero _)) (show 1 < 2 by decide)
                          have mcσ_68 := m_wr (v := ((-1) : Int32)) (A := 3728) hσ_68 (by decide) (by decide)
                          have kpσ_68 : ∀ j, 0 ≤ j → j < 3720 → m_c X σ_68 a j = m_c X σ a j := fun j h0 h1 => by rw [mcσ_68 j h0, if_neg (by first | (clear hn tb8 mv9_σ_1 mv12_σ_1 mv14_σ_1 mv15_σ_1 mv16_σ_1 mv8_σ_1 mv9_σ_2 mv12_σ_2 mv14_σ_2 mv15_σ_2 mv16_σ_2 mv8_σ_2 kc_3 ahpσ_5 bhpσ_5 ehpσ_5 fhpσ_5 c_6 sv hm25 hge25 hzσ_8 smσ_8 gc_10_x_7 c_10 hm51 hge51 gc_14_x_11 c_14 bhpσ_19 chpσ_19 chpσ_21 dhpσ_21 ehpσ_21 kc_22 kc_23 chpσ_25 dhpσ_25 ehpσ_25 bhpσ_28 chpσ_28 chpσ_30 dhpσ_30 ehpσ_30 kc_31 kc_32 chpσ_34 dhpσ_34 ehpσ_34 kc_36 bhpσ_38 chpσ_38 chpσ_40 dhpσ_40 ehpσ_40 k0σ_40 k4σ_40 hm145 smσ_41 k0σ_41 k4σ_41 if_43 c_44 if_63 c_64 ahpσ_66 chpσ_66 dhpσ_66 mv9_σ_66 mv12_σ_66 mv14_σ_66 mv15_σ_66 mv16_σ_66 mv8_σ_66 smσ_66 k0σ_66 k4σ_66 c_67 bhpσ_66 mv9_σ_68 mv12_σ_68 mv14_σ_68 mv15_σ_68 mv16_σ_68 mv8_σ_68; omega) | omega)]; exact kpσ_66 j h0 h1
                          have smσ_68 : 0 ≤ (σ_68.1 a 15).toInt ∧ (σ_68.1 a 15).toInt ≤ (σ_68.1 a 16).toInt ∧ (σ_68.1 a 16).toInt ≤ (σ_68.1 a 9).toInt ∧ (σ_68.1 a 9).toInt ≤ 900 ∧ 0 ≤ (σ_68.1 a 14).toInt ∧ (σ_68.1 a 14).toInt ≤ 4 ∧ (σ_68.1 a 14).toInt ≤ 4 * ((σ_68.1 a 16).toInt - (σ_68.1 a 15).toInt) ∧ (σ_68.1 a 14).toInt ≤ 4 * ((σ_68.1 a 9).toInt - (σ_68.1 a 15).toInt) ∧ 0 ≤ (σ_68.1 a 12).toInt ∧ (σ_68.1 a 8).toInt = 0 := (by first | (rw [mv12_σ_68, mv14_σ_68, mv15_σ_68, mv16_σ_68, mv8_σ_68, mv9_σ_68]; exact smσ_66) | omega)
                          have nbσ_68 : ∃ c1, m_N c1 ∧ 2 ≤ c1 3720 ∧ 1 ≤ c1 3724 ∧ (c1 3722 = m_c X σ_68 a 3722) ∧ ∀ j : Int, 0 ≤ j → m_c X σ_68 a j = if j = 3728 then -1 else c1 j := ⟨_, nnσ_66, by omega, by omega, by rw [mcσ_68 3722 (by decide)]; rfl, mcσ_68⟩
                          refine lv_aload_n hx hb dX12_table_250 rfl (lv_at hl 0 rfl) ?_
                          refine gs_X12_35_12 E hI ha dX12_table_251 ?_
                          refine lv_sipush (v := 3726) hx hb dX12_table_254 zks_3726 ?_
                          refine lv_aload_n hx hb dX12_table_257 rfl (lv_at hl 0 rfl) ?_
                          refine gs_X12_35_12 E hI ha dX12_table_258 ?_
                          refine lv_sipush (v := 3722) hx hb dX12_table_261 zks_3722 ?_
                          refine q_iald E hI (q_tk (k' := 34) hI ha rfl (Nat.succ_ne_zero _)) ⟨by decide, rfl⟩ (by decide) (by rw [q_lnk (v := 4650) hI (q_tk (k' := 34) hI ha rfl (Nat.succ_ne_zero _)) rfl (by decide)]; decide) dX12_table_264 ?_
                          refine lv_topi (fun f_69 ef_69 => ?_)
                          replace hF := q_letX hF ef_69
                          have if_69 : f_69.toInt = m_c X σ_68 a 3722 := m_rd ef_69 (by decide)
                          refine q_if_ne (A := f_69.toInt) E rfl (tgt := 272) dX12_table_265 (by decide) (fun c_70 => ?_) (fun c_70 => ?_)
                          · skip
                            replace hF := q_ifn hF c_70
                            refine lv_iconst (v := 0) hx hb dX12_table_272 zki_0 ?_
                            refine q_iastN E hI (q_tk (k' := 34) hI ha rfl (Nat.succ_ne_zero _)) ⟨by decide, rfl⟩ (by decide) (by rw [q_lnk (v := 4650) hI (q_tk (k' := 34) hI ha rfl (Nat.succ_ne_zero _)) rfl (by decide)]; decide) (show 0 < 2 by decide) (q_inU rfl) dX12_table_273 (fun H locs σ_71 hσ_71 hI => ?_)
                            replace hF := q_letX hF hσ_71
                            have fr_σ_71 := fr_σ_68.si hσ_71 (q_tk (k' := 34) hI ha rfl (Nat.succ_ne_zero _)) rfl
                            have mv9_σ_71 : (σ_71.1 a 9).toInt = (σ_68.1 a 9).toInt := congrArg Int32.toInt (q_rdn hσ_71 (Or.inl (m_ne ha (q_tk (k' := 34) hI ha rfl (Nat.succ_ne_zero _)) (by decide))))
                            have mv12_σ_71 : (σ_71.1 a 12).toInt = (σ_68.1 a 12).toInt := congrArg Int32.toInt (q_rdn hσ_71 (Or.inl (m_ne ha (q_tk (k' := 34) hI ha rfl (Nat.succ_ne_zero _)) (by decide))))
                            have mv14_σ_71 : (σ_71.1 a 14).toInt = (σ_68.1 a 14).toInt := congrArg Int32.toInt (q_rdn hσ_71 (Or.inl (m_ne ha (q_tk (k' := 34) hI ha rfl (Nat.succ_ne_zero _)) (by decide))))
                            have mv15_σ_71 : (σ_71.1 a 15).toInt = (σ_68.1 a 15).toInt := congrArg Int32.toInt (q_rdn hσ_71 (Or.inl (m_ne ha (q_tk (k' := 34) hI ha rfl (Nat.succ_ne_zero _)) (by decide))))
                            have mv16_σ_71 : (σ_71.1 a 16).toInt = (σ_68.1 a 16).toInt := congrArg Int32.toInt (q_rdn hσ_71 (Or.inl (m_ne ha (q_tk (k' := 34) hI ha rfl (Nat.succ_ne_zero _)) (by decide))))
                            have mv8_σ_71 : (σ_71.1 a 8).toInt = (σ_68.1 a 8).toInt := congrArg Int32.toInt (q_rdn hσ_71 (Or.inl (m_ne ha (q_tk (k' := 34) hI ha rfl (Nat.succ_ne_zero _)) (by decide))))
                            have ks_σ_71 : q_KS (fun b g => b = a ∧ 8 ≤ g ∧ g ≤ 18) 1 X σ σ_71 := ks_σ_68.si hσ_71 (q_tk (k' := 34) hI ha rfl (Nat.succ_ne_zero _)) (show 1 < 2 by decide)
                            have mcσ_71 := m_wr (v := (0 : Int32)) (A := 3726) hσ_71 (by decide) (by decide)
                            have kpσ_71 : ∀ j, 0 ≤ j → j < 3720 → m_c X σ_71 a j = m_c X σ a j := fun j h0 h1 => by rw [mcσ_71 j h0, if_neg (by first | (clear hn tb8 mv9_σ_1 mv12_σ_1 mv14_σ_1 mv15_σ_1 mv16_σ_1 mv8_σ_1 mv9_σ_2 mv12_σ_2 mv14_σ_2 mv15_σ_2 mv16_σ_2 mv8_σ_2 kc_3 ahpσ_5 bhpσ_5 ehpσ_5 fhpσ_5 c_6 sv hm25 hge25 hzσ_8 smσ_8 gc_10_x_7 c_10 hm51 hge51 gc_14_x_11 c_14 bhpσ_19 chpσ_19 chpσ_21 dhpσ_21 ehpσ_21 kc_22 kc_23 chpσ_25 dhpσ_25 ehpσ_25 bhpσ_28 chpσ_28 chpσ_30 dhpσ_30 ehpσ_30 kc_31 kc_32 chpσ_34 dhpσ_34 ehpσ_34 kc_36 bhpσ_38 chpσ_38 chpσ_40 dhpσ_40 ehpσ_40 k0σ_40 k4σ_40 hm145 smσ_41 k0σ_41 k4σ_41 if_43 c_44 if_63 c_64 ahpσ_66 chpσ_66 dhpσ_66 mv9_σ_66 mv12_σ_66 mv14_σ_66 mv15_σ_66 mv16_σ_66 mv8_σ_66 smσ_66 k0σ_66 k4σ_66 c_67 bhpσ_66 mv9_σ_68 mv12_σ_68 mv14_σ_68 mv15_σ_68 mv16_σ_68 mv8_σ_68 smσ_68 if_69 c_70 mv9_σ_71 mv12_σ_71 mv14_σ_71 mv15_σ_71 mv16_σ_71 mv8_σ_71; omega) | omega)]; exact kpσ_68 j h0 h1
                            have smσ_71 : 0 ≤ (σ_71.1 a 15).toInt ∧ (σ_71.1 a 15).toInt ≤ (σ_71.1 a 16).toInt ∧ (σ_71.1 a 16).toInt ≤ (σ_71.1 a 9).toInt ∧ (σ_71.1 a 9).toInt ≤ 900 ∧ 0 ≤ (σ_71.1 a 14).toInt ∧ (σ_71.1 a 14).toInt ≤ 4 ∧ (σ_71.1 a 14).toInt ≤ 4 * ((σ_71.1 a 16).toInt - (σ_71.1 a 15).toInt) ∧ (σ_71.1 a 14).toInt ≤ 4 * ((σ_71.1 a 9).toInt - (σ_71.1 a 15).toInt) ∧ 0 ≤ (σ_71.1 a 12).toInt ∧ (σ_71.1 a 8).toInt = 0 := (by first | (rw [mv12_σ_71, mv14_σ_71, mv15_σ_71, mv16_σ_71, mv8_σ_71, mv9_σ_71]; exact smσ_68) | omega)
                            obtain ⟨c1, hN1, q0, q4, q2, qe⟩ := nbσ_68
                            have ncσ_71 := m_new.mk hN1 q0 q4 qe rfl mcσ_71 (by have q : (0 : Int32).toInt = 0 := rfl; omega)
                            have nkσ_71 := kpσ_71
                            refine lv_aload_n hx hb dX12_table_274 rfl (lv_at hl 0 rfl) ?_
                            refine lv_iconst (v := 4) hx hb dX12_table_275 zki_4 ?_
                            refine lv_iconst (v := 0) hx hb dX12_table_276 zki_0 ?_
                            have kc_72 : (4 : Int32).toInt = 4 := zt_4
                            have kc_73 : (0 : Int32).toInt = 0 := zt_0
                            refine q_cv (q_rV11_2 (rest := []) E (hml.trans hl.1.symm) hI (c_X12_copy l X σ_71 a (4 : Int32) (0 : Int32) ha (by decide) (by decide) (by decide)) kv_X12_261 ha ⟨Nat.le_of_ble_eq_true rfl, Nat.le_of_ble_eq_true rfl⟩ (Nat.le_of_ble_eq_true rfl) dX12_table_277) hI (Nat.le_of_ble_eq_true rfl) (fun σ_75 H locs hpσ_75 hkσ_75 hI => ?_)
                            have ahpσ_75 := hpσ_75.1
                            have bhpσ_75 := hpσ_75.2.1
                            have chpσ_75 := hpσ_75.2.2
                            clear hpσ_75
                            have fr_σ_75 := fr_σ_71.call chpσ_75 rfl rfl
                            replace hF := q_letX hF bhpσ_75
                            have mv8_σ_75 : (σ_75.1 a 8).toInt = (σ_71.1 a 8).toInt := congrArg Int32.toInt (hkσ_75 a 8 (by rw [ha]; decide))
                            have ks_σ_75 : q_KS (fun b g => b = a ∧ 8 ≤ g ∧ g ≤ 18) 1 X σ σ_75 := ks_σ_71.K hkσ_75 (by decide)
                            have cqσ_75 := m_cpy40 (by decide) (by decide) ahpσ_75
                            have g2σ_75 := m_G.new ncσ_71 cqσ_75.1
                            have kbσ_75 : ∀ j, 930 ≤ j → j < 3720 → m_c X σ_75 a j = m_c X σ a j := fun j a b => (cqσ_75.2 j a).trans ((nkσ_71 j (by first | (clear hn tb8 mv9_σ_1 mv12_σ_1 mv14_σ_1 mv15_σ_1 mv16_σ_1 mv8_σ_1 mv9_σ_2 mv12_σ_2 mv14_σ_2 mv15_σ_2 mv16_σ_2 mv8_σ_2 kc_3 ahpσ_5 bhpσ_5 ehpσ_5 fhpσ_5 c_6 sv hm25 hge25 hzσ_8 smσ_8 gc_10_x_7 c_10 hm51 hge51 gc_14_x_11 c_14 bhpσ_19 chpσ_19 chpσ_21 dhpσ_21 ehpσ_21 kc_22 kc_23 chpσ_25 dhpσ_25 ehpσ_25 bhpσ_28 chpσ_28 chpσ_30 dhpσ_30 ehpσ_30 kc_31 kc_32 chpσ_34 dhpσ_34 ehpσ_34 kc_36 bhpσ_38 chpσ_38 chpσ_40 dhpσ_40 ehpσ_40 k0σ_40 k4σ_40 hm145 smσ_41 k0σ_41 k4σ_41 if_43 c_44 if_63 c_64 ahpσ_66 chpσ_66 dhpσ_66 mv9_σ_66 mv12_σ_66 mv14_σ_66 mv15_σ_66 mv16_σ_66 mv8_σ_66 smσ_66 k0σ_66 k4σ_66 c_67 bhpσ_66 mv9_σ_68 mv12_σ_68 mv14_σ_68 mv15_σ_68 mv16_σ_68 mv8_σ_68 smσ_68 nbσ_68 if_69 c_70 mv9_σ_71 mv12_σ_71 mv14_σ_71 mv15_σ_71 mv16_σ_71 mv8_σ_71 smσ_71 kc_72 kc_73 ahpσ_75 bhpσ_75 chpσ_75 mv8_σ_75 g2σ_75; omega) | omega) b))
                            refine lv_aload_n hx hb dX12_table_280 rfl (lv_at hl 0 rfl) ?_
                            refine gs_X12_35_12 E hI ha dX12_table_281 ?_
                            refine lv_iconst (v := 2) hx hb dX12_table_284 zki_2 ?_
                            refine q_iald E hI (q_tk (k' := 34) hI ha rfl (Nat.succ_ne_zero _)) ⟨by decide, rfl⟩ (by decide) (by rw [q_lnk (v := 4650) hI (q_tk (k' := 34) hI ha rfl (Nat.succ_ne_zero _)) rfl (by decide)]; decide) dX12_table_285 ?_
                            refine lv_topi (fun f_76 ef_76 => ?_)
                            replace hF := q_letX hF ef_76
                            have if_76 : f_76.toInt = m_c X σ_75 a 2 := m_rd ef_76 (by decide)
                            exact q_reti E hr hlk hI ⟨ks_σ_75, (g2σ_75.1), (m_W.le g2σ_75.2 hn), kbσ_75, (by first | exact smσ_75 | omega), (by first | exact smσ_75 | omega), (hF.trans hout), fr_σ_75⟩ dX12_table_286
                          · skip
                            replace hF := q_ifp hF c_70
                            refine lv_iconst (v := (-1)) hx hb dX12_table_268 zki_m1 ?_
                            refine lv_goto (tgt := 273) hx hb dX12_table_269 (by decide) ?_
                            refine q_iastN E hI (q_tk (k' := 34) hI ha rfl (Nat.succ_ne_zero _)) ⟨by decide, rfl⟩ (by decide) (by rw [q_lnk (v := 4650) hI (q_tk (k' := 34) hI ha rfl (Nat.succ_ne_zero _)) rfl (by decide)]; decide) (show 0 < 2 by decide) (q_inU rfl) dX12_table_273 (fun H locs σ_77 hσ_77 hI => ?_)
                            replace hF := q_letX hF hσ_77
                            have fr_σ_77 := fr_σ_68.si hσ_77 (q_tk (k' := 34) hI ha rfl (Nat.succ_ne_zero _)) rfl
                            have mv9_σ_77 : (σ_77.1 a 9).toInt = (σ_68.1 a 9).toInt := congrArg Int32.toInt (q_rdn hσ_77 (Or.inl (m_ne ha (q_tk (k' := 34) hI ha rfl (Nat.succ_ne_zero _)) (by decide))))
                            have mv12_σ_77 : (σ_77.1 a 12).toInt = (σ_68.1 a 12).toInt := congrArg Int32.toInt (q_rdn hσ_77 (Or.inl (m_ne ha (q_tk (k' := 34) hI ha rfl (Nat.succ_ne_zero _)) (by decide))))
                            have mv14_σ_77 : (σ_77.1 a 14).toInt = (σ_68.1 a 14).toInt := congrArg Int32.toInt (q_rdn hσ_77 (Or.inl (m_ne ha (q_tk (k' := 34) hI ha rfl (Nat.succ_ne_zero _)) (by decide))))
                            have mv15_σ_77 : (σ_77.1 a 15).toInt = (σ_68.1 a 15).toInt := congrArg Int32.toInt (q_rdn hσ_77 (Or.inl (m_ne ha (q_tk (k' := 34) hI ha rfl (Nat.succ_ne_zero _)) (by decide))))
                            have mv16_σ_77 : (σ_77.1 a 16).toInt = (σ_68.1 a 16).toInt := congrArg Int32.toInt (q_rdn hσ_77 (Or.inl (m_ne ha (q_tk (k' := 34) hI ha rfl (Nat.succ_ne_zero _)) (by decide))))
                            have mv8_σ_77 : (σ_77.1 a 8).toInt = (σ_68.1 a 8).toInt := congrArg Int32.toInt (q_rdn hσ_77 (Or.inl (m_ne ha (q_tk (k' := 34) hI ha rfl (Nat.succ_ne_zero _)) (by decide))))
                            have ks_σ_77 : q_KS (fun b g => b = a ∧ 8 ≤ g ∧ g ≤ 18) 1 X σ σ_77 := ks_σ_68.si hσ_77 (q_tk (k' := 34) hI ha rfl (Nat.succ_ne_zero _)) (show 1 < 2 by decide)
                            have mcσ_77 := m_wr (v := ((-1) : Int32)) (A := 3726) hσ_77 (by decide) (by decide)
                            have kpσ_77 : ∀ j, 0 ≤ j → j < 3720 → m_c X σ_77 a j = m_c X σ a j := fun j h0 h1 => by rw [mcσ_77 j h0, if_neg (by first | (clear hn tb8 mv9_σ_1 mv12_σ_1 mv14_σ_1 mv15_σ_1 mv16_σ_1 mv8_σ_1 mv9_σ_2 mv12_σ_2 mv14_σ_2 mv15_σ_2 mv16_σ_2 mv8_σ_2 kc_3 ahpσ_5 bhpσ_5 ehpσ_5 fhpσ_5 c_6 sv hm25 hge25 hzσ_8 smσ_8 gc_10_x_7 c_10 hm51 hge51 gc_14_x_11 c_14 bhpσ_19 chpσ_19 chpσ_21 dhpσ_21 ehpσ_21 kc_22 kc_23 chpσ_25 dhpσ_25 ehpσ_25 bhpσ_28 chpσ_28 chpσ_30 dhpσ_30 ehpσ_30 kc_31 kc_32 chpσ_34 dhpσ_34 ehpσ_34 kc_36 bhpσ_38 chpσ_38 chpσ_40 dhpσ_40 ehpσ_40 k0σ_40 k4σ_40 hm145 smσ_41 k0σ_41 k4σ_41 if_43 c_44 if_63 c_64 ahpσ_66 chpσ_66 dhpσ_66 mv9_σ_66 mv12_σ_66 mv14_σ_66 mv15_σ_66 mv16_σ_66 mv8_σ_66 smσ_66 k0σ_66 k4σ_66 c_67 bhpσ_66 mv9_σ_68 mv12_σ_68 mv14_σ_68 mv15_σ_68 mv16_σ_68 mv8_σ_68 smσ_68 if_69 c_70 mv9_σ_77 mv12_σ_77 mv14_σ_77 mv15_σ_77 mv16_σ_77 mv8_σ_77; omega) | omega)]; exact kpσ_68 j h0 h1
                            have smσ_77 : 0 ≤ (σ_77.1 a 15).toInt ∧ (σ_77.1 a 15).toInt ≤ (σ_77.1 a 16).toInt ∧ (σ_77.1 a 16).toInt ≤ (σ_77.1 a 9).toInt ∧ (σ_77.1 a 9).toInt ≤ 900 ∧ 0 ≤ (σ_77.1 a 14).toInt ∧ (σ_77.1 a 14).toInt ≤ 4 ∧ (σ_77.1 a 14).toInt ≤ 4 * ((σ_77.1 a 16).toInt - (σ_77.1 a 15).toInt) ∧ (σ_77.1 a 14).toInt ≤ 4 * ((σ_77.1 a 9).toInt - (σ_77.1 a 15).toInt) ∧ 0 ≤ (σ_77.1 a 12).toInt ∧ (σ_77.1 a 8).toInt = 0 := (by first | (rw [mv12_σ_77, mv14_σ_77, mv15_σ_77, mv16_σ_77, mv8_σ_77, mv9_σ_77]; exact smσ_68) | omega)
                            obtain ⟨c1, hN1, q0, q4, q2, qe⟩ := nbσ_68
                            have ncσ_77 := m_new.mk hN1 q0 q4 qe rfl mcσ_77 (by have q : ((-1) : Int32).toInt = (-1) := rfl; omega)
                            have nkσ_77 := kpσ_77
                            refine lv_aload_n hx hb dX12_table_274 rfl (lv_at hl 0 rfl) ?_
                            refine lv_iconst (v := 4) hx hb dX12_table_275 zki_4 ?_
                            refine lv_iconst (v := 0) hx hb dX12_table_276 zki_0 ?_
                            have kc_78 : (4 : Int32).toInt = 4 := zt_4
                            have kc_79 : (0 : Int32).toInt = 0 := zt_0
                            refine q_cv (q_rV11_2 (rest := []) E (hml.trans hl.1.symm) hI (c_X12_copy l X σ_77 a (4 : Int32) (0 : Int32) ha (by decide) (by decide) (by decide)) kv_X12_261 ha ⟨Nat.le_of_ble_eq_true rfl, Nat.le_of_ble_eq_true rfl⟩ (Nat.le_of_ble_eq_true rfl) dX12_table_277) hI (Nat.le_of_ble_eq_true rfl) (fun σ_81 H locs hpσ_81 hkσ_81 hI => ?_)
                            have ahpσ_81 := hpσ_81.1
                            have bhpσ_81 := hpσ_81.2.1
                            have chpσ_81 := hpσ_81.2.2
                            clear hpσ_81
                            have fr_σ_81 := fr_σ_77.call chpσ_81 rfl rfl
                            replace hF := q_letX hF bhpσ_81
                            have mv8_σ_81 : (σ_81.1 a 8).toInt = (σ_77.1 a 8).toInt := congrArg Int32.toInt (hkσ_81 a 8 (by rw [ha]; decide))
                            have ks_σ_81 : q_KS (fun b g => b = a ∧ 8 ≤ g ∧ g ≤ 18) 1 X σ σ_81 := ks_σ_77.K hkσ_81 (by decide)
                            have cqσ_81 := m_cpy40 (by decide) (by decide) ahpσ_81
                            have g2σ_81 := m_G.new ncσ_77 cqσ_81.1
                            have kbσ_81 : ∀ j, 930 ≤ j → j < 3720 → m_c X σ_81 a j = m_c X σ a j := fun j a b => (cqσ_81.2 j a).trans ((nkσ_77 j (by first | (clear hn tb8 mv9_σ_1 mv12_σ_1 mv14_σ_1 mv15_σ_1 mv16_σ_1 mv8_σ_1 mv9_σ_2 mv12_σ_2 mv14_σ_2 mv15_σ_2 mv16_σ_2 mv8_σ_2 kc_3 ahpσ_5 bhpσ_5 ehpσ_5 fhpσ_5 c_6 sv hm25 hge25 hzσ_8 smσ_8 gc_10_x_7 c_10 hm51 hge51 gc_14_x_11 c_14 bhpσ_19 chpσ_19 chpσ_21 dhpσ_21 ehpσ_21 kc_22 kc_23 chpσ_25 dhpσ_25 ehpσ_25 bhpσ_28 chpσ_28 chpσ_30 dhpσ_30 ehpσ_30 kc_31 kc_32 chpσ_34 dhpσ_34 ehpσ_34 kc_36 bhpσ_38 chpσ_38 chpσ_40 dhpσ_40 ehpσ_40 k0σ_40 k4σ_40 hm145 smσ_41 k0σ_41 k4σ_41 if_43 c_44 if_63 c_64 ahpσ_66 chpσ_66 dhpσ_66 mv9_σ_66 mv12_σ_66 mv14_σ_66 mv15_σ_66 mv16_σ_66 mv8_σ_66 smσ_66 k0σ_66 k4σ_66 c_67 bhpσ_66 mv9_σ_68 mv12_σ_68 mv14_σ_68 mv15_σ_68 mv16_σ_68 mv8_σ_68 smσ_68 nbσ_68 if_69 c_70 mv9_σ_77 mv12_σ_77 mv14_σ_77 mv15_σ_77 mv16_σ_77 mv8_σ_77 smσ_77 kc_78 kc_79 ahpσ_81 bhpσ_81 chpσ_81 mv8_σ_81 g2σ_81; omega) | omega) b))
                            refine lv_aload_n hx hb dX12_table_280 rfl (lv_at hl 0 rfl) ?_
                            refine gs_X12_35_12 E hI ha dX12_table_281 ?_
                            refine lv_iconst (v := 2) hx hb dX12_table_284 zki_2 ?_
                            refine q_iald E hI (q_tk (k' := 34) hI ha rfl (Nat.succ_ne_zero _)) ⟨by decide, rfl⟩ (by decide) (by rw [q_lnk (v := 4650) hI (q_tk (k' := 34) hI ha rfl (Nat.succ_ne_zero _)) rfl (by decide)]; decide) dX12_table_285 ?_
                            refine lv_topi (fun f_82 ef_82 => ?_)
                            replace hF := q_letX hF ef_82
                            have if_82 : f_82.toInt = m_c X σ_81 a 2 := m_rd ef_82 (by decide)
                            exact q_reti E hr hlk hI ⟨ks_σ_81, (g2σ_81.1), (m_W.le g2σ_81.2 hn), kbσ_81, (by first | exact smσ_81 | omega), (by first | exact smσ_81 | omega), (hF.trans hout), fr_σ_81⟩ dX12_table_286
                        · skip
                          replace hF := q_ifp hF c_67
                          clear bhpσ_66
                          refine lv_iconst (v := (-1)) hx hb dX12_table_239 zki_m1 ?_
                          have hrv : ((-1) : Int32).toInt = (-1) := zt_m1
                          exact q_reti E hr hlk hI ⟨ks_σ_66, (m_G.ext (fun j a b => kpσ_66 j a (by first | exact smσ_66 | omega)) hG), (m_W.ext (fun j a b => kpσ_66 j (by first | exact smσ_66 | omega) (by first | exact smσ_66 | omega)) hW), (fun j a b => kpσ_66 j (by first | exact smσ_66 | omega) b), (by first | exact smσ_66 | omega), (by first | exact smσ_66 | omega), (hF.trans hout), fr_σ_66⟩ dX12_table_240
                      · skip
                        replace hF := q_ifn hF c_64
                        refine lv_aload_n hx hb dX12_table_159 rfl (lv_at hl 0 rfl) ?_
                        refine q_ci (q_rV11_0 (rest := []) E (hml.trans hl.1.symm) hI (c_X12_isLaw l X σ_41 a ha) kv_X12_156 ha ⟨Nat.le_of_ble_eq_true rfl, Nat.le_of_ble_eq_true rfl⟩ (Nat.le_of_ble_eq_true rfl) dX12_table_160) hI (Nat.le_of_ble_eq_true rfl) (fun r_83 σ_84 H locs hpσ_84 hkσ_84 hI => ?_)
                        have ahpσ_84 := hpσ_84.1
                        have bhpσ_84 := hpσ_84.2.1
                        have chpσ_84 := hpσ_84.2.2
                        clear hpσ_84
                        replace hI := q_Irw ahpσ_84 hI
                        replace hF := q_letX hF chpσ_84
                        refine q_if_eq (A := r_83.toInt) E rfl (tgt := 173) dX12_table_163 (by decide) (fun c_85 => ?_) (fun c_85 => ?_)
                        · skip
                          replace hF := q_ifp hF c_85
                          refine lv_aload_n hx hb dX12_table_173 rfl (lv_at hl 0 rfl) ?_
                          refine q_ci (q_rV11_0 (rest := []) E (hml.trans hl.1.symm) hI (c_X12_isMost l X σ_41 a ha) kv_X12_159 ha ⟨Nat.le_of_ble_eq_true rfl, Nat.le_of_ble_eq_true rfl⟩ (Nat.le_of_ble_eq_true rfl) dX12_table_174) hI (Nat.le_of_ble_eq_true rfl) (fun r_86 σ_87 H locs hpσ_87 hkσ_87 hI => ?_)
                          have ahpσ_87 := hpσ_87.1
                          have bhpσ_87 := hpσ_87.2.1
                          have chpσ_87 := hpσ_87.2.2
                          clear hpσ_87
                          replace hI := q_Irw ahpσ_87 hI
                          replace hF := q_letX hF chpσ_87
                          refine q_if_eq (A := r_86.toInt) E rfl (tgt := 187) dX12_table_177 (by decide) (fun c_88 => ?_) (fun c_88 => ?_)
                          · skip
                            replace hF := q_ifp hF c_88
                            refine lv_aload_n hx hb dX12_table_187 rfl (lv_at hl 0 rfl) ?_
                            refine q_ci (q_rV11_0 (rest := []) E (hml.trans hl.1.symm) hI (c_X12_isPlayer l X σ_41 a ha) kv_X12_162 ha ⟨Nat.le_of_ble_eq_true rfl, Nat.le_of_ble_eq_true rfl⟩ (Nat.le_of_ble_eq_true rfl) dX12_table_188) hI (Nat.le_of_ble_eq_true rfl) (fun r_89 σ_90 H locs hpσ_90 hkσ_90 hI => ?_)
                            have ahpσ_90 := hpσ_90.1
                            have bhpσ_90 := hpσ_90.2.1
                            have chpσ_90 := hpσ_90.2.2
                            clear hpσ_90
                            replace hI := q_Irw ahpσ_90 hI
                            replace hF := q_letX hF chpσ_90
                            refine q_if_eq (A := r_89.toInt) E rfl (tgt := 201) dX12_table_191 (by decide) (fun c_91 => ?_) (fun c_91 => ?_)
                            · skip
                              replace hF := q_ifp hF c_91
                              refine lv_aload_n hx hb dX12_table_201 rfl (lv_at hl 0 rfl) ?_
                              refine q_ci (q_rV11_0 (rest := []) E (hml.trans hl.1.symm) hI (c_X12_isHand l X σ_41 a ha) kv_X12_165 ha ⟨Nat.le_of_ble_eq_true rfl, Nat.le_of_ble_eq_true rfl⟩ (Nat.le_of_ble_eq_true rfl) dX12_table_202) hI (Nat.le_of_ble_eq_true rfl) (fun r_92 σ_93 H locs hpσ_93 hkσ_93 hI => ?_)
                              have ahpσ_93 := hpσ_93.1
                              have bhpσ_93 := hpσ_93.2.1
                              have chpσ_93 := hpσ_93.2.2
                              clear hpσ_93
                              replace hI := q_Irw ahpσ_93 hI
                              replace hF := q_letX hF chpσ_93
                              refine q_if_eq (A := r_92.toInt) E rfl (tgt := 215) dX12_table_205 (by decide) (fun c_94 => ?_) (fun c_94 => ?_)
                              · skip
                                replace hF := q_ifp hF c_94
                                refine lv_aload_n hx hb dX12_table_215 rfl (lv_at hl 0 rfl) ?_
                                refine q_cv (q_rV11_0 (rest := []) E (hml.trans hl.1.symm) hI (c_X12_wrong l X σ_41 a ha (by first | (clear hn tb8 mv9_σ_1 mv12_σ_1 mv14_σ_1 mv15_σ_1 mv16_σ_1 mv8_σ_1 mv9_σ_2 mv12_σ_2 mv14_σ_2 mv15_σ_2 mv16_σ_2 mv8_σ_2 kc_3 ahpσ_5 bhpσ_5 ehpσ_5 fhpσ_5 c_6 sv hm25 hge25 hzσ_8 smσ_8 gc_10_x_7 c_10 hm51 hge51 gc_14_x_11 c_14 bhpσ_19 chpσ_19 chpσ_21 dhpσ_21 ehpσ_21 kc_22 kc_23 chpσ_25 dhpσ_25 ehpσ_25 bhpσ_28 chpσ_28 chpσ_30 dhpσ_30 ehpσ_30 kc_31 kc_32 chpσ_34 dhpσ_34 ehpσ_34 kc_36 bhpσ_38 chpσ_38 chpσ_40 dhpσ_40 ehpσ_40 k0σ_40 k4σ_40 hm145 smσ_41 k0σ_41 k4σ_41 if_63 c_64 ahpσ_84 bhpσ_84 chpσ_84 c_85 ahpσ_87 bhpσ_87 chpσ_87 c_88 ahpσ_90 bhpσ_90 chpσ_90 c_91 ahpσ_93 bhpσ_93 chpσ_93 c_94; omega) | omega)) kv_X12_200 ha ⟨Nat.le_of_ble_eq_true rfl, Nat.le_of_ble_eq_true rfl⟩ (Nat.le_of_ble_eq_true rfl) dX12_table_216) hI (Nat.le_of_ble_eq_true rfl) (fun σ_96 H locs hpσ_96 hkσ_96 hI => ?_)
                                have ahpσ_96 := hpσ_96.1
                                have bhpσ_96 := hpσ_96.2.1
                                have chpσ_96 := hpσ_96.2.2.1
                                have dhpσ_96 := hpσ_96.2.2.2.1
                                have ehpσ_96 := hpσ_96.2.2.2.2
                                clear hpσ_96
                                have fr_σ_96 := fr_σ_41.call ehpσ_96 rfl rfl
                                replace hF := q_letX hF dhpσ_96
                                have mv8_σ_96 : (σ_96.1 a 8).toInt = (σ_41.1 a 8).toInt := congrArg Int32.toInt (hkσ_96 a 8 (by rw [ha]; decide))
                                have mcσ_96 := m_cK hkσ_96 hI.1 ha (by decide)
                                have kpσ_96 : ∀ j, 0 ≤ j → j < 3720 → m_c X σ_96 a j = m_c X σ a j := fun j h0 h1 => (mcσ_96 j).trans (kpσ_41 j h0 h1)
                                have smσ_96 : 0 ≤ (σ_96.1 a 15).toInt ∧ (σ_96.1 a 15).toInt ≤ (σ_96.1 a 16).toInt ∧ (σ_96.1 a 16).toInt ≤ (σ_96.1 a 9).toInt ∧ (σ_96.1 a 9).toInt ≤ 900 ∧ 0 ≤ (σ_96.1 a 14).toInt ∧ (σ_96.1 a 14).toInt ≤ 4 ∧ (σ_96.1 a 14).toInt ≤ 4 * ((σ_96.1 a 16).toInt - (σ_96.1 a 15).toInt) ∧ (σ_96.1 a 14).toInt ≤ 4 * ((σ_96.1 a 9).toInt - (σ_96.1 a 15).toInt) ∧ 0 ≤ (σ_96.1 a 12).toInt ∧ (σ_96.1 a 8).toInt = 0 := (by first | (clear hn tb8 mv9_σ_1 mv12_σ_1 mv14_σ_1 mv15_σ_1 mv16_σ_1 mv8_σ_1 mv9_σ_2 mv12_σ_2 mv14_σ_2 mv15_σ_2 mv16_σ_2 mv8_σ_2 kc_3 ahpσ_5 bhpσ_5 ehpσ_5 fhpσ_5 c_6 sv hm25 hge25 hzσ_8 smσ_8 gc_10_x_7 c_10 hm51 hge51 gc_14_x_11 c_14 bhpσ_19 chpσ_19 chpσ_21 dhpσ_21 ehpσ_21 kc_22 kc_23 chpσ_25 dhpσ_25 ehpσ_25 bhpσ_28 chpσ_28 chpσ_30 dhpσ_30 ehpσ_30 kc_31 kc_32 chpσ_34 dhpσ_34 ehpσ_34 kc_36 bhpσ_38 chpσ_38 chpσ_40 dhpσ_40 ehpσ_40 k0σ_40 k4σ_40 hm145 k0σ_41 k4σ_41 if_43 c_44 c_64 ahpσ_84 bhpσ_84 chpσ_84 c_85 ahpσ_87 bhpσ_87 chpσ_87 c_88 ahpσ_90 bhpσ_90 chpσ_90 c_91 ahpσ_93 bhpσ_93 chpσ_93 c_94 ahpσ_96 dhpσ_96 ehpσ_96; omega) | omega)
                                have nnσ_96 : m_N (m_c X σ_96 a) := m_N.ext mcσ_96 nnσ_41
                                have k0σ_96 : 2 ≤ m_c X σ_96 a 3720 + 10 * (σ_96.1 a 12).toInt := (by have := mcσ_96 3720; omega)
                                have k4σ_96 : 1 ≤ m_c X σ_96 a 3724 + 10 * (σ_96.1 a 12).toInt := (by have := mcσ_96 3724; omega)
                                have ks_σ_96 : q_KS (fun b g => b = a ∧ 8 ≤ g ∧ g ≤ 18) 1 X σ σ_96 := ks_σ_41.K hkσ_96 (by decide)
                                refine lv_aload_n hx hb dX12_table_219 rfl (lv_at hl 0 rfl) ?_
                                refine lv_aload_n hx hb dX12_table_220 rfl (lv_at hl 0 rfl) ?_
                                refine lv_bipush (v := 59) hx hb dX12_table_221 zkb_59 ?_
                                have kc_97 : (59 : Int32).toInt = 59 := zt_59
                                refine q_ci (q_rV11_1 (rest := [.ref a]) E (hml.trans hl.1.symm) hI (c_X12_isSign l X σ_96 a (59 : Int32) ha) kv_X12_243 ha ⟨Nat.le_of_ble_eq_true rfl, Nat.le_of_ble_eq_true rfl⟩ (Nat.le_of_ble_eq_true rfl) dX12_table_223) hI (Nat.le_of_ble_eq_true rfl) (fun r_98 σ_99 H locs hpσ_99 hkσ_99 hI => ?_)
                                have ahpσ_99 := hpσ_99.1
                                have bhpσ_99 := hpσ_99.2.1
                                have chpσ_99 := hpσ_99.2.2
                                clear hpσ_99
                                replace hI := q_Irw ahpσ_99 hI
                                replace hF := q_letX hF chpσ_99
                                refine q_cv (q_rV11_1 (rest := []) E (hml.trans hl.1.symm) hI (c_X12_must l X σ_96 a r_98 ha (by first | exact sm_9 smσ_96 | exact hs | omega) (by first | (clear hn tb8 mv9_σ_1 mv12_σ_1 mv14_σ_1 mv15_σ_1 mv16_σ_1 mv8_σ_1 mv9_σ_2 mv12_σ_2 mv14_σ_2 mv15_σ_2 mv16_σ_2 mv8_σ_2 kc_3 ahpσ_5 bhpσ_5 ehpσ_5 fhpσ_5 c_6 sv hm25 hge25 hzσ_8 smσ_8 gc_10_x_7 c_10 hm51 hge51 gc_14_x_11 c_14 bhpσ_19 chpσ_19 chpσ_21 dhpσ_21 ehpσ_21 kc_22 kc_23 chpσ_25 dhpσ_25 ehpσ_25 bhpσ_28 chpσ_28 chpσ_30 dhpσ_30 ehpσ_30 kc_31 kc_32 chpσ_34 dhpσ_34 ehpσ_34 kc_36 bhpσ_38 chpσ_38 chpσ_40 dhpσ_40 ehpσ_40 k0σ_40 k4σ_40 hm145 smσ_41 k0σ_41 k4σ_41 if_43 c_44 if_63 c_64 ahpσ_84 bhpσ_84 chpσ_84 c_85 ahpσ_87 bhpσ_87 chpσ_87 c_88 ahpσ_90 bhpσ_90 chpσ_90 c_91 ahpσ_93 bhpσ_93 chpσ_93 c_94 ahpσ_96 bhpσ_96 chpσ_96 dhpσ_96 ehpσ_96 mv8_σ_96 smσ_96 k0σ_96 k4σ_96 kc_97 ahpσ_99 chpσ_99; omega) | omega)) kv_X12_216 ha ⟨Nat.le_of_ble_eq_true rfl, Nat.le_of_ble_eq_true rfl⟩ (Nat.le_of_ble_eq_true rfl) dX12_table_226) hI (Nat.le_of_ble_eq_true rfl) (fun σ_101 H locs hpσ_101 hkσ_101 hI => ?_)
                                have ahpσ_101 := hpσ_101.1
                                have bhpσ_101 := hpσ_101.2.1
                                have chpσ_101 := hpσ_101.2.2.1
                                have dhpσ_101 := hpσ_101.2.2.2.1
                                have ehpσ_101 := hpσ_101.2.2.2.2
                                clear hpσ_101
                                have fr_σ_101 := fr_σ_96.call ehpσ_101 rfl rfl
                                replace hF := q_letX hF dhpσ_101
                                have mv8_σ_101 : (σ_101.1 a 8).toInt = (σ_96.1 a 8).toInt := congrArg Int32.toInt (hkσ_101 a 8 (by rw [ha]; decide))
                                have mcσ_101 := m_cK hkσ_101 hI.1 ha (by decide)
                                have kpσ_101 : ∀ j, 0 ≤ j → j < 3720 → m_c X σ_101 a j = m_c X σ a j := fun j h0 h1 => (mcσ_101 j).trans (kpσ_96 j h0 h1)
                                have smσ_101 : 0 ≤ (σ_101.1 a 15).toInt ∧ (σ_101.1 a 15).toInt ≤ (σ_101.1 a 16).toInt ∧ (σ_101.1 a 16).toInt ≤ (σ_101.1 a 9).toInt ∧ (σ_101.1 a 9).toInt ≤ 900 ∧ 0 ≤ (σ_101.1 a 14).toInt ∧ (σ_101.1 a 14).toInt ≤ 4 ∧ (σ_101.1 a 14).toInt ≤ 4 * ((σ_101.1 a 16).toInt - (σ_101.1 a 15).toInt) ∧ (σ_101.1 a 14).toInt ≤ 4 * ((σ_101.1 a 9).toInt - (σ_101.1 a 15).toInt) ∧ 0 ≤ (σ_101.1 a 12).toInt ∧ (σ_101.1 a 8).toInt = 0 := (by first | (clear hn tb8 mv9_σ_1 mv12_σ_1 mv14_σ_1 mv15_σ_1 mv16_σ_1 mv8_σ_1 mv9_σ_2 mv12_σ_2 mv14_σ_2 mv15_σ_2 mv16_σ_2 mv8_σ_2 kc_3 ahpσ_5 bhpσ_5 ehpσ_5 fhpσ_5 c_6 sv hm25 hge25 hzσ_8 smσ_8 gc_10_x_7 c_10 hm51 hge51 gc_14_x_11 c_14 bhpσ_19 chpσ_19 chpσ_21 dhpσ_21 ehpσ_21 kc_22 kc_23 chpσ_25 dhpσ_25 ehpσ_25 bhpσ_28 chpσ_28 chpσ_30 dhpσ_30 ehpσ_30 kc_31 kc_32 chpσ_34 dhpσ_34 ehpσ_34 kc_36 bhpσ_38 chpσ_38 chpσ_40 dhpσ_40 ehpσ_40 k0σ_40 k4σ_40 hm145 k0σ_41 k4σ_41 if_43 c_44 if_63 c_64 ahpσ_84 bhpσ_84 chpσ_84 c_85 ahpσ_87 bhpσ_87 chpσ_87 c_88 ahpσ_90 bhpσ_90 chpσ_90 c_91 ahpσ_93 bhpσ_93 chpσ_93 c_94 ahpσ_96 chpσ_96 dhpσ_96 ehpσ_96 smσ_96 k0σ_96 k4σ_96 kc_97 ahpσ_99 bhpσ_99 chpσ_99 ahpσ_101 chpσ_101 dhpσ_101 ehpσ_101; omega) | omega)
                                have nnσ_101 : m_N (m_c X σ_101 a) := m_N.ext mcσ_101 nnσ_96
                                have k0σ_101 : 2 ≤ m_c X σ_101 a 3720 + 10 * (σ_101.1 a 12).toInt := (by have := mcσ_101 3720; omega)
                                have k4σ_101 : 1 ≤ m_c X σ_101 a 3724 + 10 * (σ_101.1 a 12).toInt := (by have := mcσ_101 3724; omega)
                                have ks_σ_101 : q_KS (fun b g => b = a ∧ 8 ≤ g ∧ g ≤ 18) 1 X σ σ_101 := ks_σ_96.K hkσ_101 (by decide)
                                refine lv_goto (tgt := 145) hx hb dX12_table_229 (by decide) ?_
                                exact ih145 σ_101 _ _ ls (by first | (clear hn tb8 mv9_σ_1 mv12_σ_1 mv14_σ_1 mv15_σ_1 mv16_σ_1 mv8_σ_1 mv9_σ_2 mv12_σ_2 mv14_σ_2 mv15_σ_2 mv16_σ_2 mv8_σ_2 kc_3 ahpσ_5 bhpσ_5 ehpσ_5 fhpσ_5 c_6 sv hm25 hge25 hzσ_8 smσ_8 gc_10_x_7 c_10 hm51 hge51 gc_14_x_11 c_14 bhpσ_19 chpσ_19 chpσ_21 dhpσ_21 ehpσ_21 kc_22 kc_23 chpσ_25 dhpσ_25 ehpσ_25 bhpσ_28 chpσ_28 chpσ_30 dhpσ_30 ehpσ_30 kc_31 kc_32 chpσ_34 dhpσ_34 ehpσ_34 kc_36 bhpσ_38 chpσ_38 chpσ_40 dhpσ_40 ehpσ_40 k0σ_40 k4σ_40 k0σ_41 k4σ_41 ahpσ_84 bhpσ_84 chpσ_84 c_85 ahpσ_87 bhpσ_87 chpσ_87 c_88 ahpσ_90 bhpσ_90 chpσ_90 c_91 ahpσ_93 bhpσ_93 chpσ_93 c_94 ahpσ_96 dhpσ_96 ehpσ_96 mv8_σ_96 smσ_96 k0σ_96 k4σ_96 kc_97 ahpσ_99 bhpσ_99 chpσ_99 ahpσ_101 chpσ_101 dhpσ_101 ehpσ_101 mv8_σ_101 smσ_101 k0σ_101 k4σ_101; omega) | omega) ks_σ_101 fr_σ_101 kpσ_101 smσ_101 nnσ_101 k0σ_101 k4σ_101 hF hI (lv_sub hl [0, 1, 2] rfl)
                              · skip
                                replace hF := q_ifn hF c_94
                                replace c_94 := q_ifOne bhpσ_93 c_94
                                refine lv_aload_n hx hb dX12_table_208 rfl (lv_at hl 0 rfl) ?_
                                refine q_cv (q_rV11_0 (rest := []) E (hml.trans hl.1.symm) hI (c_X12_readHand l X σ_41 a ha (by first | exact sm_9 smσ_41 | exact hs | omega) nnσ_41 (by first | (clear hn tb8 mv9_σ_1 mv12_σ_1 mv14_σ_1 mv15_σ_1 mv16_σ_1 mv8_σ_1 mv9_σ_2 mv12_σ_2 mv14_σ_2 mv15_σ_2 mv16_σ_2 mv8_σ_2 kc_3 ahpσ_5 bhpσ_5 ehpσ_5 fhpσ_5 c_6 sv hm25 hge25 hzσ_8 smσ_8 gc_10_x_7 c_10 hm51 hge51 gc_14_x_11 c_14 bhpσ_19 chpσ_19 chpσ_21 dhpσ_21 ehpσ_21 kc_22 kc_23 chpσ_25 dhpσ_25 ehpσ_25 bhpσ_28 chpσ_28 chpσ_30 dhpσ_30 ehpσ_30 kc_31 kc_32 chpσ_34 dhpσ_34 ehpσ_34 kc_36 bhpσ_38 chpσ_38 chpσ_40 dhpσ_40 ehpσ_40 k0σ_40 k4σ_40 hm145 smσ_41 k0σ_41 k4σ_41 if_63 c_64 ahpσ_84 bhpσ_84 chpσ_84 c_85 ahpσ_87 bhpσ_87 chpσ_87 c_88 ahpσ_90 bhpσ_90 chpσ_90 c_91 ahpσ_93 bhpσ_93 chpσ_93 c_94; omega) | omega) (by first | (clear hn tb8 mv9_σ_1 mv12_σ_1 mv14_σ_1 mv15_σ_1 mv16_σ_1 mv8_σ_1 mv9_σ_2 mv12_σ_2 mv14_σ_2 mv15_σ_2 mv16_σ_2 mv8_σ_2 kc_3 ahpσ_5 bhpσ_5 ehpσ_5 fhpσ_5 c_6 sv hm25 hge25 hzσ_8 smσ_8 gc_10_x_7 c_10 hm51 hge51 gc_14_x_11 c_14 bhpσ_19 chpσ_19 chpσ_21 dhpσ_21 ehpσ_21 kc_22 kc_23 chpσ_25 dhpσ_25 ehpσ_25 bhpσ_28 chpσ_28 chpσ_30 dhpσ_30 ehpσ_30 kc_31 kc_32 chpσ_34 dhpσ_34 ehpσ_34 kc_36 bhpσ_38 chpσ_38 chpσ_40 dhpσ_40 ehpσ_40 k0σ_40 k4σ_40 hm145 smσ_41 k4σ_41 if_63 c_64 ahpσ_84 bhpσ_84 chpσ_84 c_85 ahpσ_87 bhpσ_87 chpσ_87 c_88 ahpσ_90 bhpσ_90 chpσ_90 c_91 ahpσ_93 bhpσ_93 chpσ_93 c_94; omega) | omega) (by first | (clear hn tb8 mv9_σ_1 mv12_σ_1 mv14_σ_1 mv15_σ_1 mv16_σ_1 mv8_σ_1 mv9_σ_2 mv12_σ_2 mv14_σ_2 mv15_σ_2 mv16_σ_2 mv8_σ_2 kc_3 ahpσ_5 bhpσ_5 ehpσ_5 fhpσ_5 c_6 sv hm25 hge25 hzσ_8 smσ_8 gc_10_x_7 c_10 hm51 hge51 gc_14_x_11 c_14 bhpσ_19 chpσ_19 chpσ_21 dhpσ_21 ehpσ_21 kc_22 kc_23 chpσ_25 dhpσ_25 ehpσ_25 bhpσ_28 chpσ_28 chpσ_30 dhpσ_30 ehpσ_30 kc_31 kc_32 chpσ_34 dhpσ_34 ehpσ_34 kc_36 bhpσ_38 chpσ_38 chpσ_40 dhpσ_40 ehpσ_40 k0σ_40 k4σ_40 hm145 smσ_41 k0σ_41 if_63 c_64 ahpσ_84 bhpσ_84 chpσ_84 c_85 ahpσ_87 bhpσ_87 chpσ_87 c_88 ahpσ_90 bhpσ_90 chpσ_90 c_91 ahpσ_93 bhpσ_93 chpσ_93 c_94; omega) | omega)) kv_X12_255 ha ⟨Nat.le_of_ble_eq_true rfl, Nat.le_of_ble_eq_true rfl⟩ (Nat.le_of_ble_eq_true rfl) dX12_table_209) hI (Nat.le_of_ble_eq_true rfl) (fun σ_103 H locs hpσ_103 hkσ_103 hI => ?_)
                                have ahpσ_103 := hpσ_103.1
                                have bhpσ_103 := hpσ_103.2.1
                                have chpσ_103 := hpσ_103.2.2.1
                                have dhpσ_103 := hpσ_103.2.2.2.1
                                have ehpσ_103 := hpσ_103.2.2.2.2.1
                                have fhpσ_103 := hpσ_103.2.2.2.2.2.1
                                have ghpσ_103 := hpσ_103.2.2.2.2.2.2.1
                                have hhpσ_103 := hpσ_103.2.2.2.2.2.2.2
                                clear hpσ_103
                                have fr_σ_103 := fr_σ_41.call hhpσ_103 rfl rfl
                                replace hF := q_letX hF ghpσ_103
                                have mv8_σ_103 : (σ_103.1 a 8).toInt = (σ_41.1 a 8).toInt := congrArg Int32.toInt (hkσ_103 a 8 (by rw [ha]; decide))
                                have kpσ_103 : ∀ j, 0 ≤ j → j < 3720 → m_c X σ_103 a j = m_c X σ a j := fun j h0 h1 => (bhpσ_103 j h0 h1).trans (kpσ_41 j h0 h1)
                                have smσ_103 : 0 ≤ (σ_103.1 a 15).toInt ∧ (σ_103.1 a 15).toInt ≤ (σ_103.1 a 16).toInt ∧ (σ_103.1 a 16).toInt ≤ (σ_103.1 a 9).toInt ∧ (σ_103.1 a 9).toInt ≤ 900 ∧ 0 ≤ (σ_103.1 a 14).toInt ∧ (σ_103.1 a 14).toInt ≤ 4 ∧ (σ_103.1 a 14).toInt ≤ 4 * ((σ_103.1 a 16).toInt - (σ_103.1 a 15).toInt) ∧ (σ_103.1 a 14).toInt ≤ 4 * ((σ_103.1 a 9).toInt - (σ_103.1 a 15).toInt) ∧ 0 ≤ (σ_103.1 a 12).toInt ∧ (σ_103.1 a 8).toInt = 0 := (by first | (clear hn tb8 mv9_σ_1 mv12_σ_1 mv14_σ_1 mv15_σ_1 mv16_σ_1 mv8_σ_1 mv9_σ_2 mv12_σ_2 mv14_σ_2 mv15_σ_2 mv16_σ_2 mv8_σ_2 kc_3 ahpσ_5 bhpσ_5 ehpσ_5 fhpσ_5 c_6 sv hm25 hge25 hzσ_8 smσ_8 gc_10_x_7 c_10 hm51 hge51 gc_14_x_11 c_14 bhpσ_19 chpσ_19 chpσ_21 dhpσ_21 ehpσ_21 kc_22 kc_23 chpσ_25 dhpσ_25 ehpσ_25 bhpσ_28 chpσ_28 chpσ_30 dhpσ_30 ehpσ_30 kc_31 kc_32 chpσ_34 dhpσ_34 ehpσ_34 kc_36 bhpσ_38 chpσ_38 chpσ_40 dhpσ_40 ehpσ_40 k0σ_40 k4σ_40 hm145 k0σ_41 k4σ_41 if_43 c_44 if_63 c_64 ahpσ_84 bhpσ_84 chpσ_84 c_85 ahpσ_87 bhpσ_87 chpσ_87 c_88 ahpσ_90 bhpσ_90 chpσ_90 c_91 ahpσ_93 bhpσ_93 chpσ_93 c_94 ahpσ_103 bhpσ_103 dhpσ_103 ehpσ_103 fhpσ_103; omega) | omega)
                                have nnσ_103 : m_N (m_c X σ_103 a) := ahpσ_103
                                have k0σ_103 : 2 ≤ m_c X σ_103 a 3720 + 10 * (σ_103.1 a 12).toInt := (by have := ehpσ_103.1; omega)
                                have k4σ_103 : 1 ≤ m_c X σ_103 a 3724 + 10 * (σ_103.1 a 12).toInt := fhpσ_103
                                have ks_σ_103 : q_KS (fun b g => b = a ∧ 8 ≤ g ∧ g ≤ 18) 1 X σ σ_103 := ks_σ_41.K hkσ_103 (by decide)
                                refine lv_goto (tgt := 219) hx hb dX12_table_212 (by decide) ?_
                                refine lv_aload_n hx hb dX12_table_219 rfl (lv_at hl 0 rfl) ?_
                                refine lv_aload_n hx hb dX12_table_220 rfl (lv_at hl 0 rfl) ?_
                                refine lv_bipush (v := 59) hx hb dX12_table_221 zkb_59 ?_
                                have kc_104 : (59 : Int32).toInt = 59 := zt_59
                                refine q_ci (q_rV11_1 (rest := [.ref a]) E (hml.trans hl.1.symm) hI (c_X12_isSign l X σ_103 a (59 : Int32) ha) kv_X12_243 ha ⟨Nat.le_of_ble_eq_true rfl, Nat.le_of_ble_eq_true rfl⟩ (Nat.le_of_ble_eq_true rfl) dX12_table_223) hI (Nat.le_of_ble_eq_true rfl) (fun r_105 σ_106 H locs hpσ_106 hkσ_106 hI => ?_)
                                have ahpσ_106 := hpσ_106.1
                                have bhpσ_106 := hpσ_106.2.1
                                have chpσ_106 := hpσ_106.2.2
                                clear hpσ_106
                                replace hI := q_Irw ahpσ_106 hI
                                replace hF := q_letX hF chpσ_106
                                refine q_cv (q_rV11_1 (rest := []) E (hml.trans hl.1.symm) hI (c_X12_must l X σ_103 a r_105 ha (by first | exact sm_9 smσ_103 | exact hs | omega) (by first | (clear hn tb8 mv9_σ_1 mv12_σ_1 mv14_σ_1 mv15_σ_1 mv16_σ_1 mv8_σ_1 mv9_σ_2 mv12_σ_2 mv14_σ_2 mv15_σ_2 mv16_σ_2 mv8_σ_2 kc_3 ahpσ_5 bhpσ_5 ehpσ_5 fhpσ_5 c_6 sv hm25 hge25 hzσ_8 smσ_8 gc_10_x_7 c_10 hm51 hge51 gc_14_x_11 c_14 bhpσ_19 chpσ_19 chpσ_21 dhpσ_21 ehpσ_21 kc_22 kc_23 chpσ_25 dhpσ_25 ehpσ_25 bhpσ_28 chpσ_28 chpσ_30 dhpσ_30 ehpσ_30 kc_31 kc_32 chpσ_34 dhpσ_34 ehpσ_34 kc_36 bhpσ_38 chpσ_38 chpσ_40 dhpσ_40 ehpσ_40 k0σ_40 k4σ_40 hm145 smσ_41 k0σ_41 k4σ_41 if_43 c_44 if_63 c_64 ahpσ_84 bhpσ_84 chpσ_84 c_85 ahpσ_87 bhpσ_87 chpσ_87 c_88 ahpσ_90 bhpσ_90 chpσ_90 c_91 ahpσ_93 bhpσ_93 chpσ_93 c_94 ahpσ_103 bhpσ_103 chpσ_103 dhpσ_103 ehpσ_103 fhpσ_103 mv8_σ_103 smσ_103 k0σ_103 k4σ_103 kc_104 ahpσ_106 chpσ_106; omega) | omega)) kv_X12_216 ha ⟨Nat.le_of_ble_eq_true rfl, Nat.le_of_ble_eq_true rfl⟩ (Nat.le_of_ble_eq_true rfl) dX12_table_226) hI (Nat.le_of_ble_eq_true rfl) (fun σ_108 H locs hpσ_108 hkσ_108 hI => ?_)
                                have ahpσ_108 := hpσ_108.1
                                have bhpσ_108 := hpσ_108.2.1
                                have chpσ_108 := hpσ_108.2.2.1
                                have dhpσ_108 := hpσ_108.2.2.2.1
                                have ehpσ_108 := hpσ_108.2.2.2.2
                                clear hpσ_108
                                have fr_σ_108 := fr_σ_103.call ehpσ_108 rfl rfl
                                replace hF := q_letX hF dhpσ_108
                                have mv8_σ_108 : (σ_108.1 a 8).toInt = (σ_103.1 a 8).toInt := congrArg Int32.toInt (hkσ_108 a 8 (by rw [ha]; decide))
                                have mcσ_108 := m_cK hkσ_108 hI.1 ha (by decide)
                                have kpσ_108 : ∀ j, 0 ≤ j → j < 3720 → m_c X σ_108 a j = m_c X σ a j := fun j h0 h1 => (mcσ_108 j).trans (kpσ_103 j h0 h1)
                                have smσ_108 : 0 ≤ (σ_108.1 a 15).toInt ∧ (σ_108.1 a 15).toInt ≤ (σ_108.1 a 16).toInt ∧ (σ_108.1 a 16).toInt ≤ (σ_108.1 a 9).toInt ∧ (σ_108.1 a 9).toInt ≤ 900 ∧ 0 ≤ (σ_108.1 a 14).toInt ∧ (σ_108.1 a 14).toInt ≤ 4 ∧ (σ_108.1 a 14).toInt ≤ 4 * ((σ_108.1 a 16).toInt - (σ_108.1 a 15).toInt) ∧ (σ_108.1 a 14).toInt ≤ 4 * ((σ_108.1 a 9).toInt - (σ_108.1 a 15).toInt) ∧ 0 ≤ (σ_108.1 a 12).toInt ∧ (σ_108.1 a 8).toInt = 0 := (by first | (clear hn tb8 mv9_σ_1 mv12_σ_1 mv14_σ_1 mv15_σ_1 mv16_σ_1 mv8_σ_1 mv9_σ_2 mv12_σ_2 mv14_σ_2 mv15_σ_2 mv16_σ_2 mv8_σ_2 kc_3 ahpσ_5 bhpσ_5 ehpσ_5 fhpσ_5 c_6 sv hm25 hge25 hzσ_8 smσ_8 gc_10_x_7 c_10 hm51 hge51 gc_14_x_11 c_14 bhpσ_19 chpσ_19 chpσ_21 dhpσ_21 ehpσ_21 kc_22 kc_23 chpσ_25 dhpσ_25 ehpσ_25 bhpσ_28 chpσ_28 chpσ_30 dhpσ_30 ehpσ_30 kc_31 kc_32 chpσ_34 dhpσ_34 ehpσ_34 kc_36 bhpσ_38 chpσ_38 chpσ_40 dhpσ_40 ehpσ_40 k0σ_40 k4σ_40 hm145 k0σ_41 k4σ_41 if_43 c_44 if_63 c_64 ahpσ_84 bhpσ_84 chpσ_84 c_85 ahpσ_87 bhpσ_87 chpσ_87 c_88 ahpσ_90 bhpσ_90 chpσ_90 c_91 ahpσ_93 bhpσ_93 chpσ_93 c_94 ahpσ_103 bhpσ_103 chpσ_103 dhpσ_103 ehpσ_103 fhpσ_103 smσ_103 k0σ_103 k4σ_103 kc_104 ahpσ_106 bhpσ_106 chpσ_106 ahpσ_108 chpσ_108 dhpσ_108 ehpσ_108; omega) | omega)
                                have nnσ_108 : m_N (m_c X σ_108 a) := m_N.ext mcσ_108 nnσ_103
                                have k0σ_108 : 2 ≤ m_c X σ_108 a 3720 + 10 * (σ_108.1 a 12).toInt := (by have := mcσ_108 3720; omega)
                                have k4σ_108 : 1 ≤ m_c X σ_108 a 3724 + 10 * (σ_108.1 a 12).toInt := (by have := mcσ_108 3724; omega)
                                have ks_σ_108 : q_KS (fun b g => b = a ∧ 8 ≤ g ∧ g ≤ 18) 1 X σ σ_108 := ks_σ_103.K hkσ_108 (by decide)
                                refine lv_goto (tgt := 145) hx hb dX12_table_229 (by decide) ?_
                                exact ih145 σ_108 _ _ ls (by first | (clear hn tb8 mv9_σ_1 mv12_σ_1 mv14_σ_1 mv15_σ_1 mv16_σ_1 mv8_σ_1 mv9_σ_2 mv12_σ_2 mv14_σ_2 mv15_σ_2 mv16_σ_2 mv8_σ_2 kc_3 ahpσ_5 bhpσ_5 ehpσ_5 fhpσ_5 c_6 sv hm25 hge25 hzσ_8 smσ_8 gc_10_x_7 c_10 hm51 hge51 gc_14_x_11 c_14 bhpσ_19 chpσ_19 chpσ_21 dhpσ_21 ehpσ_21 kc_22 kc_23 chpσ_25 dhpσ_25 ehpσ_25 bhpσ_28 chpσ_28 chpσ_30 dhpσ_30 ehpσ_30 kc_31 kc_32 chpσ_34 dhpσ_34 ehpσ_34 kc_36 bhpσ_38 chpσ_38 chpσ_40 dhpσ_40 ehpσ_40 k0σ_40 k4σ_40 k0σ_41 k4σ_41 ahpσ_84 bhpσ_84 chpσ_84 c_85 ahpσ_87 bhpσ_87 chpσ_87 c_88 ahpσ_90 bhpσ_90 chpσ_90 c_91 ahpσ_93 bhpσ_93 chpσ_93 c_94 ahpσ_103 bhpσ_103 ehpσ_103 fhpσ_103 mv8_σ_103 smσ_103 k0σ_103 k4σ_103 kc_104 ahpσ_106 bhpσ_106 chpσ_106 ahpσ_108 chpσ_108 dhpσ_108 ehpσ_108 mv8_σ_108 smσ_108 k0σ_108 k4σ_108; omega) | omega) ks_σ_108 fr_σ_108 kpσ_108 smσ_108 nnσ_108 k0σ_108 k4σ_108 hF hI (lv_sub hl [0, 1, 2] rfl)
                            · skip
                              replace hF := q_ifn hF c_91
                              replace c_91 := q_ifOne bhpσ_90 c_91
                              refine lv_aload_n hx hb dX12_table_194 rfl (lv_at hl 0 rfl) ?_
                              refine q_cv (q_rV11_0 (rest := []) E (hml.trans hl.1.symm) hI (c_X12_readPlayer l X σ_41 a ha (by first | exact sm_9 smσ_41 | exact hs | omega) nnσ_41 (by first | (clear hn tb8 mv9_σ_1 mv12_σ_1 mv14_σ_1 mv15_σ_1 mv16_σ_1 mv8_σ_1 mv9_σ_2 mv12_σ_2 mv14_σ_2 mv15_σ_2 mv16_σ_2 mv8_σ_2 kc_3 ahpσ_5 bhpσ_5 ehpσ_5 fhpσ_5 c_6 sv hm25 hge25 hzσ_8 smσ_8 gc_10_x_7 c_10 hm51 hge51 gc_14_x_11 c_14 bhpσ_19 chpσ_19 chpσ_21 dhpσ_21 ehpσ_21 kc_22 kc_23 chpσ_25 dhpσ_25 ehpσ_25 bhpσ_28 chpσ_28 chpσ_30 dhpσ_30 ehpσ_30 kc_31 kc_32 chpσ_34 dhpσ_34 ehpσ_34 kc_36 bhpσ_38 chpσ_38 chpσ_40 dhpσ_40 ehpσ_40 k0σ_40 k4σ_40 hm145 smσ_41 k0σ_41 k4σ_41 if_63 c_64 ahpσ_84 bhpσ_84 chpσ_84 c_85 ahpσ_87 bhpσ_87 chpσ_87 c_88 ahpσ_90 bhpσ_90 chpσ_90 c_91; omega) | omega) (by first | (clear hn tb8 mv9_σ_1 mv12_σ_1 mv14_σ_1 mv15_σ_1 mv16_σ_1 mv8_σ_1 mv9_σ_2 mv12_σ_2 mv14_σ_2 mv15_σ_2 mv16_σ_2 mv8_σ_2 kc_3 ahpσ_5 bhpσ_5 ehpσ_5 fhpσ_5 c_6 sv hm25 hge25 hzσ_8 smσ_8 gc_10_x_7 c_10 hm51 hge51 gc_14_x_11 c_14 bhpσ_19 chpσ_19 chpσ_21 dhpσ_21 ehpσ_21 kc_22 kc_23 chpσ_25 dhpσ_25 ehpσ_25 bhpσ_28 chpσ_28 chpσ_30 dhpσ_30 ehpσ_30 kc_31 kc_32 chpσ_34 dhpσ_34 ehpσ_34 kc_36 bhpσ_38 chpσ_38 chpσ_40 dhpσ_40 ehpσ_40 k0σ_40 k4σ_40 hm145 smσ_41 k4σ_41 if_63 c_64 ahpσ_84 bhpσ_84 chpσ_84 c_85 ahpσ_87 bhpσ_87 chpσ_87 c_88 ahpσ_90 bhpσ_90 chpσ_90 c_91; omega) | omega) (by first | (clear hn tb8 mv9_σ_1 mv12_σ_1 mv14_σ_1 mv15_σ_1 mv16_σ_1 mv8_σ_1 mv9_σ_2 mv12_σ_2 mv14_σ_2 mv15_σ_2 mv16_σ_2 mv8_σ_2 kc_3 ahpσ_5 bhpσ_5 ehpσ_5 fhpσ_5 c_6 sv hm25 hge25 hzσ_8 smσ_8 gc_10_x_7 c_10 hm51 hge51 gc_14_x_11 c_14 bhpσ_19 chpσ_19 chpσ_21 dhpσ_21 ehpσ_21 kc_22 kc_23 chpσ_25 dhpσ_25 ehpσ_25 bhpσ_28 chpσ_28 chpσ_30 dhpσ_30 ehpσ_30 kc_31 kc_32 chpσ_34 dhpσ_34 ehpσ_34 kc_36 bhpσ_38 chpσ_38 chpσ_40 dhpσ_40 ehpσ_40 k0σ_40 k4σ_40 hm145 smσ_41 k0σ_41 if_63 c_64 ahpσ_84 bhpσ_84 chpσ_84 c_85 ahpσ_87 bhpσ_87 chpσ_87 c_88 ahpσ_90 bhpσ_90 chpσ_90 c_91; omega) | omega)) kv_X12_252 ha ⟨Nat.le_of_ble_eq_true rfl, Nat.le_of_ble_eq_true rfl⟩ (Nat.le_of_ble_eq_true rfl) dX12_table_195) hI (Nat.le_of_ble_eq_true rfl) (fun σ_110 H locs hpσ_110 hkσ_110 hI => ?_)
                              have ahpσ_110 := hpσ_110.1
                              have bhpσ_110 := hpσ_110.2.1
                              have chpσ_110 := hpσ_110.2.2.1
                              have dhpσ_110 := hpσ_110.2.2.2.1
                              have ehpσ_110 := hpσ_110.2.2.2.2.1
                              have fhpσ_110 := hpσ_110.2.2.2.2.2.1
                              have ghpσ_110 := hpσ_110.2.2.2.2.2.2.1
                              have hhpσ_110 := hpσ_110.2.2.2.2.2.2.2
                              clear hpσ_110
                              have fr_σ_110 := fr_σ_41.call hhpσ_110 rfl rfl
                              replace hF := q_letX hF ghpσ_110
                              have mv8_σ_110 : (σ_110.1 a 8).toInt = (σ_41.1 a 8).toInt := congrArg Int32.toInt (hkσ_110 a 8 (by rw [ha]; decide))
                              have kpσ_110 : ∀ j, 0 ≤ j → j < 3720 → m_c X σ_110 a j = m_c X σ a j := fun j h0 h1 => (bhpσ_110 j h0 h1).trans (kpσ_41 j h0 h1)
                              have smσ_110 : 0 ≤ (σ_110.1 a 15).toInt ∧ (σ_110.1 a 15).toInt ≤ (σ_110.1 a 16).toInt ∧ (σ_110.1 a 16).toInt ≤ (σ_110.1 a 9).toInt ∧ (σ_110.1 a 9).toInt ≤ 900 ∧ 0 ≤ (σ_110.1 a 14).toInt ∧ (σ_110.1 a 14).toInt ≤ 4 ∧ (σ_110.1 a 14).toInt ≤ 4 * ((σ_110.1 a 16).toInt - (σ_110.1 a 15).toInt) ∧ (σ_110.1 a 14).toInt ≤ 4 * ((σ_110.1 a 9).toInt - (σ_110.1 a 15).toInt) ∧ 0 ≤ (σ_110.1 a 12).toInt ∧ (σ_110.1 a 8).toInt = 0 := (by first | (clear hn tb8 mv9_σ_1 mv12_σ_1 mv14_σ_1 mv15_σ_1 mv16_σ_1 mv8_σ_1 mv9_σ_2 mv12_σ_2 mv14_σ_2 mv15_σ_2 mv16_σ_2 mv8_σ_2 kc_3 ahpσ_5 bhpσ_5 ehpσ_5 fhpσ_5 c_6 sv hm25 hge25 hzσ_8 smσ_8 gc_10_x_7 c_10 hm51 hge51 gc_14_x_11 c_14 bhpσ_19 chpσ_19 chpσ_21 dhpσ_21 ehpσ_21 kc_22 kc_23 chpσ_25 dhpσ_25 ehpσ_25 bhpσ_28 chpσ_28 chpσ_30 dhpσ_30 ehpσ_30 kc_31 kc_32 chpσ_34 dhpσ_34 ehpσ_34 kc_36 bhpσ_38 chpσ_38 chpσ_40 dhpσ_40 ehpσ_40 k0σ_40 k4σ_40 hm145 k0σ_41 k4σ_41 if_43 c_44 if_63 c_64 ahpσ_84 bhpσ_84 chpσ_84 c_85 ahpσ_87 bhpσ_87 chpσ_87 c_88 ahpσ_90 bhpσ_90 chpσ_90 c_91 ahpσ_110 bhpσ_110 dhpσ_110 ehpσ_110 fhpσ_110; omega) | omega)
                              have nnσ_110 : m_N (m_c X σ_110 a) := ahpσ_110
                              have k0σ_110 : 2 ≤ m_c X σ_110 a 3720 + 10 * (σ_110.1 a 12).toInt := (by have := ehpσ_110.1; omega)
                              have k4σ_110 : 1 ≤ m_c X σ_110 a 3724 + 10 * (σ_110.1 a 12).toInt := fhpσ_110
                              have ks_σ_110 : q_KS (fun b g => b = a ∧ 8 ≤ g ∧ g ≤ 18) 1 X σ σ_110 := ks_σ_41.K hkσ_110 (by decide)
                              refine lv_goto (tgt := 219) hx hb dX12_table_198 (by decide) ?_
                              refine lv_aload_n hx hb dX12_table_219 rfl (lv_at hl 0 rfl) ?_
                              refine lv_aload_n hx hb dX12_table_220 rfl (lv_at hl 0 rfl) ?_
                              refine lv_bipush (v := 59) hx hb dX12_table_221 zkb_59 ?_
                              have kc_111 : (59 : Int32).toInt = 59 := zt_59
                              refine q_ci (q_rV11_1 (rest := [.ref a]) E (hml.trans hl.1.symm) hI (c_X12_isSign l X σ_110 a (59 : Int32) ha) kv_X12_243 ha ⟨Nat.le_of_ble_eq_true rfl, Nat.le_of_ble_eq_true rfl⟩ (Nat.le_of_ble_eq_true rfl) dX12_table_223) hI (Nat.le_of_ble_eq_true rfl) (fun r_112 σ_113 H locs hpσ_113 hkσ_113 hI => ?_)
                              have ahpσ_113 := hpσ_113.1
                              have bhpσ_113 := hpσ_113.2.1
                              have chpσ_113 := hpσ_113.2.2
                              clear hpσ_113
                              replace hI := q_Irw ahpσ_113 hI
                              replace hF := q_letX hF chpσ_113
                              refine q_cv (q_rV11_1 (rest := []) E (hml.trans hl.1.symm) hI (c_X12_must l X σ_110 a r_112 ha (by first | exact sm_9 smσ_110 | exact hs | omega) (by first | (clear hn tb8 mv9_σ_1 mv12_σ_1 mv14_σ_1 mv15_σ_1 mv16_σ_1 mv8_σ_1 mv9_σ_2 mv12_σ_2 mv14_σ_2 mv15_σ_2 mv16_σ_2 mv8_σ_2 kc_3 ahpσ_5 bhpσ_5 ehpσ_5 fhpσ_5 c_6 sv hm25 hge25 hzσ_8 smσ_8 gc_10_x_7 c_10 hm51 hge51 gc_14_x_11 c_14 bhpσ_19 chpσ_19 chpσ_21 dhpσ_21 ehpσ_21 kc_22 kc_23 chpσ_25 dhpσ_25 ehpσ_25 bhpσ_28 chpσ_28 chpσ_30 dhpσ_30 ehpσ_30 kc_31 kc_32 chpσ_34 dhpσ_34 ehpσ_34 kc_36 bhpσ_38 chpσ_38 chpσ_40 dhpσ_40 ehpσ_40 k0σ_40 k4σ_40 hm145 smσ_41 k0σ_41 k4σ_41 if_43 c_44 if_63 c_64 ahpσ_84 bhpσ_84 chpσ_84 c_85 ahpσ_87 bhpσ_87 chpσ_87 c_88 ahpσ_90 bhpσ_90 chpσ_90 c_91 ahpσ_110 bhpσ_110 chpσ_110 dhpσ_110 ehpσ_110 fhpσ_110 mv8_σ_110 smσ_110 k0σ_110 k4σ_110 kc_111 ahpσ_113 chpσ_113; omega) | omega)) kv_X12_216 ha ⟨Nat.le_of_ble_eq_true rfl, Nat.le_of_ble_eq_true rfl⟩ (Nat.le_of_ble_eq_true rfl) dX12_table_226) hI (Nat.le_of_ble_eq_true rfl) (fun σ_115 H locs hpσ_115 hkσ_115 hI => ?_)
                              have ahpσ_115 := hpσ_115.1
                              have bhpσ_115 := hpσ_115.2.1
                              have chpσ_115 := hpσ_115.2.2.1
                              have dhpσ_115 := hpσ_115.2.2.2.1
                              have ehpσ_115 := hpσ_115.2.2.2.2
                              clear hpσ_115
                              have fr_σ_115 := fr_σ_110.call ehpσ_115 rfl rfl
                              replace hF := q_letX hF dhpσ_115
                              have mv8_σ_115 : (σ_115.1 a 8).toInt = (σ_110.1 a 8).toInt := congrArg Int32.toInt (hkσ_115 a 8 (by rw [ha]; decide))
                              have mcσ_115 := m_cK hkσ_115 hI.1 ha (by decide)
                              have kpσ_115 : ∀ j, 0 ≤ j → j < 3720 → m_c X σ_115 a j = m_c X σ a j := fun j h0 h1 => (mcσ_115 j).trans (kpσ_110 j h0 h1)
                              have smσ_115 : 0 ≤ (σ_115.1 a 15).toInt ∧ (σ_115.1 a 15).toInt ≤ (σ_115.1 a 16).toInt ∧ (σ_115.1 a 16).toInt ≤ (σ_115.1 a 9).toInt ∧ (σ_115.1 a 9).toInt ≤ 900 ∧ 0 ≤ (σ_115.1 a 14).toInt ∧ (σ_115.1 a 14).toInt ≤ 4 ∧ (σ_115.1 a 14).toInt ≤ 4 * ((σ_115.1 a 16).toInt - (σ_115.1 a 15).toInt) ∧ (σ_115.1 a 14).toInt ≤ 4 * ((σ_115.1 a 9).toInt - (σ_115.1 a 15).toInt) ∧ 0 ≤ (σ_115.1 a 12).toInt ∧ (σ_115.1 a 8).toInt = 0 := (by first | (clear hn tb8 mv9_σ_1 mv12_σ_1 mv14_σ_1 mv15_σ_1 mv16_σ_1 mv8_σ_1 mv9_σ_2 mv12_σ_2 mv14_σ_2 mv15_σ_2 mv16_σ_2 mv8_σ_2 kc_3 ahpσ_5 bhpσ_5 ehpσ_5 fhpσ_5 c_6 sv hm25 hge25 hzσ_8 smσ_8 gc_10_x_7 c_10 hm51 hge51 gc_14_x_11 c_14 bhpσ_19 chpσ_19 chpσ_21 dhpσ_21 ehpσ_21 kc_22 kc_23 chpσ_25 dhpσ_25 ehpσ_25 bhpσ_28 chpσ_28 chpσ_30 dhpσ_30 ehpσ_30 kc_31 kc_32 chpσ_34 dhpσ_34 ehpσ_34 kc_36 bhpσ_38 chpσ_38 chpσ_40 dhpσ_40 ehpσ_40 k0σ_40 k4σ_40 hm145 k0σ_41 k4σ_41 if_43 c_44 if_63 c_64 ahpσ_84 bhpσ_84 chpσ_84 c_85 ahpσ_87 bhpσ_87 chpσ_87 c_88 ahpσ_90 bhpσ_90 chpσ_90 c_91 ahpσ_110 bhpσ_110 chpσ_110 dhpσ_110 ehpσ_110 fhpσ_110 smσ_110 k0σ_110 k4σ_110 kc_111 ahpσ_113 bhpσ_113 chpσ_113 ahpσ_115 chpσ_115 dhpσ_115 ehpσ_115; omega) | omega)
                              have nnσ_115 : m_N (m_c X σ_115 a) := m_N.ext mcσ_115 nnσ_110
                              have k0σ_115 : 2 ≤ m_c X σ_115 a 3720 + 10 * (σ_115.1 a 12).toInt := (by have := mcσ_115 3720; omega)
                              have k4σ_115 : 1 ≤ m_c X σ_115 a 3724 + 10 * (σ_115.1 a 12).toInt := (by have := mcσ_115 3724; omega)
                              have ks_σ_115 : q_KS (fun b g => b = a ∧ 8 ≤ g ∧ g ≤ 18) 1 X σ σ_115 := ks_σ_110.K hkσ_115 (by decide)
                              refine lv_goto (tgt := 145) hx hb dX12_table_229 (by decide) ?_
                              exact ih145 σ_115 _ _ ls (by first | (clear hn tb8 mv9_σ_1 mv12_σ_1 mv14_σ_1 mv15_σ_1 mv16_σ_1 mv8_σ_1 mv9_σ_2 mv12_σ_2 mv14_σ_2 mv15_σ_2 mv16_σ_2 mv8_σ_2 kc_3 ahpσ_5 bhpσ_5 ehpσ_5 fhpσ_5 c_6 sv hm25 hge25 hzσ_8 smσ_8 gc_10_x_7 c_10 hm51 hge51 gc_14_x_11 c_14 bhpσ_19 chpσ_19 chpσ_21 dhpσ_21 ehpσ_21 kc_22 kc_23 chpσ_25 dhpσ_25 ehpσ_25 bhpσ_28 chpσ_28 chpσ_30 dhpσ_30 ehpσ_30 kc_31 kc_32 chpσ_34 dhpσ_34 ehpσ_34 kc_36 bhpσ_38 chpσ_38 chpσ_40 dhpσ_40 ehpσ_40 k0σ_40 k4σ_40 k0σ_41 k4σ_41 ahpσ_84 bhpσ_84 chpσ_84 c_85 ahpσ_87 bhpσ_87 chpσ_87 c_88 ahpσ_90 bhpσ_90 chpσ_90 c_91 ahpσ_110 bhpσ_110 ehpσ_110 fhpσ_110 mv8_σ_110 smσ_110 k0σ_110 k4σ_110 kc_111 ahpσ_113 bhpσ_113 chpσ_113 ahpσ_115 chpσ_115 dhpσ_115 ehpσ_115 mv8_σ_115 smσ_115 k0σ_115 k4σ_115; omega) | omega) ks_σ_115 fr_σ_115 kpσ_115 smσ_115 nnσ_115 k0σ_115 k4σ_115 hF hI (lv_sub hl [0, 1, 2] rfl)
                          · skip
                            replace hF := q_ifn hF c_88
                            replace c_88 := q_ifOne bhpσ_87 c_88
                            refine lv_aload_n hx hb dX12_table_180 rfl (lv_at hl 0 rfl) ?_
                            refine q_cv (q_rV11_0 (rest := []) E (hml.trans hl.1.symm) hI (c_X12_readMost l X σ_41 a ha (by first | exact sm_9 smσ_41 | exact hs | omega) nnσ_41 (by first | (clear hn tb8 mv9_σ_1 mv12_σ_1 mv14_σ_1 mv15_σ_1 mv16_σ_1 mv8_σ_1 mv9_σ_2 mv12_σ_2 mv14_σ_2 mv15_σ_2 mv16_σ_2 mv8_σ_2 kc_3 ahpσ_5 bhpσ_5 ehpσ_5 fhpσ_5 c_6 sv hm25 hge25 hzσ_8 smσ_8 gc_10_x_7 c_10 hm51 hge51 gc_14_x_11 c_14 bhpσ_19 chpσ_19 chpσ_21 dhpσ_21 ehpσ_21 kc_22 kc_23 chpσ_25 dhpσ_25 ehpσ_25 bhpσ_28 chpσ_28 chpσ_30 dhpσ_30 ehpσ_30 kc_31 kc_32 chpσ_34 dhpσ_34 ehpσ_34 kc_36 bhpσ_38 chpσ_38 chpσ_40 dhpσ_40 ehpσ_40 k0σ_40 k4σ_40 hm145 smσ_41 k0σ_41 k4σ_41 if_63 c_64 ahpσ_84 bhpσ_84 chpσ_84 c_85 ahpσ_87 bhpσ_87 chpσ_87 c_88; omega) | omega) (by first | (clear hn tb8 mv9_σ_1 mv12_σ_1 mv14_σ_1 mv15_σ_1 mv16_σ_1 mv8_σ_1 mv9_σ_2 mv12_σ_2 mv14_σ_2 mv15_σ_2 mv16_σ_2 mv8_σ_2 kc_3 ahpσ_5 bhpσ_5 ehpσ_5 fhpσ_5 c_6 sv hm25 hge25 hzσ_8 smσ_8 gc_10_x_7 c_10 hm51 hge51 gc_14_x_11 c_14 bhpσ_19 chpσ_19 chpσ_21 dhpσ_21 ehpσ_21 kc_22 kc_23 chpσ_25 dhpσ_25 ehpσ_25 bhpσ_28 chpσ_28 chpσ_30 dhpσ_30 ehpσ_30 kc_31 kc_32 chpσ_34 dhpσ_34 ehpσ_34 kc_36 bhpσ_38 chpσ_38 chpσ_40 dhpσ_40 ehpσ_40 k0σ_40 k4σ_40 hm145 smσ_41 k4σ_41 if_63 c_64 ahpσ_84 bhpσ_84 chpσ_84 c_85 ahpσ_87 bhpσ_87 chpσ_87 c_88; omega) | omega) (by first | (clear hn tb8 mv9_σ_1 mv12_σ_1 mv14_σ_1 mv15_σ_1 mv16_σ_1 mv8_σ_1 mv9_σ_2 mv12_σ_2 mv14_σ_2 mv15_σ_2 mv16_σ_2 mv8_σ_2 kc_3 ahpσ_5 bhpσ_5 ehpσ_5 fhpσ_5 c_6 sv hm25 hge25 hzσ_8 smσ_8 gc_10_x_7 c_10 hm51 hge51 gc_14_x_11 c_14 bhpσ_19 chpσ_19 chpσ_21 dhpσ_21 ehpσ_21 kc_22 kc_23 chpσ_25 dhpσ_25 ehpσ_25 bhpσ_28 chpσ_28 chpσ_30 dhpσ_30 ehpσ_30 kc_31 kc_32 chpσ_34 dhpσ_34 ehpσ_34 kc_36 bhpσ_38 chpσ_38 chpσ_40 dhpσ_40 ehpσ_40 k0σ_40 k4σ_40 hm145 smσ_41 k0σ_41 if_63 c_64 ahpσ_84 bhpσ_84 chpσ_84 c_85 ahpσ_87 bhpσ_87 chpσ_87 c_88; omega) | omega)) kv_X12_249 ha ⟨Nat.le_of_ble_eq_true rfl, Nat.le_of_ble_eq_true rfl⟩ (Nat.le_of_ble_eq_true rfl) dX12_table_181) hI (Nat.le_of_ble_eq_true rfl) (fun σ_117 H locs hpσ_117 hkσ_117 hI => ?_)
                            have ahpσ_117 := hpσ_117.1
                            have bhpσ_117 := hpσ_117.2.1
                            have chpσ_117 := hpσ_117.2.2.1
                            have dhpσ_117 := hpσ_117.2.2.2.1
                            have ehpσ_117 := hpσ_117.2.2.2.2.1
                            have fhpσ_117 := hpσ_117.2.2.2.2.2.1
                            have ghpσ_117 := hpσ_117.2.2.2.2.2.2.1
                            have hhpσ_117 := hpσ_117.2.2.2.2.2.2.2
                            clear hpσ_117
                            have fr_σ_117 := fr_σ_41.call hhpσ_117 rfl rfl
                            replace hF := q_letX hF ghpσ_117
                            have mv8_σ_117 : (σ_117.1 a 8).toInt = (σ_41.1 a 8).toInt := congrArg Int32.toInt (hkσ_117 a 8 (by rw [ha]; decide))
                            have kpσ_117 : ∀ j, 0 ≤ j → j < 3720 → m_c X σ_117 a j = m_c X σ a j := fun j h0 h1 => (bhpσ_117 j h0 h1).trans (kpσ_41 j h0 h1)
                            have smσ_117 : 0 ≤ (σ_117.1 a 15).toInt ∧ (σ_117.1 a 15).toInt ≤ (σ_117.1 a 16).toInt ∧ (σ_117.1 a 16).toInt ≤ (σ_117.1 a 9).toInt ∧ (σ_117.1 a 9).toInt ≤ 900 ∧ 0 ≤ (σ_117.1 a 14).toInt ∧ (σ_117.1 a 14).toInt ≤ 4 ∧ (σ_117.1 a 14).toInt ≤ 4 * ((σ_117.1 a 16).toInt - (σ_117.1 a 15).toInt) ∧ (σ_117.1 a 14).toInt ≤ 4 * ((σ_117.1 a 9).toInt - (σ_117.1 a 15).toInt) ∧ 0 ≤ (σ_117.1 a 12).toInt ∧ (σ_117.1 a 8).toInt = 0 := (by first | (clear hn tb8 mv9_σ_1 mv12_σ_1 mv14_σ_1 mv15_σ_1 mv16_σ_1 mv8_σ_1 mv9_σ_2 mv12_σ_2 mv14_σ_2 mv15_σ_2 mv16_σ_2 mv8_σ_2 kc_3 ahpσ_5 bhpσ_5 ehpσ_5 fhpσ_5 c_6 sv hm25 hge25 hzσ_8 smσ_8 gc_10_x_7 c_10 hm51 hge51 gc_14_x_11 c_14 bhpσ_19 chpσ_19 chpσ_21 dhpσ_21 ehpσ_21 kc_22 kc_23 chpσ_25 dhpσ_25 ehpσ_25 bhpσ_28 chpσ_28 chpσ_30 dhpσ_30 ehpσ_30 kc_31 kc_32 chpσ_34 dhpσ_34 ehpσ_34 kc_36 bhpσ_38 chpσ_38 chpσ_40 dhpσ_40 ehpσ_40 k0σ_40 k4σ_40 hm145 k0σ_41 k4σ_41 if_43 c_44 if_63 c_64 ahpσ_84 bhpσ_84 chpσ_84 c_85 ahpσ_87 bhpσ_87 chpσ_87 c_88 ahpσ_117 bhpσ_117 dhpσ_117 ehpσ_117 fhpσ_117; omega) | omega)
                            have nnσ_117 : m_N (m_c X σ_117 a) := ahpσ_117
                            have k0σ_117 : 2 ≤ m_c X σ_117 a 3720 + 10 * (σ_117.1 a 12).toInt := (by have := ehpσ_117.1; omega)
                            have k4σ_117 : 1 ≤ m_c X σ_117 a 3724 + 10 * (σ_117.1 a 12).toInt := fhpσ_117
                            have ks_σ_117 : q_KS (fun b g => b = a ∧ 8 ≤ g ∧ g ≤ 18) 1 X σ σ_117 := ks_σ_41.K hkσ_117 (by decide)
                            refine lv_goto (tgt := 219) hx hb dX12_table_184 (by decide) ?_
                            refine lv_aload_n hx hb dX12_table_219 rfl (lv_at hl 0 rfl) ?_
                            refine lv_aload_n hx hb dX12_table_220 rfl (lv_at hl 0 rfl) ?_
                            refine lv_bipush (v := 59) hx hb dX12_table_221 zkb_59 ?_
                            have kc_118 : (59 : Int32).toInt = 59 := zt_59
                            refine q_ci (q_rV11_1 (rest := [.ref a]) E (hml.trans hl.1.symm) hI (c_X12_isSign l X σ_117 a (59 : Int32) ha) kv_X12_243 ha ⟨Nat.le_of_ble_eq_true rfl, Nat.le_of_ble_eq_true rfl⟩ (Nat.le_of_ble_eq_true rfl) dX12_table_223) hI (Nat.le_of_ble_eq_true rfl) (fun r_119 σ_120 H locs hpσ_120 hkσ_120 hI => ?_)
                            have ahpσ_120 := hpσ_120.1
                            have bhpσ_120 := hpσ_120.2.1
                            have chpσ_120 := hpσ_120.2.2
                            clear hpσ_120
                            replace hI := q_Irw ahpσ_120 hI
                            replace hF := q_letX hF chpσ_120
                            refine q_cv (q_rV11_1 (rest := []) E (hml.trans hl.1.symm) hI (c_X12_must l X σ_117 a r_119 ha (by first | exact sm_9 smσ_117 | exact hs | omega) (by first | (clear hn tb8 mv9_σ_1 mv12_σ_1 mv14_σ_1 mv15_σ_1 mv16_σ_1 mv8_σ_1 mv9_σ_2 mv12_σ_2 mv14_σ_2 mv15_σ_2 mv16_σ_2 mv8_σ_2 kc_3 ahpσ_5 bhpσ_5 ehpσ_5 fhpσ_5 c_6 sv hm25 hge25 hzσ_8 smσ_8 gc_10_x_7 c_10 hm51 hge51 gc_14_x_11 c_14 bhpσ_19 chpσ_19 chpσ_21 dhpσ_21 ehpσ_21 kc_22 kc_23 chpσ_25 dhpσ_25 ehpσ_25 bhpσ_28 chpσ_28 chpσ_30 dhpσ_30 ehpσ_30 kc_31 kc_32 chpσ_34 dhpσ_34 ehpσ_34 kc_36 bhpσ_38 chpσ_38 chpσ_40 dhpσ_40 ehpσ_40 k0σ_40 k4σ_40 hm145 smσ_41 k0σ_41 k4σ_41 if_43 c_44 if_63 c_64 ahpσ_84 bhpσ_84 chpσ_84 c_85 ahpσ_87 bhpσ_87 chpσ_87 c_88 ahpσ_117 bhpσ_117 chpσ_117 dhpσ_117 ehpσ_117 fhpσ_117 mv8_σ_117 smσ_117 k0σ_117 k4σ_117 kc_118 ahpσ_120 chpσ_120; omega) | omega)) kv_X12_216 ha ⟨Nat.le_of_ble_eq_true rfl, Nat.le_of_ble_eq_true rfl⟩ (Nat.le_of_ble_eq_true rfl) dX12_table_226) hI (Nat.le_of_ble_eq_true rfl) (fun σ_122 H locs hpσ_122 hkσ_122 hI => ?_)
                            have ahpσ_122 := hpσ_122.1
                            have bhpσ_122 := hpσ_122.2.1
                            have chpσ_122 := hpσ_122.2.2.1
                            have dhpσ_122 := hpσ_122.2.2.2.1
                            have ehpσ_122 := hpσ_122.2.2.2.2
                            clear hpσ_122
                            have fr_σ_122 := fr_σ_117.call ehpσ_122 rfl rfl
                            replace hF := q_letX hF dhpσ_122
                            have mv8_σ_122 : (σ_122.1 a 8).toInt = (σ_117.1 a 8).toInt := congrArg Int32.toInt (hkσ_122 a 8 (by rw [ha]; decide))
                            have mcσ_122 := m_cK hkσ_122 hI.1 ha (by decide)
                            have kpσ_122 : ∀ j, 0 ≤ j → j < 3720 → m_c X σ_122 a j = m_c X σ a j := fun j h0 h1 => (mcσ_122 j).trans (kpσ_117 j h0 h1)
                            have smσ_122 : 0 ≤ (σ_122.1 a 15).toInt ∧ (σ_122.1 a 15).toInt ≤ (σ_122.1 a 16).toInt ∧ (σ_122.1 a 16).toInt ≤ (σ_122.1 a 9).toInt ∧ (σ_122.1 a 9).toInt ≤ 900 ∧ 0 ≤ (σ_122.1 a 14).toInt ∧ (σ_122.1 a 14).toInt ≤ 4 ∧ (σ_122.1 a 14).toInt ≤ 4 * ((σ_122.1 a 16).toInt - (σ_122.1 a 15).toInt) ∧ (σ_122.1 a 14).toInt ≤ 4 * ((σ_122.1 a 9).toInt - (σ_122.1 a 15).toInt) ∧ 0 ≤ (σ_122.1 a 12).toInt ∧ (σ_122.1 a 8).toInt = 0 := (by first | (clear hn tb8 mv9_σ_1 mv12_σ_1 mv14_σ_1 mv15_σ_1 mv16_σ_1 mv8_σ_1 mv9_σ_2 mv12_σ_2 mv14_σ_2 mv15_σ_2 mv16_σ_2 mv8_σ_2 kc_3 ahpσ_5 bhpσ_5 ehpσ_5 fhpσ_5 c_6 sv hm25 hge25 hzσ_8 smσ_8 gc_10_x_7 c_10 hm51 hge51 gc_14_x_11 c_14 bhpσ_19 chpσ_19 chpσ_21 dhpσ_21 ehpσ_21 kc_22 kc_23 chpσ_25 dhpσ_25 ehpσ_25 bhpσ_28 chpσ_28 chpσ_30 dhpσ_30 ehpσ_30 kc_31 kc_32 chpσ_34 dhpσ_34 ehpσ_34 kc_36 bhpσ_38 chpσ_38 chpσ_40 dhpσ_40 ehpσ_40 k0σ_40 k4σ_40 hm145 k0σ_41 k4σ_41 if_43 c_44 if_63 c_64 ahpσ_84 bhpσ_84 chpσ_84 c_85 ahpσ_87 bhpσ_87 chpσ_87 c_88 ahpσ_117 bhpσ_117 dhpσ_117 ehpσ_117 fhpσ_117 smσ_117 k0σ_117 k4σ_117 kc_118 ahpσ_120 bhpσ_120 chpσ_120 ahpσ_122 chpσ_122 dhpσ_122 ehpσ_122; omega) | omega)
                            have nnσ_122 : m_N (m_c X σ_122 a) := m_N.ext mcσ_122 nnσ_117
                            have k0σ_122 : 2 ≤ m_c X σ_122 a 3720 + 10 * (σ_122.1 a 12).toInt := (by have := mcσ_122 3720; omega)
                            have k4σ_122 : 1 ≤ m_c X σ_122 a 3724 + 10 * (σ_122.1 a 12).toInt := (by have := mcσ_122 3724; omega)
                            have ks_σ_122 : q_KS (fun b g => b = a ∧ 8 ≤ g ∧ g ≤ 18) 1 X σ σ_122 := ks_σ_117.K hkσ_122 (by decide)
                            refine lv_goto (tgt := 145) hx hb dX12_table_229 (by decide) ?_
                            exact ih145 σ_122 _ _ ls (by first | (clear hn tb8 mv9_σ_1 mv12_σ_1 mv14_σ_1 mv15_σ_1 mv16_σ_1 mv8_σ_1 mv9_σ_2 mv12_σ_2 mv14_σ_2 mv15_σ_2 mv16_σ_2 mv8_σ_2 kc_3 ahpσ_5 bhpσ_5 ehpσ_5 fhpσ_5 c_6 sv hm25 hge25 hzσ_8 smσ_8 gc_10_x_7 c_10 hm51 hge51 gc_14_x_11 c_14 bhpσ_19 chpσ_19 chpσ_21 dhpσ_21 ehpσ_21 kc_22 kc_23 chpσ_25 dhpσ_25 ehpσ_25 bhpσ_28 chpσ_28 chpσ_30 dhpσ_30 ehpσ_30 kc_31 kc_32 chpσ_34 dhpσ_34 ehpσ_34 kc_36 bhpσ_38 chpσ_38 chpσ_40 dhpσ_40 ehpσ_40 k0σ_40 k4σ_40 k0σ_41 k4σ_41 ahpσ_84 bhpσ_84 chpσ_84 c_85 ahpσ_87 bhpσ_87 chpσ_87 c_88 ahpσ_117 bhpσ_117 ehpσ_117 fhpσ_117 mv8_σ_117 smσ_117 k0σ_117 k4σ_117 kc_118 ahpσ_120 bhpσ_120 chpσ_120 ahpσ_122 chpσ_122 dhpσ_122 ehpσ_122 mv8_σ_122 smσ_122 k0σ_122 k4σ_122; omega) | omega) ks_σ_122 fr_σ_122 kpσ_122 smσ_122 nnσ_122 k0σ_122 k4σ_122 hF hI (lv_sub hl [0, 1, 2] rfl)
                        · skip
                          replace hF := q_ifn hF c_85
                          replace c_85 := q_ifOne bhpσ_84 c_85
                          refine lv_aload_n hx hb dX12_table_166 rfl (lv_at hl 0 rfl) ?_
                          refine q_cv (q_rV11_0 (rest := []) E (hml.trans hl.1.symm) hI (c_X12_readLaw l X σ_41 a ha (by first | exact sm_9 smσ_41 | exact hs | omega) nnσ_41 (by first | (clear hn tb8 mv9_σ_1 mv12_σ_1 mv14_σ_1 mv15_σ_1 mv16_σ_1 mv8_σ_1 mv9_σ_2 mv12_σ_2 mv14_σ_2 mv15_σ_2 mv16_σ_2 mv8_σ_2 kc_3 ahpσ_5 bhpσ_5 ehpσ_5 fhpσ_5 c_6 sv hm25 hge25 hzσ_8 smσ_8 gc_10_x_7 c_10 hm51 hge51 gc_14_x_11 c_14 bhpσ_19 chpσ_19 chpσ_21 dhpσ_21 ehpσ_21 kc_22 kc_23 chpσ_25 dhpσ_25 ehpσ_25 bhpσ_28 chpσ_28 chpσ_30 dhpσ_30 ehpσ_30 kc_31 kc_32 chpσ_34 dhpσ_34 ehpσ_34 kc_36 bhpσ_38 chpσ_38 chpσ_40 dhpσ_40 ehpσ_40 k0σ_40 k4σ_40 hm145 smσ_41 k0σ_41 k4σ_41 if_63 c_64 ahpσ_84 bhpσ_84 chpσ_84 c_85; omega) | omega) (by first | (clear hn tb8 mv9_σ_1 mv12_σ_1 mv14_σ_1 mv15_σ_1 mv16_σ_1 mv8_σ_1 mv9_σ_2 mv12_σ_2 mv14_σ_2 mv15_σ_2 mv16_σ_2 mv8_σ_2 kc_3 ahpσ_5 bhpσ_5 ehpσ_5 fhpσ_5 c_6 sv hm25 hge25 hzσ_8 smσ_8 gc_10_x_7 c_10 hm51 hge51 gc_14_x_11 c_14 bhpσ_19 chpσ_19 chpσ_21 dhpσ_21 ehpσ_21 kc_22 kc_23 chpσ_25 dhpσ_25 ehpσ_25 bhpσ_28 chpσ_28 chpσ_30 dhpσ_30 ehpσ_30 kc_31 kc_32 chpσ_34 dhpσ_34 ehpσ_34 kc_36 bhpσ_38 chpσ_38 chpσ_40 dhpσ_40 ehpσ_40 k0σ_40 k4σ_40 hm145 smσ_41 k4σ_41 if_63 c_64 ahpσ_84 bhpσ_84 chpσ_84 c_85; omega) | omega) (by first | (clear hn tb8 mv9_σ_1 mv12_σ_1 mv14_σ_1 mv15_σ_1 mv16_σ_1 mv8_σ_1 mv9_σ_2 mv12_σ_2 mv14_σ_2 mv15_σ_2 mv16_σ_2 mv8_σ_2 kc_3 ahpσ_5 bhpσ_5 ehpσ_5 fhpσ_5 c_6 sv hm25 hge25 hzσ_8 smσ_8 gc_10_x_7 c_10 hm51 hge51 gc_14_x_11 c_14 bhpσ_19 chpσ_19 chpσ_21 dhpσ_21 ehpσ_21 kc_22 kc_23 chpσ_25 dhpσ_25 ehpσ_25 bhpσ_28 chpσ_28 chpσ_30 dhpσ_30 ehpσ_30 kc_31 kc_32 chpσ_34 dhpσ_34 ehpσ_34 kc_36 bhpσ_38 chpσ_38 chpσ_40 dhpσ_40 ehpσ_40 k0σ_40 k4σ_40 hm145 smσ_41 k0σ_41 if_63 c_64 ahpσ_84 bhpσ_84 chpσ_84 c_85; omega) | omega)) kv_X12_246 ha ⟨Nat.le_of_ble_eq_true rfl, Nat.le_of_ble_eq_true rfl⟩ (Nat.le_of_ble_eq_true rfl) dX12_table_167) hI (Nat.le_of_ble_eq_true rfl) (fun σ_124 H locs hpσ_124 hkσ_124 hI => ?_)
                          have ahpσ_124 := hpσ_124.1
                          have bhpσ_124 := hpσ_124.2.1
                          have chpσ_124 := hpσ_124.2.2.1
                          have dhpσ_124 := hpσ_124.2.2.2.1
                          have ehpσ_124 := hpσ_124.2.2.2.2.1
                          have fhpσ_124 := hpσ_124.2.2.2.2.2.1
                          have ghpσ_124 := hpσ_124.2.2.2.2.2.2.1
                          have hhpσ_124 := hpσ_124.2.2.2.2.2.2.2
                          clear hpσ_124
                          have fr_σ_124 := fr_σ_41.call hhpσ_124 rfl rfl
                          replace hF := q_letX hF ghpσ_124
                          have mv8_σ_124 : (σ_124.1 a 8).toInt = (σ_41.1 a 8).toInt := congrArg Int32.toInt (hkσ_124 a 8 (by rw [ha]; decide))
                          have kpσ_124 : ∀ j, 0 ≤ j → j < 3720 → m_c X σ_124 a j = m_c X σ a j := fun j h0 h1 => (bhpσ_124 j h0 h1).trans (kpσ_41 j h0 h1)
                          have smσ_124 : 0 ≤ (σ_124.1 a 15).toInt ∧ (σ_124.1 a 15).toInt ≤ (σ_124.1 a 16).toInt ∧ (σ_124.1 a 16).toInt ≤ (σ_124.1 a 9).toInt ∧ (σ_124.1 a 9).toInt ≤ 900 ∧ 0 ≤ (σ_124.1 a 14).toInt ∧ (σ_124.1 a 14).toInt ≤ 4 ∧ (σ_124.1 a 14).toInt ≤ 4 * ((σ_124.1 a 16).toInt - (σ_124.1 a 15).toInt) ∧ (σ_124.1 a 14).toInt ≤ 4 * ((σ_124.1 a 9).toInt - (σ_124.1 a 15).toInt) ∧ 0 ≤ (σ_124.1 a 12).toInt ∧ (σ_124.1 a 8).toInt = 0 := (by first | (clear hn tb8 mv9_σ_1 mv12_σ_1 mv14_σ_1 mv15_σ_1 mv16_σ_1 mv8_σ_1 mv9_σ_2 mv12_σ_2 mv14_σ_2 mv15_σ_2 mv16_σ_2 mv8_σ_2 kc_3 ahpσ_5 bhpσ_5 ehpσ_5 fhpσ_5 c_6 sv hm25 hge25 hzσ_8 smσ_8 gc_10_x_7 c_10 hm51 hge51 gc_14_x_11 c_14 bhpσ_19 chpσ_19 chpσ_21 dhpσ_21 ehpσ_21 kc_22 kc_23 chpσ_25 dhpσ_25 ehpσ_25 bhpσ_28 chpσ_28 chpσ_30 dhpσ_30 ehpσ_30 kc_31 kc_32 chpσ_34 dhpσ_34 ehpσ_34 kc_36 bhpσ_38 chpσ_38 chpσ_40 dhpσ_40 ehpσ_40 k0σ_40 k4σ_40 hm145 k0σ_41 k4σ_41 if_43 c_44 if_63 c_64 ahpσ_84 bhpσ_84 chpσ_84 c_85 ahpσ_124 bhpσ_124 dhpσ_124 ehpσ_124 fhpσ_124; omega) | omega)
                          have nnσ_124 : m_N (m_c X σ_124 a) := ahpσ_124
                          have k0σ_124 : 2 ≤ m_c X σ_124 a 3720 + 10 * (σ_124.1 a 12).toInt := (by have := ehpσ_124.1; omega)
                          have k4σ_124 : 1 ≤ m_c X σ_124 a 3724 + 10 * (σ_124.1 a 12).toInt := fhpσ_124
                          have ks_σ_124 : q_KS (fun b g => b = a ∧ 8 ≤ g ∧ g ≤ 18) 1 X σ σ_124 := ks_σ_41.K hkσ_124 (by decide)
                          refine lv_goto (tgt := 219) hx hb dX12_table_170 (by decide) ?_
                          refine lv_aload_n hx hb dX12_table_219 rfl (lv_at hl 0 rfl) ?_
                          refine lv_aload_n hx hb dX12_table_220 rfl (lv_at hl 0 rfl) ?_
                          refine lv_bipush (v := 59) hx hb dX12_table_221 zkb_59 ?_
                          have kc_125 : (59 : Int32).toInt = 59 := zt_59
                          refine q_ci (q_rV11_1 (rest := [.ref a]) E (hml.trans hl.1.symm) hI (c_X12_isSign l X σ_124 a (59 : Int32) ha) kv_X12_243 ha ⟨Nat.le_of_ble_eq_true rfl, Nat.le_of_ble_eq_true rfl⟩ (Nat.le_of_ble_eq_true rfl) dX12_table_223) hI (Nat.le_of_ble_eq_true rfl) (fun r_126 σ_127 H locs hpσ_127 hkσ_127 hI => ?_)
                          have ahpσ_127 := hpσ_127.1
                          have bhpσ_127 := hpσ_127.2.1
                          have chpσ_127 := hpσ_127.2.2
                          clear hpσ_127
                          replace hI := q_Irw ahpσ_127 hI
                          replace hF := q_letX hF chpσ_127
                          refine q_cv (q_rV11_1 (rest := []) E (hml.trans hl.1.symm) hI (c_X12_must l X σ_124 a r_126 ha (by first | exact sm_9 smσ_124 | exact hs | omega) (by first | (clear hn tb8 mv9_σ_1 mv12_σ_1 mv14_σ_1 mv15_σ_1 mv16_σ_1 mv8_σ_1 mv9_σ_2 mv12_σ_2 mv14_σ_2 mv15_σ_2 mv16_σ_2 mv8_σ_2 kc_3 ahpσ_5 bhpσ_5 ehpσ_5 fhpσ_5 c_6 sv hm25 hge25 hzσ_8 smσ_8 gc_10_x_7 c_10 hm51 hge51 gc_14_x_11 c_14 bhpσ_19 chpσ_19 chpσ_21 dhpσ_21 ehpσ_21 kc_22 kc_23 chpσ_25 dhpσ_25 ehpσ_25 bhpσ_28 chpσ_28 chpσ_30 dhpσ_30 ehpσ_30 kc_31 kc_32 chpσ_34 dhpσ_34 ehpσ_34 kc_36 bhpσ_38 chpσ_38 chpσ_40 dhpσ_40 ehpσ_40 k0σ_40 k4σ_40 hm145 smσ_41 k0σ_41 k4σ_41 if_43 c_44 if_63 c_64 ahpσ_84 bhpσ_84 chpσ_84 c_85 ahpσ_124 bhpσ_124 chpσ_124 dhpσ_124 ehpσ_124 fhpσ_124 mv8_σ_124 smσ_124 k0σ_124 k4σ_124 kc_125 ahpσ_127 chpσ_127; omega) | omega)) kv_X12_216 ha ⟨Nat.le_of_ble_eq_true rfl, Nat.le_of_ble_eq_true rfl⟩ (Nat.le_of_ble_eq_true rfl) dX12_table_226) hI (Nat.le_of_ble_eq_true rfl) (fun σ_129 H locs hpσ_129 hkσ_129 hI => ?_)
                          have ahpσ_129 := hpσ_129.1
                          have bhpσ_129 := hpσ_129.2.1
                          have chpσ_129 := hpσ_129.2.2.1
                          have dhpσ_129 := hpσ_129.2.2.2.1
                          have ehpσ_129 := hpσ_129.2.2.2.2
                          clear hpσ_129
                          have fr_σ_129 := fr_σ_124.call ehpσ_129 rfl rfl
                          replace hF := q_letX hF dhpσ_129
                          have mv8_σ_129 : (σ_129.1 a 8).toInt = (σ_124.1 a 8).toInt := congrArg Int32.toInt (hkσ_129 a 8 (by rw [ha]; decide))
                          have mcσ_129 := m_cK hkσ_129 hI.1 ha (by decide)
                          have kpσ_129 : ∀ j, 0 ≤ j → j < 3720 → m_c X σ_129 a j = m_c X σ a j := fun j h0 h1 => (mcσ_129 j).trans (kpσ_124 j h0 h1)
                          have smσ_129 : 0 ≤ (σ_129.1 a 15).toInt ∧ (σ_129.1 a 15).toInt ≤ (σ_129.1 a 16).toInt ∧ (σ_129.1 a 16).toInt ≤ (σ_129.1 a 9).toInt ∧ (σ_129.1 a 9).toInt ≤ 900 ∧ 0 ≤ (σ_129.1 a 14).toInt ∧ (σ_129.1 a 14).toInt ≤ 4 ∧ (σ_129.1 a 14).toInt ≤ 4 * ((σ_129.1 a 16).toInt - (σ_129.1 a 15).toInt) ∧ (σ_129.1 a 14).toInt ≤ 4 * ((σ_129.1 a 9).toInt - (σ_129.1 a 15).toInt) ∧ 0 ≤ (σ_129.1 a 12).toInt ∧ (σ_129.1 a 8).toInt = 0 := (by first | (clear hn tb8 mv9_σ_1 mv12_σ_1 mv14_σ_1 mv15_σ_1 mv16_σ_1 mv8_σ_1 mv9_σ_2 mv12_σ_2 mv14_σ_2 mv15_σ_2 mv16_σ_2 mv8_σ_2 kc_3 ahpσ_5 bhpσ_5 ehpσ_5 fhpσ_5 c_6 sv hm25 hge25 hzσ_8 smσ_8 gc_10_x_7 c_10 hm51 hge51 gc_14_x_11 c_14 bhpσ_19 chpσ_19 chpσ_21 dhpσ_21 ehpσ_21 kc_22 kc_23 chpσ_25 dhpσ_25 ehpσ_25 bhpσ_28 chpσ_28 chpσ_30 dhpσ_30 ehpσ_30 kc_31 kc_32 chpσ_34 dhpσ_34 ehpσ_34 kc_36 bhpσ_38 chpσ_38 chpσ_40 dhpσ_40 ehpσ_40 k0σ_40 k4σ_40 hm145 k0σ_41 k4σ_41 if_43 c_44 if_63 c_64 ahpσ_84 bhpσ_84 chpσ_84 c_85 ahpσ_124 bhpσ_124 chpσ_124 dhpσ_124 ehpσ_124 fhpσ_124 smσ_124 k0σ_124 k4σ_124 kc_125 ahpσ_127 bhpσ_127 chpσ_127 ahpσ_129 chpσ_129 dhpσ_129 ehpσ_129; omega) | omega)
                          have nnσ_129 : m_N (m_c X σ_129 a) := m_N.ext mcσ_129 nnσ_124
                          have k0σ_129 : 2 ≤ m_c X σ_129 a 3720 + 10 * (σ_129.1 a 12).toInt := (by have := mcσ_129 3720; omega)
                          have k4σ_129 : 1 ≤ m_c X σ_129 a 3724 + 10 * (σ_129.1 a 12).toInt := (by have := mcσ_129 3724; omega)
                          have ks_σ_129 : q_KS (fun b g => b = a ∧ 8 ≤ g ∧ g ≤ 18) 1 X σ σ_129 := ks_σ_124.K hkσ_129 (by decide)
                          refine lv_goto (tgt := 145) hx hb dX12_table_229 (by decide) ?_
                          exact ih145 σ_129 _ _ ls (by first | (clear hn tb8 mv9_σ_1 mv12_σ_1 mv14_σ_1 mv15_σ_1 mv16_σ_1 mv8_σ_1 mv9_σ_2 mv12_σ_2 mv14_σ_2 mv15_σ_2 mv16_σ_2 mv8_σ_2 kc_3 ahpσ_5 bhpσ_5 ehpσ_5 fhpσ_5 c_6 sv hm25 hge25 hzσ_8 smσ_8 gc_10_x_7 c_10 hm51 hge51 gc_14_x_11 c_14 bhpσ_19 chpσ_19 chpσ_21 dhpσ_21 ehpσ_21 kc_22 kc_23 chpσ_25 dhpσ_25 ehpσ_25 bhpσ_28 chpσ_28 chpσ_30 dhpσ_30 ehpσ_30 kc_31 kc_32 chpσ_34 dhpσ_34 ehpσ_34 kc_36 bhpσ_38 chpσ_38 chpσ_40 dhpσ_40 ehpσ_40 k0σ_40 k4σ_40 k0σ_41 k4σ_41 ahpσ_84 bhpσ_84 chpσ_84 c_85 ahpσ_124 bhpσ_124 ehpσ_124 fhpσ_124 mv8_σ_124 smσ_124 k0σ_124 k4σ_124 kc_125 ahpσ_127 bhpσ_127 chpσ_127 ahpσ_129 chpσ_129 dhpσ_129 ehpσ_129 mv8_σ_129 smσ_129 k0σ_129 k4σ_129; omega) | omega) ks_σ_129 fr_σ_129 kpσ_129 smσ_129 nnσ_129 k0σ_129 k4σ_129 hF hI (lv_sub hl [0, 1, 2] rfl)
                exact L_145_42 ((901 - (σ_40.1 a 15).toInt).toNat + (1 - (σ_40.1 a 12).toInt).toNat + 1) σ_40 _ _ ls (Nat.lt_succ_self _) ks_σ_40 fr_σ_40 kpσ_40 smσ_40 nnσ_40 k0σ_40 k4σ_40 hF hI (lv_sub hl [0, 1, 2] rfl)
              · skip
                replace hF := q_ifp hF c_14
                refine lv_aload_n hx hb dX12_table_57 rfl (lv_at hl 0 rfl) ?_
                refine gs_X12_41_12 E hI ha dX12_table_58 ?_
                refine lv_iload_n hx hb dX12_table_61 rfl (lv_at hl 2 rfl) ?_
                refine lv_iconst (v := 0) hx hb dX12_table_62 zki_0 ?_
                refine q_iastN E hI (q_tk (k' := 36) hI ha rfl (Nat.succ_ne_zero _)) ⟨by decide, rfl⟩ (by first | (clear hn tb8 mv9_σ_1 mv12_σ_1 mv14_σ_1 mv15_σ_1 mv16_σ_1 mv8_σ_1 mv9_σ_2 mv12_σ_2 mv14_σ_2 mv15_σ_2 mv16_σ_2 mv8_σ_2 kc_3 ahpσ_5 bhpσ_5 ehpσ_5 fhpσ_5 c_6 sv hm25 hge25 hzσ_8 smσ_8 gc_10_x_7 c_10 hm51 gc_14_x_11; omega) | omega) (by rw [q_lnk (v := 60) hI (q_tk (k' := 36) hI ha rfl (Nat.succ_ne_zero _)) rfl (by decide)]; omega) (show 0 < 9 by decide) (q_inU rfl) dX12_table_63 (fun H locs σ_130 hσ_130 hI => ?_)
                replace hF := q_letX hF hσ_130
                have fr_σ_130 := fr_σ_12.si hσ_130 (q_tk (k' := 36) hI ha rfl (Nat.succ_ne_zero _)) rfl
                have mv9_σ_130 : (σ_130.1 a 9).toInt = (σ_12.1 a 9).toInt := congrArg Int32.toInt ((hσ_130 ▸ (q_K.si (q_tk (k' := 36) hI ha rfl (Nat.succ_ne_zero _)) (show 8 < 9 by decide) : q_K 8 X σ_12 (q_si σ_12 (q_rf X a 22) (x_11 : Int32).toNatClampNeg _))) a 9 (by rw [ha]; decide))
                have mv12_σ_130 : (σ_130.1 a 12).toInt = (σ_12.1 a 12).toInt := congrArg Int32.toInt ((hσ_130 ▸ (q_K.si (q_tk (k' := 36) hI ha rfl (Nat.succ_ne_zero _)) (show 8 < 9 by decide) : q_K 8 X σ_12 (q_si σ_12 (q_rf X a 22) (x_11 : Int32).toNatClampNeg _))) a 12 (by rw [ha]; decide))
                have mv14_σ_130 : (σ_130.1 a 14).toInt = (σ_12.1 a 14).toInt := congrArg Int32.toInt ((hσ_130 ▸ (q_K.si (q_tk (k' := 36) hI ha rfl (Nat.succ_ne_zero _)) (show 8 < 9 by decide) : q_K 8 X σ_12 (q_si σ_12 (q_rf X a 22) (x_11 : Int32).toNatClampNeg _))) a 14 (by rw [ha]; decide))
                have mv15_σ_130 : (σ_130.1 a 15).toInt = (σ_12.1 a 15).toInt := congrArg Int32.toInt ((hσ_130 ▸ (q_K.si (q_tk (k' := 36) hI ha rfl (Nat.succ_ne_zero _)) (show 8 < 9 by decide) : q_K 8 X σ_12 (q_si σ_12 (q_rf X a 22) (x_11 : Int32).toNatClampNeg _))) a 15 (by rw [ha]; decide))
                have mv16_σ_130 : (σ_130.1 a 16).toInt = (σ_12.1 a 16).toInt := congrArg Int32.toInt ((hσ_130 ▸ (q_K.si (q_tk (k' := 36) hI ha rfl (Nat.succ_ne_zero _)) (show 8 < 9 by decide) : q_K 8 X σ_12 (q_si σ_12 (q_rf X a 22) (x_11 : Int32).toNatClampNeg _))) a 16 (by rw [ha]; decide))
                have mv8_σ_130 : (σ_130.1 a 8).toInt = (σ_12.1 a 8).toInt := congrArg Int32.toInt ((hσ_130 ▸ (q_K.si (q_tk (k' := 36) hI ha rfl (Nat.succ_ne_zero _)) (show 8 < 9 by decide) : q_K 8 X σ_12 (q_si σ_12 (q_rf X a 22) (x_11 : Int32).toNatClampNeg _))) a 8 (by rw [ha]; decide))
                have ks_σ_130 : q_KS (fun b g => b = a ∧ 8 ≤ g ∧ g ≤ 18) 1 X σ σ_130 := ks_σ_12.si hσ_130 (q_tk (k' := 36) hI ha rfl (Nat.succ_ne_zero _)) (show 1 < 9 by decide)
                have mcσ_130 := m_wo hσ_130 (m_ne (q_tk (k' := 36) hI ha rfl (Nat.succ_ne_zero _)) (q_tk (f := 20) (k' := 34) hI ha rfl (by decide)) (by decide))
                have kpσ_130 : ∀ j, 0 ≤ j → j < 3720 → m_c X σ_130 a j = m_c X σ a j := fun j h0 h1 => (mcσ_130 j).trans (kpσ_12 j h0 h1)
                have smσ_130 : 0 ≤ (σ_130.1 a 15).toInt ∧ (σ_130.1 a 15).toInt ≤ (σ_130.1 a 16).toInt ∧ (σ_130.1 a 16).toInt ≤ (σ_130.1 a 9).toInt ∧ (σ_130.1 a 9).toInt ≤ 900 ∧ 0 ≤ (σ_130.1 a 14).toInt ∧ (σ_130.1 a 14).toInt ≤ 4 ∧ (σ_130.1 a 14).toInt ≤ 4 * ((σ_130.1 a 16).toInt - (σ_130.1 a 15).toInt) ∧ (σ_130.1 a 14).toInt ≤ 4 * ((σ_130.1 a 9).toInt - (σ_130.1 a 15).toInt) ∧ 0 ≤ (σ_130.1 a 12).toInt ∧ (σ_130.1 a 8).toInt = 0 := (by first | (rw [mv12_σ_130, mv14_σ_130, mv15_σ_130, mv16_σ_130, mv8_σ_130, mv9_σ_130]; exact smσ_12) | omega)
                have zzσ_130 : ∀ j, 3720 ≤ j → j < 4650 → m_c X σ_130 a j = 0 := fun j h0 h1 => (mcσ_130 j).trans (zzσ_12 j h0 h1)
                clear mv9_σ_130 mv12_σ_130 mv14_σ_130 mv15_σ_130 mv16_σ_130 mv8_σ_130 smσ_12
                obtain ⟨z_131, ez_131⟩ : ∃ y : Int32, y = x_11 + 1 := ⟨_, rfl⟩
                replace hF := q_letX hF ez_131
                refine lv_iinc (v := z_131) (lv' := [(2, .int z_131), (0, .ref a), (1, .int v1)]) hx hb dX12_table_64 hl (k := 2) rfl (by rw [ez_131]; rfl) (by decide) rfl (fun ls hl => ?_)
                have iz_131 : z_131.toInt = x_11.toInt + 1 := q_inc ez_131 (by first | (clear hn tb8 mv9_σ_1 mv12_σ_1 mv14_σ_1 mv15_σ_1 mv16_σ_1 mv8_σ_1 mv9_σ_2 mv12_σ_2 mv14_σ_2 mv15_σ_2 mv16_σ_2 mv8_σ_2 kc_3 ahpσ_5 bhpσ_5 ehpσ_5 fhpσ_5 c_6 sv hm25 hge25 hzσ_8 smσ_8 gc_10_x_7 c_10 hm51 gc_14_x_11 smσ_130; omega) | omega)
                refine lv_goto (tgt := 51) hx hb dX12_table_67 (by decide) ?_
                exact ih51 z_131 σ_130 _ _ ls (by first | (clear hn tb8 mv9_σ_1 mv12_σ_1 mv14_σ_1 mv15_σ_1 mv16_σ_1 mv8_σ_1 mv9_σ_2 mv12_σ_2 mv14_σ_2 mv15_σ_2 mv16_σ_2 mv8_σ_2 kc_3 ahpσ_5 bhpσ_5 ehpσ_5 fhpσ_5 c_6 sv hm25 hge25 hzσ_8 smσ_8 gc_10_x_7 c_10 gc_14_x_11 smσ_130; omega) | omega) (by first | (clear hn tb8 mv9_σ_1 mv12_σ_1 mv14_σ_1 mv15_σ_1 mv16_σ_1 mv8_σ_1 mv9_σ_2 mv12_σ_2 mv14_σ_2 mv15_σ_2 mv16_σ_2 mv8_σ_2 kc_3 ahpσ_5 bhpσ_5 ehpσ_5 fhpσ_5 c_6 sv hm25 hge25 hzσ_8 smσ_8 gc_10_x_7 c_10 hm51 gc_14_x_11 smσ_130; omega) | omega) ks_σ_130 fr_σ_130 kpσ_130 smσ_130 zzσ_130 hF hI (lv_sub hl [1, 2, 0] rfl)
          exact L_51_13 ((2147483647 - (0 : Int32).toInt).toNat + 1) 0 σ_8 _ _ ls (Nat.lt_succ_self _) (by decide) ks_σ_8 fr_σ_8 kpσ_8 smσ_8 zzσ_8 hF hI (lv_sub hl [1, 2, 0] rfl)
        · skip
          replace hF := q_ifp hF c_10
          refine lv_aload_n hx hb dX12_table_32 rfl (lv_at hl 0 rfl) ?_
          refine gs_X12_35_12 E hI ha dX12_table_33 ?_
          refine lv_sipush (v := 3720) hx hb dX12_table_36 zks_3720 ?_
          refine lv_iload_n hx hb dX12_table_39 rfl (lv_at hl 2 rfl) ?_
          refine lv_iadd hx hb dX12_table_40 ?_
          refine lv_topi (fun z_132 ez_132 => ?_)
          replace hF := q_letX hF ez_132
          have iz_132 := q_addI (A := 3720) (B := x_7.toInt) ez_132 (by decide) rfl (by first | (clear hn tb8 mv9_σ_1 mv12_σ_1 mv14_σ_1 mv15_σ_1 mv16_σ_1 mv8_σ_1 mv9_σ_2 mv12_σ_2 mv14_σ_2 mv15_σ_2 mv16_σ_2 mv8_σ_2 kc_3 ahpσ_5 bhpσ_5 ehpσ_5 fhpσ_5 c_6 sv hm25 hzσ_8 smσ_8 gc_10_x_7; omega) | omega) (by first | (clear hn tb8 mv9_σ_1 mv12_σ_1 mv14_σ_1 mv15_σ_1 mv16_σ_1 mv8_σ_1 mv9_σ_2 mv12_σ_2 mv14_σ_2 mv15_σ_2 mv16_σ_2 mv8_σ_2 kc_3 ahpσ_5 bhpσ_5 ehpσ_5 fhpσ_5 c_6 sv hm25 hzσ_8 smσ_8 gc_10_x_7; omega) | omega)
          refine lv_iconst (v := 0) hx hb dX12_table_41 zki_0 ?_
          refine q_iastN E hI (q_tk (k' := 34) hI ha rfl (Nat.succ_ne_zero _)) ⟨by decide, rfl⟩ (by first | (clear hn tb8 mv9_σ_1 mv12_σ_1 mv14_σ_1 mv15_σ_1 mv16_σ_1 mv8_σ_1 mv9_σ_2 mv12_σ_2 mv14_σ_2 mv15_σ_2 mv16_σ_2 mv8_σ_2 kc_3 ahpσ_5 bhpσ_5 ehpσ_5 fhpσ_5 c_6 sv hm25 hzσ_8 smσ_8 gc_10_x_7; omega) | omega) (by rw [q_lnk (v := 4650) hI (q_tk (k' := 34) hI ha rfl (Nat.succ_ne_zero _)) rfl (by decide)]; omega) (show 0 < 2 by decide) (q_inU rfl) dX12_table_42 (fun H locs σ_133 hσ_133 hI => ?_)
          replace hF := q_letX hF hσ_133
          have fr_σ_133 := fr_σ_8.si hσ_133 (q_tk (k' := 34) hI ha rfl (Nat.succ_ne_zero _)) rfl
          have mv9_σ_133 : (σ_133.1 a 9).toInt = (σ_8.1 a 9).toInt := congrArg Int32.toInt (q_rdn hσ_133 (Or.inl (m_ne ha (q_tk (k' := 34) hI ha rfl (Nat.succ_ne_zero _)) (by decide))))
          have mv12_σ_133 : (σ_133.1 a 12).toInt = (σ_8.1 a 12).toInt := congrArg Int32.toInt (q_rdn hσ_133 (Or.inl (m_ne ha (q_tk (k' := 34) hI ha rfl (Nat.succ_ne_zero _)) (by decide))))
          have mv14_σ_133 : (σ_133.1 a 14).toInt = (σ_8.1 a 14).toInt := congrArg Int32.toInt (q_rdn hσ_133 (Or.inl (m_ne ha (q_tk (k' := 34) hI ha rfl (Nat.succ_ne_zero _)) (by decide))))
          have mv15_σ_133 : (σ_133.1 a 15).toInt = (σ_8.1 a 15).toInt := congrArg Int32.toInt (q_rdn hσ_133 (Or.inl (m_ne ha (q_tk (k' := 34) hI ha rfl (Nat.succ_ne_zero _)) (by decide))))
          have mv16_σ_133 : (σ_133.1 a 16).toInt = (σ_8.1 a 16).toInt := congrArg Int32.toInt (q_rdn hσ_133 (Or.inl (m_ne ha (q_tk (k' := 34) hI ha rfl (Nat.succ_ne_zero _)) (by decide))))
          have mv8_σ_133 : (σ_133.1 a 8).toInt = (σ_8.1 a 8).toInt := congrArg Int32.toInt (q_rdn hσ_133 (Or.inl (m_ne ha (q_tk (k' := 34) hI ha rfl (Nat.succ_ne_zero _)) (by decide))))
          have ks_σ_133 : q_KS (fun b g => b = a ∧ 8 ≤ g ∧ g ≤ 18) 1 X σ σ_133 := ks_σ_8.si hσ_133 (q_tk (k' := 34) hI ha rfl (Nat.succ_ne_zero _)) (show 1 < 2 by decide)
          have mcσ_133 := m_wr (v := (0 : Int32)) (A := (3720 + x_7.toInt)) hσ_133 iz_132 (by first | (clear hn tb8 mv9_σ_1 mv12_σ_1 mv14_σ_1 mv15_σ_1 mv16_σ_1 mv8_σ_1 mv9_σ_2 mv12_σ_2 mv14_σ_2 mv15_σ_2 mv16_σ_2 mv8_σ_2 kc_3 ahpσ_5 bhpσ_5 ehpσ_5 fhpσ_5 c_6 sv hm25 hzσ_8 smσ_8 gc_10_x_7 mv9_σ_133 mv12_σ_133 mv14_σ_133 mv15_σ_133 mv16_σ_133 mv8_σ_133; omega) | omega)
          have kpσ_133 : ∀ j, 0 ≤ j → j < 3720 → m_c X σ_133 a j = m_c X σ a j := fun j h0 h1 => by rw [mcσ_133 j h0, if_neg (by first | (clear hn tb8 mv9_σ_1 mv12_σ_1 mv14_σ_1 mv15_σ_1 mv16_σ_1 mv8_σ_1 mv9_σ_2 mv12_σ_2 mv14_σ_2 mv15_σ_2 mv16_σ_2 mv8_σ_2 kc_3 ahpσ_5 bhpσ_5 ehpσ_5 fhpσ_5 c_6 sv hm25 hzσ_8 smσ_8 gc_10_x_7 mv9_σ_133 mv12_σ_133 mv14_σ_133 mv15_σ_133 mv16_σ_133 mv8_σ_133; omega) | omega)]; exact kpσ_8 j h0 h1
          have smσ_133 : 0 ≤ (σ_133.1 a 15).toInt ∧ (σ_133.1 a 15).toInt ≤ (σ_133.1 a 16).toInt ∧ (σ_133.1 a 16).toInt ≤ (σ_133.1 a 9).toInt ∧ (σ_133.1 a 9).toInt ≤ 900 ∧ 0 ≤ (σ_133.1 a 14).toInt ∧ (σ_133.1 a 14).toInt ≤ 4 ∧ (σ_133.1 a 14).toInt ≤ 4 * ((σ_133.1 a 16).toInt - (σ_133.1 a 15).toInt) ∧ (σ_133.1 a 14).toInt ≤ 4 * ((σ_133.1 a 9).toInt - (σ_133.1 a 15).toInt) ∧ 0 ≤ (σ_133.1 a 12).toInt ∧ (σ_133.1 a 8).toInt = 0 := (by first | (rw [mv12_σ_133, mv14_σ_133, mv15_σ_133, mv16_σ_133, mv8_σ_133, mv9_σ_133]; exact smσ_8) | omega)
          clear mv9_σ_133 mv12_σ_133 mv14_σ_133 mv15_σ_133 mv16_σ_133 mv8_σ_133 smσ_8
          have hzσ_133x := m_zs hzσ_8 mcσ_133 rfl (by decide)
          obtain ⟨z_134, ez_134⟩ : ∃ y : Int32, y = x_7 + 1 := ⟨_, rfl⟩
          replace hF := q_letX hF ez_134
          refine lv_iinc (v := z_134) (lv' := [(2, .int z_134), (0, .ref a), (1, .int v1)]) hx hb dX12_table_43 hl (k := 2) rfl (by rw [ez_134]; rfl) (by decide) rfl (fun ls hl => ?_)
          have iz_134 : z_134.toInt = x_7.toInt + 1 := q_inc ez_134 (by first | (clear hn tb8 mv9_σ_1 mv12_σ_1 mv14_σ_1 mv15_σ_1 mv16_σ_1 mv8_σ_1 mv9_σ_2 mv12_σ_2 mv14_σ_2 mv15_σ_2 mv16_σ_2 mv8_σ_2 kc_3 ahpσ_5 bhpσ_5 ehpσ_5 fhpσ_5 c_6 sv hm25 hzσ_8 gc_10_x_7 smσ_133 hzσ_133x; omega) | omega)
          refine lv_goto (tgt := 25) hx hb dX12_table_46 (by decide) ?_
          exact ih25 z_134 σ_133 _ _ ls (by first | (clear hn tb8 mv9_σ_1 mv12_σ_1 mv14_σ_1 mv15_σ_1 mv16_σ_1 mv8_σ_1 mv9_σ_2 mv12_σ_2 mv14_σ_2 mv15_σ_2 mv16_σ_2 mv8_σ_2 kc_3 ahpσ_5 bhpσ_5 ehpσ_5 fhpσ_5 c_6 sv hzσ_8 gc_10_x_7 smσ_133 hzσ_133x; omega) | omega) (by first | (clear hn tb8 mv9_σ_1 mv12_σ_1 mv14_σ_1 mv15_σ_1 mv16_σ_1 mv8_σ_1 mv9_σ_2 mv12_σ_2 mv14_σ_2 mv15_σ_2 mv16_σ_2 mv8_σ_2 kc_3 ahpσ_5 bhpσ_5 ehpσ_5 fhpσ_5 c_6 sv hm25 hzσ_8 gc_10_x_7 smσ_133 hzσ_133x; omega) | omega) (by rw [iz_134]; exact hzσ_133x) ks_σ_133 fr_σ_133 kpσ_133 smσ_133 hF hI (lv_sub hl [1, 2, 0] rfl)
    exact L_25_9 ((2147483647 - (0 : Int32).toInt).toNat + 1) 0 σ_5 _ _ ls (Nat.lt_succ_self _) (by decide) (fun j h0 h1 => by have q : (0 : Int32).toInt = 0 := rfl; omega) ks_σ_5 fr_σ_5 kpσ_5 smσ_5 hF hI (lv_sub hl [1, 2, 0] rfl)
  · skip
    replace hF := q_ifp hF c_6
    replace sf := sf (by omega)
    clear so
    refine lv_iconst (v := (-1)) hx hb dX12_table_21 zki_m1 ?_
    have hrv : ((-1) : Int32).toInt = (-1) := zt_m1
    exact q_reti E hr hlk hI ⟨ks_σ_5, (m_G.ext (fun j a b => kpσ_5 j a (by first | exact smσ_5 | omega)) hG), (m_W.ext (fun j a b => kpσ_5 j (by first | exact smσ_5 | omega) (by first | exact smσ_5 | omega)) hW), (fun j a b => kpσ_5 j (by first | exact smσ_5 | omega) b), (by first | exact smσ_5 | omega), (by first | exact smσ_5 | omega), (hF.trans hout), fr_σ_5⟩ dX12_table_22
end
/-! FROM 37z.round.lean.txt -/
section
/-! steps of a round, read -/
def m_oz (b : Int) (P : Prop) : Prop := b = 0 → P
theorem m_oz.mono {b b' : Int} {P P' : Prop} (h : m_oz b P) (hb : 0 ≤ b) (hb' : b ≤ b') (f : P → P') : m_oz b' P' := fun e => f (h (by omega))
def m_tst (c : Int → Int) (w : Int) : Prop := (0 ≤ c (w + 6) ∧ c (w + 6) ≤ 3) ∧ ((c (w + 6) = 0 ∨ c (w + 6) = 2) → 0 ≤ c (w + 1) ∧ c (w + 1) ≤ 5)
def m_t1 (c : Int → Int) (w : Int) : Prop := (c (w + 6) = 0 ∨ c (w + 6) = 2) → 0 ≤ c (w + 1) ∧ c (w + 1) ≤ 5
theorem m_t1.no {c : Int → Int} {w : Int} (h0 : c (w + 6) ≠ 0) (h2 : c (w + 6) ≠ 2) : m_t1 c w := fun h => by omega
theorem m_t1.yes {c : Int → Int} {w : Int} (h : 0 ≤ c (w + 1) ∧ c (w + 1) ≤ 5) : m_t1 c w := fun _ => h
theorem m_t1.k {c c' : Int → Int} {w : Int} (h : m_t1 c w) (h6 : c' (w + 6) = c (w + 6)) (h1 : c' (w + 1) = c (w + 1)) : m_t1 c' w := by
  unfold m_t1 at h ⊢
  rw [h6, h1]
  exact h
def m_rst (c : Int → Int) (w : Int) : Prop := ((c w = 1 ∨ c w = 2 ∨ (c w = 3 ∧ (c (w + 6) = 0 ∨ c (w + 6) = 2))) → 0 ≤ c (w + 1) ∧ c (w + 1) ≤ 5) ∧ (c w = 3 → 0 ≤ c (w + 6) ∧ c (w + 6) ≤ 3)
theorem m_rst.m0 {c : Int → Int} {w : Int} (h1 : c w ≠ 1) (h2 : c w ≠ 2) (h3 : c w ≠ 3) : m_rst c w := ⟨fun h => by omega, fun h => by omega⟩
theorem m_rst.m1 {c : Int → Int} {w : Int} (h3 : c w ≠ 3) (h : 0 ≤ c (w + 1) ∧ c (w + 1) ≤ 5) : m_rst c w := ⟨fun _ => h, fun h => by omega⟩
theorem m_rst.m3 {c : Int → Int} {w : Int} (h3 : c w = 3) (h : m_tst c w) : m_rst c w := ⟨fun q => h.2 (by omega), fun _ => h.1⟩
theorem m_rst.ext {c c' : Int → Int} {w : Int} (h : m_rst c w) (e : ∀ j : Int, c' j = c j) : m_rst c' w := by
  have : c' = c := funext e
  rw [this]; exact h
def m_lp (c : Int → Int) (w s n : Int) : Prop := (0 ≤ c w ∧ c w ≤ 5) ∧ m_rst c w ∧ ∀ t : Int, s + 1 ≤ t → t < n → m_stp c (4376 + 9 * t) t n
theorem m_lp.mk {c : Int → Int} {w s n : Int} (h : m_rst c w) (hk : 0 ≤ c w ∧ c w ≤ 5) (e : n = s + 1) : m_lp c w s n := ⟨hk, h, fun t h0 h1 => by omega⟩
theorem m_lp.ext {c c' : Int → Int} {w s n n' : Int} (h : m_lp c w s n) (e : ∀ j : Int, c' j = c j) (en : n' = n) : m_lp c' w s n' := by
  have : c' = c := funext e
  rw [this, en]; exact h
theorem m_stp.up {c : Int → Int} {w s n n' : Int} (h : m_stp c w s n) (hn : n ≤ n') : m_stp c w s n' := ⟨h.1, h.2.1, h.2.2.1, h.2.2.2.1, by have := h.2.2.2.2; omega⟩
theorem m_lp.step {c c' : Int → Int} {w s n n' : Int} (h : m_lp c w s n) (hk : ∀ j : Int, 0 ≤ j → j < 4376 + 9 * n → c' j = c j) (hm : ∀ t : Int, n ≤ t → t < n' → m_stp c' (4376 + 9 * t) t n') (hn : n ≤ n') (hw : w = 4376 + 9 * s) (hs : 0 ≤ s ∧ s < n) : m_lp c' w s n' := by
  obtain ⟨h1, h2, h3⟩ := h
  refine ⟨by rw [hk w (by omega) (by omega)]; exact h1, ?_, fun t t0 t1 => ?_⟩
  · unfold m_rst at h2 ⊢
    rw [hk w (by omega) (by omega), hk (w + 6) (by omega) (by omega), hk (w + 1) (by omega) (by omega)]
    exact h2
  · by_cases q : t < n
    · exact ((h3 t t0 q).ext (fun j a b => hk j (by omega) (by omega))).up hn
    · exact hm t (by omega) t1
theorem m_lp.done {c c' : Int → Int} {w s n v : Int} (h : m_lp c w s n) (e : ∀ j : Int, 0 ≤ j → c' j = if j = w + 8 then v else c j) (hv : v = n) (hw : w = 4376 + 9 * s) (hs : 0 ≤ s ∧ s < n) : ∀ t : Int, s ≤ t → t < n → m_stp c' (4376 + 9 * t) t n := by
  obtain ⟨h1, h2, h3⟩ := h
  intro t t0 t1
  by_cases q : t = s
  · subst q
    rw [← hw]
    unfold m_rst at h2
    unfold m_stp
    rw [e w (by omega), if_neg (by omega), e (w + 1) (by omega), if_neg (by omega), e (w + 6) (by omega), if_neg (by omega), e (w + 8) (by omega), if_pos rfl]
    exact ⟨h1, h2.1, h2.2, by omega, by omega⟩
  · exact (h3 t (by omega) t1).ext (fun j a b => by rw [e j (by omega), if_neg (by omega)])
/-- a round read to its end comes into the game -/
theorem m_G.round {c c' : Int → Int} {n : Int} (g : m_G c) (hst : ∀ s : Int, 0 ≤ s → s < n → m_stp c (4376 + 9 * s) s n) (hn : 0 ≤ n ∧ n ≤ 30) (e : ∀ j : Int, 0 ≤ j → c' j = if 656 ≤ j ∧ j < 656 + 9 * n then c (4376 + (j - 656)) else if j = 655 then n else c j) : m_G c' := by
  obtain ⟨hH, hD, hY, hT, hO, hQ⟩ := g
  have b9 : 0 ≤ c 9 ∧ c 9 ≤ 80 := hH.2.2.2.2.2.2.1
  have q : ∀ j : Int, 0 ≤ j → j < 655 → c' j = c j := fun j h0 h1 => by rw [e j h0, if_neg (by omega), if_neg (by omega)]
  have e9 : c' 9 = c 9 := q 9 (by decide) (by decide)
  have e0 : c' 0 = c 0 := q 0 (by decide) (by decide)
  have eN : c' 655 = n := by rw [e 655 (by decide), if_neg (by omega), if_pos rfl]
  refine ⟨?_, ?_, ?_, ?_, ?_, ?_⟩
  · unfold m_H at hH ⊢
    rw [q 0 (by decide) (by decide), q 2 (by decide) (by decide), q 4 (by decide) (by decide), q 5 (by decide) (by decide), q 6 (by decide) (by decide), q 7 (by decide) (by decide), q 9 (by decide) (by decide)]
    exact hH
  · intro p k h0 h1 h2 h3
    rw [q _ (by omega) (by omega), e0]
    exact hD p k h0 h1 h2 h3
  · intro i h0 h1
    rw [e9] at h1
    have w := hY i h0 h1
    rw [q (94 + 7 * i + 2) (by omega) (by omega)]
    refine ⟨w.1, fun t t0 t1 => ?_⟩
    rw [q (94 + 7 * i + 3 + t) (by omega) (by omega), e0]
    exact w.2 t t0 t1
  · unfold m_T at hT ⊢
    rw [m_S_ext (fun j a b => q j (by omega) (by omega)), e9, m_L_ext (fun i a b => q _ (by omega) (by omega))]
    exact hT
  · intro h7
    rw [q 7 (by decide) (by decide)] at h7
    have h8 : 1 ≤ c 9 := by have := hH.2.2.2.2.2.2.2.1; omega
    rw [e9, q (94 + 7 * (c 9 - 1)) (by omega) (by omega), q 6 (by decide) (by decide)]
    exact hO h7
  · refine ⟨by rw [eN]; exact hn, fun s h0 h1 => ?_⟩
    rw [eN] at h1 ⊢
    have w := hst s h0 h1
    have f : ∀ i : Int, 0 ≤ i → i < 9 → c' (656 + 9 * s + i) = c (4376 + 9 * s + i) := by
      intro i a b
      rw [e _ (by omega), if_pos (by omega)]
      have : (4376 : Int) + (656 + 9 * s + i - 656) = 4376 + 9 * s + i := by omega
      rw [this]
    have f0 := f 0 (by decide) (by decide)
    simp only [Int.add_zero] at f0
    unfold m_stp at w ⊢
    rw [f0, f 1 (by decide) (by decide), f 6 (by decide) (by decide), f 8 (by decide) (by decide)]
    exact w
/-- the steps copied, behind their number -/
theorem m_rd_done {c c0 c1 : Int → Int} {n k : Int} (h : ∀ j : Int, 0 ≤ j → c j = if 656 ≤ j ∧ j < 656 + k then c1 (4376 + (j - 656)) else c1 j) (e1 : ∀ j : Int, 0 ≤ j → c1 j = if j = 655 then n else c0 j) (hk : k = 9 * n) : ∀ j : Int, 0 ≤ j → c j = if 656 ≤ j ∧ j < 656 + 9 * n then c0 (4376 + (j - 656)) else if j = 655 then n else c0 j := by
  intro j hj
  subst hk
  rw [h j hj]
  by_cases q : 656 ≤ j ∧ j < 656 + 9 * n
  · rw [if_pos q, if_pos q, e1 _ (by omega), if_neg (by omega)]
  · rw [if_neg q, if_neg q, e1 j hj]
def m_rs (c : Int → Int) (n : Int) : Prop := ∀ s : Int, 0 ≤ s → s < n → m_stp c (4376 + 9 * s) s n
theorem m_rs.ext {c c' : Int → Int} {n n' : Int} (h : m_rs c n) (e : ∀ j : Int, 4376 ≤ j → c' j = c j) (en : n' = n) : m_rs c' n' := by
  subst en
  intro s h0 h1
  exact (h s h0 h1).ext (fun j a b => e j (by omega))
theorem m_rs.step {c c' : Int → Int} {n n' : Int} (h : m_rs c n) (hk : ∀ j : Int, 0 ≤ j → j < 4376 + 9 * n → c' j = c j) (hm : ∀ t : Int, n ≤ t → t < n' → m_stp c' (4376 + 9 * t) t n') (hn : n ≤ n') : m_rs c' n' := by
  intro t t0 t1
  by_cases q : t < n
  · exact ((h t t0 q).ext (fun j a b => hk j (by omega) (by omega))).up hn
  · exact hm t (by omega) t1
end
/-! FROM 38.round.a.lean.txt -/
section
section QS
variable {p : Program} {l : Launch} {e : Env} {R : Room} {s : State} {m : MethodId} {args : Array Value} {below : List Frame} {meth : Method} {c : Code} {H : Heap} {locs : List Loc} {cells slots : Nat} {Q : State → Prop} {cc : ByteArray} {X : XW} {n : Nat} {σ0 σ : ST} {H0 : Heap} {pc : Nat} {ls : Array Slot} {rest : List Value} {a : Nat}
theorem kv_X12_264 : q_okV RX12 264 RX12 yX12_readTest cX12_readTest 3 none 1 := ⟨(q_in_t8 (i := 107) (by first | rfl | decide +kernel) rfl), (q_in_t8 (i := 109) (by first | rfl | decide +kernel) rfl), (q_in_p (i := 77) (by decide +kernel) rfl), (q_in_t1 (i := 14) (by first | rfl | decide +kernel) rfl), (q_in_t8 (i := 110) (by first | rfl | decide +kernel) rfl), ⟨rfl, by decide, by decide, rfl⟩⟩
theorem gs_X12_267_12 (E : q_E p c cc s m args RX12 X) (hI : q_I X n σ0 H0 locs σ H) (ha : q_kd X a = 12) (hdg : decode cc pc = .ok (.getfield 267, 3)) (kk : W p l e R s m args below meth c H locs cells slots Q (F0 m (pc + 3) ls (.int (σ.1 a 27) :: rest))) : W p l e R s m args below meth c H locs cells slots Q (F0 m pc ls (.ref a :: rest)) :=
  q_getf (ref := "CheatHeapModel") E hI ha ⟨rfl, by decide⟩ (show vwCl[11]? = some (RX12, TX12, 46) from rfl) q_inX12 (f := 27) (by decide) (q_in_t7 (i := 12) (by first | rfl | decide +kernel) rfl) (Or.inl rfl) rfl hdg kk
theorem ps_X12_267_12 (E : q_E p c cc s m args RX12 X) (hI : q_I X n σ0 H0 locs σ H) (ha : q_kd X a = 12) {v : Int32} (hcl : n < 3) (hdg : decode cc pc = .ok (.putfield 267, 3)) (kk : ∀ (H1 : Heap) (locs1 : List Loc) (σ1 : ST), σ1 = q_si σ a 27 v → q_I X n σ0 H0 locs1 σ1 H1 → W p l e R s m args below meth c H1 locs1 cells slots Q (F0 m (pc + 3) ls rest)) : W p l e R s m args below meth c H locs cells slots Q (F0 m pc ls (.int v :: .ref a :: rest)) :=
  q_puti (ref := "CheatHeapModel") E hI ha ⟨rfl, by decide⟩ (show vwCl[11]? = some (RX12, TX12, 46) from rfl) q_inX12 tyX12_ok nmX12 (f := 27) (by decide) (q_in_t7 (i := 12) (by first | rfl | decide +kernel) rfl) (Or.inl rfl) rfl rfl hcl hdg (q_inU rfl) (Or.inl rfl) (fun H1 l1 h => kk H1 l1 _ rfl h)
theorem kv_X12_270 : q_okV RX12 270 RX12 yX12_readRest cX12_readRest 3 none 1 := ⟨(q_in_t8 (i := 103) (by first | rfl | decide +kernel) rfl), (q_in_t8 (i := 105) (by first | rfl | decide +kernel) rfl), (q_in_p (i := 76) (by decide +kernel) rfl), (q_in_t1 (i := 14) (by first | rfl | decide +kernel) rfl), (q_in_t8 (i := 106) (by first | rfl | decide +kernel) rfl), ⟨rfl, by decide, by decide, rfl⟩⟩
theorem kv_X12_273 : q_okV RX12 273 RX12 yX12_readStep cX12_readStep 5 none 1 := ⟨(q_in_t8 (i := 99) (by first | rfl | decide +kernel) rfl), (q_in_t8 (i := 101) (by first | rfl | decide +kernel) rfl), (q_in_p (i := 75) (by decide +kernel) rfl), (q_in_t1 (i := 14) (by first | rfl | decide +kernel) rfl), (q_in_t8 (i := 102) (by first | rfl | decide +kernel) rfl), ⟨rfl, by decide, by decide, rfl⟩⟩
end QS
end
