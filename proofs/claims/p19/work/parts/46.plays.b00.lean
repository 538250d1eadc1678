/-! FROM 46.plays.b00.lean.txt -/
section
set_option maxRecDepth 100000 in
set_option maxHeartbeats 4000000 in
theorem c_X12_doAll_z (l : Launch) (X : XW) (σ : ST) (a : Nat) (v1 : Int32) (v2 : Int32) (n : Int) (ha : q_kd X a = 12) (hG : m_G (m_c X σ a)) (hW : m_W (m_c X σ a) (n + (σ.1 a 40).toInt)) (hn : 0 ≤ n ∧ n ≤ 199500) (hd : 0 ≤ (σ.1 a 40).toInt ∧ (σ.1 a 40).toInt ≤ 300) (hf : 30 ≤ v1.toInt ∧ 0 ≤ v1.toInt) (ht : v2.toInt ≤ m_c X σ a 655) : Met l yX12_doAll (q_ws yX12_doAll cX12_doAll 4 none) (q_rm 7 158) (q_P X σ [.ref a, .int v1, .int v2]) (q_Qv X 1 σ (fun (σ' : ST) => (m_G (m_c X σ' a)) ∧ (m_W (m_c X σ' a) (n + (σ'.1 a 40).toInt)) ∧ (∀ j, 654 ≤ j → m_c X σ' a j = m_c X σ a j) ∧ ((σ.1 a 40).toInt ≤ (σ'.1 a 40).toInt ∧ (σ'.1 a 40).toInt ≤ 300) ∧ (∀ b g, q_kd X b = 35 → σ'.1 b g = σ.1 b g) ∧ σ' = F_X12_doAll_z X σ a v1 v2 ∧ q_ow [(12, 38), (12, 39), (12, 40), (12, 41), (12, 42), (12, 43), (12, 44), (12, 45), (34, 99), (39, 99)] [] X σ σ')) 0 0 (q_reg X) := by
  refine q_met 1 (by first | exact rfl | decide +kernel) rfl (Nat.le_of_ble_eq_true rfl) (fun p e s m below meth c E hml hr hlk hI ls hl => ?_)
  have hx := E.1
  have hb := E.2.1
  have hl : lv_has ls 4 [(0, .ref a), (1, .int v1), (2, .int v2)] := hl
  have gσ : m_G (m_c X σ a) := hG
  have wσ : m_W (m_c X σ a) (n + (σ.1 a 40).toInt) := hW
  have kqσ : ∀ j, 654 ≤ j → m_c X σ a j = m_c X σ a j := fun _ _ => rfl
  have dnσ : (σ.1 a 40).toInt ≤ (σ.1 a 40).toInt ∧ (σ.1 a 40).toInt ≤ 300 := (by first | (clear hn hf ht gσ wσ; omega) | omega)
  have k5σ : ∀ b g, q_kd X b = 35 → σ.1 b g = σ.1 b g := fun _ _ _ => rfl
  have fr_σ : q_ow [(12, 38), (12, 39), (12, 40), (12, 41), (12, 42), (12, 43), (12, 44), (12, 45), (34, 99), (39, 99)] [] X σ σ := q_ow.rf
  have hh := hG.hd
  have hQ := hG.2.2.2.2.2.1
  obtain ⟨out, hout⟩ : ∃ o, o = F_X12_doAll_z X σ a v1 v2 := ⟨_, rfl⟩
  have hF := hout.symm
  unfold F_X12_doAll_z at hF
  refine lv_iload_n hx hb dX12_doAll_0 rfl (lv_at hl 1 rfl) ?_
  refine lv_istore_n (lv' := [(3, .int v1), (0, .ref a), (1, .int v1), (2, .int v2)]) hx hb dX12_doAll_1 rfl hl (by decide) rfl (fun ls hl => ?_)
  have L_2_3 : ∀ (k_3 : Nat) (x_1 : Int32) (σ_2 : ST) (H : Heap) (locs : List Loc) (ls : Array Slot), (31 - x_1.toInt).toNat < k_3 → (30 ≤ x_1.toInt) → (q_ow [(12, 38), (12, 39), (12, 40), (12, 41), (12, 42), (12, 43), (12, 44), (12, 45), (34, 99), (39, 99)] [] X σ σ_2) → (m_G (m_c X σ_2 a)) → (m_W (m_c X σ_2 a) (n + (σ_2.1 a 40).toInt)) → (∀ j, 654 ≤ j → m_c X σ_2 a j = m_c X σ a j) → ((σ.1 a 40).toInt ≤ (σ_2.1 a 40).toInt ∧ (σ_2.1 a 40).toInt ≤ 300) → (∀ b g, q_kd X b = 35 → σ_2.1 b g = σ.1 b g) → (F_X12_doAll_z_L2_1 X v2 k_3 x_1 σ_2 = out) → q_I X 1 σ s.heap locs σ_2 H → lv_has ls 4 [(0, .ref a), (1, .int v1), (2, .int v2), (3, .int x_1)] → W p l e (q_rm 7 158) s m ([.ref a, .int v1, .int v2] : List Value).toArray below meth c H locs 0 0 (MQ below (q_Qv X 1 σ (fun (σ' : ST) => (m_G (m_c X σ' a)) ∧ (m_W (m_c X σ' a) (n + (σ'.1 a 40).toInt)) ∧ (∀ j, 654 ≤ j → m_c X σ' a j = m_c X σ a j) ∧ ((σ.1 a 40).toInt ≤ (σ'.1 a 40).toInt ∧ (σ'.1 a 40).toInt ≤ 300) ∧ (∀ b g, q_kd X b = 35 → σ'.1 b g = σ.1 b g) ∧ σ' = F_X12_doAll_z X σ a v1 v2 ∧ q_ow [(12, 38), (12, 39), (12, 40), (12, 41), (12, 42), (12, 43), (12, 44), (12, 45), (34, 99), (39, 99)] [] X σ σ')) ([.ref a, .int v1, .int v2] : List Value).toArray s 0 0 (q_reg X)) (F0 m 2 ls []) := by
    clear hF
    intro k_3
    induction k_3 with
    | zero =>
      intro x_1 σ_2 H locs ls hms
      try clear kqσ; try clear dnσ; try clear fr_σ
      exact absurd hms (Nat.not_lt_zero _)
    | succ k_3 ih2 =>
      intro x_1 σ_2 H locs ls hm2 hge2 fr_σ_2 gσ_2 wσ_2 kqσ_2 dnσ_2 k5σ_2 hF hI hl
      replace hF := (F_X12_doAll_z_L2_1_s).symm.trans hF
      unfold F_X12_doAll_z_B2_1 at hF
      have q5 := kqσ_2 655 (by decide)
      refine lv_iload_n hx hb dX12_doAll_2 rfl (lv_at hl 3 rfl) ?_
      refine lv_iload_n hx hb dX12_doAll_3 rfl (lv_at hl 2 rfl) ?_
      have gc_4_x_1 := q_rng x_1
      have gc_4_v2 := q_rng v2
      refine q_icmp_ge (A := x_1.toInt) (B := v2.toInt) E rfl rfl (tgt := 39) dX12_doAll_4 (by decide) (fun c_4 => ?_) (fun c_4 => ?_)
      · skip
        replace hF := q_ifn hF (Int.not_lt.mpr c_4)
        skip
        exact q_retv E hr hlk hI ⟨gσ_2, (by first | exact wσ_2 | exact m_W.le w0σ_2 (by omega)), kqσ_2, dnσ_2, k5σ_2, (hF.trans hout), fr_σ_2⟩ dX12_doAll_39
      · skip
        replace hF := q_ifp hF c_4
        exact absurd c_4 (by first | (clear hn hd hf gσ wσ k5σ hh hm2 gσ_2 wσ_2 dnσ_2 k5σ_2 gc_4_v2; omega) | omega)
  exact L_2_3 ((31 - v1.toInt).toNat + 1) v1 σ _ _ ls (Nat.lt_succ_self _) (by first | (clear hn hd ht gσ wσ k5σ hh hQ; omega) | omega) fr_σ gσ wσ kqσ dnσ k5σ hF hI (lv_sub hl [1, 2, 3, 0] rfl)

set_option maxRecDepth 100000 in
set_option maxHeartbeats 4000000 in
theorem c_X12_doOne_s (l : Launch) (X : XW) (σ : ST) (a : Nat) (v1 : Int32) (n : Int) (d : Nat) (FA : ST → Int32 → Int32 → ST) (hA : ∀ (σ : ST) (v1 v2 : Int32) (hG : m_G (m_c X σ a)) (hW : m_W (m_c X σ a) (n + (σ.1 a 40).toInt)) (hn : 0 ≤ n ∧ n ≤ 199500) (hd : 0 ≤ (σ.1 a 40).toInt ∧ (σ.1 a 40).toInt ≤ 300) (hf : 30 - (d : Int) ≤ v1.toInt ∧ 0 ≤ v1.toInt) (ht : v2.toInt ≤ m_c X σ a 655), Met l yX12_doAll (q_ws yX12_doAll cX12_doAll 4 none) (q_rm (7 + 2 * d) (158 + 47 * d)) (q_P X σ [.ref a, .int v1, .int v2]) (q_Qv X 1 σ (fun (σ' : ST) => (m_G (m_c X σ' a)) ∧ (m_W (m_c X σ' a) (n + (σ'.1 a 40).toInt)) ∧ (∀ j, 654 ≤ j → m_c X σ' a j = m_c X σ a j) ∧ ((σ.1 a 40).toInt ≤ (σ'.1 a 40).toInt ∧ (σ'.1 a 40).toInt ≤ 300) ∧ (∀ b g, q_kd X b = 35 → σ'.1 b g = σ.1 b g) ∧ σ' = FA σ v1 v2 ∧ q_ow [(12, 38), (12, 39), (12, 40), (12, 41), (12, 42), (12, 43), (12, 44), (12, 45), (34, 99), (39, 99)] [] X σ σ')) 0 0 (q_reg X)) (ha : q_kd X a = 12) (hG : m_G (m_c X σ a)) (hW : m_W (m_c X σ a) (n + (σ.1 a 40).toInt)) (hn : 0 ≤ n ∧ n ≤ 199500) (hd : 0 ≤ (σ.1 a 40).toInt ∧ (σ.1 a 40).toInt ≤ 300) (hs : 29 - (d : Int) ≤ v1.toInt ∧ 0 ≤ v1.toInt ∧ v1.toInt < m_c X σ a 655) : Met l yX12_doOne (q_ws yX12_doOne cX12_doOne 5 none) (q_rm (8 + 2 * d) (181 + 47 * d)) (q_P X σ [.ref a, .int v1]) (q_Qv X 1 σ (fun (σ' : ST) => (m_G (m_c X σ' a)) ∧ (m_W (m_c X σ' a) (n + (σ'.1 a 40).toInt)) ∧ (∀ j, 654 ≤ j → m_c X σ' a j = m_c X σ a j) ∧ ((σ.1 a 40).toInt ≤ (σ'.1 a 40).toInt ∧ (σ'.1 a 40).toInt ≤ 300) ∧ (∀ b g, q_kd X b = 35 → σ'.1 b g = σ.1 b g) ∧ σ' = F_X12_doOne_s X σ a v1 FA ∧ q_ow [(12, 38), (12, 39), (12, 40), (12, 41), (12, 42), (12, 43), (12, 44), (12, 45), (34, 99), (39, 99)] [] X σ σ')) 0 0 (q_reg X) := by
  refine q_met 1 (by first | exact rfl | decide +kernel) rfl (Nat.le_of_ble_eq_true rfl) (fun p e s m below meth c E hml hr hlk hI ls hl => ?_)
  have hx := E.1
  have hb := E.2.1
  have hl : lv_has ls 5 [(0, .ref a), (1, .int v1)] := hl
  have gσ : m_G (m_c X σ a) := hG
  have w0σ : m_W (m_c X σ a) (n + (σ.1 a 40).toInt) := hW
  have kqσ : ∀ j, 654 ≤ j → m_c X σ a j = m_c X σ a j := fun _ _ => rfl
  have dnσ : (σ.1 a 40).toInt ≤ (σ.1 a 40).toInt ∧ (σ.1 a 40).toInt ≤ 300 := (by first | (clear hf ht hn hs gσ w0σ; omega) | omega)
  have k5σ : ∀ b g, q_kd X b = 35 → σ.1 b g = σ.1 b g := fun _ _ _ => rfl
  have fxσ : m_c X σ a = m_c X σ a := rfl
  have fr_σ : q_ow [(12, 38), (12, 39), (12, 40), (12, 41), (12, 42), (12, 43), (12, 44), (12, 45), (34, 99), (39, 99)] [] X σ σ := q_ow.rf
  have hh := hG.hd
  have hQ := hG.2.2.2.2.2.1
  have st := hG.2.2.2.2.2.2 v1.toInt (by first | (clear hf ht hn hd gσ w0σ dnσ k5σ hh hQ; omega) | omega) (by first | (clear hf ht hn hd gσ w0σ dnσ k5σ hh hQ; omega) | omega)
  obtain ⟨s1, s2, s3, s4⟩ := st
  obtain ⟨out, hout⟩ : ∃ o, o = F_X12_doOne_s X σ a v1 FA := ⟨_, rfl⟩
  have hF := hout.symm
  unfold F_X12_doOne_s at hF
  refine lv_aload_n hx hb dX12_doOne_0 rfl (lv_at hl 0 rfl) ?_
  refine gs_X12_417_12 E hI ha dX12_doOne_1 ?_
  refine lv_topi (fun f_1 ef_1 => ?_)
  replace hF := q_letX hF ef_1
  have if_1 : f_1.toInt = (σ.1 a 40).toInt := congrArg Int32.toInt ef_1
  refine lv_sipush (v := 300) hx hb dX12_doOne_4 (by decide) ?_
  have gc_2_f_1 := q_rng f_1
  refine q_icmp_ne (A := f_1.toInt) (B := 300) E rfl (by decide) (tgt := 21) dX12_doOne_7 (by decide) (fun c_2 => ?_) (fun c_2 => ?_)
  · skip
    replace hF := q_ifn hF c_2
    refine lv_aload_n hx hb dX12_doOne_21 rfl (lv_at hl 0 rfl) ?_
    refine lv_dup hx hb dX12_doOne_22 rfl ?_
    refine gs_X12_417_12 E hI ha dX12_doOne_23 ?_
    refine lv_topi (fun f_3 ef_3 => ?_)
    replace hF := q_letX hF ef_3
    have if_3 : f_3.toInt = (σ.1 a 40).toInt := congrArg Int32.toInt ef_3
    refine lv_iconst (v := 1) hx hb dX12_doOne_26 (by decide) ?_
    refine lv_iadd hx hb dX12_doOne_27 ?_
    refine lv_topi (fun z_4 ez_4 => ?_)
    replace hF := q_letX hF ez_4
    have iz_4 := q_addI (A := f_3.toInt) (B := 1) ez_4 rfl (by decide) (by first | (clear hf ht hn hs gσ w0σ dnσ k5σ hh hQ gc_2_f_1 c_2; omega) | omega) (by first | (clear hf ht hn hs gσ w0σ dnσ k5σ hh hQ gc_2_f_1 c_2; omega) | omega)
    refine ps_X12_417_12 E hI ha (by decide) dX12_doOne_28 (fun H locs σ_5 hσ_5 hI => ?_)
    replace hF := q_letX hF hσ_5
    have fr_σ_5 := fr_σ.si hσ_5 ha rfl
    have mv40_σ_5 : (σ_5.1 a 40).toInt = z_4.toInt := congrArg Int32.toInt (q_rd hσ_5)
    have mcσ_5 := m_wo hσ_5 (m_ne ha (q_tk (f := 20) (k' := 34) hI ha rfl (by decide)) (by decide))
    have gσ_5 : m_G (m_c X σ_5 a) := m_G.ext (fun j _ _ => mcσ_5 j) gσ
    have w0σ_5 : m_W (m_c X σ_5 a) (n + (σ.1 a 40).toInt) := m_W.ext (fun j _ _ => mcσ_5 j) w0σ
    have kqσ_5 : ∀ j, 654 ≤ j → m_c X σ_5 a j = m_c X σ a j := fun j h => (mcσ_5 j).trans (kqσ j h)
    have dnσ_5 : (σ.1 a 40).toInt ≤ (σ_5.1 a 40).toInt ∧ (σ_5.1 a 40).toInt ≤ 300 := (by first | (clear hf ht hn hs gσ w0σ dnσ k5σ hh hQ gc_2_f_1 gσ_5 w0σ_5; omega) | omega)
    have k5σ_5 : ∀ b g, q_kd X b = 35 → σ_5.1 b g = σ.1 b g := (fun b g q => (q_rdn hσ_5 (Or.inl (m_ne q ha (by decide)))).trans (k5σ b g q))
    have fxσ_5 : m_c X σ_5 a = m_c X σ a := (funext mcσ_5).trans fxσ
    refine lv_sipush (v := 656) hx hb dX12_doOne_31 (by decide) ?_
    refine lv_bipush (v := 9) hx hb dX12_doOne_34 (by decide) ?_
    refine lv_iload_n hx hb dX12_doOne_36 rfl (lv_at hl 1 rfl) ?_
    refine lv_imul hx hb dX12_doOne_37 ?_
    refine lv_topi (fun z_6 ez_6 => ?_)
    replace hF := q_letX hF ez_6
    have iz_6 := q_mulI (A := 9) (B := v1.toInt) ez_6 (by decide) rfl (by first | (clear hf ht hn hd gσ w0σ dnσ k5σ hh hQ if_1 gc_2_f_1 c_2 if_3 iz_4 mv40_σ_5 gσ_5 w0σ_5 dnσ_5 k5σ_5; omega) | omega) (by first | (clear hf ht hn hd gσ w0σ dnσ k5σ hh if_1 gc_2_f_1 c_2 if_3 iz_4 mv40_σ_5 gσ_5 w0σ_5 dnσ_5 k5σ_5; omega) | omega)
    refine lv_iadd hx hb dX12_doOne_38 ?_
    refine lv_topi (fun z_7 ez_7 => ?_)
    replace hF := q_letX hF ez_7
    have iz_7 := q_addI (A := 656) (B := (9 * v1.toInt)) ez_7 (by decide) iz_6 (by first | (clear hf ht hn hd gσ w0σ dnσ k5σ hh hQ if_1 gc_2_f_1 c_2 if_3 iz_4 mv40_σ_5 gσ_5 w0σ_5 dnσ_5 k5σ_5 iz_6; omega) | omega) (by first | (clear hf ht hn hd gσ w0σ dnσ k5σ hh if_1 gc_2_f_1 c_2 if_3 iz_4 mv40_σ_5 gσ_5 w0σ_5 dnσ_5 k5σ_5 iz_6; omega) | omega)
    refine lv_istore_n (lv' := [(2, .int z_7), (0, .ref a), (1, .int v1)]) hx hb dX12_doOne_39 rfl hl (by decide) rfl (fun ls hl => ?_)
    refine lv_aload_n hx hb dX12_doOne_40 rfl (lv_at hl 1 rfl) ?_
    refine gs_X12_35_12 E hI ha dX12_doOne_41 ?_
    refine lv_iload_n hx hb dX12_doOne_44 rfl (lv_at hl 0 rfl) ?_
    refine q_iald E hI (q_tk (k' := 34) hI ha rfl (by decide)) ⟨by decide, rfl⟩ (by first | (clear hf ht hn hd gσ w0σ dnσ k5σ hh hQ if_1 gc_2_f_1 c_2 if_3 iz_4 mv40_σ_5 gσ_5 w0σ_5 dnσ_5 k5σ_5 iz_6; omega) | omega) (by rw [q_lnk (v := 4650) hI (q_tk (k' := 34) hI ha rfl (by decide)) rfl (by decide)]; omega) dX12_doOne_45 ?_
    refine lv_topi (fun f_8 ef_8 => ?_)
    replace hF := q_letX hF ef_8
    have if_8 : f_8.toInt = m_c X σ a (656 + (9 * v1.toInt)) := (m_rd ef_8 iz_7).trans (congrFun fxσ_5 _)
    refine lv_istore_n (lv' := [(3, .int f_8), (2, .int z_7), (0, .ref a), (1, .int v1)]) hx hb dX12_doOne_46 rfl hl (by decide) rfl (fun ls hl => ?_)
    refine lv_iload_n hx hb dX12_doOne_47 rfl (lv_at hl 0 rfl) ?_
    refine lv_iconst (v := 3) hx hb dX12_doOne_48 (by decide) ?_
    have gc_9_f_8 := q_rng f_8
    refine q_icmp_ge (A := f_8.toInt) (B := 3) E rfl (by decide) (tgt := 77) dX12_doOne_49 (by decide) (fun c_9 => ?_) (fun c_9 => ?_)
    · skip
      replace hF := q_ifn hF (Int.not_lt.mpr c_9)
      refine lv_iload_n hx hb dX12_doOne_77 rfl (lv_at hl 0 rfl) ?_
      refine lv_iconst (v := 3) hx hb dX12_doOne_78 (by decide) ?_
      have gc_10_f_8 := q_rng f_8
      refine q_icmp_ne (A := f_8.toInt) (B := 3) E rfl (by decide) (tgt := 109) dX12_doOne_79 (by decide) (fun c_10 => ?_) (fun c_10 => ?_)
      · skip
        replace hF := q_ifn hF c_10
        refine lv_iload_n hx hb dX12_doOne_109 rfl (lv_at hl 0 rfl) ?_
        refine lv_iconst (v := 4) hx hb dX12_doOne_110 (by decide) ?_
        have gc_11_f_8 := q_rng f_8
        refine q_icmp_ne (A := f_8.toInt) (B := 4) E rfl (by decide) (tgt := 162) dX12_doOne_111 (by decide) (fun c_11 => ?_) (fun c_11 => ?_)
        · skip
          replace hF := q_ifn hF c_11
          have wσ_5 : m_W (m_c X σ_5 a) (n + (σ_5.1 a 40).toInt) := m_W.le w0σ_5 (by first | (clear hf ht hn hd hs gσ w0σ dnσ k5σ hh hQ gc_2_f_1 c_2 gσ_5 w0σ_5 dnσ_5 k5σ_5 iz_6 iz_7 if_8 gc_9_f_8 c_9 gc_10_f_8 c_10 gc_11_f_8 c_11; omega) | omega)
          refine lv_iload_n hx hb dX12_doOne_162 rfl (lv_at hl 0 rfl) ?_
          refine lv_iconst (v := 4) hx hb dX12_doOne_163 (by decide) ?_
          have gc_12_f_8 := q_rng f_8
          refine q_icmp_le (A := f_8.toInt) (B := 4) E rfl (by decide) (tgt := 172) dX12_doOne_164 (by decide) (fun c_12 => ?_) (fun c_12 => ?_)
          · skip
            replace hF := q_ifn hF (Int.not_lt.mpr c_12)
            exact q_retv E hr hlk hI ⟨gσ_5, (by first | exact wσ_5 | exact m_W.le w0σ_5 (by omega)), kqσ_5, dnσ_5, k5σ_5, (hF.trans hout), fr_σ_5⟩ dX12_doOne_172
          · skip
            replace hF := q_ifp hF c_12
            refine lv_aload_n hx hb dX12_doOne_167 rfl (lv_at hl 2 rfl) ?_
            refine lv_iconst (v := 1) hx hb dX12_doOne_168 (by decide) ?_
            refine ps_X12_420_12 E hI ha (by decide) (by decide) (by decide) dX12_doOne_169 (fun H locs σ_13 hσ_13 hI => ?_)
            replace hF := q_letX hF hσ_13
            have fr_σ_13 := fr_σ_5.si hσ_13 ha rfl
            have mv40_σ_13 : (σ_13.1 a 40).toInt = (σ_5.1 a 40).toInt := congrArg Int32.toInt (q_rdn hσ_13 (Or.inr (by decide)))
            have mcσ_13 := m_wo hσ_13 (m_ne ha (q_tk (f := 20) (k' := 34) hI ha rfl (by decide)) (by decide))
            have gσ_13 : m_G (m_c X σ_13 a) := m_G.ext (fun j _ _ => mcσ_13 j) gσ_5
            have wσ_13 : m_W (m_c X σ_13 a) (n + (σ_13.1 a 40).toInt) := (m_W.le (m_W.ext (fun j _ _ => mcσ_13 j) wσ_5) (by first | (clear hf ht hn hd hs gσ w0σ dnσ k5σ hh hQ if_1 gc_2_f_1 c_2 if_3 iz_4 mv40_σ_5 gσ_5 w0σ_5 dnσ_5 k5σ_5 iz_6 iz_7 if_8 gc_9_f_8 c_9 gc_10_f_8 c_10 gc_11_f_8 c_11 wσ_5 gc_12_f_8 c_12 gσ_13; omega) | omega))
            have kqσ_13 : ∀ j, 654 ≤ j → m_c X σ_13 a j = m_c X σ a j := fun j h => (mcσ_13 j).trans (kqσ_5 j h)
            have dnσ_13 : (σ.1 a 40).toInt ≤ (σ_13.1 a 40).toInt ∧ (σ_13.1 a 40).toInt ≤ 300 := (by first | (clear hf ht hn hs gσ w0σ dnσ k5σ hh hQ gc_2_f_1 c_2 gσ_5 w0σ_5 k5σ_5 iz_6 iz_7 if_8 gc_9_f_8 c_9 gc_10_f_8 c_10 gc_11_f_8 c_11 wσ_5 gc_12_f_8 c_12 gσ_13 wσ_13; omega) | omega)
            have k5σ_13 : ∀ b g, q_kd X b = 35 → σ_13.1 b g = σ.1 b g := (fun b g q => (q_rdn hσ_13 (Or.inl (m_ne q ha (by decide)))).trans (k5σ_5 b g q))
            exact q_retv E hr hlk hI ⟨gσ_13, (by first | exact wσ_13 | exact m_W.le w0σ_13 (by omega)), kqσ_13, dnσ_13, k5σ_13, (hF.trans hout), fr_σ_13⟩ dX12_doOne_172
        · skip
          replace hF := q_ifp hF c_11
          have wσ_5 : m_W (m_c X σ_5 a) (n + (σ_5.1 a 40).toInt) := m_W.le w0σ_5 (by first | (clear hf ht hn hd hs gσ w0σ dnσ k5σ hh hQ gc_2_f_1 c_2 gσ_5 w0σ_5 dnσ_5 k5σ_5 iz_6 iz_7 if_8 gc_9_f_8 c_9 gc_10_f_8 c_10 gc_11_f_8 c_11; omega) | omega)
          refine lv_iconst (v := 0) hx hb dX12_doOne_114 (by decide) ?_
          refine lv_istore (lv' := [(4, .int 0), (3, .int f_8), (2, .int z_7), (0, .ref a), (1, .int v1)]) hx hb dX12_doOne_115 hl (by decide) rfl (fun ls hl => ?_)
          have L_117_16 : ∀ (k_16 : Nat) (x_14 : Int32) (σ_15 : ST) (H : Heap) (locs : List Loc) (ls : Array Slot), (2147483647 - x_14.toInt).toNat < k_16 → (q_ow [(12, 38), (12, 39), (12, 40), (12, 41), (12, 42), (12, 43), (12, 44), (12, 45), (34, 99), (39, 99)] [] X σ σ_15) → (m_G (m_c X σ_15 a)) → (m_W (m_c X σ_15 a) (n + (σ_15.1 a 40).toInt)) → (∀ j, 654 ≤ j → m_c X σ_15 a j = m_c X σ a j) → ((σ.1 a 40).toInt ≤ (σ_15.1 a 40).toInt ∧ (σ_15.1 a 40).toInt ≤ 300) → (∀ b g, q_kd X b = 35 → σ_15.1 b g = σ.1 b g) → (F_X12_doOne_s_L117_1 X z_7 a v1 FA k_16 x_14 σ_15 = out) → q_I X 1 σ s.heap locs σ_15 H → lv_has ls 5 [(0, .ref a), (1, .int v1), (2, .int z_7), (3, .int f_8), (4, .int x_14)] → W p l e (q_rm (8 + 2 * d) (181 + 47 * d)) s m ([.ref a, .int v1] : List Value).toArray below meth c H locs 0 0 (MQ below (q_Qv X 1 σ (fun (σ' : ST) => (m_G (m_c X σ' a)) ∧ (m_W (m_c X σ' a) (n + (σ'.1 a 40).toInt)) ∧ (∀ j, 654 ≤ j → m_c X σ' a j = m_c X σ a j) ∧ ((σ.1 a 40).toInt ≤ (σ'.1 a 40).toInt ∧ (σ'.1 a 40).toInt ≤ 300) ∧ (∀ b g, q_kd X b = 35 → σ'.1 b g = σ.1 b g) ∧ σ' = F_X12_doOne_s X σ a v1 FA ∧ q_ow [(12, 38), (12, 39), (12, 40), (12, 41), (12, 42), (12, 43), (12, 44), (12, 45), (34, 99), (39, 99)] [] X σ σ')) ([.ref a, .int v1] : List Value).toArray s 0 0 (q_reg X)) (F0 m 117 ls []) := by
            clear hF
            intro k_16
            induction k_16 with
            | zero =>
              intro x_14 σ_15 H locs ls hms
              exact absurd hms (Nat.not_lt_zero _)
            | succ k_16 ih117 =>
              intro x_14 σ_15 H locs ls hm117 fr_σ_15 gσ_15 wσ_15 kqσ_15 dnσ_15 k5σ_15 hF hI hl
              replace hF := (F_X12_doOne_s_L117_1_s).symm.trans hF
              unfold F_X12_doOne_s_B117_1 at hF
              have q1 := kqσ_15 (656 + 9 * v1.toInt + 1) (by first | (clear hf ht hn hd gσ w0σ dnσ k5σ hh hQ if_1 gc_2_f_1 c_2 if_3 iz_4 mv40_σ_5 gσ_5 w0σ_5 dnσ_5 k5σ_5 iz_6 iz_7 if_8 gc_9_f_8 c_9 gc_10_f_8 c_10 gc_11_f_8 c_11 wσ_5 hm117 gσ_15 wσ_15 dnσ_15 k5σ_15; omega) | omega)
              have q8 := kqσ_15 (656 + 9 * v1.toInt + 8) (by first | (clear hf ht hn hd gσ w0σ dnσ k5σ hh hQ if_1 gc_2_f_1 c_2 if_3 iz_4 mv40_σ_5 gσ_5 w0σ_5 dnσ_5 k5σ_5 iz_6 iz_7 if_8 gc_9_f_8 c_9 gc_10_f_8 c_10 gc_11_f_8 c_11 wσ_5 hm117 gσ_15 wσ_15 dnσ_15 k5σ_15; omega) | omega)
              refine lv_iload hx hb dX12_doOne_117 (lv_at hl 4 rfl) ?_
              refine lv_aload_n hx hb dX12_doOne_119 rfl (lv_at hl 0 rfl) ?_
              refine gs_X12_35_12 E hI ha dX12_doOne_120 ?_
              refine lv_iload_n hx hb dX12_doOne_123 rfl (lv_at hl 2 rfl) ?_
              refine lv_iconst (v := 1) hx hb dX12_doOne_124 (by decide) ?_
              refine lv_iadd hx hb dX12_doOne_125 ?_
              refine lv_topi (fun z_17 ez_17 => ?_)
              replace hF := q_letX hF ez_17
              have iz_17 := q_addI (A := (656 + (9 * v1.toInt))) (B := 1) ez_17 iz_7 (by decide) (by first | (clear hf ht hn hd gσ w0σ dnσ k5σ hh hQ if_1 gc_2_f_1 c_2 if_3 iz_4 mv40_σ_5 gσ_5 w0σ_5 dnσ_5 k5σ_5 iz_6 iz_7 if_8 gc_9_f_8 c_9 gc_10_f_8 c_10 gc_11_f_8 c_11 wσ_5 hm117 gσ_15 wσ_15 dnσ_15 k5σ_15; omega) | omega) (by first | (clear hf ht hn hd gσ w0σ dnσ k5σ hh if_1 gc_2_f_1 c_2 if_3 iz_4 mv40_σ_5 gσ_5 w0σ_5 dnσ_5 k5σ_5 iz_6 iz_7 if_8 gc_9_f_8 c_9 gc_10_f_8 c_10 gc_11_f_8 c_11 wσ_5 hm117 gσ_15 wσ_15 dnσ_15 k5σ_15; omega) | omega)
              refine q_iald E hI (q_tk (k' := 34) hI ha rfl (by decide)) ⟨by decide, rfl⟩ (by first | (clear hf ht hn hd gσ w0σ dnσ k5σ hh hQ if_1 gc_2_f_1 c_2 if_3 iz_4 mv40_σ_5 gσ_5 w0σ_5 dnσ_5 k5σ_5 iz_6 iz_7 if_8 gc_9_f_8 c_9 gc_10_f_8 c_10 gc_11_f_8 c_11 wσ_5 hm117 gσ_15 wσ_15 dnσ_15 k5σ_15; omega) | omega) (by rw [q_lnk (v := 4650) hI (q_tk (k' := 34) hI ha rfl (by decide)) rfl (by decide)]; omega) dX12_doOne_126 ?_
              refine lv_topi (fun f_18 ef_18 => ?_)
              replace hF := q_letX hF ef_18
              have if_18 : f_18.toInt = m_c X σ_15 a ((656 + (9 * v1.toInt)) + 1) := m_rd ef_18 iz_17
              have gc_19_x_14 := q_rng x_14
              have gc_19_f_18 := q_rng f_18
              refine q_icmp_ge (A := x_14.toInt) (B := f_18.toInt) E rfl rfl (tgt := 159) dX12_doOne_127 (by decide) (fun c_19 => ?_) (fun c_19 => ?_)
              · skip
                replace hF := q_ifn hF (Int.not_lt.mpr c_19)
                skip
                refine lv_goto (tgt := 172) hx hb dX12_doOne_159 (by decide) ?_
                exact q_retv E hr hlk hI ⟨gσ_15, (by first | exact wσ_15 | exact m_W.le w0σ_15 (by omega)), kqσ_15, dnσ_15, k5σ_15, (hF.trans hout), fr_σ_15⟩ dX12_doOne_172
              · skip
                replace hF := q_ifp hF c_19
                refine lv_aload_n hx hb dX12_doOne_130 rfl (lv_at hl 0 rfl) ?_
                refine gs_X12_420_12 E hI ha dX12_doOne_131 ?_
                refine lv_topi (fun f_20 ef_20 => ?_)
                replace hF := q_letX hF ef_20
                have if_20 : f_20.toInt = (σ_15.1 a 38).toInt := congrArg Int32.toInt ef_20
                have bf_20 : 0 ≤ f_20.toInt ∧ f_20.toInt ≤ 1 := by rw [ef_20]; exact q_bd hI ha rfl
                refine q_if_ne (A := f_20.toInt) E rfl (tgt := 159) dX12_doOne_134 (by decide) (fun c_21 => ?_) (fun c_21 => ?_)
                · skip
                  replace hF := q_ifn hF c_21
                  skip
                  refine lv_goto (tgt := 172) hx hb dX12_doOne_159 (by decide) ?_
                  exact q_retv E hr hlk hI ⟨gσ_15, (by first | exact wσ_15 | exact m_W.le w0σ_15 (by omega)), kqσ_15, dnσ_15, k5σ_15, (hF.trans hout), fr_σ_15⟩ dX12_doOne_172
                · skip
                  replace hF := q_ifp hF c_21
                  refine lv_aload_n hx hb dX12_doOne_137 rfl (lv_at hl 0 rfl) ?_
                  refine lv_iload_n hx hb dX12_doOne_138 rfl (lv_at hl 1 rfl) ?_
                  refine lv_iconst (v := 1) hx hb dX12_doOne_139 (by decide) ?_
                  refine lv_iadd hx hb dX12_doOne_140 ?_
                  refine lv_topi (fun z_22 ez_22 => ?_)
                  replace hF := q_letX hF ez_22
                  have iz_22 := q_addI (A := v1.toInt) (B := 1) ez_22 rfl (by decide) (by first | (clear hf ht hn hd gσ w0σ dnσ k5σ hh hQ if_1 gc_2_f_1 c_2 if_3 iz_4 mv40_σ_5 gσ_5 w0σ_5 dnσ_5 k5σ_5 iz_6 iz_7 if_8 gc_9_f_8 c_9 gc_10_f_8 c_10 gc_11_f_8 c_11 wσ_5 hm117 gσ_15 wσ_15 dnσ_15 k5σ_15 iz_17 if_18 gc_19_x_14 gc_19_f_18 c_19 if_20 bf_20 c_21; omega) | omega) (by first | (clear hf ht hn hd gσ w0σ dnσ k5σ hh if_1 gc_2_f_1 c_2 if_3 iz_4 mv40_σ_5 gσ_5 w0σ_5 dnσ_5 k5σ_5 iz_6 iz_7 if_8 gc_9_f_8 c_9 gc_10_f_8 c_10 gc_11_f_8 c_11 wσ_5 hm117 gσ_15 wσ_15 dnσ_15 k5σ_15 iz_17 if_18 gc_19_x_14 gc_19_f_18 c_19 if_20 bf_20 c_21; omega) | omega)
                  refine lv_aload_n hx hb dX12_doOne_141 rfl (lv_at hl 0 rfl) ?_
                  refine gs_X12_35_12 E hI ha dX12_doOne_142 ?_
                  refine lv_iload_n hx hb dX12_doOne_145 rfl (lv_at hl 2 rfl) ?_
                  refine lv_bipush (v := 8) hx hb dX12_doOne_146 (by decide) ?_
                  refine lv_iadd hx hb dX12_doOne_148 ?_
                  refine lv_topi (fun z_23 ez_23 => ?_)
                  replace hF := q_letX hF ez_23
                  have iz_23 := q_addI (A := (656 + (9 * v1.toInt))) (B := 8) ez_23 iz_7 (by decide) (by first | (clear hf ht hn hd gσ w0σ dnσ k5σ hh hQ if_1 gc_2_f_1 c_2 if_3 iz_4 mv40_σ_5 gσ_5 w0σ_5 dnσ_5 k5σ_5 iz_6 iz_7 if_8 gc_9_f_8 c_9 gc_10_f_8 c_10 gc_11_f_8 c_11 wσ_5 hm117 gσ_15 wσ_15 dnσ_15 k5σ_15 iz_17 if_18 gc_19_x_14 gc_19_f_18 c_19 if_20 bf_20 c_21; omega) | omega) (by first | (clear hf ht hn hd gσ w0σ dnσ k5σ hh if_1 gc_2_f_1 c_2 if_3 iz_4 mv40_σ_5 gσ_5 w0σ_5 dnσ_5 k5σ_5 iz_6 iz_7 if_8 gc_9_f_8 c_9 gc_10_f_8 c_10 gc_11_f_8 c_11 wσ_5 hm117 gσ_15 wσ_15 dnσ_15 k5σ_15 iz_17 if_18 gc_19_x_14 gc_19_f_18 c_19 if_20 bf_20 c_21; omega) | omega)
                  refine q_iald E hI (q_tk (k' := 34) hI ha rfl (by decide)) ⟨by decide, rfl⟩ (by first | (clear hf ht hn hd gσ w0σ dnσ k5σ hh if_1 gc_2_f_1 c_2 if_3 iz_4 mv40_σ_5 gσ_5 w0σ_5 dnσ_5 k5σ_5 iz_6 iz_7 if_8 gc_9_f_8 c_9 gc_10_f_8 c_10 gc_11_f_8 c_11 wσ_5 hm117 gσ_15 wσ_15 dnσ_15 k5σ_15 iz_17 if_18 gc_19_x_14 gc_19_f_18 c_19 if_20 bf_20 c_21; omega) | omega) (by rw [q_lnk (v := 4650) hI (q_tk (k' := 34) hI ha rfl (by decide)) rfl (by decide)]; omega) dX12_doOne_149 ?_
                  refine lv_topi (fun f_24 ef_24 => ?_)
                  replace hF := q_letX hF ef_24
                  have if_24 : f_24.toInt = m_c X σ_15 a ((656 + (9 * v1.toInt)) + 8) := m_rd ef_24 iz_23
                  refine q_cv (q_runV (As := [.int z_22, .int f_24]) (rest := []) E (hml.trans hl.1.symm) hI (hA σ_15 z_22 f_24 gσ_15 wσ_15 (by omega) (by first | (clear hf ht hn hs gσ w0σ dnσ k5σ hh hQ gc_2_f_1 c_2 gσ_5 w0σ_5 k5σ_5 iz_6 iz_7 if_8 gc_9_f_8 c_9 gc_10_f_8 c_10 gc_11_f_8 c_11 wσ_5 hm117 gσ_15 wσ_15 k5σ_15 iz_17 if_18 gc_19_x_14 gc_19_f_18 c_19 if_20 bf_20 c_21 iz_22 iz_23 if_24; omega) | omega) (by first | (clear hf ht hn hd gσ w0σ dnσ k5σ hh hQ if_1 gc_2_f_1 c_2 if_3 iz_4 mv40_σ_5 gσ_5 w0σ_5 dnσ_5 k5σ_5 iz_6 iz_7 if_8 gc_9_f_8 c_9 gc_10_f_8 c_10 gc_11_f_8 c_11 wσ_5 hm117 gσ_15 wσ_15 dnσ_15 k5σ_15 iz_17 if_18 gc_19_x_14 gc_19_f_18 c_19 if_20 bf_20 c_21 iz_23 if_24; omega) | omega) (by rw [kqσ_15 655 (by decide)]; omega)) kv_X12_435 ha ⟨rfl, by decide⟩ (show vwCl[11]? = some (RX12, TX12, 46) from rfl) rfl (by constructor <;> (simp only [q_rm]; omega)) ⟨Nat.le_refl _, Nat.le_refl _⟩ rfl (Nat.le_of_ble_eq_true rfl) dX12_doOne_150) hI (by decide) (fun σ_26 H locs hpσ_26 hkσ_26 hI => ?_)
                  obtain ⟨ahpσ_26, bhpσ_26, chpσ_26, dhpσ_26, ehpσ_26, fhpσ_26, ghpσ_26⟩ := hpσ_26
                  have fr_σ_26 := fr_σ_15.call ghpσ_26 rfl rfl
                  replace hF := q_letX hF fhpσ_26
                  have gσ_26 : m_G (m_c X σ_26 a) := ahpσ_26
                  have wσ_26 : m_W (m_c X σ_26 a) (n + (σ_26.1 a 40).toInt) := bhpσ_26
                  have kqσ_26 : ∀ j, 654 ≤ j → m_c X σ_26 a j = m_c X σ a j := (fun j h => (chpσ_26 j h).trans (kqσ_15 j h))
                  have dnσ_26 : (σ.1 a 40).toInt ≤ (σ_26.1 a 40).toInt ∧ (σ_26.1 a 40).toInt ≤ 300 := (by first | (clear hf ht hn hd hs gσ w0σ dnσ k5σ hh hQ gc_2_f_1 c_2 gσ_5 w0σ_5 dnσ_5 k5σ_5 iz_6 iz_7 if_8 gc_9_f_8 c_9 gc_10_f_8 c_10 gc_11_f_8 c_11 wσ_5 hm117 gσ_15 wσ_15 k5σ_15 iz_17 if_18 gc_19_x_14 gc_19_f_18 c_19 if_20 bf_20 c_21 iz_22 iz_23 if_24 ahpσ_26 bhpσ_26 chpσ_26 ehpσ_26 fhpσ_26 gσ_26 wσ_26; omega) | omega)
                  have k5σ_26 : ∀ b g, q_kd X b = 35 → σ_26.1 b g = σ.1 b g := (fun b g q => (ehpσ_26 b g q).trans (k5σ_15 b g q))
                  obtain ⟨z_27, ez_27⟩ : ∃ y : Int32, y = x_14 + 1 := ⟨_, rfl⟩
                  replace hF := q_letX hF ez_27
                  refine lv_iinc (v := z_27) (lv' := [(4, .int z_27), (0, .ref a), (1, .int v1), (2, .int z_7), (3, .int f_8)]) hx hb dX12_doOne_153 hl (k := 4) rfl (by rw [ez_27]; rfl) (by decide) rfl (fun ls hl => ?_)
                  have iz_27 : z_27.toInt = x_14.toInt + 1 := q_inc ez_27 (by first | (clear hf ht hn hd hs gσ w0σ dnσ k5σ hh hQ if_1 gc_2_f_1 c_2 if_3 iz_4 mv40_σ_5 gσ_5 w0σ_5 dnσ_5 k5σ_5 iz_6 iz_7 if_8 gc_9_f_8 c_9 gc_10_f_8 c_10 gc_11_f_8 c_11 wσ_5 hm117 gσ_15 wσ_15 dnσ_15 k5σ_15 iz_17 if_18 if_20 bf_20 c_21 iz_22 iz_23 if_24 ahpσ_26 bhpσ_26 chpσ_26 dhpσ_26 ehpσ_26 fhpσ_26 gσ_26 wσ_26 dnσ_26 k5σ_26; omega) | omega)
                  refine lv_goto (tgt := 117) hx hb dX12_doOne_156 (by decide) ?_
                  exact ih117 z_27 σ_26 _ _ ls (by first | (clear hf ht hn hd hs gσ w0σ dnσ k5σ hh hQ if_1 gc_2_f_1 c_2 if_3 iz_4 mv40_σ_5 gσ_5 w0σ_5 dnσ_5 k5σ_5 iz_6 iz_7 if_8 gc_9_f_8 c_9 gc_10_f_8 c_10 gc_11_f_8 c_11 wσ_5 gσ_15 wσ_15 dnσ_15 k5σ_15 iz_17 if_18 if_20 bf_20 c_21 iz_22 iz_23 if_24 ahpσ_26 bhpσ_26 chpσ_26 dhpσ_26 ehpσ_26 fhpσ_26 gσ_26 wσ_26 dnσ_26 k5σ_26; omega) | omega) fr_σ_26 gσ_26 wσ_26 kqσ_26 dnσ_26 k5σ_26 hF hI (lv_sub hl [1, 2, 3, 4, 0] rfl)
          have kc_28 : (0 : Int32).toInt = 0 := rfl
          exact L_117_16 ((2147483647 - (0 : Int32).toInt).toNat + 1) 0 σ_5 _ _ ls (Nat.lt_succ_self _) fr_σ_5 gσ_5 wσ_5 kqσ_5 dnσ_5 k5σ_5 hF hI (lv_sub hl [3, 4, 2, 1, 0] rfl)
      · skip
        replace hF := q_ifp hF c_10
        refine lv_aload_n hx hb dX12_doOne_82 rfl (lv_at hl 2 rfl) ?_
        refine lv_iload_n hx hb dX12_doOne_83 rfl (lv_at hl 1 rfl) ?_
        refine q_ci (q_runV (As := [.int z_7]) (rest := []) E (hml.trans hl.1.symm) hI (c_X12_isSo l X σ_5 a z_7 ha (by rw [fxσ_5]; exact hG) (by first | (clear hf ht hn hd gσ w0σ dnσ k5σ hh if_1 gc_2_f_1 c_2 if_3 iz_4 mv40_σ_5 gσ_5 w0σ_5 dnσ_5 k5σ_5 iz_6 if_8 gc_9_f_8 c_9 gc_10_f_8 c_10; omega) | omega) (by rw [fxσ_5]; exact (by rw [iz_7]; exact ⟨s3 (by first | (clear hf ht hn hd hs gσ w0σ dnσ k5σ hh hQ if_1 gc_2_f_1 c_2 if_3 iz_4 mv40_σ_5 gσ_5 w0σ_5 dnσ_5 k5σ_5 iz_6 iz_7 gc_9_f_8 c_9 gc_10_f_8; omega) | omega), fun q => s2 (by first | (clear hf ht hn hd hs gσ w0σ dnσ k5σ hh hQ if_1 gc_2_f_1 c_2 if_3 iz_4 mv40_σ_5 gσ_5 w0σ_5 dnσ_5 k5σ_5 iz_6 iz_7 gc_9_f_8 c_9 gc_10_f_8; omega) | omega)⟩))) kv_X12_432 ha ⟨rfl, by decide⟩ (show vwCl[11]? = some (RX12, TX12, 46) from rfl) rfl (by constructor <;> (simp only [q_rm]; omega)) ⟨Nat.le_refl _, Nat.le_refl _⟩ rfl (Nat.le_of_ble_eq_true rfl) dX12_doOne_84) hI (by decide) (fun r_29 σ_30 H locs hpσ_30 hkσ_30 hI => ?_)
        obtain ⟨ahpσ_30, bhpσ_30, chpσ_30⟩ := hpσ_30
        rw [ahpσ_30] at hI
        replace hF := q_letX hF chpσ_30
        refine q_if_eq (A := r_29.toInt) E rfl (tgt := 109) dX12_doOne_87 (by decide) (fun c_31 => ?_) (fun c_31 => ?_)
        · skip
          replace hF := q_ifp hF c_31
          refine lv_iload_n hx hb dX12_doOne_109 rfl (lv_at hl 0 rfl) ?_
          refine lv_iconst (v := 4) hx hb dX12_doOne_110 (by decide) ?_
          have gc_32_f_8 := q_rng f_8
          refine q_icmp_ne (A := f_8.toInt) (B := 4) E rfl (by decide) (tgt := 162) dX12_doOne_111 (by decide) (fun c_32 => ?_) (fun c_32 => ?_)
          · skip
            replace hF := q_ifn hF c_32
            have wσ_5 : m_W (m_c X σ_5 a) (n + (σ_5.1 a 40).toInt) := m_W.le w0σ_5 (by first | (clear hf ht hn hd hs gσ w0σ dnσ k5σ hh hQ gc_2_f_1 c_2 gσ_5 w0σ_5 dnσ_5 k5σ_5 iz_6 iz_7 if_8 gc_9_f_8 c_9 gc_10_f_8 c_10 ahpσ_30 bhpσ_30 chpσ_30 c_31 gc_32_f_8 c_32; omega) | omega)
            refine lv_iload_n hx hb dX12_doOne_162 rfl (lv_at hl 0 rfl) ?_
            refine lv_iconst (v := 4) hx hb dX12_doOne_163 (by decide) ?_
            have gc_33_f_8 := q_rng f_8
            refine q_icmp_le (A := f_8.toInt) (B := 4) E rfl (by decide) (tgt := 172) dX12_doOne_164 (by decide) (fun c_33 => ?_) (fun c_33 => ?_)
            · skip
              replace hF := q_ifn hF (Int.not_lt.mpr c_33)
              exact q_retv E hr hlk hI ⟨gσ_5, (by first | exact wσ_5 | exact m_W.le w0σ_5 (by omega)), kqσ_5, dnσ_5, k5σ_5, (hF.trans hout), fr_σ_5⟩ dX12_doOne_172
            · skip
              replace hF := q_ifp hF c_33
              refine lv_aload_n hx hb dX12_doOne_167 rfl (lv_at hl 2 rfl) ?_
              refine lv_iconst (v := 1) hx hb dX12_doOne_168 (by decide) ?_
              refine ps_X12_420_12 E hI ha (by decide) (by decide) (by decide) dX12_doOne_169 (fun H locs σ_34 hσ_34 hI => ?_)
              replace hF := q_letX hF hσ_34
              have fr_σ_34 := fr_σ_5.si hσ_34 ha rfl
              have mv40_σ_34 : (σ_34.1 a 40).toInt = (σ_5.1 a 40).toInt := congrArg Int32.toInt (q_rdn hσ_34 (Or.inr (by decide)))
              have mcσ_34 := m_wo hσ_34 (m_ne ha (q_tk (f := 20) (k' := 34) hI ha rfl (by decide)) (by decide))
              have gσ_34 : m_G (m_c X σ_34 a) := m_G.ext (fun j _ _ => mcσ_34 j) gσ_5
              have wσ_34 : m_W (m_c X σ_34 a) (n + (σ_34.1 a 40).toInt) := (m_W.le (m_W.ext (fun j _ _ => mcσ_34 j) wσ_5) (by first | (clear hf ht hn hd hs gσ w0σ dnσ k5σ hh hQ if_1 gc_2_f_1 c_2 if_3 iz_4 mv40_σ_5 gσ_5 w0σ_5 dnσ_5 k5σ_5 iz_6 iz_7 if_8 gc_9_f_8 c_9 gc_10_f_8 ahpσ_30 bhpσ_30 chpσ_30 c_31 gc_32_f_8 c_32 wσ_5 gc_33_f_8 mv40_σ_34 gσ_34; omega) | omega))
              have kqσ_34 : ∀ j, 654 ≤ j → m_c X σ_34 a j = m_c X σ a j := fun j h => (mcσ_34 j).trans (kqσ_5 j h)
              have dnσ_34 : (σ.1 a 40).toInt ≤ (σ_34.1 a 40).toInt ∧ (σ_34.1 a 40).toInt ≤ 300 := (by first | (clear hf ht hn hd hs gσ w0σ dnσ k5σ hh hQ if_1 gc_2_f_1 c_2 if_3 iz_4 mv40_σ_5 gσ_5 w0σ_5 dnσ_5 k5σ_5 iz_6 iz_7 if_8 gc_9_f_8 c_9 gc_10_f_8 ahpσ_30 bhpσ_30 chpσ_30 c_31 gc_32_f_8 c_32 wσ_5 gc_33_f_8 mv40_σ_34 gσ_34 wσ_34; omega) | omega)
              have k5σ_34 : ∀ b g, q_kd X b = 35 → σ_34.1 b g = σ.1 b g := (fun b g q => (q_rdn hσ_34 (Or.inl (m_ne q ha (by decide)))).trans (k5σ_5 b g q))
              exact q_retv E hr hlk hI ⟨gσ_34, (by first | exact wσ_34 | exact m_W.le w0σ_34 (by omega)), kqσ_34, dnσ_34, k5σ_34, (hF.trans hout), fr_σ_34⟩ dX12_doOne_172
          · skip
            replace hF := q_ifp hF c_32
            have wσ_5 : m_W (m_c X σ_5 a) (n + (σ_5.1 a 40).toInt) := m_W.le w0σ_5 (by first | (clear hf ht hn hd hs gσ w0σ dnσ k5σ hh hQ if_1 gc_2_f_1 c_2 if_3 iz_4 mv40_σ_5 gσ_5 w0σ_5 dnσ_5 k5σ_5 iz_6 iz_7 if_8 gc_9_f_8 c_9 gc_10_f_8 ahpσ_30 bhpσ_30 chpσ_30 c_31 gc_32_f_8; omega) | omega)
            refine lv_iconst (v := 0) hx hb dX12_doOne_114 (by decide) ?_
            refine lv_istore (lv' := [(4, .int 0), (3, .int f_8), (2, .int z_7), (0, .ref a), (1, .int v1)]) hx hb dX12_doOne_115 hl (by decide) rfl (fun ls hl => ?_)
            have L_117_37 : ∀ (k_37 : Nat) (x_35 : Int32) (σ_36 : ST) (H : Heap) (locs : List Loc) (ls : Array Slot), (2147483647 - x_35.toInt).toNat < k_37 → (q_ow [(12, 38), (12, 39), (12, 40), (12, 41), (12, 42), (12, 43), (12, 44), (12, 45), (34, 99), (39, 99)] [] X σ σ_36) → (m_G (m_c X σ_36 a)) → (m_W (m_c X σ_36 a) (n + (σ_36.1 a 40).toInt)) → (∀ j, 654 ≤ j → m_c X σ_36 a j = m_c X σ a j) → ((σ.1 a 40).toInt ≤ (σ_36.1 a 40).toInt ∧ (σ_36.1 a 40).toInt ≤ 300) → (∀ b g, q_kd X b = 35 → σ_36.1 b g = σ.1 b g) → (F_X12_doOne_s_L117_4 X z_7 a v1 FA k_37 x_35 σ_36 = out) → q_I X 1 σ s.heap locs σ_36 H → lv_has ls 5 [(0, .ref a), (1, .int v1), (2, .int z_7), (3, .int f_8), (4, .int x_35)] → W p l e (q_rm (8 + 2 * d) (181 + 47 * d)) s m ([.ref a, .int v1] : List Value).toArray below meth c H locs 0 0 (MQ below (q_Qv X 1 σ (fun (σ' : ST) => (m_G (m_c X σ' a)) ∧ (m_W (m_c X σ' a) (n + (σ'.1 a 40).toInt)) ∧ (∀ j, 654 ≤ j → m_c X σ' a j = m_c X σ a j) ∧ ((σ.1 a 40).toInt ≤ (σ'.1 a 40).toInt ∧ (σ'.1 a 40).toInt ≤ 300) ∧ (∀ b g, q_kd X b = 35 → σ'.1 b g = σ.1 b g) ∧ σ' = F_X12_doOne_s X σ a v1 FA ∧ q_ow [(12, 38), (12, 39), (12, 40), (12, 41), (12, 42), (12, 43), (12, 44), (12, 45), (34, 99), (39, 99)] [] X σ σ')) ([.ref a, .int v1] : List Value).toArray s 0 0 (q_reg X)) (F0 m 117 ls []) := by
              clear hF
              intro k_37
              induction k_37 with
              | zero =>
                intro x_35 σ_36 H locs ls hms
                exact absurd hms (Nat.not_lt_zero _)
              | succ k_37 ih117 =>
                intro x_35 σ_36 H locs ls hm117 fr_σ_36 gσ_36 wσ_36 kqσ_36 dnσ_36 k5σ_36 hF hI hl
                replace hF := (F_X12_doOne_s_L117_4_s).symm.trans hF
                unfold F_X12_doOne_s_B117_4 at hF
                have q1 := kqσ_36 (656 + 9 * v1.toInt + 1) (by first | (clear hf ht hn hd hs gσ w0σ dnσ k5σ hh hQ if_1 gc_2_f_1 c_2 if_3 iz_4 mv40_σ_5 gσ_5 w0σ_5 dnσ_5 k5σ_5 iz_6 iz_7 if_8 gc_9_f_8 c_9 gc_10_f_8 ahpσ_30 bhpσ_30 chpσ_30 c_31 gc_32_f_8 wσ_5 hm117 gσ_36 wσ_36 dnσ_36 k5σ_36; omega) | omega)
                have q8 := kqσ_36 (656 + 9 * v1.toInt + 8) (by first | (clear hf ht hn hd hs gσ w0σ dnσ k5σ hh hQ if_1 gc_2_f_1 c_2 if_3 iz_4 mv40_σ_5 gσ_5 w0σ_5 dnσ_5 k5σ_5 iz_6 iz_7 if_8 gc_9_f_8 c_9 gc_10_f_8 ahpσ_30 bhpσ_30 chpσ_30 c_31 gc_32_f_8 wσ_5 hm117 gσ_36 wσ_36 dnσ_36 k5σ_36; omega) | omega)
                refine lv_iload hx hb dX12_doOne_117 (lv_at hl 4 rfl) ?_
                refine lv_aload_n hx hb dX12_doOne_119 rfl (lv_at hl 0 rfl) ?_
                refine gs_X12_35_12 E hI ha dX12_doOne_120 ?_
                refine lv_iload_n hx hb dX12_doOne_123 rfl (lv_at hl 2 rfl) ?_
                refine lv_iconst (v := 1) hx hb dX12_doOne_124 (by decide) ?_
                refine lv_iadd hx hb dX12_doOne_125 ?_
                refine lv_topi (fun z_38 ez_38 => ?_)
                replace hF := q_letX hF ez_38
                have iz_38 := q_addI (A := (656 + (9 * v1.toInt))) (B := 1) ez_38 iz_7 (by decide) (by first | (clear hf ht hn hd hs gσ w0σ dnσ k5σ hh hQ if_1 gc_2_f_1 c_2 if_3 iz_4 mv40_σ_5 gσ_5 w0σ_5 dnσ_5 k5σ_5 iz_6 iz_7 if_8 gc_9_f_8 c_9 gc_10_f_8 ahpσ_30 bhpσ_30 chpσ_30 c_31 gc_32_f_8 wσ_5 hm117 gσ_36 wσ_36 dnσ_36 k5σ_36; omega) | omega) (by first | (clear hf ht hn hd hs gσ w0σ dnσ k5σ hh hQ if_1 gc_2_f_1 c_2 if_3 iz_4 mv40_σ_5 gσ_5 w0σ_5 dnσ_5 k5σ_5 iz_6 iz_7 if_8 gc_9_f_8 c_9 gc_10_f_8 ahpσ_30 bhpσ_30 chpσ_30 c_31 gc_32_f_8 wσ_5 hm117 gσ_36 wσ_36 dnσ_36 k5σ_36; omega) | omega)
                refine q_iald E hI (q_tk (k' := 34) hI ha rfl (by decide)) ⟨by decide, rfl⟩ (by first | (clear hf ht hn hd hs gσ w0σ dnσ k5σ hh hQ if_1 gc_2_f_1 c_2 if_3 iz_4 mv40_σ_5 gσ_5 w0σ_5 dnσ_5 k5σ_5 iz_6 iz_7 if_8 gc_9_f_8 c_9 gc_10_f_8 ahpσ_30 bhpσ_30 chpσ_30 c_31 gc_32_f_8 wσ_5 hm117 gσ_36 wσ_36 dnσ_36 k5σ_36 iz_38; omega) | omega) (by rw [q_lnk (v := 4650) hI (q_tk (k' := 34) hI ha rfl (by decide)) rfl (by decide)]; omega) dX12_doOne_126 ?_
                refine lv_topi (fun f_39 ef_39 => ?_)
                replace hF := q_letX hF ef_39
                have if_39 : f_39.toInt = m_c X σ_36 a ((656 + (9 * v1.toInt)) + 1) := m_rd ef_39 iz_38
                have gc_40_x_35 := q_rng x_35
                have gc_40_f_39 := q_rng f_39
                refine q_icmp_ge (A := x_35.toInt) (B := f_39.toInt) E rfl rfl (tgt := 159) dX12_doOne_127 (by decide) (fun c_40 => ?_) (fun c_40 => ?_)
                · skip
                  replace hF := q_ifn hF (Int.not_lt.mpr c_40)
                  skip
                  refine lv_goto (tgt := 172) hx hb dX12_doOne_159 (by decide) ?_
                  exact q_retv E hr hlk hI ⟨gσ_36, (by first | exact wσ_36 | exact m_W.le w0σ_36 (by omega)), kqσ_36, dnσ_36, k5σ_36, (hF.trans hout), fr_σ_36⟩ dX12_doOne_172
                · skip
                  replace hF := q_ifp hF c_40
                  refine lv_aload_n hx hb dX12_doOne_130 rfl (lv_at hl 0 rfl) ?_
                  refine gs_X12_420_12 E hI ha dX12_doOne_131 ?_
                  refine lv_topi (fun f_41 ef_41 => ?_)
                  replace hF := q_letX hF ef_41
                  have if_41 : f_41.toInt = (σ_36.1 a 38).toInt := congrArg Int32.toInt ef_41
                  have bf_41 : 0 ≤ f_41.toInt ∧ f_41.toInt ≤ 1 := by rw [ef_41]; exact q_bd hI ha rfl
                  refine q_if_ne (A := f_41.toInt) E rfl (tgt := 159) dX12_doOne_134 (by decide) (fun c_42 => ?_) (fun c_42 => ?_)
                  · skip
                    replace hF := q_ifn hF c_42
                    skip
                    refine lv_goto (tgt := 172) hx hb dX12_doOne_159 (by decide) ?_
                    exact q_retv E hr hlk hI ⟨gσ_36, (by first | exact wσ_36 | exact m_W.le w0σ_36 (by omega)), kqσ_36, dnσ_36, k5σ_36, (hF.trans hout), fr_σ_36⟩ dX12_doOne_172
                  · skip
                    replace hF := q_ifp hF c_42
                    refine lv_aload_n hx hb dX12_doOne_137 rfl (lv_at hl 0 rfl) ?_
                    refine lv_iload_n hx hb dX12_doOne_138 rfl (lv_at hl 1 rfl) ?_
                    refine lv_iconst (v := 1) hx hb dX12_doOne_139 (by decide) ?_
                    refine lv_iadd hx hb dX12_doOne_140 ?_
                    refine lv_topi (fun z_43 ez_43 => ?_)
                    replace hF := q_letX hF ez_43
                    have iz_43 := q_addI (A := v1.toInt) (B := 1) ez_43 rfl (by decide) (by first | (clear hf ht hn hd hs gσ w0σ dnσ k5σ hh hQ if_1 gc_2_f_1 c_2 if_3 iz_4 mv40_σ_5 gσ_5 w0σ_5 dnσ_5 k5σ_5 iz_6 iz_7 if_8 gc_9_f_8 c_9 gc_10_f_8 ahpσ_30 bhpσ_30 chpσ_30 c_31 gc_32_f_8 wσ_5 hm117 gσ_36 wσ_36 dnσ_36 k5σ_36 iz_38 if_39 gc_40_x_35 gc_40_f_39 c_40 if_41 bf_41 c_42; omega) | omega) (by first | (clear hf ht hn hd hs gσ w0σ dnσ k5σ hh hQ if_1 gc_2_f_1 c_2 if_3 iz_4 mv40_σ_5 gσ_5 w0σ_5 dnσ_5 k5σ_5 iz_6 iz_7 if_8 gc_9_f_8 c_9 gc_10_f_8 ahpσ_30 bhpσ_30 chpσ_30 c_31 gc_32_f_8 wσ_5 hm117 gσ_36 wσ_36 dnσ_36 k5σ_36 iz_38 if_39 gc_40_x_35 gc_40_f_39 c_40 if_41 bf_41 c_42; omega) | omega)
                    refine lv_aload_n hx hb dX12_doOne_141 rfl (lv_at hl 0 rfl) ?_
                    refine gs_X12_35_12 E hI ha dX12_doOne_142 ?_
                    refine lv_iload_n hx hb dX12_doOne_145 rfl (lv_at hl 2 rfl) ?_
                    refine lv_bipush (v := 8) hx hb dX12_doOne_146 (by decide) ?_
                    refine lv_iadd hx hb dX12_doOne_148 ?_
                    refine lv_topi (fun z_44 ez_44 => ?_)
                    replace hF := q_letX hF ez_44
                    have iz_44 := q_addI (A := (656 + (9 * v1.toInt))) (B := 8) ez_44 iz_7 (by decide) (by first | (clear hf ht hn hd hs gσ w0σ dnσ k5σ hh hQ if_1 gc_2_f_1 c_2 if_3 iz_4 mv40_σ_5 gσ_5 w0σ_5 dnσ_5 k5σ_5 iz_6 iz_7 if_8 gc_9_f_8 c_9 gc_10_f_8 ahpσ_30 bhpσ_30 chpσ_30 c_31 gc_32_f_8 wσ_5 hm117 gσ_36 wσ_36 dnσ_36 k5σ_36 iz_38 if_39 gc_40_x_35 gc_40_f_39 c_40 if_41 bf_41 c_42 iz_43; omega) | omega) (by first | (clear hf ht hn hd hs gσ w0σ dnσ k5σ hh hQ if_1 gc_2_f_1 c_2 if_3 iz_4 mv40_σ_5 gσ_5 w0σ_5 dnσ_5 k5σ_5 iz_6 iz_7 if_8 gc_9_f_8 c_9 gc_10_f_8 ahpσ_30 bhpσ_30 chpσ_30 c_31 gc_32_f_8 wσ_5 hm117 gσ_36 wσ_36 dnσ_36 k5σ_36 iz_38 if_39 gc_40_x_35 gc_40_f_39 c_40 if_41 bf_41 c_42 iz_43; omega) | omega)
                    refine q_iald E hI (q_tk (k' := 34) hI ha rfl (by decide)) ⟨by decide, rfl⟩ (by first | (clear hf ht hn hd hs gσ w0σ dnσ k5σ hh hQ if_1 gc_2_f_1 c_2 if_3 iz_4 mv40_σ_5 gσ_5 w0σ_5 dnσ_5 k5σ_5 iz_6 iz_7 if_8 gc_9_f_8 c_9 gc_10_f_8 ahpσ_30 bhpσ_30 chpσ_30 c_31 gc_32_f_8 wσ_5 hm117 gσ_36 wσ_36 dnσ_36 k5σ_36 iz_38 if_39 gc_40_x_35 gc_40_f_39 c_40 if_41 bf_41 c_42 iz_43 iz_44; omega) | omega) (by rw [q_lnk (v := 4650) hI (q_tk (k' := 34) hI ha rfl (by decide)) rfl (by decide)]; omega) dX12_doOne_149 ?_
                    refine lv_topi (fun f_45 ef_45 => ?_)
                    replace hF := q_letX hF ef_45
                    have if_45 : f_45.toInt = m_c X σ_36 a ((656 + (9 * v1.toInt)) + 8) := m_rd ef_45 iz_44
                    refine q_cv (q_runV (As := [.int z_43, .int f_45]) (rest := []) E (hml.trans hl.1.symm) hI (hA σ_36 z_43 f_45 gσ_36 wσ_36 (by omega) (by first | (clear hf ht hn hd hs gσ w0σ dnσ k5σ hh hQ if_1 gc_2_f_1 c_2 if_3 iz_4 mv40_σ_5 gσ_5 w0σ_5 dnσ_5 k5σ_5 iz_6 iz_7 if_8 gc_9_f_8 c_9 gc_10_f_8 ahpσ_30 bhpσ_30 chpσ_30 c_31 gc_32_f_8 wσ_5 hm117 gσ_36 wσ_36 dnσ_36 k5σ_36 iz_38 if_39 gc_40_x_35 gc_40_f_39 c_40 if_41 bf_41 c_42 iz_43 iz_44 if_45; omega) | omega) (by first | (clear hf ht hn hd hs gσ w0σ dnσ k5σ hh hQ if_1 gc_2_f_1 c_2 if_3 iz_4 mv40_σ_5 gσ_5 w0σ_5 dnσ_5 k5σ_5 iz_6 iz_7 if_8 gc_9_f_8 c_9 gc_10_f_8 ahpσ_30 bhpσ_30 chpσ_30 c_31 gc_32_f_8 wσ_5 hm117 gσ_36 wσ_36 dnσ_36 k5σ_36 iz_38 if_39 gc_40_x_35 gc_40_f_39 c_40 if_41 bf_41 c_42 iz_43 iz_44 if_45; omega) | omega) (by rw [kqσ_36 655 (by decide)]; omega)) kv_X12_435 ha ⟨rfl, by decide⟩ (show vwCl[11]? = some (RX12, TX12, 46) from rfl) rfl (by constructor <;> (simp only [q_rm]; omega)) ⟨Nat.le_refl _, Nat.le_refl _⟩ rfl (Nat.le_of_ble_eq_true rfl) dX12_doOne_150) hI (by decide) (fun σ_47 H locs hpσ_47 hkσ_47 hI => ?_)
                    obtain ⟨ahpσ_47, bhpσ_47, chpσ_47, dhpσ_47, ehpσ_47, fhpσ_47, ghpσ_47⟩ := hpσ_47
                    have fr_σ_47 := fr_σ_36.call ghpσ_47 rfl rfl
                    replace hF := q_letX hF fhpσ_47
                    have gσ_47 : m_G (m_c X σ_47 a) := ahpσ_47
                    have wσ_47 : m_W (m_c X σ_47 a) (n + (σ_47.1 a 40).toInt) := bhpσ_47
                    have kqσ_47 : ∀ j, 654 ≤ j → m_c X σ_47 a j = m_c X σ a j := (fun j h => (chpσ_47 j h).trans (kqσ_36 j h))
                    have dnσ_47 : (σ.1 a 40).toInt ≤ (σ_47.1 a 40).toInt ∧ (σ_47.1 a 40).toInt ≤ 300 := (by first | (clear hf ht hn hd hs gσ w0σ dnσ k5σ hh hQ if_1 gc_2_f_1 c_2 if_3 iz_4 mv40_σ_5 gσ_5 w0σ_5 dnσ_5 k5σ_5 iz_6 iz_7 if_8 gc_9_f_8 c_9 gc_10_f_8 ahpσ_30 bhpσ_30 chpσ_30 c_31 gc_32_f_8 wσ_5 hm117 gσ_36 wσ_36 dnσ_36 k5σ_36 iz_38 if_39 gc_40_x_35 gc_40_f_39 c_40 if_41 bf_41 c_42 iz_43 iz_44 if_45 ahpσ_47 bhpσ_47 chpσ_47 dhpσ_47 ehpσ_47 fhpσ_47 gσ_47 wσ_47; omega) | omega)
                    have k5σ_47 : ∀ b g, q_kd X b = 35 → σ_47.1 b g = σ.1 b g := (fun b g q => (ehpσ_47 b g q).trans (k5σ_36 b g q))
                    obtain ⟨z_48, ez_48⟩ : ∃ y : Int32, y = x_35 + 1 := ⟨_, rfl⟩
                    replace hF := q_letX hF ez_48
                    refine lv_iinc (v := z_48) (lv' := [(4, .int z_48), (0, .ref a), (1, .int v1), (2, .int z_7), (3, .int f_8)]) hx hb dX12_doOne_153 hl (k := 4) rfl (by rw [ez_48]; rfl) (by decide) rfl (fun ls hl => ?_)
                    have iz_48 : z_48.toInt = x_35.toInt + 1 := q_inc ez_48 (by first | (clear hf ht hn hd hs gσ w0σ dnσ k5σ hh hQ if_1 gc_2_f_1 c_2 if_3 iz_4 mv40_σ_5 gσ_5 w0σ_5 dnσ_5 k5σ_5 iz_6 iz_7 if_8 gc_9_f_8 c_9 gc_10_f_8 ahpσ_30 bhpσ_30 chpσ_30 c_31 gc_32_f_8 wσ_5 hm117 gσ_36 wσ_36 dnσ_36 k5σ_36 iz_38 if_39 gc_40_x_35 gc_40_f_39 c_40 if_41 bf_41 c_42 iz_43 iz_44 if_45 ahpσ_47 bhpσ_47 chpσ_47 dhpσ_47 ehpσ_47 fhpσ_47 gσ_47 wσ_47 dnσ_47 k5σ_47; omega) | omega)
                    refine lv_goto (tgt := 117) hx hb dX12_doOne_156 (by decide) ?_
                    exact ih117 z_48 σ_47 _ _ ls (by first | (clear hf ht hn hd hs gσ w0σ dnσ k5σ hh hQ if_1 gc_2_f_1 c_2 if_3 iz_4 mv40_σ_5 gσ_5 w0σ_5 dnσ_5 k5σ_5 iz_6 iz_7 if_8 gc_9_f_8 c_9 gc_10_f_8 ahpσ_30 bhpσ_30 chpσ_30 c_31 gc_32_f_8 wσ_5 hm117 gσ_36 wσ_36 dnσ_36 k5σ_36 iz_38 if_39 gc_40_x_35 gc_40_f_39 c_40 if_41 bf_41 c_42 iz_43 iz_44 if_45 ahpσ_47 bhpσ_47 chpσ_47 dhpσ_47 ehpσ_47 fhpσ_47 gσ_47 wσ_47 dnσ_47 k5σ_47 iz_48; omega) | omega) fr_σ_47 gσ_47 wσ_47 kqσ_47 dnσ_47 k5σ_47 hF hI (lv_sub hl [1, 2, 3, 4, 0] rfl)
            have kc_49 : (0 : Int32).toInt = 0 := rfl
            exact L_117_37 ((2147483647 - (0 : Int32).toInt).toNat + 1) 0 σ_5 _ _ ls (Nat.lt_succ_self _) fr_σ_5 gσ_5 wσ_5 kqσ_5 dnσ_5 k5σ_5 hF hI (lv_sub hl [3, 4, 2, 1, 0] rfl)
        · skip
          replace hF := q_ifn hF c_31
          replace c_31 := q_ifOne bhpσ_30 c_31
          have wσ_5 : m_W (m_c X σ_5 a) (n + (σ_5.1 a 40).toInt) := m_W.le w0σ_5 (by first | (clear hf ht hn hd hs gσ w0σ dnσ k5σ hh hQ gc_2_f_1 c_2 gσ_5 w0σ_5 dnσ_5 k5σ_5 iz_6 iz_7 if_8 gc_9_f_8 c_9 gc_10_f_8 c_10 ahpσ_30 bhpσ_30 chpσ_30 c_31; omega) | omega)
          have q8 := kqσ_5 (656 + 9 * v1.toInt + 8) (by first | (clear hf ht hn hd gσ w0σ dnσ k5σ hh hQ if_1 gc_2_f_1 c_2 if_3 iz_4 mv40_σ_5 gσ_5 w0σ_5 dnσ_5 k5σ_5 iz_6 iz_7 if_8 gc_9_f_8 c_9 gc_10_f_8 c_10 ahpσ_30 bhpσ_30 chpσ_30 c_31 wσ_5; omega) | omega)
          refine lv_aload_n hx hb dX12_doOne_90 rfl (lv_at hl 2 rfl) ?_
          refine lv_iload_n hx hb dX12_doOne_91 rfl (lv_at hl 3 rfl) ?_
          refine lv_iconst (v := 1) hx hb dX12_doOne_92 (by decide) ?_
          refine lv_iadd hx hb dX12_doOne_93 ?_
          refine lv_topi (fun z_50 ez_50 => ?_)
          replace hF := q_letX hF ez_50
          have iz_50 := q_addI (A := v1.toInt) (B := 1) ez_50 rfl (by decide) (by first | (clear hf ht hn hd gσ w0σ dnσ k5σ hh hQ if_1 gc_2_f_1 c_2 if_3 iz_4 mv40_σ_5 gσ_5 w0σ_5 dnσ_5 k5σ_5 iz_6 iz_7 if_8 gc_9_f_8 c_9 gc_10_f_8 c_10 ahpσ_30 bhpσ_30 chpσ_30 c_31 wσ_5; omega) | omega) (by first | (clear hf ht hn hd gσ w0σ dnσ k5σ hh if_1 gc_2_f_1 c_2 if_3 iz_4 mv40_σ_5 gσ_5 w0σ_5 dnσ_5 k5σ_5 iz_6 iz_7 if_8 gc_9_f_8 c_9 gc_10_f_8 c_10 ahpσ_30 bhpσ_30 chpσ_30 c_31 wσ_5; omega) | omega)
          refine lv_aload_n hx hb dX12_doOne_94 rfl (lv_at hl 2 rfl) ?_
          refine gs_X12_35_12 E hI ha dX12_doOne_95 ?_
          refine lv_iload_n hx hb dX12_doOne_98 rfl (lv_at hl 1 rfl) ?_
          refine lv_bipush (v := 8) hx hb dX12_doOne_99 (by decide) ?_
          refine lv_iadd hx hb dX12_doOne_101 ?_
          refine lv_topi (fun z_51 ez_51 => ?_)
          replace hF := q_letX hF ez_51
          have iz_51 := q_addI (A := (656 + (9 * v1.toInt))) (B := 8) ez_51 iz_7 (by decide) (by first | (clear hf ht hn hd gσ w0σ dnσ k5σ hh hQ if_1 gc_2_f_1 c_2 if_3 iz_4 mv40_σ_5 gσ_5 w0σ_5 dnσ_5 k5σ_5 iz_6 iz_7 if_8 gc_9_f_8 c_9 gc_10_f_8 c_10 ahpσ_30 bhpσ_30 chpσ_30 c_31 wσ_5; omega) | omega) (by first | (clear hf ht hn hd gσ w0σ dnσ k5σ hh if_1 gc_2_f_1 c_2 if_3 iz_4 mv40_σ_5 gσ_5 w0σ_5 dnσ_5 k5σ_5 iz_6 iz_7 if_8 gc_9_f_8 c_9 gc_10_f_8 c_10 ahpσ_30 bhpσ_30 chpσ_30 c_31 wσ_5; omega) | omega)
          refine q_iald E hI (q_tk (k' := 34) hI ha rfl (by decide)) ⟨by decide, rfl⟩ (by first | (clear hf ht hn hd gσ w0σ dnσ k5σ hh if_1 gc_2_f_1 c_2 if_3 iz_4 mv40_σ_5 gσ_5 w0σ_5 dnσ_5 k5σ_5 iz_6 iz_7 if_8 gc_9_f_8 c_9 gc_10_f_8 c_10 ahpσ_30 bhpσ_30 chpσ_30 c_31 wσ_5; omega) | omega) (by rw [q_lnk (v := 4650) hI (q_tk (k' := 34) hI ha rfl (by decide)) rfl (by decide)]; omega) dX12_doOne_102 ?_
          refine lv_topi (fun f_52 ef_52 => ?_)
          replace hF := q_letX hF ef_52
          have if_52 : f_52.toInt = m_c X σ_5 a ((656 + (9 * v1.toInt)) + 8) := m_rd ef_52 iz_51
          refine q_cv (q_runV (As := [.int z_50, .int f_52]) (rest := []) E (hml.trans hl.1.symm) hI (hA σ_5 z_50 f_52 gσ_5 wσ_5 (by omega) (by first | (clear hf ht hn hs gσ w0σ dnσ k5σ hh hQ gc_2_f_1 c_2 gσ_5 w0σ_5 k5σ_5 iz_6 iz_7 if_8 gc_9_f_8 c_9 gc_10_f_8 c_10 ahpσ_30 bhpσ_30 chpσ_30 c_31 wσ_5 iz_50 iz_51 if_52; omega) | omega) (by first | (clear hf ht hn hd gσ w0σ dnσ k5σ hh hQ if_1 gc_2_f_1 c_2 if_3 iz_4 mv40_σ_5 gσ_5 w0σ_5 dnσ_5 k5σ_5 iz_6 iz_7 if_8 gc_9_f_8 c_9 gc_10_f_8 c_10 ahpσ_30 bhpσ_30 chpσ_30 c_31 wσ_5 iz_51 if_52; omega) | omega) (by rw [kqσ_5 655 (by decide)]; omega)) kv_X12_435 ha ⟨rfl, by decide⟩ (show vwCl[11]? = some (RX12, TX12, 46) from rfl) rfl (by constructor <;> (simp only [q_rm]; omega)) ⟨Nat.le_refl _, Nat.le_refl _⟩ rfl (Nat.le_of_ble_eq_true rfl) dX12_doOne_103) hI (by decide) (fun σ_54 H locs hpσ_54 hkσ_54 hI => ?_)
          obtain ⟨ahpσ_54, bhpσ_54, chpσ_54, dhpσ_54, ehpσ_54, fhpσ_54, ghpσ_54⟩ := hpσ_54
          have fr_σ_54 := fr_σ_5.call ghpσ_54 rfl rfl
          replace hF := q_letX hF fhpσ_54
          have gσ_54 : m_G (m_c X σ_54 a) := ahpσ_54
          have wσ_54 : m_W (m_c X σ_54 a) (n + (σ_54.1 a 40).toInt) := bhpσ_54
          have kqσ_54 : ∀ j, 654 ≤ j → m_c X σ_54 a j = m_c X σ a j := (fun j h => (chpσ_54 j h).trans (kqσ_5 j h))
          have dnσ_54 : (σ.1 a 40).toInt ≤ (σ_54.1 a 40).toInt ∧ (σ_54.1 a 40).toInt ≤ 300 := (by first | (clear hf ht hn hd hs gσ w0σ dnσ k5σ hh hQ gc_2_f_1 c_2 gσ_5 w0σ_5 dnσ_5 k5σ_5 iz_6 iz_7 if_8 gc_9_f_8 c_9 gc_10_f_8 c_10 ahpσ_30 bhpσ_30 chpσ_30 c_31 wσ_5 iz_50 iz_51 if_52 ahpσ_54 bhpσ_54 chpσ_54 ehpσ_54 fhpσ_54 gσ_54 wσ_54; omega) | omega)
          have k5σ_54 : ∀ b g, q_kd X b = 35 → σ_54.1 b g = σ.1 b g := (fun b g q => (ehpσ_54 b g q).trans (k5σ_5 b g q))
          refine lv_goto (tgt := 172) hx hb dX12_doOne_106 (by decide) ?_
          exact q_retv E hr hlk hI ⟨gσ_54, (by first | exact wσ_54 | exact m_W.le w0σ_54 (by omega)), kqσ_54, dnσ_54, k5σ_54, (hF.trans hout), fr_σ_54⟩ dX12_doOne_172
    · skip
      replace hF := q_ifp hF c_9
      refine lv_aload_n hx hb dX12_doOne_52 rfl (lv_at hl 2 rfl) ?_
      refine lv_dup hx hb dX12_doOne_53 rfl ?_
      refine gs_X12_426_12 E hI ha dX12_doOne_54 ?_
      refine lv_topi (fun f_55 ef_55 => ?_)
      replace hF := q_letX hF ef_55
      have if_55 : f_55.toInt = (σ_5.1 a 41).toInt := congrArg Int32.toInt ef_55
      refine lv_aload_n hx hb dX12_doOne_57 rfl (lv_at hl 2 rfl) ?_
      refine lv_iload_n hx hb dX12_doOne_58 rfl (lv_at hl 1 rfl) ?_
      refine q_ci (q_runV (As := [.int z_7]) (rest := [.int f_55, .ref a]) E (hml.trans hl.1.symm) hI (c_X12_does l X σ_5 a z_7 (n + (σ.1 a 40).toInt) ha (by rw [fxσ_5]; exact hG) (by rw [fxσ_5]; exact hW) (by first | (clear hf ht hs gσ w0σ dnσ k5σ hh hQ gc_2_f_1 c_2 gσ_5 w0σ_5 k5σ_5 iz_6 iz_7 if_8 gc_9_f_8 c_9 if_55; omega) | omega) (by first | (clear hf ht hn hd gσ w0σ dnσ k5σ hh if_1 gc_2_f_1 c_2 if_3 iz_4 mv40_σ_5 gσ_5 w0σ_5 dnσ_5 k5σ_5 iz_6 if_8 gc_9_f_8 c_9 if_55; omega) | omega) (by rw [fxσ_5]; exact (by rw [iz_7]; omega)) (by rw [fxσ_5]; exact (by rw [iz_7]; omega))) kv_X12_429 ha ⟨rfl, by decide⟩ (show vwCl[11]? = some (RX12, TX12, 46) from rfl) rfl (by constructor <;> (simp only [q_rm]; omega)) ⟨Nat.le_refl _, Nat.le_refl _⟩ rfl (Nat.le_of_ble_eq_true rfl) dX12_doOne_59) hI (by decide) (fun r_56 σ_57 H locs hpσ_57 hkσ_57 hI => ?_)
      obtain ⟨ahpσ_57, bhpσ_57, chpσ_57, dhpσ_57, ehpσ_57, fhpσ_57, ghpσ_57⟩ := hpσ_57
      rw [fxσ_5] at dhpσ_57
      have fr_σ_57 := fr_σ_5.call ghpσ_57 rfl rfl
      replace hF := q_biX hF fhpσ_57
      have gσ_57 : m_G (m_c X σ_57 a) := bhpσ_57
      have wσ_57 : m_W (m_c X σ_57 a) (n + (σ_57.1 a 40).toInt) := (m_W.le chpσ_57 (by have q := congrArg Int32.toInt (ehpσ_57 a 40 (Or.inr ⟨ha, rfl⟩)); omega))
      have kqσ_57 : ∀ j, 654 ≤ j → m_c X σ_57 a j = m_c X σ a j := dhpσ_57
      have dnσ_57 : (σ.1 a 40).toInt ≤ (σ_57.1 a 40).toInt ∧ (σ_57.1 a 40).toInt ≤ 300 := (by have q := congrArg Int32.toInt (ehpσ_57 a 40 (Or.inr ⟨ha, rfl⟩)); omega)
      have k5σ_57 : ∀ b g, q_kd X b = 35 → σ_57.1 b g = σ.1 b g := (fun b g q => (ehpσ_57 b g (Or.inl q)).trans (k5σ_5 b g q))
      refine q_if_eq (A := r_56.toInt) E rfl (tgt := 69) dX12_doOne_62 (by decide) (fun c_58 => ?_) (fun c_58 => ?_)
      · skip
        replace hF := q_ifp hF c_58
        refine lv_iconst (v := 1) hx hb dX12_doOne_69 (by decide) ?_
        refine lv_iadd hx hb dX12_doOne_70 ?_
        refine lv_topi (fun z_59 ez_59 => ?_)
        replace hF := q_letX hF ez_59
        refine ps_X12_426_12 E hI ha (by decide) dX12_doOne_71 (fun H locs σ_60 hσ_60 hI => ?_)
        replace hF := q_letX hF hσ_60
        have fr_σ_60 := fr_σ_57.si hσ_60 ha rfl
        have mv40_σ_60 : (σ_60.1 a 40).toInt = (σ_57.1 a 40).toInt := congrArg Int32.toInt (q_rdn hσ_60 (Or.inr (by decide)))
        have mcσ_60 := m_wo hσ_60 (m_ne ha (q_tk (f := 20) (k' := 34) hI ha rfl (by decide)) (by decide))
        have gσ_60 : m_G (m_c X σ_60 a) := m_G.ext (fun j _ _ => mcσ_60 j) gσ_57
        have wσ_60 : m_W (m_c X σ_60 a) (n + (σ_60.1 a 40).toInt) := (m_W.le (m_W.ext (fun j _ _ => mcσ_60 j) wσ_57) (by first | (clear hf ht hn hd hs gσ w0σ dnσ k5σ hh hQ if_1 gc_2_f_1 c_2 if_3 iz_4 mv40_σ_5 gσ_5 w0σ_5 dnσ_5 k5σ_5 iz_6 iz_7 if_8 gc_9_f_8 c_9 if_55 ahpσ_57 bhpσ_57 chpσ_57 dhpσ_57 ehpσ_57 fhpσ_57 gσ_57 wσ_57 dnσ_57 k5σ_57 c_58 gσ_60; omega) | omega))
        have kqσ_60 : ∀ j, 654 ≤ j → m_c X σ_60 a j = m_c X σ a j := fun j h => (mcσ_60 j).trans (kqσ_57 j h)
        have dnσ_60 : (σ.1 a 40).toInt ≤ (σ_60.1 a 40).toInt ∧ (σ_60.1 a 40).toInt ≤ 300 := (by first | (clear hf ht hn hd hs gσ w0σ dnσ k5σ hh hQ gc_2_f_1 c_2 gσ_5 w0σ_5 dnσ_5 k5σ_5 iz_6 iz_7 if_8 gc_9_f_8 c_9 if_55 ahpσ_57 bhpσ_57 chpσ_57 dhpσ_57 ehpσ_57 fhpσ_57 gσ_57 wσ_57 k5σ_57 c_58 gσ_60 wσ_60; omega) | omega)
        have k5σ_60 : ∀ b g, q_kd X b = 35 → σ_60.1 b g = σ.1 b g := (fun b g q => (q_rdn hσ_60 (Or.inl (m_ne q ha (by decide)))).trans (k5σ_57 b g q))
        refine lv_goto (tgt := 172) hx hb dX12_doOne_74 (by decide) ?_
        exact q_retv E hr hlk hI ⟨gσ_60, (by first | exact wσ_60 | exact m_W.le w0σ_60 (by omega)), kqσ_60, dnσ_60, k5σ_60, (hF.trans hout), fr_σ_60⟩ dX12_doOne_172
      · skip
        replace hF := q_ifn hF c_58
        replace c_58 := q_ifOne ahpσ_57 c_58
        refine lv_iconst (v := 0) hx hb dX12_doOne_65 (by decide) ?_
        refine lv_goto (tgt := 70) hx hb dX12_doOne_66 (by decide) ?_
        refine lv_iadd hx hb dX12_doOne_70 ?_
        refine lv_topi (fun z_61 ez_61 => ?_)
        replace hF := q_letX hF ez_61
        refine ps_X12_426_12 E hI ha (by decide) dX12_doOne_71 (fun H locs σ_62 hσ_62 hI => ?_)
        replace hF := q_letX hF hσ_62
        have fr_σ_62 := fr_σ_57.si hσ_62 ha rfl
        have mv40_σ_62 : (σ_62.1 a 40).toInt = (σ_57.1 a 40).toInt := congrArg Int32.toInt (q_rdn hσ_62 (Or.inr (by decide)))
        have mcσ_62 := m_wo hσ_62 (m_ne ha (q_tk (f := 20) (k' := 34) hI ha rfl (by decide)) (by decide))
        have gσ_62 : m_G (m_c X σ_62 a) := m_G.ext (fun j _ _ => mcσ_62 j) gσ_57
        have wσ_62 : m_W (m_c X σ_62 a) (n + (σ_62.1 a 40).toInt) := (m_W.le (m_W.ext (fun j _ _ => mcσ_62 j) wσ_57) (by first | (clear hf ht hn hd hs gσ w0σ dnσ k5σ hh hQ if_1 gc_2_f_1 c_2 if_3 iz_4 mv40_σ_5 gσ_5 w0σ_5 dnσ_5 k5σ_5 iz_6 iz_7 if_8 gc_9_f_8 c_9 if_55 ahpσ_57 bhpσ_57 chpσ_57 dhpσ_57 ehpσ_57 fhpσ_57 gσ_57 wσ_57 dnσ_57 k5σ_57 c_58 gσ_62; omega) | omega))
        have kqσ_62 : ∀ j, 654 ≤ j → m_c X σ_62 a j = m_c X σ a j := fun j h => (mcσ_62 j).trans (kqσ_57 j h)
        have dnσ_62 : (σ.1 a 40).toInt ≤ (σ_62.1 a 40).toInt ∧ (σ_62.1 a 40).toInt ≤ 300 := (by first | (clear hf ht hn hd hs gσ w0σ dnσ k5σ hh hQ gc_2_f_1 c_2 gσ_5 w0σ_5 dnσ_5 k5σ_5 iz_6 iz_7 if_8 gc_9_f_8 c_9 if_55 ahpσ_57 bhpσ_57 chpσ_57 dhpσ_57 ehpσ_57 fhpσ_57 gσ_57 wσ_57 k5σ_57 c_58 gσ_62 wσ_62; omega) | omega)
        have k5σ_62 : ∀ b g, q_kd X b = 35 → σ_62.1 b g = σ.1 b g := (fun b g q => (q_rdn hσ_62 (Or.inl (m_ne q ha (by decide)))).trans (k5σ_57 b g q))
        refine lv_goto (tgt := 172) hx hb dX12_doOne_74 (by decide) ?_
        exact q_retv E hr hlk hI ⟨gσ_62, (by first | exact wσ_62 | exact m_W.le w0σ_62 (by omega)), kqσ_62, dnσ_62, k5σ_62, (hF.trans hout), fr_σ_62⟩ dX12_doOne_172
  · skip
    replace hF := q_ifp hF c_2
    refine lv_aload_n hx hb dX12_doOne_10 rfl (lv_at hl 0 rfl) ?_
    refine lv_iconst (v := 1) hx hb dX12_doOne_11 (by decide) ?_
    refine ps_X12_420_12 E hI ha (by decide) (by decide) (by decide) dX12_doOne_12 (fun H locs σ_63 hσ_63 hI => ?_)
    replace hF := q_letX hF hσ_63
    have fr_σ_63 := fr_σ.si hσ_63 ha rfl
    have mv40_σ_63 : (σ_63.1 a 40).toInt = (σ.1 a 40).toInt := congrArg Int32.toInt (q_rdn hσ_63 (Or.inr (by decide)))
    have mcσ_63 := m_wo hσ_63 (m_ne ha (q_tk (f := 20) (k' := 34) hI ha rfl (by decide)) (by decide))
    have gσ_63 : m_G (m_c X σ_63 a) := m_G.ext (fun j _ _ => mcσ_63 j) gσ
    have w0σ_63 : m_W (m_c X σ_63 a) (n + (σ.1 a 40).toInt) := m_W.ext (fun j _ _ => mcσ_63 j) w0σ
    have kqσ_63 : ∀ j, 654 ≤ j → m_c X σ_63 a j = m_c X σ a j := fun j h => (mcσ_63 j).trans (kqσ j h)
    have dnσ_63 : (σ.1 a 40).toInt ≤ (σ_63.1 a 40).toInt ∧ (σ_63.1 a 40).toInt ≤ 300 := (by first | (clear hf ht hn hd hs gσ w0σ dnσ k5σ hh hQ gc_2_f_1 gσ_63 w0σ_63; omega) | omega)
    have k5σ_63 : ∀ b g, q_kd X b = 35 → σ_63.1 b g = σ.1 b g := (fun b g q => (q_rdn hσ_63 (Or.inl (m_ne q ha (by decide)))).trans (k5σ b g q))
    have fxσ_63 : m_c X σ_63 a = m_c X σ a := (funext mcσ_63).trans fxσ
    refine lv_aload_n hx hb dX12_doOne_15 rfl (lv_at hl 0 rfl) ?_
    refine lv_iconst (v := 1) hx hb dX12_doOne_16 (by decide) ?_
    refine ps_X12_423_12 E hI ha (by decide) dX12_doOne_17 (fun H locs σ_64 hσ_64 hI => ?_)
    replace hF := q_letX hF hσ_64
    have fr_σ_64 := fr_σ_63.si hσ_64 ha rfl
    have mv40_σ_64 : (σ_64.1 a 40).toInt = (σ_63.1 a 40).toInt := congrArg Int32.toInt (q_rdn hσ_64 (Or.inr (by decide)))
    have mcσ_64 := m_wo hσ_64 (m_ne ha (q_tk (f := 20) (k' := 34) hI ha rfl (by decide)) (by decide))
    have gσ_64 : m_G (m_c X σ_64 a) := m_G.ext (fun j _ _ => mcσ_64 j) gσ_63
    have w0σ_64 : m_W (m_c X σ_64 a) (n + (σ.1 a 40).toInt) := m_W.ext (fun j _ _ => mcσ_64 j) w0σ_63
    have kqσ_64 : ∀ j, 654 ≤ j → m_c X σ_64 a j = m_c X σ a j := fun j h => (mcσ_64 j).trans (kqσ_63 j h)
    have dnσ_64 : (σ.1 a 40).toInt ≤ (σ_64.1 a 40).toInt ∧ (σ_64.1 a 40).toInt ≤ 300 := (by first | (clear hf ht hn hd hs gσ w0σ dnσ k5σ hh hQ gc_2_f_1 gσ_63 w0σ_63 dnσ_63 k5σ_63 gσ_64 w0σ_64; omega) | omega)
    have k5σ_64 : ∀ b g, q_kd X b = 35 → σ_64.1 b g = σ.1 b g := (fun b g q => (q_rdn hσ_64 (Or.inl (m_ne q ha (by decide)))).trans (k5σ_63 b g q))
    have fxσ_64 : m_c X σ_64 a = m_c X σ a := (funext mcσ_64).trans fxσ_63
    exact q_retv E hr hlk hI ⟨gσ_64, (by first | exact wσ_64 | exact m_W.le w0σ_64 (by first | (clear hf ht hn hd hs gσ w0σ dnσ k5σ hh hQ gc_2_f_1 gσ_63 w0σ_63 dnσ_63 k5σ_63 gσ_64 w0σ_64 dnσ_64 k5σ_64; omega) | omega)), kqσ_64, dnσ_64, k5σ_64, (hF.trans hout), fr_σ_64⟩ dX12_doOne_20

set_option maxRecDepth 100000 in
set_option maxHeartbeats 4000000 in
theorem c_X12_doAll_s (l : Launch) (X : XW) (σ : ST) (a : Nat) (v1 : Int32) (v2 : Int32) (n : Int) (d : Nat) (FO : ST → Int32 → ST) (hO : ∀ (σ : ST) (v1 : Int32) (hG : m_G (m_c X σ a)) (hW : m_W (m_c X σ a) (n + (σ.1 a 40).toInt)) (hn : 0 ≤ n ∧ n ≤ 199500) (hd : 0 ≤ (σ.1 a 40).toInt ∧ (σ.1 a 40).toInt ≤ 300) (hs : 29 - (d : Int) ≤ v1.toInt ∧ 0 ≤ v1.toInt ∧ v1.toInt < m_c X σ a 655), Met l yX12_doOne (q_ws yX12_doOne cX12_doOne 5 none) (q_rm (8 + 2 * d) (181 + 47 * d)) (q_P X σ [.ref a, .int v1]) (q_Qv X 1 σ (fun (σ' : ST) => (m_G (m_c X σ' a)) ∧ (m_W (m_c X σ' a) (n + (σ'.1 a 40).toInt)) ∧ (∀ j, 654 ≤ j → m_c X σ' a j = m_c X σ a j) ∧ ((σ.1 a 40).toInt ≤ (σ'.1 a 40).toInt ∧ (σ'.1 a 40).toInt ≤ 300) ∧ (∀ b g, q_kd X b = 35 → σ'.1 b g = σ.1 b g) ∧ σ' = FO σ v1 ∧ q_ow [(12, 38), (12, 39), (12, 40), (12, 41), (12, 42), (12, 43), (12, 44), (12, 45), (34, 99), (39, 99)] [] X σ σ')) 0 0 (q_reg X)) (ha : q_kd X a = 12) (hG : m_G (m_c X σ a)) (hW : m_W (m_c X σ a) (n + (σ.1 a 40).toInt)) (hn : 0 ≤ n ∧ n ≤ 199500) (hd : 0 ≤ (σ.1 a 40).toInt ∧ (σ.1 a 40).toInt ≤ 300) (hf : 29 - (d : Int) ≤ v1.toInt ∧ 0 ≤ v1.toInt) (ht : v2.toInt ≤ m_c X σ a 655) : Met l yX12_doAll (q_ws yX12_doAll cX12_doAll 4 none) (q_rm (7 + 2 * (d + 1)) (158 + 47 * (d + 1))) (q_P X σ [.ref a, .int v1, .int v2]) (q_Qv X 1 σ (fun (σ' : ST) => (m_G (m_c X σ' a)) ∧ (m_W (m_c X σ' a) (n + (σ'.1 a 40).toInt)) ∧ (∀ j, 654 ≤ j → m_c X σ' a j = m_c X σ a j) ∧ ((σ.1 a 40).toInt ≤ (σ'.1 a 40).toInt ∧ (σ'.1 a 40).toInt ≤ 300) ∧ (∀ b g, q_kd X b = 35 → σ'.1 b g = σ.1 b g) ∧ σ' = F_X12_doAll_s X σ a v1 v2 FO ∧ q_ow [(12, 38), (12, 39), (12, 40), (12, 41), (12, 42), (12, 43), (12, 44), (12, 45), (34, 99), (39, 99)] [] X σ σ')) 0 0 (q_reg X) := by
  refine q_met 1 (by first | exact rfl | decide +kernel) rfl (Nat.le_of_ble_eq_true rfl) (fun p e s m below meth c E hml hr hlk hI ls hl => ?_)
  have hx := E.1
  have hb := E.2.1
  have hl : lv_has ls 4 [(0, .ref a), (1, .int v1), (2, .int v2)] := hl
  have gσ : m_G (m_c X σ a) := hG
  have wσ : m_W (m_c X σ a) (n + (σ.1 a 40).toInt) := hW
  have kqσ : ∀ j, 654 ≤ j → m_c X σ a j = m_c X σ a j := fun _ _ => rfl
  have dnσ : (σ.1 a 40).toInt ≤ (σ.1 a 40).toInt ∧ (σ.1 a 40).toInt ≤ 300 := (by first | (clear hs hn hf ht gσ wσ; omega) | omega)
  have k5σ : ∀ b g, q_kd X b = 35 → σ.1 b g = σ.1 b g := fun _ _ _ => rfl
  have fr_σ : q_ow [(12, 38), (12, 39), (12, 40), (12, 41), (12, 42), (12, 43), (12, 44), (12, 45), (34, 99), (39, 99)] [] X σ σ := q_ow.rf
  have hh := hG.hd
  have hQ := hG.2.2.2.2.2.1
  obtain ⟨out, hout⟩ : ∃ o, o = F_X12_doAll_s X σ a v1 v2 FO := ⟨_, rfl⟩
  have hF := hout.symm
  unfold F_X12_doAll_s at hF
  refine lv_iload_n hx hb dX12_doAll_0 rfl (lv_at hl 1 rfl) ?_
  refine lv_istore_n (lv' := [(3, .int v1), (0, .ref a), (1, .int v1), (2, .int v2)]) hx hb dX12_doAll_1 rfl hl (by decide) rfl (fun ls hl => ?_)
  have L_2_3 : ∀ (k_3 : Nat) (x_1 : Int32) (σ_2 : ST) (H : Heap) (locs : List Loc) (ls : Array Slot), (31 - x_1.toInt).toNat < k_3 → (29 - (d : Int) ≤ x_1.toInt ∧ 0 ≤ x_1.toInt) → (q_ow [(12, 38), (12, 39), (12, 40), (12, 41), (12, 42), (12, 43), (12, 44), (12, 45), (34, 99), (39, 99)] [] X σ σ_2) → (m_G (m_c X σ_2 a)) → (m_W (m_c X σ_2 a) (n + (σ_2.1 a 40).toInt)) → (∀ j, 654 ≤ j → m_c X σ_2 a j = m_c X σ a j) → ((σ.1 a 40).toInt ≤ (σ_2.1 a 40).toInt ∧ (σ_2.1 a 40).toInt ≤ 300) → (∀ b g, q_kd X b = 35 → σ_2.1 b g = σ.1 b g) → (F_X12_doAll_s_L2_1 X v2 a FO k_3 x_1 σ_2 = out) → q_I X 1 σ s.heap locs σ_2 H → lv_has ls 4 [(0, .ref a), (1, .int v1), (2, .int v2), (3, .int x_1)] → W p l e (q_rm (7 + 2 * (d + 1)) (158 + 47 * (d + 1))) s m ([.ref a, .int v1, .int v2] : List Value).toArray below meth c H locs 0 0 (MQ below (q_Qv X 1 σ (fun (σ' : ST) => (m_G (m_c X σ' a)) ∧ (m_W (m_c X σ' a) (n + (σ'.1 a 40).toInt)) ∧ (∀ j, 654 ≤ j → m_c X σ' a j = m_c X σ a j) ∧ ((σ.1 a 40).toInt ≤ (σ'.1 a 40).toInt ∧ (σ'.1 a 40).toInt ≤ 300) ∧ (∀ b g, q_kd X b = 35 → σ'.1 b g = σ.1 b g) ∧ σ' = F_X12_doAll_s X σ a v1 v2 FO ∧ q_ow [(12, 38), (12, 39), (12, 40), (12, 41), (12, 42), (12, 43), (12, 44), (12, 45), (34, 99), (39, 99)] [] X σ σ')) ([.ref a, .int v1, .int v2] : List Value).toArray s 0 0 (q_reg X)) (F0 m 2 ls []) := by
    clear hF
    intro k_3
    induction k_3 with
    | zero =>
      intro x_1 σ_2 H locs ls hms
      try clear kqσ; try clear dnσ; try clear fr_σ
      exact absurd hms (Nat.not_lt_zero _)
    | succ k_3 ih2 =>
      intro x_1 σ_2 H locs ls hm2 hge2 fr_σ_2 gσ_2 wσ_2 kqσ_2 dnσ_2 k5σ_2 hF hI hl
      replace hF := (F_X12_doAll_s_L2_1_s).symm.trans hF
      unfold F_X12_doAll_s_B2_1 at hF
      have q5 := kqσ_2 655 (by decide)
      refine lv_iload_n hx hb dX12_doAll_2 rfl (lv_at hl 3 rfl) ?_
      refine lv_iload_n hx hb dX12_doAll_3 rfl (lv_at hl 2 rfl) ?_
      have gc_4_x_1 := q_rng x_1
      have gc_4_v2 := q_rng v2
      refine q_icmp_ge (A := x_1.toInt) (B := v2.toInt) E rfl rfl (tgt := 39) dX12_doAll_4 (by decide) (fun c_4 => ?_) (fun c_4 => ?_)
      · skip
        replace hF := q_ifn hF (Int.not_lt.mpr c_4)
        skip
        exact q_retv E hr hlk hI ⟨gσ_2, (by first | exact wσ_2 | exact m_W.le w0σ_2 (by omega)), kqσ_2, dnσ_2, k5σ_2, (hF.trans hout), fr_σ_2⟩ dX12_doAll_39
      · skip
        replace hF := q_ifp hF c_4
        refine lv_aload_n hx hb dX12_doAll_7 rfl (lv_at hl 0 rfl) ?_
        refine gs_X12_420_12 E hI ha dX12_doAll_8 ?_
        refine lv_topi (fun f_5 ef_5 => ?_)
        replace hF := q_letX hF ef_5
        have if_5 : f_5.toInt = (σ_2.1 a 38).toInt := congrArg Int32.toInt ef_5
        have bf_5 : 0 ≤ f_5.toInt ∧ f_5.toInt ≤ 1 := by rw [ef_5]; exact q_bd hI ha rfl
        refine q_if_ne (A := f_5.toInt) E rfl (tgt := 39) dX12_doAll_11 (by decide) (fun c_6 => ?_) (fun c_6 => ?_)
        · skip
          replace hF := q_ifn hF c_6
          skip
          exact q_retv E hr hlk hI ⟨gσ_2, (by first | exact wσ_2 | exact m_W.le w0σ_2 (by omega)), kqσ_2, dnσ_2, k5σ_2, (hF.trans hout), fr_σ_2⟩ dX12_doAll_39
        · skip
          replace hF := q_ifp hF c_6
          refine lv_aload_n hx hb dX12_doAll_14 rfl (lv_at hl 0 rfl) ?_
          refine lv_iload_n hx hb dX12_doAll_15 rfl (lv_at hl 3 rfl) ?_
          refine q_cv (q_runV (As := [.int x_1]) (rest := []) E (hml.trans hl.1.symm) hI (hO σ_2 x_1 gσ_2 wσ_2 (by omega) (by first | (clear hs hn hf ht gσ wσ k5σ hh hQ hm2 hge2 gσ_2 wσ_2 k5σ_2 gc_4_x_1 gc_4_v2 c_4 if_5 bf_5 c_6; omega) | omega) (by first | (clear hs hn hd hf gσ wσ k5σ hh hQ hm2 gσ_2 wσ_2 dnσ_2 k5σ_2 gc_4_v2 if_5 bf_5 c_6; omega) | omega)) kv_X12_438 ha ⟨rfl, by decide⟩ (show vwCl[11]? = some (RX12, TX12, 46) from rfl) rfl (by constructor <;> (simp only [q_rm]; omega)) ⟨Nat.le_refl _, Nat.le_refl _⟩ rfl (Nat.le_of_ble_eq_true rfl) dX12_doAll_16) hI (by decide) (fun σ_8 H locs hpσ_8 hkσ_8 hI => ?_)
          obtain ⟨ahpσ_8, bhpσ_8, chpσ_8, dhpσ_8, ehpσ_8, fhpσ_8, ghpσ_8⟩ := hpσ_8
          have fr_σ_8 := fr_σ_2.call ghpσ_8 rfl rfl
          replace hF := q_letX hF fhpσ_8
          have gσ_8 : m_G (m_c X σ_8 a) := ahpσ_8
          have wσ_8 : m_W (m_c X σ_8 a) (n + (σ_8.1 a 40).toInt) := bhpσ_8
          have kqσ_8 : ∀ j, 654 ≤ j → m_c X σ_8 a j = m_c X σ a j := (fun j h => (chpσ_8 j h).trans (kqσ_2 j h))
          have dnσ_8 : (σ.1 a 40).toInt ≤ (σ_8.1 a 40).toInt ∧ (σ_8.1 a 40).toInt ≤ 300 := (by first | (clear hs hn hd hf ht gσ wσ k5σ hh hQ hm2 hge2 gσ_2 wσ_2 k5σ_2 gc_4_x_1 gc_4_v2 c_4 if_5 bf_5 c_6 ahpσ_8 bhpσ_8 chpσ_8 ehpσ_8 fhpσ_8 gσ_8 wσ_8; omega) | omega)
          have k5σ_8 : ∀ b g, q_kd X b = 35 → σ_8.1 b g = σ.1 b g := (fun b g q => (ehpσ_8 b g q).trans (k5σ_2 b g q))
          have q8 := kqσ_8 (656 + 9 * x_1.toInt + 8) (by first | (clear hs hn hd hf ht gσ wσ k5σ hh hQ hm2 gσ_2 wσ_2 dnσ_2 k5σ_2 gc_4_v2 c_4 if_5 bf_5 c_6 ahpσ_8 bhpσ_8 chpσ_8 dhpσ_8 ehpσ_8 fhpσ_8 gσ_8 wσ_8 dnσ_8 k5σ_8; omega) | omega)
          have st := hG.2.2.2.2.2.2 x_1.toInt (by first | (clear hs hn hd hf ht gσ wσ k5σ hh hQ hm2 gσ_2 wσ_2 dnσ_2 k5σ_2 gc_4_v2 c_4 if_5 bf_5 c_6 ahpσ_8 bhpσ_8 chpσ_8 dhpσ_8 ehpσ_8 fhpσ_8 gσ_8 wσ_8 dnσ_8 k5σ_8; omega) | omega) (by first | (clear hs hn hd hf gσ wσ k5σ hh hQ hm2 hge2 gσ_2 wσ_2 dnσ_2 k5σ_2 gc_4_x_1 gc_4_v2 if_5 bf_5 c_6 ahpσ_8 bhpσ_8 chpσ_8 dhpσ_8 ehpσ_8 fhpσ_8 gσ_8 wσ_8 dnσ_8 k5σ_8; omega) | omega)
          have s4 := st.2.2.2
          refine lv_aload_n hx hb dX12_doAll_19 rfl (lv_at hl 0 rfl) ?_
          refine gs_X12_35_12 E hI ha dX12_doAll_20 ?_
          refine lv_sipush (v := 656) hx hb dX12_doAll_23 (by decide) ?_
          refine lv_bipush (v := 9) hx hb dX12_doAll_26 (by decide) ?_
          refine lv_iload_n hx hb dX12_doAll_28 rfl (lv_at hl 3 rfl) ?_
          refine lv_imul hx hb dX12_doAll_29 ?_
          refine lv_topi (fun z_9 ez_9 => ?_)
          replace hF := q_letX hF ez_9
          have iz_9 := q_mulI (A := 9) (B := x_1.toInt) ez_9 (by decide) rfl (by first | (clear hs hn hd hf ht gσ wσ k5σ hh hQ hm2 gσ_2 wσ_2 dnσ_2 k5σ_2 gc_4_v2 c_4 if_5 bf_5 c_6 ahpσ_8 bhpσ_8 chpσ_8 dhpσ_8 ehpσ_8 fhpσ_8 gσ_8 wσ_8 dnσ_8 k5σ_8; omega) | omega) (by first | (clear hs hn hd hf ht gσ wσ k5σ hh hm2 gσ_2 wσ_2 dnσ_2 k5σ_2 gc_4_v2 c_4 if_5 bf_5 c_6 ahpσ_8 bhpσ_8 chpσ_8 dhpσ_8 ehpσ_8 fhpσ_8 gσ_8 wσ_8 dnσ_8 k5σ_8; omega) | omega)
          refine lv_iadd hx hb dX12_doAll_30 ?_
          refine lv_topi (fun z_10 ez_10 => ?_)
          replace hF := q_letX hF ez_10
          have iz_10 := q_addI (A := 656) (B := (9 * x_1.toInt)) ez_10 (by decide) iz_9 (by first | (clear hs hn hd hf ht gσ wσ k5σ hh hQ hm2 gσ_2 wσ_2 dnσ_2 k5σ_2 gc_4_v2 c_4 if_5 bf_5 c_6 ahpσ_8 bhpσ_8 chpσ_8 dhpσ_8 ehpσ_8 fhpσ_8 gσ_8 wσ_8 dnσ_8 k5σ_8 iz_9; omega) | omega) (by first | (clear hs hn hd hf ht gσ wσ k5σ hh hm2 gσ_2 wσ_2 dnσ_2 k5σ_2 gc_4_v2 c_4 if_5 bf_5 c_6 ahpσ_8 bhpσ_8 chpσ_8 dhpσ_8 ehpσ_8 fhpσ_8 gσ_8 wσ_8 dnσ_8 k5σ_8 iz_9; omega) | omega)
          refine lv_bipush (v := 8) hx hb dX12_doAll_31 (by decide) ?_
          refine lv_iadd hx hb dX12_doAll_33 ?_
          refine lv_topi (fun z_11 ez_11 => ?_)
          replace hF := q_letX hF ez_11
          have iz_11 := q_addI (A := (656 + (9 * x_1.toInt))) (B := 8) ez_11 iz_10 (by decide) (by first | (clear hs hn hd hf ht gσ wσ k5σ hh hQ hm2 gσ_2 wσ_2 dnσ_2 k5σ_2 gc_4_v2 c_4 if_5 bf_5 c_6 ahpσ_8 bhpσ_8 chpσ_8 dhpσ_8 ehpσ_8 fhpσ_8 gσ_8 wσ_8 dnσ_8 k5σ_8 iz_9 iz_10; omega) | omega) (by first | (clear hs hn hd hf ht gσ wσ k5σ hh hm2 gσ_2 wσ_2 dnσ_2 k5σ_2 gc_4_v2 c_4 if_5 bf_5 c_6 ahpσ_8 bhpσ_8 chpσ_8 dhpσ_8 ehpσ_8 fhpσ_8 gσ_8 wσ_8 dnσ_8 k5σ_8 iz_9 iz_10; omega) | omega)
          refine q_iald E hI (q_tk (k' := 34) hI ha rfl (by decide)) ⟨by decide, rfl⟩ (by first | (clear hs hn hd hf ht gσ wσ k5σ hh hQ hm2 gσ_2 wσ_2 dnσ_2 k5σ_2 if_5 bf_5 c_6 ahpσ_8 bhpσ_8 chpσ_8 dhpσ_8 ehpσ_8 fhpσ_8 gσ_8 wσ_8 dnσ_8 k5σ_8 iz_9 iz_10; omega) | omega) (by rw [q_lnk (v := 4650) hI (q_tk (k' := 34) hI ha rfl (by decide)) rfl (by decide)]; omega) dX12_doAll_34 ?_
          refine lv_topi (fun f_12 ef_12 => ?_)
          replace hF := q_letX hF ef_12
          have if_12 : f_12.toInt = m_c X σ_8 a ((656 + (9 * x_1.toInt)) + 8) := m_rd ef_12 iz_11
          refine lv_istore_n (lv' := [(3, .int f_12), (0, .ref a), (1, .int v1), (2, .int v2)]) hx hb dX12_doAll_35 rfl hl (by decide) rfl (fun ls hl => ?_)
          refine lv_goto (tgt := 2) hx hb dX12_doAll_36 (by decide) ?_
          exact ih2 f_12 σ_8 _ _ ls (by first | (clear hs hn hd hf ht gσ wσ k5σ hh gσ_2 wσ_2 dnσ_2 k5σ_2 gc_4_v2 c_4 if_5 bf_5 c_6 ahpσ_8 bhpσ_8 chpσ_8 dhpσ_8 ehpσ_8 fhpσ_8 gσ_8 wσ_8 dnσ_8 k5σ_8 iz_9 iz_10 iz_11; omega) | omega) (by first | (clear hs hn hd hf ht gσ wσ k5σ hh hQ hm2 gσ_2 wσ_2 dnσ_2 k5σ_2 gc_4_v2 c_4 if_5 bf_5 c_6 ahpσ_8 bhpσ_8 chpσ_8 dhpσ_8 ehpσ_8 fhpσ_8 gσ_8 wσ_8 dnσ_8 k5σ_8 iz_9 iz_10 iz_11; omega) | omega) fr_σ_8 gσ_8 wσ_8 kqσ_8 dnσ_8 k5σ_8 hF hI (lv_sub hl [1, 2, 3, 0] rfl)
  exact L_2_3 ((31 - v1.toInt).toNat + 1) v1 σ _ _ ls (Nat.lt_succ_self _) (by omega) fr_σ gσ wσ kqσ dnσ k5σ hF hI (lv_sub hl [1, 2, 3, 0] rfl)

/-- all depths -/
theorem c_X12_doAllN (l : Launch) (X : XW) (a : Nat) (n : Int) (ha : q_kd X a = 12) (d : Nat) (hd30 : d ≤ 30) : ∀ (σ : ST) (v1 v2 : Int32) (hG : m_G (m_c X σ a)) (hW : m_W (m_c X σ a) (n + (σ.1 a 40).toInt)) (hn : 0 ≤ n ∧ n ≤ 199500) (hd : 0 ≤ (σ.1 a 40).toInt ∧ (σ.1 a 40).toInt ≤ 300) (hf : 30 - (d : Int) ≤ v1.toInt ∧ 0 ≤ v1.toInt) (ht : v2.toInt ≤ m_c X σ a 655), Met l yX12_doAll (q_ws yX12_doAll cX12_doAll 4 none) (q_rm (7 + 2 * d) (158 + 47 * d)) (q_P X σ [.ref a, .int v1, .int v2]) (q_Qv X 1 σ (fun (σ' : ST) => (m_G (m_c X σ' a)) ∧ (m_W (m_c X σ' a) (n + (σ'.1 a 40).toInt)) ∧ (∀ j, 654 ≤ j → m_c X σ' a j = m_c X σ a j) ∧ ((σ.1 a 40).toInt ≤ (σ'.1 a 40).toInt ∧ (σ'.1 a 40).toInt ≤ 300) ∧ (∀ b g, q_kd X b = 35 → σ'.1 b g = σ.1 b g) ∧ σ' = F_X12_doAllN X a d σ v1 v2 ∧ q_ow [(12, 38), (12, 39), (12, 40), (12, 41), (12, 42), (12, 43), (12, 44), (12, 45), (34, 99), (39, 99)] [] X σ σ')) 0 0 (q_reg X) := by
  induction d with
  | zero =>
    intro σ v1 v2 hG hW hn hd hf ht
    exact c_X12_doAll_z l X σ a v1 v2 n ha hG hW hn hd (by first | (clear hd30 hn hd ht; omega) | omega) ht
  | succ d ih =>
    intro σ v1 v2 hG hW hn hd hf ht
    have hO : ∀ (σ : ST) (v1 : Int32) (hG : m_G (m_c X σ a)) (hW : m_W (m_c X σ a) (n + (σ.1 a 40).toInt)) (hn : 0 ≤ n ∧ n ≤ 199500) (hd : 0 ≤ (σ.1 a 40).toInt ∧ (σ.1 a 40).toInt ≤ 300) (hs : 29 - (d : Int) ≤ v1.toInt ∧ 0 ≤ v1.toInt ∧ v1.toInt < m_c X σ a 655), Met l yX12_doOne (q_ws yX12_doOne cX12_doOne 5 none) (q_rm (8 + 2 * d) (181 + 47 * d)) (q_P X σ [.ref a, .int v1]) (q_Qv X 1 σ (fun (σ' : ST) => (m_G (m_c X σ' a)) ∧ (m_W (m_c X σ' a) (n + (σ'.1 a 40).toInt)) ∧ (∀ j, 654 ≤ j → m_c X σ' a j = m_c X σ a j) ∧ ((σ.1 a 40).toInt ≤ (σ'.1 a 40).toInt ∧ (σ'.1 a 40).toInt ≤ 300) ∧ (∀ b g, q_kd X b = 35 → σ'.1 b g = σ.1 b g) ∧ σ' = (fun τ w => F_X12_doOne_s X τ a w (F_X12_doAllN X a d)) σ v1 ∧ q_ow [(12, 38), (12, 39), (12, 40), (12, 41), (12, 42), (12, 43), (12, 44), (12, 45), (34, 99), (39, 99)] [] X σ σ')) 0 0 (q_reg X) := fun σ v1 hG hW hn hd hs => c_X12_doOne_s l X σ a v1 n d (F_X12_doAllN X a d) (ih (by first | (clear hn hd hf ht; omega) | omega)) ha hG hW hn hd hs
    exact c_X12_doAll_s l X σ a v1 v2 n d (fun τ w => F_X12_doOne_s X τ a w (F_X12_doAllN X a d)) hO ha hG hW hn hd (by first | (clear hd30 hn hd ht; omega) | omega) ht

set_option maxRecDepth 100000 in
set_option maxHeartbeats 4000000 in
theorem c_X12_plays (l : Launch) (X : XW) (σ : ST) (a : Nat) (v1 : Int32) (n : Int) (ha : q_kd X a = 12) (hG : m_G (m_c X σ a)) (hW : m_W (m_c X σ a) n) (hn : 0 ≤ n ∧ n ≤ 199500) : Met l yX12_plays (q_ws yX12_plays cX12_plays 2 none) (q_rm 68 1591) (q_P X σ [.ref a, .int v1]) (q_Qv X 1 σ (fun (σ' : ST) => (m_G (m_c X σ' a)) ∧ (m_W (m_c X σ' a) (n + 300)) ∧ (∀ j, 654 ≤ j → m_c X σ' a j = m_c X σ a j) ∧ (∀ b g, q_kd X b = 35 → σ'.1 b g = σ.1 b g) ∧ σ' = F_X12_plays X σ a v1 ∧ q_ow [(12, 38), (12, 39), (12, 40), (12, 41), (12, 42), (12, 43), (12, 44), (12, 45), (34, 99), (39, 99)] [] X σ σ')) 0 0 (q_reg X) := by
  refine q_met 1 (by first | exact rfl | decide +kernel) rfl (Nat.le_of_ble_eq_true rfl) (fun p e s m below meth c E hml hr hlk hI ls hl => ?_)
  have hx := E.1
  have hb := E.2.1
  have hl : lv_has ls 2 [(0, .ref a), (1, .int v1)] := hl
  have gσ : m_G (m_c X σ a) := hG
  have w0σ : m_W (m_c X σ a) n := hW
  have kqσ : ∀ j, 654 ≤ j → m_c X σ a j = m_c X σ a j := fun _ _ => rfl
  have k5σ : ∀ b g, q_kd X b = 35 → σ.1 b g = σ.1 b g := fun _ _ _ => rfl
  have fr_σ : q_ow [(12, 38), (12, 39), (12, 40), (12, 41), (12, 42), (12, 43), (12, 44), (12, 45), (34, 99), (39, 99)] [] X σ σ := q_ow.rf
  have hh := hG.hd
  have hQ := hG.2.2.2.2.2.1
  obtain ⟨out, hout⟩ : ∃ o, o = F_X12_plays X σ a v1 := ⟨_, rfl⟩
  have hF := hout.symm
  unfold F_X12_plays at hF
  refine lv_aload_n hx hb dX12_plays_0 rfl (lv_at hl 0 rfl) ?_
  refine lv_iload_n hx hb dX12_plays_1 rfl (lv_at hl 1 rfl) ?_
  refine ps_X12_395_12 E hI ha (by decide) dX12_plays_2 (fun H locs σ_1 hσ_1 hI => ?_)
  replace hF := q_letX hF hσ_1
  have fr_σ_1 := fr_σ.si hσ_1 ha rfl
  have mv40_σ_1 : (σ_1.1 a 40).toInt = (σ.1 a 40).toInt := congrArg Int32.toInt (q_rdn hσ_1 (Or.inr (by decide)))
  have mcσ_1 := m_wo hσ_1 (m_ne ha (q_tk (f := 20) (k' := 34) hI ha rfl (by decide)) (by decide))
  have gσ_1 : m_G (m_c X σ_1 a) := m_G.ext (fun j _ _ => mcσ_1 j) gσ
  have w0σ_1 : m_W (m_c X σ_1 a) n := m_W.ext (fun j _ _ => mcσ_1 j) w0σ
  have kqσ_1 : ∀ j, 654 ≤ j → m_c X σ_1 a j = m_c X σ a j := fun j h => (mcσ_1 j).trans (kqσ j h)
  have k5σ_1 : ∀ b g, q_kd X b = 35 → σ_1.1 b g = σ.1 b g := (fun b g q => (q_rdn hσ_1 (Or.inl (m_ne q ha (by decide)))).trans (k5σ b g q))
  refine lv_aload_n hx hb dX12_plays_5 rfl (lv_at hl 0 rfl) ?_
  refine lv_iconst (v := 0) hx hb dX12_plays_6 (by decide) ?_
  refine ps_X12_417_12 E hI ha (by decide) dX12_plays_7 (fun H locs σ_2 hσ_2 hI => ?_)
  replace hF := q_letX hF hσ_2
  have fr_σ_2 := fr_σ_1.si hσ_2 ha rfl
  have mv40_σ_2 : (σ_2.1 a 40).toInt = 0 := by rw [q_rd hσ_2]; rfl
  have mcσ_2 := m_wo hσ_2 (m_ne ha (q_tk (f := 20) (k' := 34) hI ha rfl (by decide)) (by decide))
  have gσ_2 : m_G (m_c X σ_2 a) := m_G.ext (fun j _ _ => mcσ_2 j) gσ_1
  have w0σ_2 : m_W (m_c X σ_2 a) n := m_W.ext (fun j _ _ => mcσ_2 j) w0σ_1
  have kqσ_2 : ∀ j, 654 ≤ j → m_c X σ_2 a j = m_c X σ a j := fun j h => (mcσ_2 j).trans (kqσ_1 j h)
  have deσ_2 : 0 ≤ (σ_2.1 a 40).toInt ∧ (σ_2.1 a 40).toInt ≤ 300 := (by first | (clear hn gσ w0σ k5σ hh hQ mv40_σ_1 gσ_1 w0σ_1 k5σ_1 gσ_2 w0σ_2; omega) | omega)
  have k5σ_2 : ∀ b g, q_kd X b = 35 → σ_2.1 b g = σ.1 b g := (fun b g q => (q_rdn hσ_2 (Or.inl (m_ne q ha (by decide)))).trans (k5σ_1 b g q))
  refine lv_aload_n hx hb dX12_plays_10 rfl (lv_at hl 0 rfl) ?_
  refine lv_iconst (v := 0) hx hb dX12_plays_11 (by decide) ?_
  refine ps_X12_426_12 E hI ha (by decide) dX12_plays_12 (fun H locs σ_3 hσ_3 hI => ?_)
  replace hF := q_letX hF hσ_3
  have fr_σ_3 := fr_σ_2.si hσ_3 ha rfl
  have mv40_σ_3 : (σ_3.1 a 40).toInt = (σ_2.1 a 40).toInt := congrArg Int32.toInt (q_rdn hσ_3 (Or.inr (by decide)))
  have mcσ_3 := m_wo hσ_3 (m_ne ha (q_tk (f := 20) (k' := 34) hI ha rfl (by decide)) (by decide))
  have gσ_3 : m_G (m_c X σ_3 a) := m_G.ext (fun j _ _ => mcσ_3 j) gσ_2
  have w0σ_3 : m_W (m_c X σ_3 a) n := m_W.ext (fun j _ _ => mcσ_3 j) w0σ_2
  have kqσ_3 : ∀ j, 654 ≤ j → m_c X σ_3 a j = m_c X σ a j := fun j h => (mcσ_3 j).trans (kqσ_2 j h)
  have deσ_3 : 0 ≤ (σ_3.1 a 40).toInt ∧ (σ_3.1 a 40).toInt ≤ 300 := (by first | (clear hn gσ w0σ k5σ hh hQ mv40_σ_1 gσ_1 w0σ_1 k5σ_1 gσ_2 w0σ_2 k5σ_2 gσ_3 w0σ_3; omega) | omega)
  have k5σ_3 : ∀ b g, q_kd X b = 35 → σ_3.1 b g = σ.1 b g := (fun b g q => (q_rdn hσ_3 (Or.inl (m_ne q ha (by decide)))).trans (k5σ_2 b g q))
  refine lv_aload_n hx hb dX12_plays_15 rfl (lv_at hl 0 rfl) ?_
  refine lv_iconst (v := 0) hx hb dX12_plays_16 (by decide) ?_
  refine ps_X12_405_12 E hI ha (by decide) dX12_plays_17 (fun H locs σ_4 hσ_4 hI => ?_)
  replace hF := q_letX hF hσ_4
  have fr_σ_4 := fr_σ_3.si hσ_4 ha rfl
  have mv40_σ_4 : (σ_4.1 a 40).toInt = (σ_3.1 a 40).toInt := congrArg Int32.toInt (q_rdn hσ_4 (Or.inr (by decide)))
  have mcσ_4 := m_wo hσ_4 (m_ne ha (q_tk (f := 20) (k' := 34) hI ha rfl (by decide)) (by decide))
  have gσ_4 : m_G (m_c X σ_4 a) := m_G.ext (fun j _ _ => mcσ_4 j) gσ_3
  have w0σ_4 : m_W (m_c X σ_4 a) n := m_W.ext (fun j _ _ => mcσ_4 j) w0σ_3
  have kqσ_4 : ∀ j, 654 ≤ j → m_c X σ_4 a j = m_c X σ a j := fun j h => (mcσ_4 j).trans (kqσ_3 j h)
  have deσ_4 : 0 ≤ (σ_4.1 a 40).toInt ∧ (σ_4.1 a 40).toInt ≤ 300 := (by first | (clear hn gσ w0σ k5σ hh hQ mv40_σ_1 gσ_1 w0σ_1 k5σ_1 gσ_2 w0σ_2 k5σ_2 gσ_3 w0σ_3 k5σ_3 gσ_4 w0σ_4; omega) | omega)
  have k5σ_4 : ∀ b g, q_kd X b = 35 → σ_4.1 b g = σ.1 b g := (fun b g q => (q_rdn hσ_4 (Or.inl (m_ne q ha (by decide)))).trans (k5σ_3 b g q))
  refine lv_aload_n hx hb dX12_plays_20 rfl (lv_at hl 0 rfl) ?_
  refine lv_iconst (v := 0) hx hb dX12_plays_21 (by decide) ?_
  refine ps_X12_408_12 E hI ha (by decide) dX12_plays_22 (fun H locs σ_5 hσ_5 hI => ?_)
  replace hF := q_letX hF hσ_5
  have fr_σ_5 := fr_σ_4.si hσ_5 ha rfl
  have mv40_σ_5 : (σ_5.1 a 40).toInt = (σ_4.1 a 40).toInt := congrArg Int32.toInt (q_rdn hσ_5 (Or.inr (by decide)))
  have mcσ_5 := m_wo hσ_5 (m_ne ha (q_tk (f := 20) (k' := 34) hI ha rfl (by decide)) (by decide))
  have gσ_5 : m_G (m_c X σ_5 a) := m_G.ext (fun j _ _ => mcσ_5 j) gσ_4
  have w0σ_5 : m_W (m_c X σ_5 a) n := m_W.ext (fun j _ _ => mcσ_5 j) w0σ_4
  have kqσ_5 : ∀ j, 654 ≤ j → m_c X σ_5 a j = m_c X σ a j := fun j h => (mcσ_5 j).trans (kqσ_4 j h)
  have deσ_5 : 0 ≤ (σ_5.1 a 40).toInt ∧ (σ_5.1 a 40).toInt ≤ 300 := (by first | (clear hn gσ w0σ k5σ hh hQ mv40_σ_1 gσ_1 w0σ_1 k5σ_1 gσ_2 w0σ_2 k5σ_2 gσ_3 w0σ_3 k5σ_3 gσ_4 w0σ_4 k5σ_4 gσ_5 w0σ_5; omega) | omega)
  have k5σ_5 : ∀ b g, q_kd X b = 35 → σ_5.1 b g = σ.1 b g := (fun b g q => (q_rdn hσ_5 (Or.inl (m_ne q ha (by decide)))).trans (k5σ_4 b g q))
  refine lv_aload_n hx hb dX12_plays_25 rfl (lv_at hl 0 rfl) ?_
  refine lv_iconst (v := 0) hx hb dX12_plays_26 (by decide) ?_
  refine ps_X12_411_12 E hI ha (by decide) dX12_plays_27 (fun H locs σ_6 hσ_6 hI => ?_)
  replace hF := q_letX hF hσ_6
  have fr_σ_6 := fr_σ_5.si hσ_6 ha rfl
  have mv40_σ_6 : (σ_6.1 a 40).toInt = (σ_5.1 a 40).toInt := congrArg Int32.toInt (q_rdn hσ_6 (Or.inr (by decide)))
  have mcσ_6 := m_wo hσ_6 (m_ne ha (q_tk (f := 20) (k' := 34) hI ha rfl (by decide)) (by decide))
  have gσ_6 : m_G (m_c X σ_6 a) := m_G.ext (fun j _ _ => mcσ_6 j) gσ_5
  have w0σ_6 : m_W (m_c X σ_6 a) n := m_W.ext (fun j _ _ => mcσ_6 j) w0σ_5
  have kqσ_6 : ∀ j, 654 ≤ j → m_c X σ_6 a j = m_c X σ a j := fun j h => (mcσ_6 j).trans (kqσ_5 j h)
  have deσ_6 : 0 ≤ (σ_6.1 a 40).toInt ∧ (σ_6.1 a 40).toInt ≤ 300 := (by first | (clear hn gσ w0σ k5σ hh hQ mv40_σ_1 gσ_1 w0σ_1 k5σ_1 gσ_2 w0σ_2 k5σ_2 gσ_3 w0σ_3 k5σ_3 gσ_4 w0σ_4 k5σ_4 gσ_5 w0σ_5 k5σ_5 gσ_6 w0σ_6; omega) | omega)
  have k5σ_6 : ∀ b g, q_kd X b = 35 → σ_6.1 b g = σ.1 b g := (fun b g q => (q_rdn hσ_6 (Or.inl (m_ne q ha (by decide)))).trans (k5σ_5 b g q))
  refine lv_aload_n hx hb dX12_plays_30 rfl (lv_at hl 0 rfl) ?_
  refine lv_iconst (v := 0) hx hb dX12_plays_31 (by decide) ?_
  refine ps_X12_423_12 E hI ha (by decide) dX12_plays_32 (fun H locs σ_7 hσ_7 hI => ?_)
  replace hF := q_letX hF hσ_7
  have fr_σ_7 := fr_σ_6.si hσ_7 ha rfl
  have mv40_σ_7 : (σ_7.1 a 40).toInt = (σ_6.1 a 40).toInt := congrArg Int32.toInt (q_rdn hσ_7 (Or.inr (by decide)))
  have mcσ_7 := m_wo hσ_7 (m_ne ha (q_tk (f := 20) (k' := 34) hI ha rfl (by decide)) (by decide))
  have gσ_7 : m_G (m_c X σ_7 a) := m_G.ext (fun j _ _ => mcσ_7 j) gσ_6
  have w0σ_7 : m_W (m_c X σ_7 a) n := m_W.ext (fun j _ _ => mcσ_7 j) w0σ_6
  have kqσ_7 : ∀ j, 654 ≤ j → m_c X σ_7 a j = m_c X σ a j := fun j h => (mcσ_7 j).trans (kqσ_6 j h)
  have deσ_7 : 0 ≤ (σ_7.1 a 40).toInt ∧ (σ_7.1 a 40).toInt ≤ 300 := (by first | (clear hn gσ w0σ k5σ hh hQ mv40_σ_1 gσ_1 w0σ_1 k5σ_1 gσ_2 w0σ_2 k5σ_2 gσ_3 w0σ_3 k5σ_3 gσ_4 w0σ_4 k5σ_4 gσ_5 w0σ_5 k5σ_5 gσ_6 w0σ_6 k5σ_6 gσ_7 w0σ_7; omega) | omega)
  have k5σ_7 : ∀ b g, q_kd X b = 35 → σ_7.1 b g = σ.1 b g := (fun b g q => (q_rdn hσ_7 (Or.inl (m_ne q ha (by decide)))).trans (k5σ_6 b g q))
  refine lv_aload_n hx hb dX12_plays_35 rfl (lv_at hl 0 rfl) ?_
  refine lv_iconst (v := 0) hx hb dX12_plays_36 (by decide) ?_
  refine ps_X12_420_12 E hI ha (by decide) (by decide) (by decide) dX12_plays_37 (fun H locs σ_8 hσ_8 hI => ?_)
  replace hF := q_letX hF hσ_8
  have fr_σ_8 := fr_σ_7.si hσ_8 ha rfl
  have mv40_σ_8 : (σ_8.1 a 40).toInt = (σ_7.1 a 40).toInt := congrArg Int32.toInt (q_rdn hσ_8 (Or.inr (by decide)))
  have mcσ_8 := m_wo hσ_8 (m_ne ha (q_tk (f := 20) (k' := 34) hI ha rfl (by decide)) (by decide))
  have gσ_8 : m_G (m_c X σ_8 a) := m_G.ext (fun j _ _ => mcσ_8 j) gσ_7
  have w0σ_8 : m_W (m_c X σ_8 a) n := m_W.ext (fun j _ _ => mcσ_8 j) w0σ_7
  have kqσ_8 : ∀ j, 654 ≤ j → m_c X σ_8 a j = m_c X σ a j := fun j h => (mcσ_8 j).trans (kqσ_7 j h)
  have deσ_8 : 0 ≤ (σ_8.1 a 40).toInt ∧ (σ_8.1 a 40).toInt ≤ 300 := (by first | (clear hn gσ w0σ k5σ hh hQ mv40_σ_1 gσ_1 w0σ_1 k5σ_1 gσ_2 w0σ_2 k5σ_2 gσ_3 w0σ_3 k5σ_3 gσ_4 w0σ_4 k5σ_4 gσ_5 w0σ_5 k5σ_5 gσ_6 w0σ_6 k5σ_6 gσ_7 w0σ_7 k5σ_7 gσ_8 w0σ_8; omega) | omega)
  have k5σ_8 : ∀ b g, q_kd X b = 35 → σ_8.1 b g = σ.1 b g := (fun b g q => (q_rdn hσ_8 (Or.inl (m_ne q ha (by decide)))).trans (k5σ_7 b g q))
  refine lv_aload_n hx hb dX12_plays_40 rfl (lv_at hl 0 rfl) ?_
  refine lv_iconst (v := 0) hx hb dX12_plays_41 (by decide) ?_
  refine lv_aload_n hx hb dX12_plays_42 rfl (lv_at hl 0 rfl) ?_
  refine gs_X12_35_12 E hI ha dX12_plays_43 ?_
  refine lv_sipush (v := 655) hx hb dX12_plays_46 (by decide) ?_
  refine q_iald E hI (q_tk (k' := 34) hI ha rfl (by decide)) ⟨by decide, rfl⟩ (by decide) (by rw [q_lnk (v := 4650) hI (q_tk (k' := 34) hI ha rfl (by decide)) rfl (by decide)]; decide) dX12_plays_49 ?_
  refine lv_topi (fun f_9 ef_9 => ?_)
  replace hF := q_letX hF ef_9
  have if_9 : f_9.toInt = m_c X σ_8 a 655 := m_rd ef_9 (by decide)
  have kc_10 : (0 : Int32).toInt = 0 := rfl
  refine q_cv (q_runV (As := [.int 0, .int f_9]) (rest := []) E (hml.trans hl.1.symm) hI (c_X12_doAllN l X a n ha 30 (by decide) σ_8 (0 : Int32) f_9 gσ_8 (m_W.le w0σ_8 (by first | (clear hn gσ w0σ k5σ hh hQ mv40_σ_1 gσ_1 w0σ_1 k5σ_1 gσ_2 w0σ_2 k5σ_2 gσ_3 w0σ_3 k5σ_3 gσ_4 w0σ_4 k5σ_4 gσ_5 w0σ_5 k5σ_5 gσ_6 w0σ_6 k5σ_6 gσ_7 w0σ_7 k5σ_7 gσ_8 w0σ_8 k5σ_8 if_9 kc_10; omega) | omega)) (by omega) (by omega) (by first | (clear hn gσ w0σ k5σ hh hQ mv40_σ_1 gσ_1 w0σ_1 k5σ_1 mv40_σ_2 gσ_2 w0σ_2 k5σ_2 mv40_σ_3 gσ_3 w0σ_3 k5σ_3 mv40_σ_4 gσ_4 w0σ_4 k5σ_4 mv40_σ_5 gσ_5 w0σ_5 k5σ_5 mv40_σ_6 gσ_6 w0σ_6 k5σ_6 mv40_σ_7 gσ_7 w0σ_7 k5σ_7 mv40_σ_8 gσ_8 w0σ_8 k5σ_8 if_9; omega) | omega) (by first | (clear hn gσ w0σ k5σ hh hQ mv40_σ_1 gσ_1 w0σ_1 k5σ_1 mv40_σ_2 gσ_2 w0σ_2 k5σ_2 mv40_σ_3 gσ_3 w0σ_3 k5σ_3 mv40_σ_4 gσ_4 w0σ_4 k5σ_4 mv40_σ_5 gσ_5 w0σ_5 k5σ_5 mv40_σ_6 gσ_6 w0σ_6 k5σ_6 mv40_σ_7 gσ_7 w0σ_7 k5σ_7 mv40_σ_8 gσ_8 w0σ_8 k5σ_8 kc_10; omega) | omega)) kv_X12_435 ha ⟨rfl, by decide⟩ (show vwCl[11]? = some (RX12, TX12, 46) from rfl) rfl ⟨Nat.le_of_ble_eq_true rfl, Nat.le_of_ble_eq_true rfl⟩ ⟨Nat.le_refl _, Nat.le_refl _⟩ rfl (Nat.le_of_ble_eq_true rfl) dX12_plays_50) hI (by decide) (fun σ_12 H locs hpσ_12 hkσ_12 hI => ?_)
  obtain ⟨ahpσ_12, bhpσ_12, chpσ_12, dhpσ_12, ehpσ_12, fhpσ_12, ghpσ_12⟩ := hpσ_12
  have fr_σ_12 := fr_σ_8.call ghpσ_12 rfl rfl
  replace hF := q_letX hF fhpσ_12
  have gσ_12 : m_G (m_c X σ_12 a) := ahpσ_12
  have wσ_12 : m_W (m_c X σ_12 a) (n + (σ_12.1 a 40).toInt) := bhpσ_12
  have kqσ_12 : ∀ j, 654 ≤ j → m_c X σ_12 a j = m_c X σ a j := (fun j h => (chpσ_12 j h).trans (kqσ_8 j h))
  have deσ_12 : 0 ≤ (σ_12.1 a 40).toInt ∧ (σ_12.1 a 40).toInt ≤ 300 := (by first | (clear hn gσ w0σ k5σ hh hQ mv40_σ_1 gσ_1 w0σ_1 k5σ_1 gσ_2 w0σ_2 k5σ_2 gσ_3 w0σ_3 k5σ_3 gσ_4 w0σ_4 k5σ_4 gσ_5 w0σ_5 k5σ_5 gσ_6 w0σ_6 k5σ_6 gσ_7 w0σ_7 k5σ_7 gσ_8 w0σ_8 k5σ_8 if_9 kc_10 ahpσ_12 bhpσ_12 chpσ_12 ehpσ_12 fhpσ_12 gσ_12 wσ_12; omega) | omega)
  have k5σ_12 : ∀ b g, q_kd X b = 35 → σ_12.1 b g = σ.1 b g := (fun b g q => (ehpσ_12 b g q).trans (k5σ_8 b g q))
  exact q_retv E hr hlk hI ⟨gσ_12, (m_W.le wσ_12 (by first | (clear hn gσ w0σ k5σ hh hQ mv40_σ_1 gσ_1 w0σ_1 k5σ_1 gσ_2 w0σ_2 k5σ_2 gσ_3 w0σ_3 k5σ_3 gσ_4 w0σ_4 k5σ_4 gσ_5 w0σ_5 k5σ_5 gσ_6 w0σ_6 k5σ_6 gσ_7 w0σ_7 k5σ_7 gσ_8 w0σ_8 k5σ_8 if_9 kc_10 ahpσ_12 bhpσ_12 chpσ_12 ehpσ_12 fhpσ_12 gσ_12 wσ_12 k5σ_12; omega) | omega)), kqσ_12, k5σ_12, (hF.trans hout), fr_σ_12⟩ dX12_plays_53
end
/-! FROM 47.marks.a.lean.txt -/
section
section QS
variable {p : Program} {l : Launch} {e : Env} {R : Room} {s : State} {m : MethodId} {args : Array Value} {below : List Frame} {meth : Method} {c : Code} {H : Heap} {locs : List Loc} {cells slots : Nat} {Q : State → Prop} {cc : ByteArray} {X : XW} {n : Nat} {σ0 σ : ST} {H0 : Heap} {pc : Nat} {ls : Array Slot} {rest : List Value} {a : Nat}
theorem kv_X12_443 : q_okV RX12 443 RX12 yX12_plays cX12_plays 2 none 1 := ⟨(q_in_t9 (i := 146) (by first | rfl | decide +kernel) rfl), (q_in_t9 (i := 148) (by first | rfl | decide +kernel) rfl), (q_in_p (i := 105) (by decide +kernel) rfl), (q_in_t1 (i := 14) (by first | rfl | decide +kernel) rfl), (q_in_t9 (i := 149) (by first | rfl | decide +kernel) rfl), ⟨rfl, by decide, by decide, rfl⟩⟩
theorem gs_X12_423_12 (E : q_E p c cc s m args RX12 X) (hI : q_I X n σ0 H0 locs σ H) (ha : q_kd X a = 12) (hdg : decode cc pc = .ok (.getfield 423, 3)) (kk : W p l e R s m args below meth c H locs cells slots Q (F0 m (pc + 3) ls (.int (σ.1 a 45) :: rest))) : W p l e R s m args below meth c H locs cells slots Q (F0 m pc ls (.ref a :: rest)) :=
  q_getf (ref := "CheatHeapModel") E hI ha ⟨rfl, by decide⟩ (show vwCl[11]? = some (RX12, TX12, 46) from rfl) q_inX12 (f := 45) (by decide) (q_in_t7 (i := 30) (by first | rfl | decide +kernel) rfl) (Or.inl rfl) rfl hdg kk
theorem ps_X12_446_12 (E : q_E p c cc s m args RX12 X) (hI : q_I X n σ0 H0 locs σ H) (ha : q_kd X a = 12) {v : Int32} (hcl : n < 9) (h1 : 0 ≤ v.toInt) (h2 : v.toInt ≤ 1) (hdg : decode cc pc = .ok (.putfield 446, 3)) (kk : ∀ (H1 : Heap) (locs1 : List Loc) (σ1 : ST), σ1 = q_si σ a 37 v → q_I X n σ0 H0 locs1 σ1 H1 → W p l e R s m args below meth c H1 locs1 cells slots Q (F0 m (pc + 3) ls rest)) : W p l e R s m args below meth c H locs cells slots Q (F0 m pc ls (.int v :: .ref a :: rest)) :=
  q_puti (ref := "CheatHeapModel") E hI ha ⟨rfl, by decide⟩ (show vwCl[11]? = some (RX12, TX12, 46) from rfl) q_inX12 tyX12_ok nmX12 (f := 37) (by decide) (q_in_t7 (i := 22) (by first | rfl | decide +kernel) rfl) (Or.inl rfl) rfl rfl hcl hdg (q_inB rfl h1 h2) (Or.inr ⟨rfl, h1, h2⟩) (fun H1 l1 h => kk H1 l1 _ rfl h)
theorem gs_X12_38_12 (E : q_E p c cc s m args RX12 X) (hI : q_I X n σ0 H0 locs σ H) (ha : q_kd X a = 12) (hdg : decode cc pc = .ok (.getfield 38, 3)) (kk : W p l e R s m args below meth c H locs cells slots Q (F0 m (pc + 3) ls (.ref (q_rf X a 21) :: rest))) : W p l e R s m args below meth c H locs cells slots Q (F0 m pc ls (.ref a :: rest)) :=
  q_getf (ref := "CheatHeapModel") E hI ha ⟨rfl, by decide⟩ (show vwCl[11]? = some (RX12, TX12, 46) from rfl) q_inX12 (f := 21) (by decide) (q_in_t7 (i := 6) (by first | rfl | decide +kernel) rfl) (Or.inl rfl) rfl hdg kk
theorem kv_X12_451 : q_okV RX12 451 RX12 yX12_tries cX12_tries 8 (some .boolean) 4 := ⟨(q_in_t9 (i := 187) (by first | rfl | decide +kernel) rfl), (q_in_t9 (i := 189) (by first | rfl | decide +kernel) rfl), (q_in_p (i := 113) (by decide +kernel) rfl), (q_in_t1 (i := 14) (by first | rfl | decide +kernel) rfl), (q_in_t9 (i := 190) (by first | rfl | decide +kernel) rfl), ⟨rfl, by decide, by decide, rfl⟩⟩
theorem gs_X12_455_12 (E : q_E p c cc s m args RX12 X) (hI : q_I X n σ0 H0 locs σ H) (ha : q_kd X a = 12) (hdg : decode cc pc = .ok (.getfield 455, 3)) (kk : W p l e R s m args below meth c H locs cells slots Q (F0 m (pc + 3) ls (.int (σ.1 a 24) :: rest))) : W p l e R s m args below meth c H locs cells slots Q (F0 m pc ls (.ref a :: rest)) :=
  q_getf (ref := "CheatHeapModel") E hI ha ⟨rfl, by decide⟩ (show vwCl[11]? = some (RX12, TX12, 46) from rfl) q_inX12 (f := 24) (by decide) (q_in_t7 (i := 9) (by first | rfl | decide +kernel) rfl) (Or.inl rfl) rfl hdg kk
theorem ps_X12_455_12 (E : q_E p c cc s m args RX12 X) (hI : q_I X n σ0 H0 locs σ H) (ha : q_kd X a = 12) {v : Int32} (hcl : n < 1) (h1 : 0 ≤ v.toInt) (h2 : v.toInt ≤ 3) (hdg : decode cc pc = .ok (.putfield 455, 3)) (kk : ∀ (H1 : Heap) (locs1 : List Loc) (σ1 : ST), σ1 = q_si σ a 24 v → q_I X n σ0 H0 locs1 σ1 H1 → W p l e R s m args below meth c H1 locs1 cells slots Q (F0 m (pc + 3) ls rest)) : W p l e R s m args below meth c H locs cells slots Q (F0 m pc ls (.int v :: .ref a :: rest)) :=
  q_puti (ref := "CheatHeapModel") E hI ha ⟨rfl, by decide⟩ (show vwCl[11]? = some (RX12, TX12, 46) from rfl) q_inX12 tyX12_ok nmX12 (f := 24) (by decide) (q_in_t7 (i := 9) (by first | rfl | decide +kernel) rfl) (Or.inl rfl) rfl rfl hcl hdg (q_inB rfl h1 h2) (Or.inl rfl) (fun H1 l1 h => kk H1 l1 _ rfl h)
end QS
end
