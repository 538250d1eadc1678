section
set_option maxRecDepth 100000 in
set_option maxHeartbeats 4000000 in
theorem c_X12_toldOf (l : Launch) (X : XW) (σ : ST) (a : Nat) (v1 : Int32) (ha : q_kd X a = 12) (h0 : 0 ≤ v1.toInt) (h1 : v1.toInt ≤ 9) (hN : m_N (m_c X σ a)) : Met l yX12_toldOf (q_ws yX12_toldOf cX12_toldOf 4 (some .int)) (q_rm 0 0) (q_P X σ [.ref a, .int v1]) (q_Qi X 9 σ (fun (r : Int32) (σ' : ST) => σ' = σ ∧ (r.toInt = m_sum (m_c X σ a) 3720 v1.toInt) ∧ r = F_X12_toldOf X σ a v1)) 0 0 (q_reg X) := by
  refine q_met 9 (by first | exact rfl | decide +kernel) rfl (Nat.le_of_ble_eq_true rfl) (fun p e s m below meth c E hml hr hlk hI ls hl => ?_)
  have hx := E.1
  have hb := E.2.1
  have hl : lv_has ls 4 [(0, .ref a), (1, .int v1)] := hl
  obtain ⟨out, hout⟩ : ∃ o, o = F_X12_toldOf X σ a v1 := ⟨_, rfl⟩
  have hF := hout.symm
  unfold F_X12_toldOf at hF
  refine lv_iconst (v := 0) hx hb dX12_toldOf_0 zki_0 ?_
  refine lv_istore_n (lv' := [(2, .int 0), (0, .ref a), (1, .int v1)]) hx hb dX12_toldOf_1 rfl hl (by decide) rfl (fun ls hl => ?_)
  refine lv_iconst (v := 0) hx hb dX12_toldOf_2 zki_0 ?_
  refine lv_istore_n (lv' := [(3, .int 0), (2, .int 0), (0, .ref a), (1, .int v1)]) hx hb dX12_toldOf_3 rfl hl (by decide) rfl (fun ls hl => ?_)
  have L_4_3 : ∀ (k_3 : Nat) (x_1 : Int32) (x_2 : Int32) (H : Heap) (locs : List Loc) (ls : Array Slot), (2147483647 - x_2.toInt).toNat < k_3 → (0 ≤ x_2.toInt ∧ x_2.toInt ≤ 6) → (x_1.toInt = m_ps (m_c X σ a) v1.toInt x_2.toInt.toNat) → (F_X12_toldOf_L4_1 X v1 σ a k_3 x_1 x_2 = out) → q_I X 9 σ s.heap locs σ H → lv_has ls 4 [(0, .ref a), (1, .int v1), (2, .int x_1), (3, .int x_2)] → W p l e (q_rm 0 0) s m ([.ref a, .int v1] : List Value).toArray below meth c H locs 0 0 (MQ below (q_Qi X 9 σ (fun (r : Int32) (σ' : ST) => σ' = σ ∧ (r.toInt = m_sum (m_c X σ a) 3720 v1.toInt) ∧ r = F_X12_toldOf X σ a v1)) ([.ref a, .int v1] : List Value).toArray s 0 0 (q_reg X)) (F0 m 4 ls []) := by
    clear hF
    intro k_3
    induction k_3 with
    | zero =>
      intro x_1 x_2 H locs ls hms
      exact absurd hms (Nat.not_lt_zero _)
    | succ k_3 ih4 =>
      intro x_1 x_2 H locs ls hm4 hge4 hps hF hI hl
      replace hF := (F_X12_toldOf_L4_1_s).symm.trans hF
      unfold F_X12_toldOf_B4_1 at hF
      have pb := m_ps_bd hN ⟨h0, by omega⟩ x_2.toInt.toNat (by first | (clear h0 h1 hm4; omega) | omega)
      have pc := fun h => m_ps_bd hN ⟨h0, by omega⟩ (x_2.toInt + 1).toNat h
      have ps := m_ps_succ (m_c X σ a) v1.toInt x_2.toInt hge4.1
      refine lv_iload_n hx hb dX12_toldOf_4 rfl (lv_at hl 3 rfl) ?_
      refine lv_bipush (v := 6) hx hb dX12_toldOf_5 zkb_6 ?_
      have gc_4_x_2 := q_rng x_2
      refine q_icmp_ge (A := x_2.toInt) (B := 6) E rfl (by decide) (tgt := 34) dX12_toldOf_7 (by decide) (fun c_4 => ?_) (fun c_4 => ?_)
      · skip
        replace hF := q_ifn hF (Int.not_lt.mpr c_4)
        skip
        refine lv_iload_n hx hb dX12_toldOf_34 rfl (lv_at hl 2 rfl) ?_
        exact q_reti E hr hlk hI ⟨rfl, (by rw [← m_ps_6]; have q : x_2.toInt.toNat = 6 := (by first | (clear h0 h1 hm4 pc ps gc_4_x_2; omega) | omega); rw [q] at hps; exact hps), (hF.trans hout)⟩ dX12_toldOf_35
      · skip
        replace hF := q_ifp hF c_4
        refine lv_iload_n hx hb dX12_toldOf_10 rfl (lv_at hl 2 rfl) ?_
        refine lv_aload_n hx hb dX12_toldOf_11 rfl (lv_at hl 0 rfl) ?_
        refine gs_X12_35_12 E hI ha dX12_toldOf_12 ?_
        refine lv_sipush (v := 3754) hx hb dX12_toldOf_15 zks_3754 ?_
        refine lv_bipush (v := 10) hx hb dX12_toldOf_18 zkb_10 ?_
        refine lv_iload_n hx hb dX12_toldOf_20 rfl (lv_at hl 3 rfl) ?_
        refine lv_imul hx hb dX12_toldOf_21 ?_
        refine lv_topi (fun z_5 ez_5 => ?_)
        replace hF := q_letX hF ez_5
        have iz_5 := q_mulI (A := 10) (B := x_2.toInt) ez_5 (by decide) rfl (by first | (clear h0 h1 hm4 pc ps gc_4_x_2; omega) | omega) (by first | (clear h0 h1 hm4 pc ps gc_4_x_2; omega) | omega)
        refine lv_iadd hx hb dX12_toldOf_22 ?_
        refine lv_topi (fun z_6 ez_6 => ?_)
        replace hF := q_letX hF ez_6
        have iz_6 := q_addI (A := 3754) (B := (10 * x_2.toInt)) ez_6 (by decide) iz_5 (by first | (clear h0 h1 hm4 pc ps gc_4_x_2 iz_5; omega) | omega) (by first | (clear h0 h1 hm4 pc ps gc_4_x_2 iz_5; omega) | omega)
        refine lv_iload_n hx hb dX12_toldOf_23 rfl (lv_at hl 1 rfl) ?_
        refine lv_iadd hx hb dX12_toldOf_24 ?_
        refine lv_topi (fun z_7 ez_7 => ?_)
        replace hF := q_letX hF ez_7
        have iz_7 := q_addI (A := (3754 + (10 * x_2.toInt))) (B := v1.toInt) ez_7 iz_6 rfl (by first | (clear h0 h1 hm4 pc ps gc_4_x_2 iz_5 iz_6; omega) | omega) (by first | (clear h0 h1 hm4 pc ps gc_4_x_2 iz_5 iz_6; omega) | omega)
        refine q_iald E hI (q_tk (k' := 34) hI ha rfl (Nat.succ_ne_zero _)) ⟨by decide, rfl⟩ (by first | (clear h0 h1 hm4 pc ps gc_4_x_2 iz_5 iz_6; omega) | omega) (by rw [q_lnk (v := 4650) hI (q_tk (k' := 34) hI ha rfl (Nat.succ_ne_zero _)) rfl (by decide)]; omega) dX12_toldOf_25 ?_
        refine lv_topi (fun f_8 ef_8 => ?_)
        replace hF := q_letX hF ef_8
        have if_8 : f_8.toInt = m_c X σ a ((3754 + (10 * x_2.toInt)) + v1.toInt) := m_rd ef_8 iz_7
        have pcx := pc (by first | (clear h0 h1 hm4 pc ps gc_4_x_2 iz_5 iz_6 iz_7 if_8; omega) | omega)
        rw [ps] at pcx
        refine lv_iadd hx hb dX12_toldOf_26 ?_
        refine lv_topi (fun z_9 ez_9 => ?_)
        replace hF := q_letX hF ez_9
        have iz_9 := q_addI (A := x_1.toInt) (B := (m_c X σ a ((3754 + (10 * x_2.toInt)) + v1.toInt))) ez_9 rfl if_8 (by first | (clear h0 h1 hm4 hge4 pc gc_4_x_2 c_4 iz_5 iz_6 iz_7 if_8; omega) | omega) (by first | (clear h0 h1 hm4 hge4 pc gc_4_x_2 c_4 iz_5 iz_6 iz_7 if_8; omega) | omega)
        refine lv_istore_n (lv' := [(2, .int z_9), (0, .ref a), (1, .int v1), (3, .int x_2)]) hx hb dX12_toldOf_27 rfl hl (by decide) rfl (fun ls hl => ?_)
        obtain ⟨z_10, ez_10⟩ : ∃ y : Int32, y = x_2 + 1 := ⟨_, rfl⟩
        replace hF := q_letX hF ez_10
        refine lv_iinc (v := z_10) (lv' := [(3, .int z_10), (2, .int z_9), (0, .ref a), (1, .int v1)]) hx hb dX12_toldOf_28 hl (k := 3) rfl (by rw [ez_10]; rfl) (by decide) rfl (fun ls hl => ?_)
        have iz_10 : z_10.toInt = x_2.toInt + 1 := q_inc ez_10 (by first | (clear h0 h1 hm4 pc ps gc_4_x_2 iz_5 iz_6 iz_7 if_8 pcx iz_9; omega) | omega)
        have pz := ps
        rw [← iz_10] at pz
        refine lv_goto (tgt := 4) hx hb dX12_toldOf_31 (by decide) ?_
        exact ih4 z_9 z_10 _ _ ls (by first | (clear h0 h1 ps gc_4_x_2 iz_5 iz_6 iz_7 if_8 pcx iz_9 pz; omega) | omega) (by first | (clear h0 h1 hm4 pc ps gc_4_x_2 iz_5 iz_6 iz_7 if_8 pcx iz_9 pz; omega) | omega) (by first | (clear h0 h1 hm4 hge4 pc gc_4_x_2 c_4 iz_5 iz_6 iz_7 if_8 pcx iz_10; omega) | omega) hF hI (lv_sub hl [2, 3, 1, 0] rfl)
  exact L_4_3 ((2147483647 - (0 : Int32).toInt).toNat + 1) 0 0 _ _ ls (Nat.lt_succ_self _) (by decide) rfl hF hI (lv_sub hl [2, 3, 1, 0] rfl)
end
