section
set_option maxRecDepth 100000 in
set_option maxHeartbeats 4000000 in
theorem c_X12_unknownAll (l : Launch) (X : XW) (σ : ST) (a : Nat) (v1 : Int32) (ha : q_kd X a = 12) (hG : m_G (m_c X σ a)) (h0 : 0 ≤ v1.toInt ∧ v1.toInt < m_c X σ a 2) : Met l yX12_unknownAll (q_ws yX12_unknownAll cX12_unknownAll 4 (some .int)) (q_rm 4 91) (q_P X σ [.ref a, .int v1]) (q_Qi X 9 σ (fun (r : Int32) (σ' : ST) => σ' = σ ∧ (r.toInt = m_V (m_c X σ a) v1.toInt (m_c X σ a 0).toNat) ∧ (0 ≤ r.toInt ∧ r.toInt ≤ 800) ∧ r = F_X12_unknownAll X σ a v1)) 0 0 (q_reg X) := by
  refine q_met 9 (by first | exact rfl | decide +kernel) rfl (Nat.le_of_ble_eq_true rfl) (fun p e s m below meth c E hml hr hlk hI ls hl => ?_)
  have hx := E.1
  have hb := E.2.1
  have hl : lv_has ls 4 [(0, .ref a), (1, .int v1)] := hl
  have hh := hG.hd
  obtain ⟨out, hout⟩ : ∃ o, o = F_X12_unknownAll X σ a v1 := ⟨_, rfl⟩
  have hF := hout.symm
  unfold F_X12_unknownAll at hF
  refine lv_iconst (v := 0) hx hb dX12_unknownAll_0 zki_0 ?_
  refine lv_istore_n (lv' := [(2, .int 0), (0, .ref a), (1, .int v1)]) hx hb dX12_unknownAll_1 rfl hl (by decide) rfl (fun ls hl => ?_)
  refine lv_iconst (v := 0) hx hb dX12_unknownAll_2 zki_0 ?_
  refine lv_istore_n (lv' := [(3, .int 0), (2, .int 0), (0, .ref a), (1, .int v1)]) hx hb dX12_unknownAll_3 rfl hl (by decide) rfl (fun ls hl => ?_)
  have L_4_3 : ∀ (k_3 : Nat) (x_1 : Int32) (x_2 : Int32) (H : Heap) (locs : List Loc) (ls : Array Slot), (2147483647 - x_2.toInt).toNat < k_3 → (0 ≤ x_2.toInt ∧ x_2.toInt ≤ m_c X σ a 0) → (x_1.toInt = m_V (m_c X σ a) v1.toInt x_2.toInt.toNat) → (F_X12_unknownAll_L4_1 X σ a v1 k_3 x_1 x_2 = out) → q_I X 9 σ s.heap locs σ H → lv_has ls 4 [(0, .ref a), (1, .int v1), (2, .int x_1), (3, .int x_2)] → W p l e (q_rm 4 91) s m ([.ref a, .int v1] : List Value).toArray below meth c H locs 0 0 (MQ below (q_Qi X 9 σ (fun (r : Int32) (σ' : ST) => σ' = σ ∧ (r.toInt = m_V (m_c X σ a) v1.toInt (m_c X σ a 0).toNat) ∧ (0 ≤ r.toInt ∧ r.toInt ≤ 800) ∧ r = F_X12_unknownAll X σ a v1)) ([.ref a, .int v1] : List Value).toArray s 0 0 (q_reg X)) (F0 m 4 ls []) := by
    clear hF
    intro k_3
    induction k_3 with
    | zero =>
      intro x_1 x_2 H locs ls hms
      exact absurd hms (Nat.not_lt_zero _)
    | succ k_3 ih4 =>
      intro x_1 x_2 H locs ls hm4 hge4 hs4 hF hI hl
      replace hF := (F_X12_unknownAll_L4_1_s).symm.trans hF
      unfold F_X12_unknownAll_B4_1 at hF
      have sb := hG.V_bd (p := v1.toInt) (by first | (clear h0 hh hm4 hge4 hs4; omega) | omega) (by first | (clear h0 hh hm4 hge4 hs4; omega) | omega) x_2.toInt.toNat (by first | (clear h0 hm4 hs4; omega) | omega)
      have ps := m_V_succ (m_c X σ a) v1.toInt x_2.toInt hge4.1
      refine lv_iload_n hx hb dX12_unknownAll_4 rfl (lv_at hl 3 rfl) ?_
      refine lv_aload_n hx hb dX12_unknownAll_5 rfl (lv_at hl 0 rfl) ?_
      refine gs_X12_35_12 E hI ha dX12_unknownAll_6 ?_
      refine lv_iconst (v := 0) hx hb dX12_unknownAll_9 zki_0 ?_
      refine q_iald E hI (q_tk (k' := 34) hI ha rfl (Nat.succ_ne_zero _)) ⟨by decide, rfl⟩ (by decide) (by rw [q_lnk (v := 4650) hI (q_tk (k' := 34) hI ha rfl (Nat.succ_ne_zero _)) rfl (by decide)]; decide) dX12_unknownAll_10 ?_
      refine lv_topi (fun f_4 ef_4 => ?_)
      replace hF := q_letX hF ef_4
      have if_4 : f_4.toInt = m_c X σ a 0 := m_rd ef_4 (by decide)
      have gc_5_x_2 := q_rng x_2
      have gc_5_f_4 := q_rng f_4
      refine q_icmp_ge (A := x_2.toInt) (B := f_4.toInt) E rfl rfl (tgt := 29) dX12_unknownAll_11 (by decide) (fun c_5 => ?_) (fun c_5 => ?_)
      · skip
        replace hF := q_ifn hF (Int.not_lt.mpr c_5)
        skip
        refine lv_iload_n hx hb dX12_unknownAll_29 rfl (lv_at hl 2 rfl) ?_
        exact q_reti E hr hlk hI ⟨rfl, (by have q : x_2.toInt = m_c X σ a 0 := (by first | (clear h0 hh hm4 hs4 sb ps gc_5_x_2 gc_5_f_4; omega) | omega); rw [q] at hs4; exact hs4), (by first | (clear h0 hm4 gc_5_x_2 gc_5_f_4; omega) | omega), (hF.trans hout)⟩ dX12_unknownAll_30
      · skip
        replace hF := q_ifp hF c_5
        refine lv_iload_n hx hb dX12_unknownAll_14 rfl (lv_at hl 2 rfl) ?_
        refine lv_aload_n hx hb dX12_unknownAll_15 rfl (lv_at hl 0 rfl) ?_
        refine lv_iload_n hx hb dX12_unknownAll_16 rfl (lv_at hl 1 rfl) ?_
        refine lv_iload_n hx hb dX12_unknownAll_17 rfl (lv_at hl 3 rfl) ?_
        refine q_ci (q_rV11_2 (rest := [.int x_1]) E (hml.trans hl.1.symm) hI (c_X12_unknownOf l X σ a v1 x_2 ha hG (by omega) (by first | (clear h0 hm4 hs4 sb ps gc_5_f_4; omega) | omega)) kv_X12_336 ha ⟨Nat.le_of_ble_eq_true rfl, Nat.le_of_ble_eq_true rfl⟩ (Nat.le_of_ble_eq_true rfl) dX12_unknownAll_18) hI (Nat.le_of_ble_eq_true rfl) (fun r_6 σ_7 H locs hpσ_7 hkσ_7 hI => ?_)
        have ahpσ_7 := hpσ_7.1
        have bhpσ_7 := hpσ_7.2.1
        have chpσ_7 := hpσ_7.2.2.1
        have dhpσ_7 := hpσ_7.2.2.2
        clear hpσ_7
        replace hI := q_Irw ahpσ_7 hI
        replace hF := q_letX hF dhpσ_7
        have ir_6 : r_6.toInt = (m_U (m_c X σ a) v1.toInt x_2.toInt) := (by first | exact bhpσ_7 | (rw [bhpσ_7]) | (simp only [bhpσ_7]))
        refine lv_iadd hx hb dX12_unknownAll_21 ?_
        refine lv_topi (fun z_8 ez_8 => ?_)
        replace hF := q_letX hF ez_8
        have iz_8 := q_addI (A := x_1.toInt) (B := (m_U (m_c X σ a) v1.toInt x_2.toInt)) ez_8 rfl ir_6 (by first | (clear h0 hh hm4 hge4 if_4 gc_5_x_2 gc_5_f_4 c_5 ahpσ_7 dhpσ_7 ir_6; omega) | omega) (by first | (clear h0 hm4 hge4 gc_5_x_2 gc_5_f_4 ahpσ_7 dhpσ_7 ir_6; omega) | omega)
        refine lv_istore_n (lv' := [(2, .int z_8), (0, .ref a), (1, .int v1), (3, .int x_2)]) hx hb dX12_unknownAll_22 rfl hl (by decide) rfl (fun ls hl => ?_)
        obtain ⟨z_9, ez_9⟩ : ∃ y : Int32, y = x_2 + 1 := ⟨_, rfl⟩
        replace hF := q_letX hF ez_9
        refine lv_iinc (v := z_9) (lv' := [(3, .int z_9), (2, .int z_8), (0, .ref a), (1, .int v1)]) hx hb dX12_unknownAll_23 hl (k := 3) rfl (by rw [ez_9]; rfl) (by decide) rfl (fun ls hl => ?_)
        have iz_9 : z_9.toInt = x_2.toInt + 1 := q_inc ez_9 (by first | (clear h0 hm4 hs4 sb ps gc_5_f_4 ahpσ_7 bhpσ_7 chpσ_7 dhpσ_7 ir_6 iz_8; omega) | omega)
        have pz := ps
        rw [← iz_9] at pz
        refine lv_goto (tgt := 4) hx hb dX12_unknownAll_26 (by decide) ?_
        exact ih4 z_8 z_9 _ _ ls (by first | (clear h0 hs4 sb ps gc_5_f_4 ahpσ_7 bhpσ_7 chpσ_7 dhpσ_7 ir_6 iz_8 pz; omega) | omega) (by first | (clear h0 hh hm4 hs4 sb ps gc_5_f_4 ahpσ_7 bhpσ_7 chpσ_7 dhpσ_7 ir_6 iz_8 pz; omega) | omega) (by first | (clear h0 hh hm4 hge4 sb if_4 gc_5_x_2 gc_5_f_4 c_5 ahpσ_7 bhpσ_7 chpσ_7 dhpσ_7 ir_6 iz_9; omega) | omega) hF hI (lv_sub hl [2, 3, 1, 0] rfl)
  have kc_10 : (0 : Int32).toInt = 0 := zt_0
  exact L_4_3 ((2147483647 - (0 : Int32).toInt).toNat + 1) 0 0 _ _ ls (Nat.lt_succ_self _) (by have q : (0 : Int32).toInt = 0 := rfl; omega) rfl hF hI (lv_sub hl [2, 3, 1, 0] rfl)
end
