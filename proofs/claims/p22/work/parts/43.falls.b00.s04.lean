section
set_option maxRecDepth 100000 in
set_option maxHeartbeats 4000000 in
theorem c_X12_ridOf (l : Launch) (X : XW) (σ : ST) (a : Nat) (v1 : Int32) (ha : q_kd X a = 12) (hG : m_G (m_c X σ a)) (h0 : 0 ≤ v1.toInt ∧ v1.toInt < m_c X σ a 2) : Met l yX12_ridOf (q_ws yX12_ridOf cX12_ridOf 3 (some .int)) (q_rm 4 93) (q_P X σ [.ref a, .int v1]) (q_Qi X 8 σ (fun (r : Int32) (σ' : ST) => (-1 ≤ r.toInt ∧ r.toInt ≤ 60) ∧ (r, σ') = F_X12_ridOf X σ a v1 ∧ q_ow [(12, 33), (12, 34), (12, 35), (38, 99)] [] X σ σ')) 0 0 (q_reg X) := by
  refine q_met 8 (by first | exact rfl | decide +kernel) rfl (Nat.le_of_ble_eq_true rfl) (fun p e s m below meth c E hml hr hlk hI ls hl => ?_)
  have hx := E.1
  have hb := E.2.1
  have hl : lv_has ls 3 [(0, .ref a), (1, .int v1)] := hl
  have feσ : m_c X σ a = m_c X σ a := rfl
  have fr_σ : q_ow [(12, 33), (12, 34), (12, 35), (38, 99)] [] X σ σ := q_ow.rf
  have hh := hG.hd
  obtain ⟨out, hout⟩ : ∃ o, o = F_X12_ridOf X σ a v1 := ⟨_, rfl⟩
  have hF := hout.symm
  unfold F_X12_ridOf at hF
  refine lv_iconst (v := 0) hx hb dX12_ridOf_0 zki_0 ?_
  refine lv_istore_n (lv' := [(2, .int 0), (0, .ref a), (1, .int v1)]) hx hb dX12_ridOf_1 rfl hl (by decide) rfl (fun ls hl => ?_)
  have L_2_3 : ∀ (k_3 : Nat) (x_1 : Int32) (σ_2 : ST) (H : Heap) (locs : List Loc) (ls : Array Slot), (2147483647 - x_1.toInt).toNat < k_3 → (0 ≤ x_1.toInt) → (q_ow [(12, 33), (12, 34), (12, 35), (38, 99)] [] X σ σ_2) → (m_c X σ_2 a = m_c X σ a) → (F_X12_ridOf_L2_1 X a v1 k_3 x_1 σ_2 = out) → q_I X 8 σ s.heap locs σ_2 H → lv_has ls 3 [(0, .ref a), (1, .int v1), (2, .int x_1)] → W p l e (q_rm 4 93) s m ([.ref a, .int v1] : List Value).toArray below meth c H locs 0 0 (MQ below (q_Qi X 8 σ (fun (r : Int32) (σ' : ST) => (-1 ≤ r.toInt ∧ r.toInt ≤ 60) ∧ (r, σ') = F_X12_ridOf X σ a v1 ∧ q_ow [(12, 33), (12, 34), (12, 35), (38, 99)] [] X σ σ')) ([.ref a, .int v1] : List Value).toArray s 0 0 (q_reg X)) (F0 m 2 ls []) := by
    clear hF
    intro k_3
    induction k_3 with
    | zero =>
      intro x_1 σ_2 H locs ls hms
      try clear feσ; try clear fr_σ
      exact absurd hms (Nat.not_lt_zero _)
    | succ k_3 ih2 =>
      intro x_1 σ_2 H locs ls hm2 hge2 fr_σ_2 feσ_2 hF hI hl
      replace hF := (F_X12_ridOf_L2_1_s).symm.trans hF
      unfold F_X12_ridOf_B2_1 at hF
      refine lv_iload_n hx hb dX12_ridOf_2 rfl (lv_at hl 2 rfl) ?_
      refine lv_bipush (v := 60) hx hb dX12_ridOf_3 zkb_60 ?_
      have gc_4_x_1 := q_rng x_1
      refine q_icmp_gt (A := x_1.toInt) (B := 60) E rfl (by decide) (tgt := 25) dX12_ridOf_5 (by decide) (fun c_4 => ?_) (fun c_4 => ?_)
      · skip
        replace hF := q_ifp hF c_4
        skip
        refine lv_iconst (v := (-1)) hx hb dX12_ridOf_25 zki_m1 ?_
        have hrv : ((-1) : Int32).toInt = (-1) := zt_m1
        exact q_reti E hr hlk hI ⟨(by first | (clear h0 hh hm2 hge2 gc_4_x_1 c_4; omega) | omega), (hF.trans hout), fr_σ_2⟩ dX12_ridOf_26
      · skip
        replace hF := q_ifn hF (Int.not_lt.mpr c_4)
        refine lv_aload_n hx hb dX12_ridOf_8 rfl (lv_at hl 0 rfl) ?_
        refine lv_iload_n hx hb dX12_ridOf_9 rfl (lv_at hl 1 rfl) ?_
        refine lv_iload_n hx hb dX12_ridOf_10 rfl (lv_at hl 2 rfl) ?_
        refine q_ci (q_rV11_2 (rest := []) E (hml.trans hl.1.symm) hI (c_X12_honestFor l X σ_2 a v1 x_1 ha (by rw [feσ_2]; exact hG) (by rw [feσ_2]; exact (by omega)) (by first | (clear h0 hh hm2; omega) | omega)) kv_X12_387 ha ⟨Nat.le_of_ble_eq_true rfl, Nat.le_of_ble_eq_true rfl⟩ (Nat.le_of_ble_eq_true rfl) dX12_ridOf_11) hI (Nat.le_of_ble_eq_true rfl) (fun r_5 σ_6 H locs hpσ_6 hkσ_6 hI => ?_)
        have ahpσ_6 := hpσ_6.1
        have bhpσ_6 := hpσ_6.2
        clear hpσ_6
        have fr_σ_6 := fr_σ_2.call bhpσ_6 rfl rfl
        replace hF := q_biX hF ahpσ_6
        have mcσ_6 := m_cK hkσ_6 hI.1 ha (by decide)
        have feσ_6 : m_c X σ_6 a = m_c X σ a := (funext mcσ_6).trans feσ_2
        refine q_if_ne (A := r_5.toInt) E rfl (tgt := 19) dX12_ridOf_14 (by decide) (fun c_7 => ?_) (fun c_7 => ?_)
        · skip
          replace hF := q_ifn hF c_7
          obtain ⟨z_8, ez_8⟩ : ∃ y : Int32, y = x_1 + 1 := ⟨_, rfl⟩
          replace hF := q_letX hF ez_8
          refine lv_iinc (v := z_8) (lv' := [(2, .int z_8), (0, .ref a), (1, .int v1)]) hx hb dX12_ridOf_19 hl (k := 2) rfl (by rw [ez_8]; rfl) (by decide) rfl (fun ls hl => ?_)
          have iz_8 : z_8.toInt = x_1.toInt + 1 := q_inc ez_8 (by first | (clear h0 hh hm2 ahpσ_6 bhpσ_6 c_7; omega) | omega)
          refine lv_goto (tgt := 2) hx hb dX12_ridOf_22 (by decide) ?_
          exact ih2 z_8 σ_6 _ _ ls (by first | (clear h0 hh ahpσ_6 bhpσ_6; omega) | omega) (by first | (clear h0 hh hm2 ahpσ_6 bhpσ_6 c_7; omega) | omega) fr_σ_6 feσ_6 hF hI (lv_sub hl [1, 2, 0] rfl)
        · skip
          replace hF := q_ifp hF c_7
          skip
          refine lv_iload_n hx hb dX12_ridOf_17 rfl (lv_at hl 2 rfl) ?_
          exact q_reti E hr hlk hI ⟨(by first | (clear h0 hh hm2 ahpσ_6 bhpσ_6 c_7; omega) | omega), (hF.trans hout), fr_σ_6⟩ dX12_ridOf_18
  have kc_9 : (0 : Int32).toInt = 0 := zt_0
  exact L_2_3 ((2147483647 - (0 : Int32).toInt).toNat + 1) 0 σ _ _ ls (Nat.lt_succ_self _) (by decide) fr_σ feσ hF hI (lv_sub hl [1, 2, 0] rfl)
end
