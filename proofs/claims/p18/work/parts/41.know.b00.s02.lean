section
set_option maxRecDepth 100000 in
set_option maxHeartbeats 4000000 in
theorem c_X12_choose (l : Launch) (X : XW) (σ : ST) (v0 : Int32) (v1 : Int32) (h0 : 0 ≤ v0.toInt ∧ v0.toInt ≤ 800) (h1 : 0 ≤ v1.toInt ∧ v1.toInt ≤ 4) : Met l yX12_choose (q_ws yX12_choose cX12_choose 5 (some .long)) (q_rm 0 0) (q_P X σ [.int v0, .int v1]) (q_Ql X 9 σ (fun (r : Int64) (σ' : ST) => σ' = σ ∧ (0 ≤ r.toInt ∧ r.toInt ≤ 409600000000) ∧ (v1.toInt ≤ v0.toInt → 1 ≤ r.toInt) ∧ r = F_X12_choose X σ v0 v1)) 0 0 (q_reg X) := by
  refine q_met 9 (by first | exact rfl | decide +kernel) rfl (Nat.le_of_ble_eq_true rfl) (fun p e s m below meth c E hml hr hlk hI ls hl => ?_)
  have hx := E.1
  have hb := E.2.1
  have hl : lv_has ls 5 [(0, .int v0), (1, .int v1)] := hl
  obtain ⟨out, hout⟩ : ∃ o, o = F_X12_choose X σ v0 v1 := ⟨_, rfl⟩
  have hF := hout.symm
  unfold F_X12_choose at hF
  refine lv_iload_n hx hb dX12_choose_0 rfl (lv_at hl 1 rfl) ?_
  refine lv_iload_n hx hb dX12_choose_1 rfl (lv_at hl 0 rfl) ?_
  have gc_1_v1 := q_rng v1
  have gc_1_v0 := q_rng v0
  refine q_icmp_le (A := v1.toInt) (B := v0.toInt) E rfl rfl (tgt := 7) dX12_choose_2 (by decide) (fun c_1 => ?_) (fun c_1 => ?_)
  · skip
    replace hF := q_ifn hF (Int.not_lt.mpr c_1)
    refine lv_lconst (v := 1) hx hb dX12_choose_7 (by decide) ?_
    refine lv_lstore_n (lv' := [(2, .long 1), (0, .int v0), (1, .int v1)]) hx hb dX12_choose_8 rfl hl (by decide) rfl (fun ls hl => ?_)
    refine lv_iconst (v := 1) hx hb dX12_choose_9 zki_1 ?_
    refine lv_istore (lv' := [(4, .int 1), (2, .long 1), (0, .int v0), (1, .int v1)]) hx hb dX12_choose_10 hl (by decide) rfl (fun ls hl => ?_)
    have L_12_4 : ∀ (k_4 : Nat) (w_2 : Int64) (x_3 : Int32) (H : Heap) (locs : List Loc) (ls : Array Slot), (2147483647 - x_3.toInt).toNat < k_4 → (1 ≤ x_3.toInt ∧ x_3.toInt ≤ v1.toInt + 1 ∧ 1 ≤ w_2.toInt) → ((x_3.toInt = 1 ∧ w_2.toInt ≤ 1 ∨ x_3.toInt = 2 ∧ w_2.toInt ≤ 800 ∨ x_3.toInt = 3 ∧ w_2.toInt ≤ 640000 ∨ x_3.toInt = 4 ∧ w_2.toInt ≤ 512000000 ∨ x_3.toInt = 5 ∧ w_2.toInt ≤ 409600000000)) → (F_X12_choose_L12_1 X v1 v0 k_4 w_2 x_3 = out) → q_I X 9 σ s.heap locs σ H → lv_has ls 5 [(0, .int v0), (1, .int v1), (2, .long w_2), (4, .int x_3)] → W p l e (q_rm 0 0) s m ([.int v0, .int v1] : List Value).toArray below meth c H locs 0 0 (MQ below (q_Ql X 9 σ (fun (r : Int64) (σ' : ST) => σ' = σ ∧ (0 ≤ r.toInt ∧ r.toInt ≤ 409600000000) ∧ (v1.toInt ≤ v0.toInt → 1 ≤ r.toInt) ∧ r = F_X12_choose X σ v0 v1)) ([.int v0, .int v1] : List Value).toArray s 0 0 (q_reg X)) (F0 m 12 ls []) := by
      clear hF
      intro k_4
      induction k_4 with
      | zero =>
        intro w_2 x_3 H locs ls hms
        exact absurd hms (Nat.not_lt_zero _)
      | succ k_4 ih12 =>
        intro w_2 x_3 H locs ls hm12 hge12 hc12 hF hI hl
        replace hF := (F_X12_choose_L12_1_s).symm.trans hF
        unfold F_X12_choose_B12_1 at hF
        refine lv_iload hx hb dX12_choose_12 (lv_at hl 3 rfl) ?_
        refine lv_iload_n hx hb dX12_choose_14 rfl (lv_at hl 1 rfl) ?_
        have gc_5_x_3 := q_rng x_3
        have gc_5_v1 := q_rng v1
        refine q_icmp_gt (A := x_3.toInt) (B := v1.toInt) E rfl rfl (tgt := 38) dX12_choose_15 (by decide) (fun c_5 => ?_) (fun c_5 => ?_)
        · skip
          replace hF := q_ifp hF c_5
          skip
          refine lv_lload_n hx hb dX12_choose_38 rfl (lv_at hl 2 rfl) ?_
          exact q_retl E hr hlk hI ⟨rfl, (by first | (clear h0 h1 gc_1_v1 gc_1_v0 c_1 hm12 gc_5_x_3 gc_5_v1 c_5; omega) | omega), (by first | (clear h0 h1 gc_1_v1 gc_1_v0 c_1 hm12 hc12 gc_5_x_3 gc_5_v1 c_5; omega) | omega), (hF.trans hout)⟩ dX12_choose_39
        · skip
          replace hF := q_ifn hF (Int.not_lt.mpr c_5)
          refine lv_lload_n hx hb dX12_choose_18 rfl (lv_at hl 2 rfl) ?_
          refine lv_iload_n hx hb dX12_choose_19 rfl (lv_at hl 0 rfl) ?_
          refine lv_iload_n hx hb dX12_choose_20 rfl (lv_at hl 1 rfl) ?_
          refine lv_isub hx hb dX12_choose_21 ?_
          refine lv_topi (fun z_6 ez_6 => ?_)
          replace hF := q_letX hF ez_6
          have iz_6 := q_subI (A := v0.toInt) (B := v1.toInt) ez_6 rfl rfl (by first | (clear h0 h1 gc_1_v1 gc_1_v0 hm12 hge12 hc12 gc_5_x_3 gc_5_v1 c_5; omega) | omega) (by first | (clear h0 h1 gc_1_v1 gc_1_v0 c_1 hm12 hge12 hc12 gc_5_x_3 gc_5_v1 c_5; omega) | omega)
          refine lv_iload hx hb dX12_choose_22 (lv_at hl 3 rfl) ?_
          refine lv_iadd hx hb dX12_choose_24 ?_
          refine lv_topi (fun z_7 ez_7 => ?_)
          replace hF := q_letX hF ez_7
          have iz_7 := q_addI (A := (v0.toInt - v1.toInt)) (B := x_3.toInt) ez_7 iz_6 rfl (by first | (clear h0 h1 gc_1_v1 gc_1_v0 hm12 hc12 gc_5_v1 c_5; omega) | omega) (by first | (clear h0 h1 gc_1_v1 gc_1_v0 c_1 hm12 hge12 hc12 gc_5_x_3 gc_5_v1; omega) | omega)
          refine lv_i2l hx hb dX12_choose_25 rfl ?_
          refine lv_topl (fun y_8 ey_8 => ?_)
          replace hF := q_letX hF ey_8
          have ggy_8 := q_rng z_7
          have iy_8 : y_8.toInt = z_7.toInt := by rw [ey_8]; exact (q_i2l _).trans rfl
          have mb := m_mulI (a := w_2.toInt) (A := 512000000) (b := y_8.toInt) (B := 800) (by first | (clear h0 h1 gc_1_v1 gc_1_v0 c_1 hm12 hc12 gc_5_x_3 gc_5_v1 c_5 iz_6 iz_7 ggy_8 iy_8; omega) | omega) (by first | (clear h0 h1 gc_1_v1 gc_1_v0 hm12 hge12 gc_5_x_3 gc_5_v1; omega) | omega) (by first | (clear h0 h1 gc_1_v1 gc_1_v0 hm12 hc12 gc_5_v1; omega) | omega) (by first | (clear h0 h1 gc_1_v1 gc_1_v0 c_1 hm12 hge12 hc12 gc_5_x_3 gc_5_v1; omega) | omega)
          refine lv_lmul hx hb dX12_choose_26 ?_
          refine lv_topl (fun y_9 ey_9 => ?_)
          replace hF := q_letX hF ey_9
          have iy_9 := q_mulJ (A := w_2.toInt) (B := y_8.toInt) ey_9 rfl rfl (by first | (clear h0 h1 gc_1_v1 gc_1_v0 c_1 hm12 hge12 hc12 gc_5_x_3 gc_5_v1 c_5 iz_6 iz_7 ggy_8 iy_8; omega) | omega) (by first | (clear h0 h1 gc_1_v1 gc_1_v0 c_1 hm12 hge12 hc12 gc_5_x_3 gc_5_v1 c_5 iz_6 iz_7 ggy_8 iy_8; omega) | omega)
          refine lv_iload hx hb dX12_choose_27 (lv_at hl 3 rfl) ?_
          refine lv_i2l hx hb dX12_choose_29 rfl ?_
          refine lv_topl (fun y_10 ey_10 => ?_)
          replace hF := q_letX hF ey_10
          have ggy_10 := q_rng x_3
          have iy_10 : y_10.toInt = x_3.toInt := by rw [ey_10]; exact (q_i2l _).trans rfl
          refine lv_ldiv hx hb dX12_choose_30 (q_ne0l (by first | (clear h0 h1 gc_1_v1 gc_1_v0 c_1 hm12 hc12 gc_5_v1 c_5 ggy_8 mb iy_9 ggy_10; omega) | omega)) ?_
          refine lv_topl (fun y_11 ey_11 => ?_)
          replace hF := q_letX hF ey_11
          have dvy_11 := m_chs (i := x_3.toInt) ey_11 iy_9 iy_10 (by first | (clear h0 h1 gc_1_v1 gc_1_v0 c_1 hm12 hc12 gc_5_x_3 gc_5_v1 c_5 iz_6 iz_7 ggy_8 iy_8 mb iy_9 ggy_10 iy_10; omega) | omega) (by first | (clear h0 h1 gc_1_v1 gc_1_v0 c_1 hm12 hc12 gc_5_v1 c_5 ggy_8 mb iy_9 ggy_10; omega) | omega) (by first | (clear h0 h1 gc_1_v1 gc_1_v0 hm12 hge12 hc12 gc_5_x_3 gc_5_v1 c_5 ggy_8 mb iy_9 ggy_10; omega) | omega) (by first | (clear h0 h1 gc_1_v1 gc_1_v0 hm12 hc12 gc_5_v1 mb iy_9 ggy_10; omega) | omega) (by first | (clear h0 h1 gc_1_v1 gc_1_v0 c_1 hm12 hge12 gc_5_x_3 gc_5_v1 ggy_8 mb iy_9 ggy_10; omega) | omega)
          refine lv_lstore_n (lv' := [(2, .long y_11), (0, .int v0), (1, .int v1), (4, .int x_3)]) hx hb dX12_choose_31 rfl hl (by decide) rfl (fun ls hl => ?_)
          obtain ⟨z_12, ez_12⟩ : ∃ y : Int32, y = x_3 + 1 := ⟨_, rfl⟩
          replace hF := q_letX hF ez_12
          refine lv_iinc (v := z_12) (lv' := [(4, .int z_12), (2, .long y_11), (0, .int v0), (1, .int v1)]) hx hb dX12_choose_32 hl (k := 3) rfl (by rw [ez_12]; rfl) (by decide) rfl (fun ls hl => ?_)
          have iz_12 : z_12.toInt = x_3.toInt + 1 := q_inc ez_12 (by first | (clear h0 h1 gc_1_v1 gc_1_v0 c_1 hm12 hc12 gc_5_v1 ggy_8 mb iy_9 ggy_10 dvy_11; omega) | omega)
          refine lv_goto (tgt := 12) hx hb dX12_choose_35 (by decide) ?_
          exact ih12 y_11 z_12 _ _ ls (by first | (clear h0 h1 gc_1_v1 gc_1_v0 c_1 gc_5_v1 ggy_8 mb iy_9 ggy_10 dvy_11; omega) | omega) (by first | (clear h0 h1 gc_1_v1 gc_1_v0 c_1 hm12 hc12 gc_5_v1 ggy_8 mb iy_9 ggy_10; omega) | omega) (by first | (clear h0 h1 gc_1_v1 gc_1_v0 c_1 hm12 gc_5_v1 ggy_8 mb iy_9 ggy_10; omega) | omega) hF hI (lv_sub hl [2, 3, 1, 0] rfl)
    have kc_13 : (1 : Int32).toInt = 1 := zt_1
    exact L_12_4 ((2147483647 - (1 : Int32).toInt).toNat + 1) 1 1 _ _ ls (Nat.lt_succ_self _) (by have q : (1 : Int32).toInt = 1 := rfl; have q2 : (1 : Int64).toInt = 1 := rfl; omega) (Or.inl (by decide)) hF hI (lv_sub hl [2, 3, 1, 0] rfl)
  · skip
    replace hF := q_ifp hF c_1
    refine lv_lconst (v := 0) hx hb dX12_choose_5 (by decide) ?_
    have hrv : (0 : Int64).toInt = 0 := rfl
    exact q_retl E hr hlk hI ⟨rfl, (by first | (clear h0 h1 gc_1_v1 gc_1_v0 c_1; omega) | omega), (by first | (clear h0 h1 gc_1_v1 gc_1_v0 hrv; omega) | omega), (hF.trans hout)⟩ dX12_choose_6
end
