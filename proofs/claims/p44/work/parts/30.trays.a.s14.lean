section
set_option maxRecDepth 100000 in
set_option maxHeartbeats 4000000 in
theorem c_X12_isSignByte (l : Launch) (X : XW) (σ : ST) (a : Nat) (v1 : Int32) (ha : q_kd X a = 12) : Met l yX12_isSignByte (q_ws yX12_isSignByte cX12_isSignByte 2 (some .boolean)) (q_rm 0 0) (q_P X σ [.ref a, .int v1]) (q_Qi X 9 σ (fun (r : Int32) (σ' : ST) => σ' = σ ∧ (0 ≤ r.toInt ∧ r.toInt ≤ 1) ∧ r = F_X12_isSignByte X σ a v1)) 0 0 (q_reg X) := by
  refine q_met 9 (by first | exact rfl | decide +kernel) rfl (Nat.le_of_ble_eq_true rfl) (fun p e s m below meth c E hml hr hlk hI ls hl => ?_)
  have hx := E.1
  have hb := E.2.1
  have hl : lv_has ls 2 [(0, .ref a), (1, .int v1)] := hl
  obtain ⟨out, hout⟩ : ∃ o, o = F_X12_isSignByte X σ a v1 := ⟨_, rfl⟩
  have hF := hout.symm
  unfold F_X12_isSignByte at hF
  refine lv_iload_n hx hb dX12_isSignByte_0 rfl (lv_at hl 1 rfl) ?_
  refine lv_bipush (v := 59) hx hb dX12_isSignByte_1 (by decide) ?_
  refine q_icmp_eq (A := v1.toInt) (B := 59) E rfl (by decide) (tgt := 24) dX12_isSignByte_3 (by decide) (fun c_1 => ?_) (fun c_1 => ?_)
  · skip
    replace hF := q_ifp hF c_1
    refine lv_iconst (v := 1) hx hb dX12_isSignByte_24 (by decide) ?_
    refine lv_goto (tgt := 29) hx hb dX12_isSignByte_25 (by decide) ?_
    have hrv : (1 : Int32).toInt = 1 := rfl
    exact q_retz E hr hlk hI ⟨by decide, by decide⟩ ⟨rfl, ⟨by decide, by decide⟩, (hF.trans hout)⟩ dX12_isSignByte_29
  · skip
    replace hF := q_ifn hF c_1
    refine lv_iload_n hx hb dX12_isSignByte_6 rfl (lv_at hl 1 rfl) ?_
    refine lv_bipush (v := 60) hx hb dX12_isSignByte_7 (by decide) ?_
    refine q_icmp_eq (A := v1.toInt) (B := 60) E rfl (by decide) (tgt := 24) dX12_isSignByte_9 (by decide) (fun c_2 => ?_) (fun c_2 => ?_)
    · skip
      replace hF := q_ifp hF c_2
      refine lv_iconst (v := 1) hx hb dX12_isSignByte_24 (by decide) ?_
      refine lv_goto (tgt := 29) hx hb dX12_isSignByte_25 (by decide) ?_
      have hrv : (1 : Int32).toInt = 1 := rfl
      exact q_retz E hr hlk hI ⟨by decide, by decide⟩ ⟨rfl, ⟨by decide, by decide⟩, (hF.trans hout)⟩ dX12_isSignByte_29
    · skip
      replace hF := q_ifn hF c_2
      refine lv_iload_n hx hb dX12_isSignByte_12 rfl (lv_at hl 1 rfl) ?_
      refine lv_bipush (v := 62) hx hb dX12_isSignByte_13 (by decide) ?_
      refine q_icmp_eq (A := v1.toInt) (B := 62) E rfl (by decide) (tgt := 24) dX12_isSignByte_15 (by decide) (fun c_3 => ?_) (fun c_3 => ?_)
      · skip
        replace hF := q_ifp hF c_3
        refine lv_iconst (v := 1) hx hb dX12_isSignByte_24 (by decide) ?_
        refine lv_goto (tgt := 29) hx hb dX12_isSignByte_25 (by decide) ?_
        have hrv : (1 : Int32).toInt = 1 := rfl
        exact q_retz E hr hlk hI ⟨by decide, by decide⟩ ⟨rfl, ⟨by decide, by decide⟩, (hF.trans hout)⟩ dX12_isSignByte_29
      · skip
        replace hF := q_ifn hF c_3
        refine lv_iload_n hx hb dX12_isSignByte_18 rfl (lv_at hl 1 rfl) ?_
        refine lv_bipush (v := 61) hx hb dX12_isSignByte_19 (by decide) ?_
        refine q_icmp_ne (A := v1.toInt) (B := 61) E rfl (by decide) (tgt := 28) dX12_isSignByte_21 (by decide) (fun c_4 => ?_) (fun c_4 => ?_)
        · skip
          replace hF := q_ifn hF c_4
          refine lv_iconst (v := 0) hx hb dX12_isSignByte_28 (by decide) ?_
          have hrv : (0 : Int32).toInt = 0 := rfl
          exact q_retz E hr hlk hI ⟨by decide, by decide⟩ ⟨rfl, ⟨by decide, by decide⟩, (hF.trans hout)⟩ dX12_isSignByte_29
        · skip
          replace hF := q_ifp hF c_4
          refine lv_iconst (v := 1) hx hb dX12_isSignByte_24 (by decide) ?_
          refine lv_goto (tgt := 29) hx hb dX12_isSignByte_25 (by decide) ?_
          have hrv : (1 : Int32).toInt = 1 := rfl
          exact q_retz E hr hlk hI ⟨by decide, by decide⟩ ⟨rfl, ⟨by decide, by decide⟩, (hF.trans hout)⟩ dX12_isSignByte_29

set_option maxRecDepth 100000 in
set_option maxHeartbeats 4000000 in
theorem c_X12_isSign (l : Launch) (X : XW) (σ : ST) (a : Nat) (v1 : Int32) (ha : q_kd X a = 12) : Met l yX12_isSign (q_ws yX12_isSign cX12_isSign 2 (some .boolean)) (q_rm 0 0) (q_P X σ [.ref a, .int v1]) (q_Qi X 9 σ (fun (r : Int32) (σ' : ST) => σ' = σ ∧ (0 ≤ r.toInt ∧ r.toInt ≤ 1) ∧ r = F_X12_isSign X σ a v1)) 0 0 (q_reg X) := by
  refine q_met 9 (by first | exact rfl | decide +kernel) rfl (Nat.le_of_ble_eq_true rfl) (fun p e s m below meth c E hml hr hlk hI ls hl => ?_)
  have hx := E.1
  have hb := E.2.1
  have hl : lv_has ls 2 [(0, .ref a), (1, .int v1)] := hl
  obtain ⟨out, hout⟩ : ∃ o, o = F_X12_isSign X σ a v1 := ⟨_, rfl⟩
  have hF := hout.symm
  unfold F_X12_isSign at hF
  refine lv_aload_n hx hb dX12_isSign_0 rfl (lv_at hl 0 rfl) ?_
  refine gs_X12_110_12 E hI ha dX12_isSign_1 ?_
  refine lv_topi (fun f_1 ef_1 => ?_)
  replace hF := q_letX hF ef_1
  refine lv_iconst (v := 3) hx hb dX12_isSign_4 (by decide) ?_
  refine q_icmp_ne (A := f_1.toInt) (B := 3) E rfl (by decide) (tgt := 20) dX12_isSign_5 (by decide) (fun c_2 => ?_) (fun c_2 => ?_)
  · skip
    replace hF := q_ifn hF c_2
    refine lv_iconst (v := 0) hx hb dX12_isSign_20 (by decide) ?_
    have hrv : (0 : Int32).toInt = 0 := rfl
    exact q_retz E hr hlk hI ⟨by decide, by decide⟩ ⟨rfl, ⟨by decide, by decide⟩, (hF.trans hout)⟩ dX12_isSign_21
  · skip
    replace hF := q_ifp hF c_2
    refine lv_aload_n hx hb dX12_isSign_8 rfl (lv_at hl 0 rfl) ?_
    refine gs_X12_129_12 E hI ha dX12_isSign_9 ?_
    refine lv_topi (fun f_3 ef_3 => ?_)
    replace hF := q_letX hF ef_3
    refine lv_iload_n hx hb dX12_isSign_12 rfl (lv_at hl 1 rfl) ?_
    refine q_icmp_ne (A := f_3.toInt) (B := v1.toInt) E rfl rfl (tgt := 20) dX12_isSign_13 (by decide) (fun c_4 => ?_) (fun c_4 => ?_)
    · skip
      replace hF := q_ifn hF c_4
      refine lv_iconst (v := 0) hx hb dX12_isSign_20 (by decide) ?_
      have hrv : (0 : Int32).toInt = 0 := rfl
      exact q_retz E hr hlk hI ⟨by decide, by decide⟩ ⟨rfl, ⟨by decide, by decide⟩, (hF.trans hout)⟩ dX12_isSign_21
    · skip
      replace hF := q_ifp hF c_4
      refine lv_iconst (v := 1) hx hb dX12_isSign_16 (by decide) ?_
      refine lv_goto (tgt := 21) hx hb dX12_isSign_17 (by decide) ?_
      have hrv : (1 : Int32).toInt = 1 := rfl
      exact q_retz E hr hlk hI ⟨by decide, by decide⟩ ⟨rfl, ⟨by decide, by decide⟩, (hF.trans hout)⟩ dX12_isSign_21
end
