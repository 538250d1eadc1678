section
set_option maxRecDepth 100000 in
set_option maxHeartbeats 4000000 in
theorem c_X10_isMissing (l : Launch) (X : XW) (σ : ST) (a : Nat) (ha : q_kd X a = 10) : Met l yX10_isMissing (q_ws yX10_isMissing cX10_isMissing 1 (some .boolean)) (q_rm 0 0) (q_P X σ [.ref a]) (q_Qi X 9 σ (fun (r : Int32) (σ' : ST) => σ' = σ ∧ (0 ≤ r.toInt ∧ r.toInt ≤ 1) ∧ (r.toInt = 1 ↔ (σ.1 a 1).toInt = -1) ∧ r = F_X10_isMissing X σ a)) 0 0 (q_reg X) := by
  refine q_met 9 (by first | exact rfl | decide +kernel) rfl (Nat.le_of_ble_eq_true rfl) (fun p e s m below meth c E hml hr hlk hI ls hl => ?_)
  have hx := E.1
  have hb := E.2.1
  have hl : lv_has ls 1 [(0, .ref a)] := hl
  obtain ⟨out, hout⟩ : ∃ o, o = F_X10_isMissing X σ a := ⟨_, rfl⟩
  have hF := hout.symm
  unfold F_X10_isMissing at hF
  refine lv_aload_n hx hb dX10_isMissing_0 rfl (lv_at hl 0 rfl) ?_
  refine gs_X10_15_10 E hI ha dX10_isMissing_1 ?_
  refine lv_topi (fun f_1 ef_1 => ?_)
  replace hF := q_letX hF ef_1
  have if_1 : f_1.toInt = (σ.1 a 1).toInt := congrArg Int32.toInt ef_1
  have bf_1 : -1 ≤ f_1.toInt ∧ f_1.toInt ≤ 60 := by rw [ef_1]; exact q_bd hI ha rfl
  refine lv_iconst (v := (-1)) hx hb dX10_isMissing_4 (by decide) ?_
  refine q_icmp_ne (A := f_1.toInt) (B := (-1)) E rfl (by decide) (tgt := 12) dX10_isMissing_5 (by decide) (fun c_2 => ?_) (fun c_2 => ?_)
  · skip
    replace hF := q_ifn hF c_2
    refine lv_iconst (v := 0) hx hb dX10_isMissing_12 (by decide) ?_
    have hrv : (0 : Int32).toInt = 0 := rfl
    exact q_retz E hr hlk hI ⟨by decide, by decide⟩ ⟨rfl, ⟨by decide, by decide⟩, (by constructor <;> intro h9 <;> omega), (hF.trans hout)⟩ dX10_isMissing_13
  · skip
    replace hF := q_ifp hF c_2
    refine lv_iconst (v := 1) hx hb dX10_isMissing_8 (by decide) ?_
    refine lv_goto (tgt := 13) hx hb dX10_isMissing_9 (by decide) ?_
    have hrv : (1 : Int32).toInt = 1 := rfl
    exact q_retz E hr hlk hI ⟨by decide, by decide⟩ ⟨rfl, ⟨by decide, by decide⟩, (by constructor <;> intro h9 <;> omega), (hF.trans hout)⟩ dX10_isMissing_13

set_option maxRecDepth 100000 in
set_option maxHeartbeats 4000000 in
theorem c_X10_hasPlaces (l : Launch) (X : XW) (σ : ST) (a : Nat) (v1 : Int32) (v2 : Int32) (ha : q_kd X a = 10) : Met l yX10_hasPlaces (q_ws yX10_hasPlaces cX10_hasPlaces 3 (some .boolean)) (q_rm 0 0) (q_P X σ [.ref a, .int v1, .int v2]) (q_Qi X 9 σ (fun (r : Int32) (σ' : ST) => σ' = σ ∧ (0 ≤ r.toInt ∧ r.toInt ≤ 1) ∧ (r.toInt = 1 ↔ (0 ≤ v2.toInt ∧ 0 ≤ v1.toInt ∧ v1.toInt + v2.toInt ≤ (σ.1 a 1).toInt)) ∧ r = F_X10_hasPlaces X σ a v1 v2)) 0 0 (q_reg X) := by
  refine q_met 9 (by first | exact rfl | decide +kernel) rfl (Nat.le_of_ble_eq_true rfl) (fun p e s m below meth c E hml hr hlk hI ls hl => ?_)
  have hx := E.1
  have hb := E.2.1
  have hl : lv_has ls 3 [(0, .ref a), (1, .int v1), (2, .int v2)] := hl
  obtain ⟨out, hout⟩ : ∃ o, o = F_X10_hasPlaces X σ a v1 v2 := ⟨_, rfl⟩
  have hF := hout.symm
  unfold F_X10_hasPlaces at hF
  refine lv_iload_n hx hb dX10_hasPlaces_0 rfl (lv_at hl 2 rfl) ?_
  refine q_if_lt (A := v2.toInt) E rfl (tgt := 30) dX10_hasPlaces_1 (by decide) (fun c_1 => ?_) (fun c_1 => ?_)
  · skip
    replace hF := q_ifp hF c_1
    refine lv_iconst (v := 0) hx hb dX10_hasPlaces_30 (by decide) ?_
    have hrv : (0 : Int32).toInt = 0 := rfl
    exact q_retz E hr hlk hI ⟨by decide, by decide⟩ ⟨rfl, ⟨by decide, by decide⟩, (by constructor <;> intro h9 <;> omega), (hF.trans hout)⟩ dX10_hasPlaces_31
  · skip
    replace hF := q_ifn hF (Int.not_lt.mpr c_1)
    refine lv_iload_n hx hb dX10_hasPlaces_4 rfl (lv_at hl 2 rfl) ?_
    refine lv_aload_n hx hb dX10_hasPlaces_5 rfl (lv_at hl 0 rfl) ?_
    refine gs_X10_15_10 E hI ha dX10_hasPlaces_6 ?_
    refine lv_topi (fun f_2 ef_2 => ?_)
    replace hF := q_letX hF ef_2
    have if_2 : f_2.toInt = (σ.1 a 1).toInt := congrArg Int32.toInt ef_2
    have bf_2 : -1 ≤ f_2.toInt ∧ f_2.toInt ≤ 60 := by rw [ef_2]; exact q_bd hI ha rfl
    have gc_3_v2 := q_rng v2
    have gc_3_f_2 := q_rng f_2
    refine q_icmp_gt (A := v2.toInt) (B := f_2.toInt) E rfl rfl (tgt := 30) dX10_hasPlaces_9 (by decide) (fun c_3 => ?_) (fun c_3 => ?_)
    · skip
      replace hF := q_ifp hF c_3
      refine lv_iconst (v := 0) hx hb dX10_hasPlaces_30 (by decide) ?_
      have hrv : (0 : Int32).toInt = 0 := rfl
      exact q_retz E hr hlk hI ⟨by decide, by decide⟩ ⟨rfl, ⟨by decide, by decide⟩, (by constructor <;> intro h9 <;> omega), (hF.trans hout)⟩ dX10_hasPlaces_31
    · skip
      replace hF := q_ifn hF (Int.not_lt.mpr c_3)
      refine lv_iload_n hx hb dX10_hasPlaces_12 rfl (lv_at hl 1 rfl) ?_
      refine q_if_lt (A := v1.toInt) E rfl (tgt := 30) dX10_hasPlaces_13 (by decide) (fun c_4 => ?_) (fun c_4 => ?_)
      · skip
        replace hF := q_ifp hF c_4
        refine lv_iconst (v := 0) hx hb dX10_hasPlaces_30 (by decide) ?_
        have hrv : (0 : Int32).toInt = 0 := rfl
        exact q_retz E hr hlk hI ⟨by decide, by decide⟩ ⟨rfl, ⟨by decide, by decide⟩, (by constructor <;> intro h9 <;> omega), (hF.trans hout)⟩ dX10_hasPlaces_31
      · skip
        replace hF := q_ifn hF (Int.not_lt.mpr c_4)
        refine lv_iload_n hx hb dX10_hasPlaces_16 rfl (lv_at hl 1 rfl) ?_
        refine lv_aload_n hx hb dX10_hasPlaces_17 rfl (lv_at hl 0 rfl) ?_
        refine gs_X10_15_10 E hI ha dX10_hasPlaces_18 ?_
        refine lv_topi (fun f_5 ef_5 => ?_)
        replace hF := q_letX hF ef_5
        have if_5 : f_5.toInt = (σ.1 a 1).toInt := congrArg Int32.toInt ef_5
        have bf_5 : -1 ≤ f_5.toInt ∧ f_5.toInt ≤ 60 := by rw [ef_5]; exact q_bd hI ha rfl
        refine lv_iload_n hx hb dX10_hasPlaces_21 rfl (lv_at hl 2 rfl) ?_
        refine lv_isub hx hb dX10_hasPlaces_22 ?_
        refine lv_topi (fun z_6 ez_6 => ?_)
        replace hF := q_letX hF ez_6
        have iz_6 := q_sub ez_6 (by omega) (by omega)
        have gc_7_v1 := q_rng v1
        have gc_7_z_6 := q_rng z_6
        refine q_icmp_gt (A := v1.toInt) (B := z_6.toInt) E rfl rfl (tgt := 30) dX10_hasPlaces_23 (by decide) (fun c_7 => ?_) (fun c_7 => ?_)
        · skip
          replace hF := q_ifp hF c_7
          refine lv_iconst (v := 0) hx hb dX10_hasPlaces_30 (by decide) ?_
          have hrv : (0 : Int32).toInt = 0 := rfl
          exact q_retz E hr hlk hI ⟨by decide, by decide⟩ ⟨rfl, ⟨by decide, by decide⟩, (by constructor <;> intro h9 <;> omega), (hF.trans hout)⟩ dX10_hasPlaces_31
        · skip
          replace hF := q_ifn hF (Int.not_lt.mpr c_7)
          refine lv_iconst (v := 1) hx hb dX10_hasPlaces_26 (by decide) ?_
          refine lv_goto (tgt := 31) hx hb dX10_hasPlaces_27 (by decide) ?_
          have hrv : (1 : Int32).toInt = 1 := rfl
          exact q_retz E hr hlk hI ⟨by decide, by decide⟩ ⟨rfl, ⟨by decide, by decide⟩, (by constructor <;> intro h9 <;> omega), (hF.trans hout)⟩ dX10_hasPlaces_31
end
