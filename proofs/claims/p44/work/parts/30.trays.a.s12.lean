section
set_option maxRecDepth 100000 in
set_option maxHeartbeats 4000000 in
theorem c_X12_isIn (l : Launch) (X : XW) (σ : ST) (v0 : Int64) (v1 : Int64) (v2 : Int64) : Met l yX12_isIn (q_ws yX12_isIn cX12_isIn 6 (some .boolean)) (q_rm 0 0) (q_P X σ [.long v0, .long v1, .long v2]) (q_Qi X 9 σ (fun (r : Int32) (σ' : ST) => σ' = σ ∧ (0 ≤ r.toInt ∧ r.toInt ≤ 1) ∧ (r.toInt = 1 ↔ (v1.toInt ≤ v0.toInt ∧ v0.toInt ≤ v2.toInt)) ∧ r = F_X12_isIn X σ v0 v1 v2)) 0 0 (q_reg X) := by
  refine q_met 9 (by first | exact rfl | decide +kernel) rfl (Nat.le_of_ble_eq_true rfl) (fun p e s m below meth c E hml hr hlk hI ls hl => ?_)
  have hx := E.1
  have hb := E.2.1
  have hl : lv_has ls 6 [(0, .long v0), (2, .long v1), (4, .long v2)] := hl
  obtain ⟨out, hout⟩ : ∃ o, o = F_X12_isIn X σ v0 v1 v2 := ⟨_, rfl⟩
  have hF := hout.symm
  unfold F_X12_isIn at hF
  refine lv_lload_n hx hb dX12_isIn_0 rfl (lv_at hl 0 rfl) ?_
  refine lv_lload_n hx hb dX12_isIn_1 rfl (lv_at hl 1 rfl) ?_
  refine q_lcmpX E dX12_isIn_2 (fun z_1 ez_1 hz_1 => ?_)
  replace hF := q_letX hF ez_1
  refine q_if_lt (A := z_1.toInt) E rfl (tgt := 17) dX12_isIn_3 (by decide) (fun c_2 => ?_) (fun c_2 => ?_)
  · skip
    replace hF := q_ifp hF c_2
    refine lv_iconst (v := 0) hx hb dX12_isIn_17 (by decide) ?_
    have hrv : (0 : Int32).toInt = 0 := rfl
    exact q_retz E hr hlk hI ⟨by decide, by decide⟩ ⟨rfl, ⟨by decide, by decide⟩, (by constructor <;> intro h9 <;> omega), (hF.trans hout)⟩ dX12_isIn_18
  · skip
    replace hF := q_ifn hF (Int.not_lt.mpr c_2)
    refine lv_lload_n hx hb dX12_isIn_6 rfl (lv_at hl 0 rfl) ?_
    refine lv_lload hx hb dX12_isIn_7 (lv_at hl 2 rfl) ?_
    refine q_lcmpX E dX12_isIn_9 (fun z_3 ez_3 hz_3 => ?_)
    replace hF := q_letX hF ez_3
    refine q_if_gt (A := z_3.toInt) E rfl (tgt := 17) dX12_isIn_10 (by decide) (fun c_4 => ?_) (fun c_4 => ?_)
    · skip
      replace hF := q_ifp hF c_4
      refine lv_iconst (v := 0) hx hb dX12_isIn_17 (by decide) ?_
      have hrv : (0 : Int32).toInt = 0 := rfl
      exact q_retz E hr hlk hI ⟨by decide, by decide⟩ ⟨rfl, ⟨by decide, by decide⟩, (by constructor <;> intro h9 <;> omega), (hF.trans hout)⟩ dX12_isIn_18
    · skip
      replace hF := q_ifn hF (Int.not_lt.mpr c_4)
      refine lv_iconst (v := 1) hx hb dX12_isIn_13 (by decide) ?_
      refine lv_goto (tgt := 18) hx hb dX12_isIn_14 (by decide) ?_
      have hrv : (1 : Int32).toInt = 1 := rfl
      exact q_retz E hr hlk hI ⟨by decide, by decide⟩ ⟨rfl, ⟨by decide, by decide⟩, (by constructor <;> intro h9 <;> omega), (hF.trans hout)⟩ dX12_isIn_18

set_option maxRecDepth 100000 in
set_option maxHeartbeats 4000000 in
theorem c_X12_look2 (l : Launch) (X : XW) (σ : ST) (a : Nat) (v1 : Int32) (ha : q_kd X a = 12) (h0 : 0 ≤ v1.toInt) (h1 : (σ.1 a 9).toInt ≤ 900) : Met l yX12_look2 (q_ws yX12_look2 cX12_look2 2 (some .int)) (q_rm 0 0) (q_P X σ [.ref a, .int v1]) (q_Qi X 9 σ (fun (r : Int32) (σ' : ST) => σ' = σ ∧ (r.toInt = m_look X σ a v1.toInt) ∧ (0 ≤ r.toInt ∧ r.toInt ≤ 255) ∧ r = F_X12_look2 X σ a v1)) 0 0 (q_reg X) := by
  refine q_met 9 (by first | exact rfl | decide +kernel) rfl (Nat.le_of_ble_eq_true rfl) (fun p e s m below meth c E hml hr hlk hI ls hl => ?_)
  have hx := E.1
  have hb := E.2.1
  have hl : lv_has ls 2 [(0, .ref a), (1, .int v1)] := hl
  obtain ⟨out, hout⟩ : ∃ o, o = F_X12_look2 X σ a v1 := ⟨_, rfl⟩
  have hF := hout.symm
  unfold F_X12_look2 at hF
  refine lv_iload_n hx hb dX12_look2_0 rfl (lv_at hl 1 rfl) ?_
  refine lv_aload_n hx hb dX12_look2_1 rfl (lv_at hl 0 rfl) ?_
  refine gs_X12_98_12 E hI ha dX12_look2_2 ?_
  refine lv_topi (fun f_1 ef_1 => ?_)
  replace hF := q_letX hF ef_1
  have if_1 : f_1.toInt = (σ.1 a 9).toInt := congrArg Int32.toInt ef_1
  refine q_icmp_ge (A := v1.toInt) (B := f_1.toInt) E rfl rfl (tgt := 21) dX12_look2_5 (by decide) (fun c_2 => ?_) (fun c_2 => ?_)
  · skip
    replace hF := q_ifn hF (Int.not_lt.mpr c_2)
    refine lv_iconst (v := 0) hx hb dX12_look2_21 (by decide) ?_
    have hrv : (0 : Int32).toInt = 0 := rfl
    exact q_reti E hr hlk hI ⟨rfl, (by first | (unfold m_look; rw [if_neg (by omega)]; rfl) | assumption), (by omega), (hF.trans hout)⟩ dX12_look2_22
  · skip
    replace hF := q_ifp hF c_2
    refine lv_aload_n hx hb dX12_look2_8 rfl (lv_at hl 0 rfl) ?_
    refine gs_X12_24_12 E hI ha dX12_look2_9 ?_
    refine lv_iload_n hx hb dX12_look2_12 rfl (lv_at hl 1 rfl) ?_
    refine q_bald E hI (q_tk (k' := 33) hI ha rfl (by decide)) ⟨by decide, rfl⟩ (by omega) (by rw [q_lnk (v := 900) hI (q_tk (k' := 33) hI ha rfl (by decide)) rfl (by decide)]; omega) dX12_look2_13 ?_
    refine lv_topi (fun f_3 ef_3 => ?_)
    replace hF := q_letX hF ef_3
    refine lv_sipush (v := 255) hx hb dX12_look2_14 (by decide) ?_
    refine lv_iand hx hb dX12_look2_17 ?_
    refine lv_topi (fun z_4 ez_4 => ?_)
    replace hF := q_letX hF ez_4
    have qz_4 : z_4.toInt = m_look X σ a v1.toInt := by unfold m_look; rw [if_pos (by omega), ez_4, ef_3]; rfl
    have wz_4 := m_and255 f_3
    rw [← ez_4] at wz_4
    refine lv_goto (tgt := 22) hx hb dX12_look2_18 (by decide) ?_
    exact q_reti E hr hlk hI ⟨rfl, (by first | (unfold m_look; rw [if_neg (by omega)]; rfl) | assumption), (by omega), (hF.trans hout)⟩ dX12_look2_22
end
