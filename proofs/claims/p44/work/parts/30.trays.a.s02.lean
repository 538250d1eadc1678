section
set_option maxRecDepth 100000 in
set_option maxHeartbeats 4000000 in
theorem c_X12_refuse (l : Launch) (X : XW) (σ : ST) (a : Nat) (v1 : Int32) (ha : q_kd X a = 12) : Met l yX12_refuse (q_ws yX12_refuse cX12_refuse 2 (some .int)) (q_rm 0 0) (q_P X σ [.ref a, .int v1]) (q_Qi X 8 σ (fun (r : Int32) (σ' : ST) => (r.toInt = -1) ∧ (r, σ') = F_X12_refuse X σ a v1 ∧ q_ow [(12, 0)] [] X σ σ')) 0 0 (q_reg X) := by
  refine q_met 8 (by first | exact rfl | decide +kernel) rfl (Nat.le_of_ble_eq_true rfl) (fun p e s m below meth c E hml hr hlk hI ls hl => ?_)
  have hx := E.1
  have hb := E.2.1
  have hl : lv_has ls 2 [(0, .ref a), (1, .int v1)] := hl
  have fr_σ : q_ow [(12, 0)] [] X σ σ := q_ow.rf
  obtain ⟨out, hout⟩ : ∃ o, o = F_X12_refuse X σ a v1 := ⟨_, rfl⟩
  have hF := hout.symm
  unfold F_X12_refuse at hF
  refine lv_aload_n hx hb dX12_refuse_0 rfl (lv_at hl 0 rfl) ?_
  refine lv_iload_n hx hb dX12_refuse_1 rfl (lv_at hl 1 rfl) ?_
  refine ps_X12_62_12 E hI ha (by decide) dX12_refuse_2 (fun H locs σ_1 hσ_1 hI => ?_)
  replace hF := q_letX hF hσ_1
  have fr_σ_1 := fr_σ.si hσ_1 ha rfl
  refine lv_iconst (v := (-1)) hx hb dX12_refuse_5 (by decide) ?_
  have hrv : ((-1) : Int32).toInt = (-1) := rfl
  exact q_reti E hr hlk hI ⟨(by decide), (hF.trans hout), fr_σ_1⟩ dX12_refuse_6

set_option maxRecDepth 100000 in
set_option maxHeartbeats 4000000 in
theorem c_X12_trayed (l : Launch) (X : XW) (σ : ST) (a : Nat) (v1 : Int32) (ha : q_kd X a = 12) : Met l yX12_trayed (q_ws yX12_trayed cX12_trayed 2 (some .int)) (q_rm 0 0) (q_P X σ [.ref a, .int v1]) (q_Qi X 9 σ (fun (r : Int32) (σ' : ST) => σ' = σ ∧ (r.toInt = 0 ↔ (0 ≤ v1.toInt ∧ v1.toInt < 4 ∧ 0 ≤ (σ.1 (q_rf X a 5) v1.toNatClampNeg).toInt)) ∧ (r.toInt = 0 ∨ r.toInt = 1 ∨ r.toInt = 3) ∧ r = F_X12_trayed X σ a v1)) 0 0 (q_reg X) := by
  refine q_met 9 (by first | exact rfl | decide +kernel) rfl (Nat.le_of_ble_eq_true rfl) (fun p e s m below meth c E hml hr hlk hI ls hl => ?_)
  have hx := E.1
  have hb := E.2.1
  have hl : lv_has ls 2 [(0, .ref a), (1, .int v1)] := hl
  obtain ⟨out, hout⟩ : ∃ o, o = F_X12_trayed X σ a v1 := ⟨_, rfl⟩
  have hF := hout.symm
  unfold F_X12_trayed at hF
  refine lv_iload_n hx hb dX12_trayed_0 rfl (lv_at hl 1 rfl) ?_
  refine q_if_lt (A := v1.toInt) E rfl (tgt := 9) dX12_trayed_1 (by decide) (fun c_1 => ?_) (fun c_1 => ?_)
  · skip
    replace hF := q_ifp hF c_1
    refine lv_iconst (v := 1) hx hb dX12_trayed_9 (by decide) ?_
    refine lv_goto (tgt := 27) hx hb dX12_trayed_10 (by decide) ?_
    have hrv : (1 : Int32).toInt = 1 := rfl
    exact q_reti E hr hlk hI ⟨rfl, (by constructor <;> intro h9 <;> omega), (by omega), (hF.trans hout)⟩ dX12_trayed_27
  · skip
    replace hF := q_ifn hF (Int.not_lt.mpr c_1)
    refine lv_iload_n hx hb dX12_trayed_4 rfl (lv_at hl 1 rfl) ?_
    refine lv_iconst (v := 4) hx hb dX12_trayed_5 (by decide) ?_
    refine q_icmp_lt (A := v1.toInt) (B := 4) E rfl (by decide) (tgt := 13) dX12_trayed_6 (by decide) (fun c_2 => ?_) (fun c_2 => ?_)
    · skip
      replace hF := q_ifp hF c_2
      refine lv_aload_n hx hb dX12_trayed_13 rfl (lv_at hl 0 rfl) ?_
      refine gs_X12_17_12 E hI ha dX12_trayed_14 ?_
      refine lv_iload_n hx hb dX12_trayed_17 rfl (lv_at hl 1 rfl) ?_
      refine q_iald E hI (q_tk (k' := 31) hI ha rfl (by decide)) ⟨by decide, rfl⟩ (by omega) (by rw [q_lnk (v := 4) hI (q_tk (k' := 31) hI ha rfl (by decide)) rfl (by decide)]; omega) dX12_trayed_18 ?_
      refine lv_topi (fun f_3 ef_3 => ?_)
      replace hF := q_letX hF ef_3
      have bf_3 : -1 ≤ f_3.toInt ∧ f_3.toInt ≤ 60 := by rw [ef_3]; exact q_bd hI (q_tk (k' := 31) hI ha rfl (by decide)) rfl
      have if_3 : f_3.toInt = (σ.1 (q_rf X a 5) (v1 : Int32).toNatClampNeg).toInt := congrArg Int32.toInt ef_3
      refine q_if_ge (A := f_3.toInt) E rfl (tgt := 26) dX12_trayed_19 (by decide) (fun c_4 => ?_) (fun c_4 => ?_)
      · skip
        replace hF := q_ifn hF (Int.not_lt.mpr c_4)
        refine lv_iconst (v := 0) hx hb dX12_trayed_26 (by decide) ?_
        have hrv : (0 : Int32).toInt = 0 := rfl
        exact q_reti E hr hlk hI ⟨rfl, (by constructor <;> intro h9 <;> omega), (by omega), (hF.trans hout)⟩ dX12_trayed_27
      · skip
        replace hF := q_ifp hF c_4
        refine lv_iconst (v := 3) hx hb dX12_trayed_22 (by decide) ?_
        refine lv_goto (tgt := 27) hx hb dX12_trayed_23 (by decide) ?_
        have hrv : (3 : Int32).toInt = 3 := rfl
        exact q_reti E hr hlk hI ⟨rfl, (by constructor <;> intro h9 <;> omega), (by omega), (hF.trans hout)⟩ dX12_trayed_27
    · skip
      replace hF := q_ifn hF (Int.not_lt.mpr c_2)
      refine lv_iconst (v := 1) hx hb dX12_trayed_9 (by decide) ?_
      refine lv_goto (tgt := 27) hx hb dX12_trayed_10 (by decide) ?_
      have hrv : (1 : Int32).toInt = 1 := rfl
      exact q_reti E hr hlk hI ⟨rfl, (by constructor <;> intro h9 <;> omega), (by omega), (hF.trans hout)⟩ dX12_trayed_27
end
