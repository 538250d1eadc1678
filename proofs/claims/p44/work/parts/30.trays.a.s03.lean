section
set_option maxRecDepth 100000 in
set_option maxHeartbeats 4000000 in
theorem c_X12_placed (l : Launch) (X : XW) (σ : ST) (a : Nat) (v1 : Int32) (v2 : Int32) (ha : q_kd X a = 12) : Met l yX12_placed (q_ws yX12_placed cX12_placed 4 (some .int)) (q_rm 1 21) (q_P X σ [.ref a, .int v1, .int v2]) (q_Qi X 9 σ (fun (r : Int32) (σ' : ST) => σ' = σ ∧ (r.toInt = 0 ↔ (0 ≤ v1.toInt ∧ v1.toInt < 4 ∧ 0 ≤ v2.toInt ∧ v2.toInt + 1 ≤ (σ.1 (q_rf X a 5) v1.toNatClampNeg).toInt)) ∧ (r.toInt = 0 ∨ r.toInt = 1 ∨ r.toInt = 3 ∨ r.toInt = 4) ∧ r = F_X12_placed X σ a v1 v2)) 0 0 (q_reg X) := by
  refine q_met 9 (by first | exact rfl | decide +kernel) rfl (Nat.le_of_ble_eq_true rfl) (fun p e s m below meth c E hml hr hlk hI ls hl => ?_)
  have hx := E.1
  have hb := E.2.1
  have hl : lv_has ls 4 [(0, .ref a), (1, .int v1), (2, .int v2)] := hl
  obtain ⟨out, hout⟩ : ∃ o, o = F_X12_placed X σ a v1 v2 := ⟨_, rfl⟩
  have hF := hout.symm
  unfold F_X12_placed at hF
  refine lv_aload_n hx hb dX12_placed_0 rfl (lv_at hl 0 rfl) ?_
  refine lv_iload_n hx hb dX12_placed_1 rfl (lv_at hl 1 rfl) ?_
  refine q_ci (q_runV (As := [.int v1]) (rest := []) E (hml.trans hl.1.symm) hI (c_X12_trayed l X σ a v1 ha) kv_X12_78 ha ⟨rfl, by decide⟩ (show vwCl[11]? = some (RX12, TX12, 46) from rfl) rfl ⟨Nat.le_of_ble_eq_true rfl, Nat.le_of_ble_eq_true rfl⟩ ⟨Nat.le_refl _, Nat.le_refl _⟩ rfl (Nat.le_of_ble_eq_true rfl) dX12_placed_2) hI (by decide) (fun r_1 σ_2 H locs hpσ_2 hkσ_2 hI => ?_)
  obtain ⟨ahpσ_2, bhpσ_2, chpσ_2, dhpσ_2⟩ := hpσ_2
  rw [ahpσ_2] at hI
  replace hF := q_letX hF dhpσ_2
  refine lv_istore_n (lv' := [(3, .int r_1), (0, .ref a), (1, .int v1), (2, .int v2)]) hx hb dX12_placed_5 rfl hl (by decide) rfl (fun ls hl => ?_)
  refine lv_iload_n hx hb dX12_placed_6 rfl (lv_at hl 0 rfl) ?_
  refine q_if_le (A := r_1.toInt) E rfl (tgt := 14) dX12_placed_7 (by decide) (fun c_3 => ?_) (fun c_3 => ?_)
  · skip
    replace hF := q_ifn hF (Int.not_lt.mpr c_3)
    refine lv_iload_n hx hb dX12_placed_14 rfl (lv_at hl 3 rfl) ?_
    refine q_if_lt (A := v2.toInt) E rfl (tgt := 28) dX12_placed_15 (by decide) (fun c_4 => ?_) (fun c_4 => ?_)
    · skip
      replace hF := q_ifp hF c_4
      refine lv_iconst (v := 4) hx hb dX12_placed_28 (by decide) ?_
      refine lv_goto (tgt := 33) hx hb dX12_placed_29 (by decide) ?_
      have hrv : (4 : Int32).toInt = 4 := rfl
      exact q_reti E hr hlk hI ⟨rfl, (by constructor <;> intro h9 <;> omega), (by omega), (hF.trans hout)⟩ dX12_placed_33
    · skip
      replace hF := q_ifn hF (Int.not_lt.mpr c_4)
      refine lv_iload_n hx hb dX12_placed_18 rfl (lv_at hl 3 rfl) ?_
      refine lv_aload_n hx hb dX12_placed_19 rfl (lv_at hl 1 rfl) ?_
      refine gs_X12_17_12 E hI ha dX12_placed_20 ?_
      refine lv_iload_n hx hb dX12_placed_23 rfl (lv_at hl 2 rfl) ?_
      refine q_iald E hI (q_tk (k' := 31) hI ha rfl (by decide)) ⟨by decide, rfl⟩ (by omega) (by rw [q_lnk (v := 4) hI (q_tk (k' := 31) hI ha rfl (by decide)) rfl (by decide)]; omega) dX12_placed_24 ?_
      refine lv_topi (fun f_5 ef_5 => ?_)
      replace hF := q_letX hF ef_5
      have bf_5 : -1 ≤ f_5.toInt ∧ f_5.toInt ≤ 60 := by rw [ef_5]; exact q_bd hI (q_tk (k' := 31) hI ha rfl (by decide)) rfl
      have if_5 : f_5.toInt = (σ.1 (q_rf X a 5) (v1 : Int32).toNatClampNeg).toInt := congrArg Int32.toInt ef_5
      refine q_icmp_lt (A := v2.toInt) (B := f_5.toInt) E rfl rfl (tgt := 32) dX12_placed_25 (by decide) (fun c_6 => ?_) (fun c_6 => ?_)
      · skip
        replace hF := q_ifp hF c_6
        refine lv_iconst (v := 0) hx hb dX12_placed_32 (by decide) ?_
        have hrv : (0 : Int32).toInt = 0 := rfl
        exact q_reti E hr hlk hI ⟨rfl, (by constructor <;> intro h9 <;> omega), (by omega), (hF.trans hout)⟩ dX12_placed_33
      · skip
        replace hF := q_ifn hF (Int.not_lt.mpr c_6)
        refine lv_iconst (v := 4) hx hb dX12_placed_28 (by decide) ?_
        refine lv_goto (tgt := 33) hx hb dX12_placed_29 (by decide) ?_
        have hrv : (4 : Int32).toInt = 4 := rfl
        exact q_reti E hr hlk hI ⟨rfl, (by constructor <;> intro h9 <;> omega), (by omega), (hF.trans hout)⟩ dX12_placed_33
  · skip
    replace hF := q_ifp hF c_3
    refine lv_iload_n hx hb dX12_placed_10 rfl (lv_at hl 0 rfl) ?_
    refine lv_goto (tgt := 33) hx hb dX12_placed_11 (by decide) ?_
    exact q_reti E hr hlk hI ⟨rfl, (by constructor <;> intro h9 <;> omega), (by omega), (hF.trans hout)⟩ dX12_placed_33
end
