section
set_option maxRecDepth 100000 in
set_option maxHeartbeats 4000000 in
theorem c_J9_abs_m (l : Launch) (X : XW) (σ : ST) (v0 : Int64) : Met l yJ9_abs_067f4 (q_ws yJ9_abs_067f4 cJ9_abs_067f4 2 (some .long)) (q_rm 0 0) (q_P X σ [.long v0]) (q_Ql X 9 σ (fun (r : Int64) (σ' : ST) => σ' = σ ∧ (r.toInt = 0 → v0.toInt = 0) ∧ r = F_J9_abs_m X σ v0)) 0 0 (q_reg X) := by
  refine q_met 9 (by decide +kernel) rfl (Nat.le_of_ble_eq_true rfl) (fun p e s m below meth c E hml hr hlk hI ls hl => ?_)
  have hx := E.1
  have hb := E.2.1
  have hl : lv_has ls 2 [(0, .long v0)] := hl
  obtain ⟨out, hout⟩ : ∃ o, o = F_J9_abs_m X σ v0 := ⟨_, rfl⟩
  have hF := hout.symm
  unfold F_J9_abs_m at hF
  refine lv_lload_n hx hb dJ9_abs_067f4_0 rfl (lv_at hl 0 rfl) ?_
  refine lv_lconst (v := 0) hx hb dJ9_abs_067f4_1 (by decide) ?_
  have kc_2 : (0 : Int64).toInt = 0 := rfl
  refine q_lcmpX E dJ9_abs_067f4_2 (fun z_1 ez_1 hz_1 => ?_)
  replace hF := q_letX hF ez_1
  refine q_if_ge (A := z_1.toInt) E rfl (tgt := 11) dJ9_abs_067f4_3 (by decide) (fun c_3 => ?_) (fun c_3 => ?_)
  · skip
    replace hF := q_ifn hF (Int.not_lt.mpr c_3)
    refine lv_lload_n hx hb dJ9_abs_067f4_11 rfl (lv_at hl 0 rfl) ?_
    exact q_retl E hr hlk hI ⟨rfl, (by first | (clear kc_2 hz_1 c_3; omega) | omega), (hF.trans hout)⟩ dJ9_abs_067f4_12
  · skip
    replace hF := q_ifp hF c_3
    refine lv_lload_n hx hb dJ9_abs_067f4_6 rfl (lv_at hl 0 rfl) ?_
    refine lv_lneg hx hb dJ9_abs_067f4_7 ?_
    refine lv_topl (fun y_4 ey_4 => ?_)
    replace hF := q_letX hF ey_4
    have ngy_4 := m_neg0 ey_4
    refine lv_goto (tgt := 12) hx hb dJ9_abs_067f4_8 (by decide) ?_
    exact q_retl E hr hlk hI ⟨rfl, (by omega), (hF.trans hout)⟩ dJ9_abs_067f4_12

set_option maxRecDepth 100000 in
set_option maxHeartbeats 4000000 in
theorem c_X12_fraction (l : Launch) (X : XW) (σ : ST) (a : Nat) (v1 : Int64) (v2 : Int64) (ha : q_kd X a = 12) (h0 : v1.toInt ≠ 0 ∨ v2.toInt ≠ 0) : Met l yX12_fraction (q_ws yX12_fraction cX12_fraction 11 (some .boolean)) (q_rm 1 21) (q_P X σ [.ref a, .long v1, .long v2]) (q_Qi X 8 σ (fun (r : Int32) (σ' : ST) => (0 ≤ r.toInt ∧ r.toInt ≤ 1) ∧ (r, σ') = F_X12_fraction X σ a v1 v2 ∧ q_ow [] [(12, 2), (12, 3)] X σ σ')) 0 0 (q_reg X) := by
  refine q_met 8 (by first | exact rfl | decide +kernel) rfl (Nat.le_of_ble_eq_true rfl) (fun p e s m below meth c E hml hr hlk hI ls hl => ?_)
  have hx := E.1
  have hb := E.2.1
  have hl : lv_has ls 11 [(0, .ref a), (1, .long v1), (3, .long v2)] := hl
  have fr_σ : q_ow [] [(12, 2), (12, 3)] X σ σ := q_ow.rf
  obtain ⟨out, hout⟩ : ∃ o, o = F_X12_fraction X σ a v1 v2 := ⟨_, rfl⟩
  have hF := hout.symm
  unfold F_X12_fraction at hF
  refine lv_lload_n hx hb dX12_fraction_0 rfl (lv_at hl 1 rfl) ?_
  refine q_cl_ (q_runS (As := [.long v1]) (rest := []) E (hml.trans hl.1.symm) hI (c_J9_abs_m l X σ v1) ks_X12_68 rfl ⟨Nat.le_of_ble_eq_true rfl, Nat.le_of_ble_eq_true rfl⟩ ⟨Nat.le_refl _, Nat.le_refl _⟩ rfl (Nat.le_of_ble_eq_true rfl) dX12_fraction_1) hI (Nat.le_of_ble_eq_true rfl) (fun r_1 σ_2 H locs hpσ_2 hkσ_2 hI => ?_)
  have ahpσ_2 := hpσ_2.1
  have bhpσ_2 := hpσ_2.2.1
  have chpσ_2 := hpσ_2.2.2
  clear hpσ_2
  replace hI := q_Irw ahpσ_2 hI
  replace hF := q_letX hF chpσ_2
  refine lv_lstore (lv' := [(5, .long r_1), (0, .ref a), (1, .long v1), (3, .long v2)]) hx hb dX12_fraction_4 hl (by decide) rfl (fun ls hl => ?_)
  refine lv_lload_n hx hb dX12_fraction_6 rfl (lv_at hl 3 rfl) ?_
  refine lv_lstore (lv' := [(7, .long v2), (5, .long r_1), (0, .ref a), (1, .long v1), (3, .long v2)]) hx hb dX12_fraction_7 hl (by decide) rfl (fun ls hl => ?_)
  have L_9_5 : ∀ (k_5 : Nat) (w_3 : Int64) (w_4 : Int64) (H : Heap) (locs : List Loc) (ls : Array Slot), (w_4.toInt.natAbs) < k_5 → (w_3.toInt ≠ 0 ∨ w_4.toInt ≠ 0) → (F_X12_fraction_L9_1 X v1 σ a v2 k_5 w_3 w_4 = out) → q_I X 8 σ s.heap locs σ H → lv_has ls 11 [(0, .ref a), (1, .long v1), (3, .long v2), (5, .long w_3), (7, .long w_4)] → W p l e (q_rm 1 21) s m ([.ref a, .long v1, .long v2] : List Value).toArray below meth c H locs 0 0 (MQ below (q_Qi X 8 σ (fun (r : Int32) (σ' : ST) => (0 ≤ r.toInt ∧ r.toInt ≤ 1) ∧ (r, σ') = F_X12_fraction X σ a v1 v2 ∧ q_ow [] [(12, 2), (12, 3)] X σ σ')) ([.ref a, .long v1, .long v2] : List Value).toArray s 0 0 (q_reg X)) (F0 m 9 ls []) := by
    clear hF
    intro k_5
    induction k_5 with
    | zero =>
      intro w_3 w_4 H locs ls hms
      exact absurd hms (Nat.not_lt_zero _)
    | succ k_5 ih9 =>
      intro w_3 w_4 H locs ls hm9 hf9 hF hI hl
      replace hF := (F_X12_fraction_L9_1_s).symm.trans hF
      unfold F_X12_fraction_B9_1 at hF
      refine lv_lload hx hb dX12_fraction_9 (lv_at hl 4 rfl) ?_
      refine lv_lconst (v := 0) hx hb dX12_fraction_11 (by decide) ?_
      have kc_7 : (0 : Int64).toInt = 0 := rfl
      refine q_lcmpX E dX12_fraction_12 (fun z_6 ez_6 hz_6 => ?_)
      replace hF := q_letX hF ez_6
      refine q_if_eq (A := z_6.toInt) E rfl (tgt := 34) dX12_fraction_13 (by decide) (fun c_8 => ?_) (fun c_8 => ?_)
      · skip
        replace hF := q_ifp hF c_8
        unfold F_X12_fraction_E34_2 at hF
        refine lv_aload_n hx hb dX12_fraction_34 rfl (lv_at hl 0 rfl) ?_
        refine lv_lload_n hx hb dX12_fraction_35 rfl (lv_at hl 1 rfl) ?_
        refine lv_lload hx hb dX12_fraction_36 (lv_at hl 3 rfl) ?_
        refine lv_ldiv hx hb dX12_fraction_38 (q_ne0l (by first | (clear h0 ahpσ_2 bhpσ_2 chpσ_2 hm9; omega) | omega)) ?_
        refine lv_topl (fun y_9 ey_9 => ?_)
        replace hF := q_letX hF ey_9
        refine ps_X12_65_12 E hI ha  dX12_fraction_39 (fun H locs σ_10 hσ_10 hI => ?_)
        replace hF := q_letX hF hσ_10
        have fr_σ_10 := fr_σ.sl hσ_10 ha rfl
        refine lv_aload_n hx hb dX12_fraction_42 rfl (lv_at hl 0 rfl) ?_
        refine lv_lload_n hx hb dX12_fraction_43 rfl (lv_at hl 2 rfl) ?_
        refine lv_lload hx hb dX12_fraction_44 (lv_at hl 3 rfl) ?_
        refine lv_ldiv hx hb dX12_fraction_46 (q_ne0l (by first | (clear h0 ahpσ_2 bhpσ_2 chpσ_2 hm9; omega) | omega)) ?_
        refine lv_topl (fun y_11 ey_11 => ?_)
        replace hF := q_letX hF ey_11
        refine ps_X12_7_12 E hI ha  dX12_fraction_47 (fun H locs σ_12 hσ_12 hI => ?_)
        replace hF := q_letX hF hσ_12
        have fr_σ_12 := fr_σ_10.sl hσ_12 ha rfl
        refine lv_iconst (v := 1) hx hb dX12_fraction_50 zki_1 ?_
        have hrv : (1 : Int32).toInt = 1 := zt_1
        exact q_retz E hr hlk hI ⟨by decide, by decide⟩ ⟨⟨by decide, by decide⟩, (hF.trans hout), fr_σ_12⟩ dX12_fraction_51
      · skip
        replace hF := q_ifn hF c_8
        refine lv_lload hx hb dX12_fraction_16 (lv_at hl 3 rfl) ?_
        refine lv_lload hx hb dX12_fraction_18 (lv_at hl 4 rfl) ?_
        refine lv_lrem hx hb dX12_fraction_20 (q_ne0l (by first | (clear h0 ahpσ_2 bhpσ_2 chpσ_2 w_3 hm9 hf9; omega) | omega)) ?_
        refine lv_topl (fun y_13 ey_13 => ?_)
        replace hF := q_letX hF (ey_13.trans (q_remJ _ _))
        have rmy_13 := m_remabs ey_13 (by first | (clear h0 ahpσ_2 bhpσ_2 chpσ_2 w_3 hm9 hf9; omega) | omega)
        refine lv_lstore (lv' := [(9, .long y_13), (0, .ref a), (1, .long v1), (3, .long v2), (5, .long w_3), (7, .long w_4)]) hx hb dX12_fraction_21 hl (by decide) rfl (fun ls hl => ?_)
        refine lv_lload hx hb dX12_fraction_23 (lv_at hl 5 rfl) ?_
        refine lv_lstore (lv' := [(5, .long w_4), (9, .long y_13), (0, .ref a), (1, .long v1), (3, .long v2), (7, .long w_4)]) hx hb dX12_fraction_25 hl (by decide) rfl (fun ls hl => ?_)
        refine lv_lload hx hb dX12_fraction_27 (lv_at hl 1 rfl) ?_
        refine lv_lstore (lv' := [(7, .long y_13), (5, .long w_4), (9, .long y_13), (0, .ref a), (1, .long v1), (3, .long v2)]) hx hb dX12_fraction_29 hl (by decide) rfl (fun ls hl => ?_)
        refine lv_goto (tgt := 9) hx hb dX12_fraction_31 (by decide) ?_
        exact ih9 w_4 y_13 _ _ ls (by first | (clear h0 ahpσ_2 bhpσ_2 chpσ_2 w_3 hf9 kc_7 hz_6 c_8; omega) | omega) (by first | (clear h0 ahpσ_2 bhpσ_2 chpσ_2 w_3 hm9 hf9 rmy_13; omega) | omega) hF hI (lv_sub hl [3, 4, 5, 1, 0] rfl)
  exact L_9_5 ((v2.toInt.natAbs) + 1) r_1 v2 _ _ ls (Nat.lt_succ_self _) (by first | (clear h0 ahpσ_2 chpσ_2; omega) | omega) hF hI (lv_sub hl [2, 3, 4, 1, 0] rfl)
end
