/-! FROM 33.must.a.lean.txt -/
section
section QS
variable {p : Program} {l : Launch} {e : Env} {R : Room} {s : State} {m : MethodId} {args : Array Value} {below : List Frame} {meth : Method} {c : Code} {H : Heap} {locs : List Loc} {cells slots : Nat} {Q : State → Prop} {cc : ByteArray} {X : XW} {n : Nat} {σ0 σ : ST} {H0 : Heap} {pc : Nat} {ls : Array Slot} {rest : List Value} {a : Nat}
theorem kv_X12_200 : q_okV RX12 200 RX12 yX12_wrong cX12_wrong 1 none 0 := ⟨(q_in_t7 (i := 223) (by first | rfl | decide +kernel) rfl), (q_in_t7 (i := 225) (by first | rfl | decide +kernel) rfl), (q_in_p (i := 48) (by decide +kernel) rfl), (q_in_t1 (i := 14) (by first | rfl | decide +kernel) rfl), (q_in_t7 (i := 226) (by first | rfl | decide +kernel) rfl), ⟨rfl, by decide, by decide, rfl⟩⟩
theorem kv_X12_197 : q_okV RX12 197 RX12 yX12_next cX12_next 2 none 0 := ⟨(q_in_t7 (i := 188) (by first | rfl | decide +kernel) rfl), (q_in_t7 (i := 190) (by first | rfl | decide +kernel) rfl), (q_in_p (i := 42) (by decide +kernel) rfl), (q_in_t1 (i := 14) (by first | rfl | decide +kernel) rfl), (q_in_t7 (i := 191) (by first | rfl | decide +kernel) rfl), ⟨rfl, by decide, by decide, rfl⟩⟩
theorem ks_X12_94 : q_okS RX12 94 yX12_isIn cX12_isIn 6 (some .boolean) 3 := ⟨(q_in_t7 (i := 235) (by first | rfl | decide +kernel) rfl), (q_in_t7 (i := 236) (by first | rfl | decide +kernel) rfl), (q_in_t1 (i := 14) (by first | rfl | decide +kernel) rfl), (q_in_t7 (i := 237) (by first | rfl | decide +kernel) rfl), ⟨by decide, by decide, rfl⟩⟩
end QS
end
/-! FROM 33.must.b00.lean.txt -/
section
set_option maxRecDepth 100000 in
set_option maxHeartbeats 4000000 in
theorem c_X12_must (l : Launch) (X : XW) (σ : ST) (a : Nat) (v1 : Int32) (ha : q_kd X a = 12) (hs : 0 ≤ (σ.1 a 15).toInt ∧ (σ.1 a 15).toInt ≤ (σ.1 a 16).toInt ∧ (σ.1 a 16).toInt ≤ (σ.1 a 9).toInt ∧ (σ.1 a 9).toInt ≤ 900 ∧ 0 ≤ (σ.1 a 14).toInt ∧ (σ.1 a 14).toInt ≤ 4 ∧ (σ.1 a 14).toInt ≤ 4 * ((σ.1 a 16).toInt - (σ.1 a 15).toInt) ∧ (σ.1 a 14).toInt ≤ 4 * ((σ.1 a 9).toInt - (σ.1 a 15).toInt) ∧ 0 ≤ (σ.1 a 12).toInt) (hv : 0 ≤ v1.toInt) : Met l yX12_must (q_ws yX12_must cX12_must 2 none) (q_rm 2 42) (q_P X σ [.ref a, .int v1]) (q_Qv X 2 σ (fun (σ' : ST) => (q_KS (fun b g => b = a ∧ 12 ≤ g ∧ g ≤ 18) 9 X σ σ') ∧ (0 ≤ (σ'.1 a 15).toInt ∧ (σ'.1 a 15).toInt ≤ (σ'.1 a 16).toInt ∧ (σ'.1 a 16).toInt ≤ (σ'.1 a 9).toInt ∧ (σ'.1 a 9).toInt ≤ 900 ∧ 0 ≤ (σ'.1 a 14).toInt ∧ (σ'.1 a 14).toInt ≤ 4 ∧ (σ'.1 a 14).toInt ≤ 4 * ((σ'.1 a 16).toInt - (σ'.1 a 15).toInt) ∧ (σ'.1 a 14).toInt ≤ 4 * ((σ'.1 a 9).toInt - (σ'.1 a 15).toInt) ∧ 0 ≤ (σ'.1 a 12).toInt ∧ (σ'.1 a 9).toInt = (σ.1 a 9).toInt ∧ (σ.1 a 15).toInt ≤ (σ'.1 a 15).toInt ∧ (σ.1 a 12).toInt ≤ (σ'.1 a 12).toInt) ∧ ((σ.1 a 16).toInt ≤ (σ'.1 a 15).toInt + 1000 * (σ'.1 a 12).toInt ∧ 1 ≤ v1.toInt + (σ'.1 a 12).toInt) ∧ σ' = F_X12_must X σ a v1 ∧ q_ow [(12, 12), (12, 13), (12, 14), (12, 15), (12, 16), (12, 17), (12, 18)] [(12, 19)] X σ σ')) 0 0 (q_reg X) := by
  refine q_met 2 (by first | exact rfl | decide +kernel) rfl (Nat.le_of_ble_eq_true rfl) (fun p e s m below meth c E hml hr hlk hI ls hl => ?_)
  have hx := E.1
  have hb := E.2.1
  have hl : lv_has ls 2 [(0, .ref a), (1, .int v1)] := hl
  have ks_σ : q_KS (fun b g => b = a ∧ 12 ≤ g ∧ g ≤ 18) 9 X σ σ := q_KS.rf
  have fr_σ : q_ow [(12, 12), (12, 13), (12, 14), (12, 15), (12, 16), (12, 17), (12, 18)] [(12, 19)] X σ σ := q_ow.rf
  obtain ⟨out, hout⟩ : ∃ o, o = F_X12_must X σ a v1 := ⟨_, rfl⟩
  have hF := hout.symm
  unfold F_X12_must at hF
  refine lv_aload_n hx hb dX12_must_0 rfl (lv_at hl 0 rfl) ?_
  refine gs_X12_187_12 E hI ha dX12_must_1 ?_
  refine lv_topi (fun f_1 ef_1 => ?_)
  replace hF := q_letX hF ef_1
  have if_1 : f_1.toInt = (σ.1 a 12).toInt := congrArg Int32.toInt ef_1
  refine q_if_le (A := f_1.toInt) E rfl (tgt := 8) dX12_must_4 (by decide) (fun c_2 => ?_) (fun c_2 => ?_)
  · skip
    replace hF := q_ifn hF (Int.not_lt.mpr c_2)
    refine lv_iload_n hx hb dX12_must_8 rfl (lv_at hl 1 rfl) ?_
    refine q_if_eq (A := v1.toInt) E rfl (tgt := 19) dX12_must_9 (by decide) (fun c_3 => ?_) (fun c_3 => ?_)
    · skip
      replace hF := q_ifp hF c_3
      refine lv_aload_n hx hb dX12_must_19 rfl (lv_at hl 0 rfl) ?_
      refine q_cv (q_rV11_0 (rest := []) E (hml.trans hl.1.symm) hI (c_X12_wrong l X σ a ha (by first | (clear hv c_3; omega) | omega)) kv_X12_200 ha ⟨Nat.le_of_ble_eq_true rfl, Nat.le_of_ble_eq_true rfl⟩ (Nat.le_of_ble_eq_true rfl) dX12_must_20) hI (Nat.le_of_ble_eq_true rfl) (fun σ_5 H locs hpσ_5 hkσ_5 hI => ?_)
      have ahpσ_5 := hpσ_5.1
      have bhpσ_5 := hpσ_5.2.1
      have chpσ_5 := hpσ_5.2.2.1
      have dhpσ_5 := hpσ_5.2.2.2.1
      have ehpσ_5 := hpσ_5.2.2.2.2
      clear hpσ_5
      have fr_σ_5 := fr_σ.call ehpσ_5 rfl rfl
      replace hF := q_letX hF dhpσ_5
      have ks_σ_5 : q_KS (fun b g => b = a ∧ 12 ≤ g ∧ g ≤ 18) 9 X σ σ_5 := ks_σ.KS ahpσ_5 (by decide) (fun _ _ h => h)
      exact q_retv E hr hlk hI ⟨ks_σ_5, (by first | (clear hv c_3 ahpσ_5 dhpσ_5 ehpσ_5; omega) | omega), (by first | (clear hv if_1 c_2 ahpσ_5 dhpσ_5 ehpσ_5; omega) | omega), (hF.trans hout), fr_σ_5⟩ dX12_must_23
    · skip
      replace hF := q_ifn hF c_3
      refine lv_aload_n hx hb dX12_must_12 rfl (lv_at hl 0 rfl) ?_
      refine q_cv (q_rV11_0 (rest := []) E (hml.trans hl.1.symm) hI (c_X12_next l X σ a ha (by first | (clear hv if_1 c_2 c_3; omega) | omega) (by first | (clear hv if_1 c_2 c_3; omega) | omega) (by first | (clear hv if_1 c_2 c_3; omega) | omega)) kv_X12_197 ha ⟨Nat.le_of_ble_eq_true rfl, Nat.le_of_ble_eq_true rfl⟩ (Nat.le_of_ble_eq_true rfl) dX12_must_13) hI (Nat.le_of_ble_eq_true rfl) (fun σ_7 H locs hpσ_7 hkσ_7 hI => ?_)
      have ahpσ_7 := hpσ_7.1
      have bhpσ_7 := hpσ_7.2.1
      have chpσ_7 := hpσ_7.2.2.1
      have dhpσ_7 := hpσ_7.2.2.2.1
      have ehpσ_7 := hpσ_7.2.2.2.2
      clear hpσ_7
      have fr_σ_7 := fr_σ.call ehpσ_7 rfl rfl
      replace hF := q_letX hF dhpσ_7
      have ks_σ_7 : q_KS (fun b g => b = a ∧ 12 ≤ g ∧ g ≤ 18) 9 X σ σ_7 := ks_σ.KS ahpσ_7 (by decide) (fun _ _ h => h)
      refine lv_goto (tgt := 23) hx hb dX12_must_16 (by decide) ?_
      exact q_retv E hr hlk hI ⟨ks_σ_7, (by first | (clear hv c_3 ahpσ_7 dhpσ_7 ehpσ_7; omega) | omega), (by first | (clear ahpσ_7 bhpσ_7 dhpσ_7 ehpσ_7; omega) | omega), (hF.trans hout), fr_σ_7⟩ dX12_must_23
  · skip
    replace hF := q_ifp hF c_2
    exact q_retv E hr hlk hI ⟨ks_σ, (by first | (clear hv; omega) | omega), (by omega), (hF.trans hout), fr_σ⟩ dX12_must_7

set_option maxRecDepth 100000 in
set_option maxHeartbeats 4000000 in
theorem c_X12_count (l : Launch) (X : XW) (σ : ST) (a : Nat) (v1 : Int32) (v2 : Int32) (ha : q_kd X a = 12) (hs : 0 ≤ (σ.1 a 15).toInt ∧ (σ.1 a 15).toInt ≤ (σ.1 a 16).toInt ∧ (σ.1 a 16).toInt ≤ (σ.1 a 9).toInt ∧ (σ.1 a 9).toInt ≤ 900 ∧ 0 ≤ (σ.1 a 14).toInt ∧ (σ.1 a 14).toInt ≤ 4 ∧ (σ.1 a 14).toInt ≤ 4 * ((σ.1 a 16).toInt - (σ.1 a 15).toInt) ∧ (σ.1 a 14).toInt ≤ 4 * ((σ.1 a 9).toInt - (σ.1 a 15).toInt) ∧ 0 ≤ (σ.1 a 12).toInt) (hv : 0 ≤ v1.toInt ∧ v1.toInt ≤ 10 ∧ 0 ≤ v2.toInt) : Met l yX12_count (q_ws yX12_count cX12_count 4 (some .int)) (q_rm 2 42) (q_P X σ [.ref a, .int v1, .int v2]) (q_Qi X 2 σ (fun (r : Int32) (σ' : ST) => (q_KS (fun b g => b = a ∧ 12 ≤ g ∧ g ≤ 18) 9 X σ σ') ∧ (0 ≤ (σ'.1 a 15).toInt ∧ (σ'.1 a 15).toInt ≤ (σ'.1 a 16).toInt ∧ (σ'.1 a 16).toInt ≤ (σ'.1 a 9).toInt ∧ (σ'.1 a 9).toInt ≤ 900 ∧ 0 ≤ (σ'.1 a 14).toInt ∧ (σ'.1 a 14).toInt ≤ 4 ∧ (σ'.1 a 14).toInt ≤ 4 * ((σ'.1 a 16).toInt - (σ'.1 a 15).toInt) ∧ (σ'.1 a 14).toInt ≤ 4 * ((σ'.1 a 9).toInt - (σ'.1 a 15).toInt) ∧ 0 ≤ (σ'.1 a 12).toInt ∧ (σ'.1 a 9).toInt = (σ.1 a 9).toInt ∧ (σ.1 a 15).toInt ≤ (σ'.1 a 15).toInt ∧ (σ.1 a 12).toInt ≤ (σ'.1 a 12).toInt) ∧ ((σ.1 a 16).toInt ≤ (σ'.1 a 15).toInt + 1000 * (σ'.1 a 12).toInt ∧ 0 ≤ r.toInt ∧ r.toInt ≤ v2.toInt ∧ v1.toInt ≤ r.toInt + 10 * (σ'.1 a 12).toInt) ∧ (r, σ') = F_X12_count X σ a v1 v2 ∧ q_ow [(12, 12), (12, 13), (12, 14), (12, 15), (12, 16), (12, 17), (12, 18)] [(12, 19)] X σ σ')) 0 0 (q_reg X) := by
  refine q_met 2 (by first | exact rfl | decide +kernel) rfl (Nat.le_of_ble_eq_true rfl) (fun p e s m below meth c E hml hr hlk hI ls hl => ?_)
  have hx := E.1
  have hb := E.2.1
  have hl : lv_has ls 4 [(0, .ref a), (1, .int v1), (2, .int v2)] := hl
  have ks_σ : q_KS (fun b g => b = a ∧ 12 ≤ g ∧ g ≤ 18) 9 X σ σ := q_KS.rf
  have fr_σ : q_ow [(12, 12), (12, 13), (12, 14), (12, 15), (12, 16), (12, 17), (12, 18)] [(12, 19)] X σ σ := q_ow.rf
  obtain ⟨out, hout⟩ : ∃ o, o = F_X12_count X σ a v1 v2 := ⟨_, rfl⟩
  have hF := hout.symm
  unfold F_X12_count at hF
  refine lv_aload_n hx hb dX12_count_0 rfl (lv_at hl 0 rfl) ?_
  refine gs_X12_187_12 E hI ha dX12_count_1 ?_
  refine lv_topi (fun f_1 ef_1 => ?_)
  replace hF := q_letX hF ef_1
  have if_1 : f_1.toInt = (σ.1 a 12).toInt := congrArg Int32.toInt ef_1
  have J_19_2 : ∀  (σ_2 : ST) (H : Heap) (locs : List Loc) (ls : Array Slot), (0 ≤ (σ_2.1 a 15).toInt ∧ (σ_2.1 a 15).toInt ≤ (σ_2.1 a 16).toInt ∧ (σ_2.1 a 16).toInt ≤ (σ_2.1 a 9).toInt ∧ (σ_2.1 a 9).toInt ≤ 900 ∧ 0 ≤ (σ_2.1 a 14).toInt ∧ (σ_2.1 a 14).toInt ≤ 4 ∧ (σ_2.1 a 14).toInt ≤ 4 * ((σ_2.1 a 16).toInt - (σ_2.1 a 15).toInt) ∧ (σ_2.1 a 14).toInt ≤ 4 * ((σ_2.1 a 9).toInt - (σ_2.1 a 15).toInt) ∧ 0 ≤ (σ_2.1 a 12).toInt ∧ (σ_2.1 a 9).toInt = (σ.1 a 9).toInt ∧ (σ_2.1 a 15).toInt = (σ.1 a 15).toInt ∧ (σ_2.1 a 16).toInt = (σ.1 a 16).toInt ∧ (σ.1 a 12).toInt ≤ (σ_2.1 a 12).toInt) → (q_KS (fun b g => b = a ∧ 12 ≤ g ∧ g ≤ 18) 9 X σ σ_2) → (q_ow [(12, 12), (12, 13), (12, 14), (12, 15), (12, 16), (12, 17), (12, 18)] [(12, 19)] X σ σ_2) → (F_X12_count_J19_1 X a v1 v2 σ_2 = out) → q_I X 2 σ s.heap locs σ_2 H → lv_has ls 4 [(0, .ref a), (1, .int v1), (2, .int v2)] → W p l e (q_rm 2 42) s m ([.ref a, .int v1, .int v2] : List Value).toArray below meth c H locs 0 0 (MQ below (q_Qi X 2 σ (fun (r : Int32) (σ' : ST) => (q_KS (fun b g => b = a ∧ 12 ≤ g ∧ g ≤ 18) 9 X σ σ') ∧ (0 ≤ (σ'.1 a 15).toInt ∧ (σ'.1 a 15).toInt ≤ (σ'.1 a 16).toInt ∧ (σ'.1 a 16).toInt ≤ (σ'.1 a 9).toInt ∧ (σ'.1 a 9).toInt ≤ 900 ∧ 0 ≤ (σ'.1 a 14).toInt ∧ (σ'.1 a 14).toInt ≤ 4 ∧ (σ'.1 a 14).toInt ≤ 4 * ((σ'.1 a 16).toInt - (σ'.1 a 15).toInt) ∧ (σ'.1 a 14).toInt ≤ 4 * ((σ'.1 a 9).toInt - (σ'.1 a 15).toInt) ∧ 0 ≤ (σ'.1 a 12).toInt ∧ (σ'.1 a 9).toInt = (σ.1 a 9).toInt ∧ (σ.1 a 15).toInt ≤ (σ'.1 a 15).toInt ∧ (σ.1 a 12).toInt ≤ (σ'.1 a 12).toInt) ∧ ((σ.1 a 16).toInt ≤ (σ'.1 a 15).toInt + 1000 * (σ'.1 a 12).toInt ∧ 0 ≤ r.toInt ∧ r.toInt ≤ v2.toInt ∧ v1.toInt ≤ r.toInt + 10 * (σ'.1 a 12).toInt) ∧ (r, σ') = F_X12_count X σ a v1 v2 ∧ q_ow [(12, 12), (12, 13), (12, 14), (12, 15), (12, 16), (12, 17), (12, 18)] [(12, 19)] X σ σ')) ([.ref a, .int v1, .int v2] : List Value).toArray s 0 0 (q_reg X)) (F0 m 19 ls []) := by
    clear hF
    intro σ_2 H locs ls j19σ_2 ks_σ_2 fr_σ_2 hF hI hl
    try clear fr_σ
    unfold F_X12_count_J19_1 at hF
    refine lv_aload_n hx hb dX12_count_19 rfl (lv_at hl 0 rfl) ?_
    refine gs_X12_187_12 E hI ha dX12_count_20 ?_
    refine lv_topi (fun f_3 ef_3 => ?_)
    replace hF := q_letX hF ef_3
    have if_3 : f_3.toInt = (σ_2.1 a 12).toInt := congrArg Int32.toInt ef_3
    refine q_if_ne (A := f_3.toInt) E rfl (tgt := 50) dX12_count_23 (by decide) (fun c_4 => ?_) (fun c_4 => ?_)
    · skip
      replace hF := q_ifn hF c_4
      refine lv_aload_n hx hb dX12_count_50 rfl (lv_at hl 0 rfl) ?_
      refine gs_X12_187_12 E hI ha dX12_count_51 ?_
      refine lv_topi (fun f_5 ef_5 => ?_)
      replace hF := q_letX hF ef_5
      have if_5 : f_5.toInt = (σ_2.1 a 12).toInt := congrArg Int32.toInt ef_5
      refine q_if_le (A := f_5.toInt) E rfl (tgt := 59) dX12_count_54 (by decide) (fun c_6 => ?_) (fun c_6 => ?_)
      · skip
        replace hF := q_ifn hF (Int.not_lt.mpr c_6)
        refine lv_aload_n hx hb dX12_count_59 rfl (lv_at hl 0 rfl) ?_
        refine gs_X12_129_12 E hI ha dX12_count_60 ?_
        refine lv_topi (fun f_7 ef_7 => ?_)
        replace hF := q_letX hF ef_7
        have if_7 : f_7.toInt = (σ_2.1 a 17).toInt := congrArg Int32.toInt ef_7
        refine lv_istore_n (lv' := [(3, .int f_7), (0, .ref a), (1, .int v1), (2, .int v2)]) hx hb dX12_count_63 rfl hl (by decide) rfl (fun ls hl => ?_)
        refine lv_aload_n hx hb dX12_count_64 rfl (lv_at hl 1 rfl) ?_
        refine q_cv (q_rV11_0 (rest := []) E (hml.trans hl.1.symm) hI (c_X12_next l X σ_2 a ha (by first | (clear hv if_1 if_3 c_4 if_5 c_6 if_7; omega) | omega) (by first | (clear hs hv if_1 if_3 c_4 if_5 c_6 if_7; omega) | omega) (by first | (clear hv if_1 if_3 c_4 if_5 c_6 if_7; omega) | omega)) kv_X12_197 ha ⟨Nat.le_of_ble_eq_true rfl, Nat.le_of_ble_eq_true rfl⟩ (Nat.le_of_ble_eq_true rfl) dX12_count_65) hI (Nat.le_of_ble_eq_true rfl) (fun σ_9 H locs hpσ_9 hkσ_9 hI => ?_)
        have ahpσ_9 := hpσ_9.1
        have bhpσ_9 := hpσ_9.2.1
        have chpσ_9 := hpσ_9.2.2.1
        have dhpσ_9 := hpσ_9.2.2.2.1
        have ehpσ_9 := hpσ_9.2.2.2.2
        clear hpσ_9
        have fr_σ_9 := fr_σ_2.call ehpσ_9 rfl rfl
        replace hF := q_letX hF dhpσ_9
        have ks_σ_9 : q_KS (fun b g => b = a ∧ 12 ≤ g ∧ g ≤ 18) 9 X σ σ_9 := ks_σ_2.KS ahpσ_9 (by decide) (fun _ _ h => h)
        refine lv_iload_n hx hb dX12_count_68 rfl (lv_at hl 0 rfl) ?_
        exact q_reti E hr hlk hI ⟨ks_σ_9, (by first | (clear hv c_4 if_7 ahpσ_9 dhpσ_9 ehpσ_9; omega) | omega), (by first | (clear hs hv if_1 if_7 ahpσ_9 bhpσ_9 dhpσ_9 ehpσ_9; omega) | omega), (hF.trans hout), fr_σ_9⟩ dX12_count_69
      · skip
        replace hF := q_ifp hF c_6
        refine lv_iconst (v := 0) hx hb dX12_count_57 zki_0 ?_
        have hrv : (0 : Int32).toInt = 0 := zt_0
        exact q_reti E hr hlk hI ⟨ks_σ_2, (by first | (clear hv c_4 hrv; omega) | omega), (by first | (clear if_1 c_4; omega) | omega), (hF.trans hout), fr_σ_2⟩ dX12_count_58
    · skip
      replace hF := q_ifp hF c_4
      refine lv_aload_n hx hb dX12_count_26 rfl (lv_at hl 0 rfl) ?_
      refine gs_X12_129_12 E hI ha dX12_count_27 ?_
      refine lv_topi (fun f_10 ef_10 => ?_)
      replace hF := q_letX hF ef_10
      have if_10 : f_10.toInt = (σ_2.1 a 17).toInt := congrArg Int32.toInt ef_10
      refine lv_i2l hx hb dX12_count_30 rfl ?_
      refine lv_topl (fun y_11 ey_11 => ?_)
      replace hF := q_letX hF ey_11
      have ggy_11 := q_rng f_10
      have iy_11 : y_11.toInt = f_10.toInt := by rw [ey_11]; exact (q_i2l _).trans rfl
      refine lv_iload_n hx hb dX12_count_31 rfl (lv_at hl 1 rfl) ?_
      refine lv_i2l hx hb dX12_count_32 rfl ?_
      refine lv_topl (fun y_12 ey_12 => ?_)
      replace hF := q_letX hF ey_12
      have ggy_12 := q_rng v1
      have iy_12 : y_12.toInt = v1.toInt := by rw [ey_12]; exact (q_i2l _).trans rfl
      refine lv_iload_n hx hb dX12_count_33 rfl (lv_at hl 2 rfl) ?_
      refine lv_i2l hx hb dX12_count_34 rfl ?_
      refine lv_topl (fun y_13 ey_13 => ?_)
      replace hF := q_letX hF ey_13
      have ggy_13 := q_rng v2
      have iy_13 : y_13.toInt = v2.toInt := by rw [ey_13]; exact (q_i2l _).trans rfl
      refine q_ci (q_runS (As := [.long y_11, .long y_12, .long y_13]) (rest := []) E (hml.trans hl.1.symm) hI (c_X12_isIn l X σ_2 y_11 y_12 y_13) ks_X12_94 rfl ⟨Nat.le_of_ble_eq_true rfl, Nat.le_of_ble_eq_true rfl⟩ ⟨Nat.le_refl _, Nat.le_refl _⟩ rfl (Nat.le_of_ble_eq_true rfl) dX12_count_35) hI (Nat.le_of_ble_eq_true rfl) (fun r_14 σ_15 H locs hpσ_15 hkσ_15 hI => ?_)
      have ahpσ_15 := hpσ_15.1
      have bhpσ_15 := hpσ_15.2.1
      have chpσ_15 := hpσ_15.2.2.1
      have dhpσ_15 := hpσ_15.2.2.2
      clear hpσ_15
      replace hI := q_Irw ahpσ_15 hI
      replace hF := q_letX hF dhpσ_15
      refine q_if_ne (A := r_14.toInt) E rfl (tgt := 50) dX12_count_38 (by decide) (fun c_16 => ?_) (fun c_16 => ?_)
      · skip
        replace hF := q_ifn hF c_16
        replace c_16 := q_ifOne bhpσ_15 c_16
        replace chpσ_15 := q_ifYes chpσ_15 c_16
        refine lv_aload_n hx hb dX12_count_50 rfl (lv_at hl 0 rfl) ?_
        refine gs_X12_187_12 E hI ha dX12_count_51 ?_
        refine lv_topi (fun f_17 ef_17 => ?_)
        replace hF := q_letX hF ef_17
        have if_17 : f_17.toInt = (σ_2.1 a 12).toInt := congrArg Int32.toInt ef_17
        refine q_if_le (A := f_17.toInt) E rfl (tgt := 59) dX12_count_54 (by decide) (fun c_18 => ?_) (fun c_18 => ?_)
        · skip
          replace hF := q_ifn hF (Int.not_lt.mpr c_18)
          refine lv_aload_n hx hb dX12_count_59 rfl (lv_at hl 0 rfl) ?_
          refine gs_X12_129_12 E hI ha dX12_count_60 ?_
          refine lv_topi (fun f_19 ef_19 => ?_)
          replace hF := q_letX hF ef_19
          have if_19 : f_19.toInt = (σ_2.1 a 17).toInt := congrArg Int32.toInt ef_19
          refine lv_istore_n (lv' := [(3, .int f_19), (0, .ref a), (1, .int v1), (2, .int v2)]) hx hb dX12_count_63 rfl hl (by decide) rfl (fun ls hl => ?_)
          refine lv_aload_n hx hb dX12_count_64 rfl (lv_at hl 1 rfl) ?_
          refine q_cv (q_rV11_0 (rest := []) E (hml.trans hl.1.symm) hI (c_X12_next l X σ_2 a ha (by first | (clear hv if_1 if_3 c_4 if_10 ggy_11 iy_11 ggy_12 iy_12 ggy_13 iy_13 ahpσ_15 bhpσ_15 dhpσ_15 c_16 chpσ_15 if_17 c_18 if_19; omega) | omega) (by first | (clear hs hv if_1 if_3 c_4 if_10 ggy_11 iy_11 ggy_12 iy_12 ggy_13 iy_13 ahpσ_15 bhpσ_15 dhpσ_15 c_16 chpσ_15 if_17 c_18 if_19; omega) | omega) (by first | (clear hv if_1 if_3 c_4 if_10 ggy_11 iy_11 ggy_12 iy_12 ggy_13 iy_13 ahpσ_15 bhpσ_15 dhpσ_15 c_16 chpσ_15 if_17 c_18 if_19; omega) | omega)) kv_X12_197 ha ⟨Nat.le_of_ble_eq_true rfl, Nat.le_of_ble_eq_true rfl⟩ (Nat.le_of_ble_eq_true rfl) dX12_count_65) hI (Nat.le_of_ble_eq_true rfl) (fun σ_21 H locs hpσ_21 hkσ_21 hI => ?_)
          have ahpσ_21 := hpσ_21.1
          have bhpσ_21 := hpσ_21.2.1
          have chpσ_21 := hpσ_21.2.2.1
          have dhpσ_21 := hpσ_21.2.2.2.1
          have ehpσ_21 := hpσ_21.2.2.2.2
          clear hpσ_21
          have fr_σ_21 := fr_σ_2.call ehpσ_21 rfl rfl
          replace hF := q_letX hF dhpσ_21
          have ks_σ_21 : q_KS (fun b g => b = a ∧ 12 ≤ g ∧ g ≤ 18) 9 X σ σ_21 := ks_σ_2.KS ahpσ_21 (by decide) (fun _ _ h => h)
          refine lv_iload_n hx hb dX12_count_68 rfl (lv_at hl 0 rfl) ?_
          exact q_reti E hr hlk hI ⟨ks_σ_21, (by first | (clear hv if_10 ggy_11 iy_11 ggy_12 iy_12 ggy_13 iy_13 ahpσ_15 bhpσ_15 dhpσ_15 c_16 chpσ_15 if_17 c_18 if_19 ahpσ_21 dhpσ_21 ehpσ_21; omega) | omega), (by first | (clear hs if_1 ggy_12 ggy_13 ahpσ_15 bhpσ_15 dhpσ_15 c_16 if_17 c_18 ahpσ_21 bhpσ_21 dhpσ_21 ehpσ_21; omega) | omega), (hF.trans hout), fr_σ_21⟩ dX12_count_69
        · skip
          replace hF := q_ifp hF c_18
          refine lv_iconst (v := 0) hx hb dX12_count_57 zki_0 ?_
          have hrv : (0 : Int32).toInt = 0 := zt_0
          exact q_reti E hr hlk hI ⟨ks_σ_2, (by first | (clear hs hv if_1 j19σ_2 if_10 ggy_11 iy_11 ggy_12 iy_12 ggy_13 iy_13 ahpσ_15 bhpσ_15 dhpσ_15 c_16 chpσ_15 hrv; omega) | omega), (by first | (clear hs hv if_1 j19σ_2 if_10 ggy_11 iy_11 ggy_12 iy_12 ggy_13 iy_13 ahpσ_15 bhpσ_15 dhpσ_15 c_16 chpσ_15 hrv; omega) | omega), (hF.trans hout), fr_σ_2⟩ dX12_count_58
      · skip
        replace hF := q_ifp hF c_16
        replace chpσ_15 := q_ifNo chpσ_15 c_16
        refine lv_aload_n hx hb dX12_count_41 rfl (lv_at hl 0 rfl) ?_
        refine lv_iconst (v := 4) hx hb dX12_count_42 zki_4 ?_
        refine lv_aload_n hx hb dX12_count_43 rfl (lv_at hl 0 rfl) ?_
        refine gs_X12_104_12 E hI ha dX12_count_44 ?_
        refine lv_topi (fun f_22 ef_22 => ?_)
        replace hF := q_letX hF ef_22
        have if_22 : f_22.toInt = (σ_2.1 a 15).toInt := congrArg Int32.toInt ef_22
        have kc_23 : (4 : Int32).toInt = 4 := zt_4
        refine q_cv (q_rV11_2 (rest := []) E (hml.trans hl.1.symm) hI (c_X12_fail l X σ_2 a (4 : Int32) f_22 ha (by first | (clear hs hv if_1 j19σ_2 if_10 ggy_11 iy_11 ggy_12 iy_12 ggy_13 iy_13 ahpσ_15 bhpσ_15 dhpσ_15 c_16 chpσ_15 if_22 kc_23; omega) | omega) (by first | (clear hs hv if_1 j19σ_2 if_3 c_4 if_10 ggy_11 iy_11 ggy_12 iy_12 ggy_13 iy_13 ahpσ_15 bhpσ_15 dhpσ_15 c_16 chpσ_15 if_22; omega) | omega)) kv_X12_193 ha ⟨Nat.le_of_ble_eq_true rfl, Nat.le_of_ble_eq_true rfl⟩ (Nat.le_of_ble_eq_true rfl) dX12_count_47) hI (Nat.le_of_ble_eq_true rfl) (fun σ_25 H locs hpσ_25 hkσ_25 hI => ?_)
        have ahpσ_25 := hpσ_25.1
        have bhpσ_25 := hpσ_25.2.1
        have chpσ_25 := hpσ_25.2.2.1
        have dhpσ_25 := hpσ_25.2.2.2.1
        have ehpσ_25 := hpσ_25.2.2.2.2
        clear hpσ_25
        have fr_σ_25 := fr_σ_2.call ehpσ_25 rfl rfl
        replace hF := q_letX hF dhpσ_25
        have ks_σ_25 : q_KS (fun b g => b = a ∧ 12 ≤ g ∧ g ≤ 18) 9 X σ σ_25 := ks_σ_2.KS ahpσ_25 (by decide) (fun _ _ h => h)
        refine lv_aload_n hx hb dX12_count_50 rfl (lv_at hl 0 rfl) ?_
        refine gs_X12_187_12 E hI ha dX12_count_51 ?_
        refine lv_topi (fun f_26 ef_26 => ?_)
        replace hF := q_letX hF ef_26
        have if_26 : f_26.toInt = (σ_25.1 a 12).toInt := congrArg Int32.toInt ef_26
        refine q_if_le (A := f_26.toInt) E rfl (tgt := 59) dX12_count_54 (by decide) (fun c_27 => ?_) (fun c_27 => ?_)
        · skip
          replace hF := q_ifn hF (Int.not_lt.mpr c_27)
          refine lv_aload_n hx hb dX12_count_59 rfl (lv_at hl 0 rfl) ?_
          refine gs_X12_129_12 E hI ha dX12_count_60 ?_
          refine lv_topi (fun f_28 ef_28 => ?_)
          replace hF := q_letX hF ef_28
          have if_28 : f_28.toInt = (σ_25.1 a 17).toInt := congrArg Int32.toInt ef_28
          refine lv_istore_n (lv' := [(3, .int f_28), (0, .ref a), (1, .int v1), (2, .int v2)]) hx hb dX12_count_63 rfl hl (by decide) rfl (fun ls hl => ?_)
          refine lv_aload_n hx hb dX12_count_64 rfl (lv_at hl 1 rfl) ?_
          refine q_cv (q_rV11_0 (rest := []) E (hml.trans hl.1.symm) hI (c_X12_next l X σ_25 a ha (by first | (clear hs hv if_1 j19σ_2 if_3 c_4 if_10 ggy_11 iy_11 ggy_12 iy_12 ggy_13 iy_13 ahpσ_15 bhpσ_15 dhpσ_15 c_16 chpσ_15 if_22 kc_23 ahpσ_25 bhpσ_25 dhpσ_25 ehpσ_25 if_28; omega) | omega) (by first | (clear hs hv if_1 j19σ_2 if_3 c_4 if_10 ggy_11 iy_11 ggy_12 iy_12 ggy_13 iy_13 ahpσ_15 bhpσ_15 dhpσ_15 c_16 chpσ_15 if_22 kc_23 ahpσ_25 bhpσ_25 dhpσ_25 ehpσ_25 if_28; omega) | omega) (by first | (clear hs hv if_1 j19σ_2 if_3 c_4 if_10 ggy_11 iy_11 ggy_12 iy_12 ggy_13 iy_13 ahpσ_15 bhpσ_15 dhpσ_15 c_16 chpσ_15 if_22 kc_23 ahpσ_25 bhpσ_25 dhpσ_25 ehpσ_25 if_28; omega) | omega)) kv_X12_197 ha ⟨Nat.le_of_ble_eq_true rfl, Nat.le_of_ble_eq_true rfl⟩ (Nat.le_of_ble_eq_true rfl) dX12_count_65) hI (Nat.le_of_ble_eq_true rfl) (fun σ_30 H locs hpσ_30 hkσ_30 hI => ?_)
          have ahpσ_30 := hpσ_30.1
          have bhpσ_30 := hpσ_30.2.1
          have chpσ_30 := hpσ_30.2.2.1
          have dhpσ_30 := hpσ_30.2.2.2.1
          have ehpσ_30 := hpσ_30.2.2.2.2
          clear hpσ_30
          have fr_σ_30 := fr_σ_25.call ehpσ_30 rfl rfl
          replace hF := q_letX hF dhpσ_30
          have ks_σ_30 : q_KS (fun b g => b = a ∧ 12 ≤ g ∧ g ≤ 18) 9 X σ σ_30 := ks_σ_25.KS ahpσ_30 (by decide) (fun _ _ h => h)
          refine lv_iload_n hx hb dX12_count_68 rfl (lv_at hl 0 rfl) ?_
          exact q_reti E hr hlk hI ⟨ks_σ_30, (by first | (clear hs hv if_1 j19σ_2 if_3 c_4 if_10 ggy_11 iy_11 ggy_12 iy_12 ggy_13 iy_13 ahpσ_15 bhpσ_15 dhpσ_15 c_16 chpσ_15 if_22 kc_23 ahpσ_25 bhpσ_25 dhpσ_25 ehpσ_25 if_28 ahpσ_30 bhpσ_30 chpσ_30 dhpσ_30 ehpσ_30; omega) | omega), (by first | (clear hs hv if_1 j19σ_2 if_3 c_4 if_10 ggy_11 iy_11 ggy_12 iy_12 ggy_13 iy_13 ahpσ_15 bhpσ_15 dhpσ_15 c_16 chpσ_15 if_22 kc_23 ahpσ_25 bhpσ_25 dhpσ_25 ehpσ_25 if_28 ahpσ_30 bhpσ_30 chpσ_30 dhpσ_30 ehpσ_30; omega) | omega), (hF.trans hout), fr_σ_30⟩ dX12_count_69
        · skip
          replace hF := q_ifp hF c_27
          refine lv_iconst (v := 0) hx hb dX12_count_57 zki_0 ?_
          have hrv : (0 : Int32).toInt = 0 := zt_0
          exact q_reti E hr hlk hI ⟨ks_σ_25, (by first | (clear hv if_10 ggy_11 iy_11 ggy_12 iy_12 ggy_13 iy_13 ahpσ_15 bhpσ_15 dhpσ_15 c_16 chpσ_15 kc_23 ahpσ_25 dhpσ_25 ehpσ_25 c_27 hrv; omega) | omega), (by first | (clear if_1 if_3 c_4 if_10 ggy_11 iy_11 ggy_12 ahpσ_15 bhpσ_15 dhpσ_15 c_16 chpσ_15 kc_23 ahpσ_25 dhpσ_25 ehpσ_25 c_27; omega) | omega), (hF.trans hout), fr_σ_25⟩ dX12_count_58
  refine q_if_ne (A := f_1.toInt) E rfl (tgt := 19) dX12_count_4 (by decide) (fun c_31 => ?_) (fun c_31 => ?_)
  · skip
    replace hF := q_ifn hF c_31
    exact J_19_2 σ _ _ ls (by first | (clear hv c_31; omega) | omega) ks_σ fr_σ hF hI (lv_sub hl [0, 1, 2] rfl)
  · skip
    replace hF := q_ifp hF c_31
    refine lv_aload_n hx hb dX12_count_7 rfl (lv_at hl 0 rfl) ?_
    refine gs_X12_110_12 E hI ha dX12_count_8 ?_
    refine lv_topi (fun f_32 ef_32 => ?_)
    replace hF := q_letX hF ef_32
    have if_32 : f_32.toInt = (σ.1 a 14).toInt := congrArg Int32.toInt ef_32
    refine lv_iconst (v := 2) hx hb dX12_count_11 zki_2 ?_
    refine q_icmp_eq (A := f_32.toInt) (B := 2) E rfl (by decide) (tgt := 19) dX12_count_12 (by decide) (fun c_33 => ?_) (fun c_33 => ?_)
    · skip
      replace hF := q_ifp hF c_33
      exact J_19_2 σ _ _ ls (by first | (clear hv; omega) | omega) ks_σ fr_σ hF hI (lv_sub hl [0, 1, 2] rfl)
    · skip
      replace hF := q_ifn hF c_33
      refine lv_aload_n hx hb dX12_count_15 rfl (lv_at hl 0 rfl) ?_
      refine q_cv (q_rV11_0 (rest := []) E (hml.trans hl.1.symm) hI (c_X12_wrong l X σ a ha (by first | (clear hs hv if_32 c_33; omega) | omega)) kv_X12_200 ha ⟨Nat.le_of_ble_eq_true rfl, Nat.le_of_ble_eq_true rfl⟩ (Nat.le_of_ble_eq_true rfl) dX12_count_16) hI (Nat.le_of_ble_eq_true rfl) (fun σ_35 H locs hpσ_35 hkσ_35 hI => ?_)
      have ahpσ_35 := hpσ_35.1
      have bhpσ_35 := hpσ_35.2.1
      have chpσ_35 := hpσ_35.2.2.1
      have dhpσ_35 := hpσ_35.2.2.2.1
      have ehpσ_35 := hpσ_35.2.2.2.2
      clear hpσ_35
      have fr_σ_35 := fr_σ.call ehpσ_35 rfl rfl
      replace hF := q_letX hF dhpσ_35
      have ks_σ_35 : q_KS (fun b g => b = a ∧ 12 ≤ g ∧ g ≤ 18) 9 X σ σ_35 := ks_σ.KS ahpσ_35 (by decide) (fun _ _ h => h)
      exact J_19_2 σ_35 _ _ ls (by first | (clear hv c_33 ahpσ_35 dhpσ_35 ehpσ_35; omega) | omega) ks_σ_35 fr_σ_35 hF hI (lv_sub hl [0, 1, 2] rfl)

set_option maxRecDepth 100000 in
set_option maxHeartbeats 4000000 in
theorem c_X12_spelled (l : Launch) (X : XW) (σ : ST) (v0 : Int32) (v1 : Int32) (v2 : Int32) (v3 : Int32) (v4 : Int32) (v5 : Int32) : Met l yX12_spelled (q_ws yX12_spelled cX12_spelled 8 (some .long)) (q_rm 0 0) (q_P X σ [.int v0, .int v1, .int v2, .int v3, .int v4, .int v5]) (q_Ql X 9 σ (fun (r : Int64) (σ' : ST) => σ' = σ ∧ r = F_X12_spelled X σ v0 v1 v2 v3 v4 v5)) 0 0 (q_reg X) := by
  refine q_met 9 (by first | exact rfl | decide +kernel) rfl (Nat.le_of_ble_eq_true rfl) (fun p e s m below meth c E hml hr hlk hI ls hl => ?_)
  have hx := E.1
  have hb := E.2.1
  have hl : lv_has ls 8 [(0, .int v0), (1, .int v1), (2, .int v2), (3, .int v3), (4, .int v4), (5, .int v5)] := hl
  obtain ⟨out, hout⟩ : ∃ o, o = F_X12_spelled X σ v0 v1 v2 v3 v4 v5 := ⟨_, rfl⟩
  have hF := hout.symm
  unfold F_X12_spelled at hF
  refine lv_iload_n hx hb dX12_spelled_0 rfl (lv_at hl 0 rfl) ?_
  refine lv_i2l hx hb dX12_spelled_1 rfl ?_
  refine lv_topl (fun y_1 ey_1 => ?_)
  replace hF := q_letX hF ey_1
  refine lv_ldc2 (v := 96) hx hb E.2.2.1 (E.2.2.2.1 _ (q_in_t7 (i := 200) (by first | rfl | decide +kernel) rfl)) dX12_spelled_2 ?_
  refine lv_lsub hx hb dX12_spelled_5 ?_
  refine lv_topl (fun y_2 ey_2 => ?_)
  replace hF := q_letX hF ey_2
  refine lv_ldc2 (v := 32) hx hb E.2.2.1 (E.2.2.2.1 _ (q_in_t7 (i := 199) (by first | rfl | decide +kernel) rfl)) dX12_spelled_6 ?_
  refine lv_lmul hx hb dX12_spelled_9 ?_
  refine lv_topl (fun y_3 ey_3 => ?_)
  replace hF := q_letX hF ey_3
  refine lv_iload_n hx hb dX12_spelled_10 rfl (lv_at hl 1 rfl) ?_
  refine lv_i2l hx hb dX12_spelled_11 rfl ?_
  refine lv_topl (fun y_4 ey_4 => ?_)
  replace hF := q_letX hF ey_4
  refine lv_ladd hx hb dX12_spelled_12 ?_
  refine lv_topl (fun y_5 ey_5 => ?_)
  replace hF := q_letX hF ey_5
  refine lv_ldc2 (v := 96) hx hb E.2.2.1 (E.2.2.2.1 _ (q_in_t7 (i := 200) (by first | rfl | decide +kernel) rfl)) dX12_spelled_13 ?_
  refine lv_lsub hx hb dX12_spelled_16 ?_
  refine lv_topl (fun y_6 ey_6 => ?_)
  replace hF := q_letX hF ey_6
  refine lv_lstore (lv' := [(6, .long y_6), (0, .int v0), (1, .int v1), (2, .int v2), (3, .int v3), (4, .int v4), (5, .int v5)]) hx hb dX12_spelled_17 hl (by decide) rfl (fun ls hl => ?_)
  refine lv_iload_n hx hb dX12_spelled_19 rfl (lv_at hl 3 rfl) ?_
  refine q_if_le (A := v2.toInt) E rfl (tgt := 39) dX12_spelled_20 (by decide) (fun c_7 => ?_) (fun c_7 => ?_)
  · skip
    replace hF := q_ifn hF (Int.not_lt.mpr c_7)
    refine lv_lload hx hb dX12_spelled_39 (lv_at hl 0 rfl) ?_
    refine lv_lstore (lv' := [(6, .long y_6), (0, .int v0), (1, .int v1), (2, .int v2), (3, .int v3), (4, .int v4), (5, .int v5)]) hx hb dX12_spelled_41 hl (by decide) rfl (fun ls hl => ?_)
    refine lv_iload_n hx hb dX12_spelled_43 rfl (lv_at hl 4 rfl) ?_
    refine q_if_le (A := v3.toInt) E rfl (tgt := 63) dX12_spelled_44 (by decide) (fun c_8 => ?_) (fun c_8 => ?_)
    · skip
      replace hF := q_ifn hF (Int.not_lt.mpr c_8)
      refine lv_lload hx hb dX12_spelled_63 (lv_at hl 0 rfl) ?_
      refine lv_lstore (lv' := [(6, .long y_6), (0, .int v0), (1, .int v1), (2, .int v2), (3, .int v3), (4, .int v4), (5, .int v5)]) hx hb dX12_spelled_65 hl (by decide) rfl (fun ls hl => ?_)
      refine lv_iload hx hb dX12_spelled_67 (lv_at hl 5 rfl) ?_
      refine q_if_le (A := v4.toInt) E rfl (tgt := 89) dX12_spelled_69 (by decide) (fun c_9 => ?_) (fun c_9 => ?_)
      · skip
        replace hF := q_ifn hF (Int.not_lt.mpr c_9)
        refine lv_lload hx hb dX12_spelled_89 (lv_at hl 0 rfl) ?_
        refine lv_lstore (lv' := [(6, .long y_6), (0, .int v0), (1, .int v1), (2, .int v2), (3, .int v3), (4, .int v4), (5, .int v5)]) hx hb dX12_spelled_91 hl (by decide) rfl (fun ls hl => ?_)
        refine lv_iload hx hb dX12_spelled_93 (lv_at hl 6 rfl) ?_
        refine q_if_le (A := v5.toInt) E rfl (tgt := 115) dX12_spelled_95 (by decide) (fun c_10 => ?_) (fun c_10 => ?_)
        · skip
          replace hF := q_ifn hF (Int.not_lt.mpr c_10)
          refine lv_lload hx hb dX12_spelled_115 (lv_at hl 0 rfl) ?_
          exact q_retl E hr hlk hI ⟨rfl, (hF.trans hout)⟩ dX12_spelled_117
        · skip
          replace hF := q_ifp hF c_10
          refine lv_lload hx hb dX12_spelled_98 (lv_at hl 0 rfl) ?_
          refine lv_ldc2 (v := 32) hx hb E.2.2.1 (E.2.2.2.1 _ (q_in_t7 (i := 199) (by first | rfl | decide +kernel) rfl)) dX12_spelled_100 ?_
          refine lv_lmul hx hb dX12_spelled_103 ?_
          refine lv_topl (fun y_11 ey_11 => ?_)
          replace hF := q_letX hF ey_11
          refine lv_iload hx hb dX12_spelled_104 (lv_at hl 6 rfl) ?_
          refine lv_i2l hx hb dX12_spelled_106 rfl ?_
          refine lv_topl (fun y_12 ey_12 => ?_)
          replace hF := q_letX hF ey_12
          refine lv_ladd hx hb dX12_spelled_107 ?_
          refine lv_topl (fun y_13 ey_13 => ?_)
          replace hF := q_letX hF ey_13
          refine lv_ldc2 (v := 96) hx hb E.2.2.1 (E.2.2.2.1 _ (q_in_t7 (i := 200) (by first | rfl | decide +kernel) rfl)) dX12_spelled_108 ?_
          refine lv_lsub hx hb dX12_spelled_111 ?_
          refine lv_topl (fun y_14 ey_14 => ?_)
          replace hF := q_letX hF ey_14
          refine lv_goto (tgt := 117) hx hb dX12_spelled_112 (by decide) ?_
          exact q_retl E hr hlk hI ⟨rfl, (hF.trans hout)⟩ dX12_spelled_117
      · skip
        replace hF := q_ifp hF c_9
        refine lv_lload hx hb dX12_spelled_72 (lv_at hl 0 rfl) ?_
        refine lv_ldc2 (v := 32) hx hb E.2.2.1 (E.2.2.2.1 _ (q_in_t7 (i := 199) (by first | rfl | decide +kernel) rfl)) dX12_spelled_74 ?_
        refine lv_lmul hx hb dX12_spelled_77 ?_
        refine lv_topl (fun y_15 ey_15 => ?_)
        replace hF := q_letX hF ey_15
        refine lv_iload hx hb dX12_spelled_78 (lv_at hl 5 rfl) ?_
        refine lv_i2l hx hb dX12_spelled_80 rfl ?_
        refine lv_topl (fun y_16 ey_16 => ?_)
        replace hF := q_letX hF ey_16
        refine lv_ladd hx hb dX12_spelled_81 ?_
        refine lv_topl (fun y_17 ey_17 => ?_)
        replace hF := q_letX hF ey_17
        refine lv_ldc2 (v := 96) hx hb E.2.2.1 (E.2.2.2.1 _ (q_in_t7 (i := 200) (by first | rfl | decide +kernel) rfl)) dX12_spelled_82 ?_
        refine lv_lsub hx hb dX12_spelled_85 ?_
        refine lv_topl (fun y_18 ey_18 => ?_)
        replace hF := q_letX hF ey_18
        refine lv_goto (tgt := 91) hx hb dX12_spelled_86 (by decide) ?_
        refine lv_lstore (lv' := [(6, .long y_18), (0, .int v0), (1, .int v1), (2, .int v2), (3, .int v3), (4, .int v4), (5, .int v5)]) hx hb dX12_spelled_91 hl (by decide) rfl (fun ls hl => ?_)
        refine lv_iload hx hb dX12_spelled_93 (lv_at hl 6 rfl) ?_
        refine q_if_le (A := v5.toInt) E rfl (tgt := 115) dX12_spelled_95 (by decide) (fun c_19 => ?_) (fun c_19 => ?_)
        · skip
          replace hF := q_ifn hF (Int.not_lt.mpr c_19)
          refine lv_lload hx hb dX12_spelled_115 (lv_at hl 0 rfl) ?_
          exact q_retl E hr hlk hI ⟨rfl, (hF.trans hout)⟩ dX12_spelled_117
        · skip
          replace hF := q_ifp hF c_19
          refine lv_lload hx hb dX12_spelled_98 (lv_at hl 0 rfl) ?_
          refine lv_ldc2 (v := 32) hx hb E.2.2.1 (E.2.2.2.1 _ (q_in_t7 (i := 199) (by first | rfl | decide +kernel) rfl)) dX12_spelled_100 ?_
          refine lv_lmul hx hb dX12_spelled_103 ?_
          refine lv_topl (fun y_20 ey_20 => ?_)
          replace hF := q_letX hF ey_20
          refine lv_iload hx hb dX12_spelled_104 (lv_at hl 6 rfl) ?_
          refine lv_i2l hx hb dX12_spelled_106 rfl ?_
          refine lv_topl (fun y_21 ey_21 => ?_)
          replace hF := q_letX hF ey_21
          refine lv_ladd hx hb dX12_spelled_107 ?_
          refine lv_topl (fun y_22 ey_22 => ?_)
          replace hF := q_letX hF ey_22
          refine lv_ldc2 (v := 96) hx hb E.2.2.1 (E.2.2.2.1 _ (q_in_t7 (i := 200) (by first | rfl | decide +kernel) rfl)) dX12_spelled_108 ?_
          refine lv_lsub hx hb dX12_spelled_111 ?_
          refine lv_topl (fun y_23 ey_23 => ?_)
          replace hF := q_letX hF ey_23
          refine lv_goto (tgt := 117) hx hb dX12_spelled_112 (by decide) ?_
          exact q_retl E hr hlk hI ⟨rfl, (hF.trans hout)⟩ dX12_spelled_117
    · skip
      replace hF := q_ifp hF c_8
      refine lv_lload hx hb dX12_spelled_47 (lv_at hl 0 rfl) ?_
      refine lv_ldc2 (v := 32) hx hb E.2.2.1 (E.2.2.2.1 _ (q_in_t7 (i := 199) (by first | rfl | decide +kernel) rfl)) dX12_spelled_49 ?_
      refine lv_lmul hx hb dX12_spelled_52 ?_
      refine lv_topl (fun y_24 ey_24 => ?_)
      replace hF := q_letX hF ey_24
      refine lv_iload_n hx hb dX12_spelled_53 rfl (lv_at hl 4 rfl) ?_
      refine lv_i2l hx hb dX12_spelled_54 rfl ?_
      refine lv_topl (fun y_25 ey_25 => ?_)
      replace hF := q_letX hF ey_25
      refine lv_ladd hx hb dX12_spelled_55 ?_
      refine lv_topl (fun y_26 ey_26 => ?_)
      replace hF := q_letX hF ey_26
      refine lv_ldc2 (v := 96) hx hb E.2.2.1 (E.2.2.2.1 _ (q_in_t7 (i := 200) (by first | rfl | decide +kernel) rfl)) dX12_spelled_56 ?_
      refine lv_lsub hx hb dX12_spelled_59 ?_
      refine lv_topl (fun y_27 ey_27 => ?_)
      replace hF := q_letX hF ey_27
      refine lv_goto (tgt := 65) hx hb dX12_spelled_60 (by decide) ?_
      refine lv_lstore (lv' := [(6, .long y_27), (0, .int v0), (1, .int v1), (2, .int v2), (3, .int v3), (4, .int v4), (5, .int v5)]) hx hb dX12_spelled_65 hl (by decide) rfl (fun ls hl => ?_)
      refine lv_iload hx hb dX12_spelled_67 (lv_at hl 5 rfl) ?_
      refine q_if_le (A := v4.toInt) E rfl (tgt := 89) dX12_spelled_69 (by decide) (fun c_28 => ?_) (fun c_28 => ?_)
      · skip
        replace hF := q_ifn hF (Int.not_lt.mpr c_28)
        refine lv_lload hx hb dX12_spelled_89 (lv_at hl 0 rfl) ?_
        refine lv_lstore (lv' := [(6, .long y_27), (0, .int v0), (1, .int v1), (2, .int v2), (3, .int v3), (4, .int v4), (5, .int v5)]) hx hb dX12_spelled_91 hl (by decide) rfl (fun ls hl => ?_)
        refine lv_iload hx hb dX12_spelled_93 (lv_at hl 6 rfl) ?_
        refine q_if_le (A := v5.toInt) E rfl (tgt := 115) dX12_spelled_95 (by decide) (fun c_29 => ?_) (fun c_29 => ?_)
        · skip
          replace hF := q_ifn hF (Int.not_lt.mpr c_29)
          refine lv_lload hx hb dX12_spelled_115 (lv_at hl 0 rfl) ?_
          exact q_retl E hr hlk hI ⟨rfl, (hF.trans hout)⟩ dX12_spelled_117
        · skip
          replace hF := q_ifp hF c_29
          refine lv_lload hx hb dX12_spelled_98 (lv_at hl 0 rfl) ?_
          refine lv_ldc2 (v := 32) hx hb E.2.2.1 (E.2.2.2.1 _ (q_in_t7 (i := 199) (by first | rfl | decide +kernel) rfl)) dX12_spelled_100 ?_
          refine lv_lmul hx hb dX12_spelled_103 ?_
          refine lv_topl (fun y_30 ey_30 => ?_)
          replace hF := q_letX hF ey_30
          refine lv_iload hx hb dX12_spelled_104 (lv_at hl 6 rfl) ?_
          refine lv_i2l hx hb dX12_spelled_106 rfl ?_
          refine lv_topl (fun y_31 ey_31 => ?_)
          replace hF := q_letX hF ey_31
          refine lv_ladd hx hb dX12_spelled_107 ?_
          refine lv_topl (fun y_32 ey_32 => ?_)
          replace hF := q_letX hF ey_32
          refine lv_ldc2 (v := 96) hx hb E.2.2.1 (E.2.2.2.1 _ (q_in_t7 (i := 200) (by first | rfl | decide +kernel) rfl)) dX12_spelled_108 ?_
          refine lv_lsub hx hb dX12_spelled_111 ?_
          refine lv_topl (fun y_33 ey_33 => ?_)
          replace hF := q_letX hF ey_33
          refine lv_goto (tgt := 117) hx hb dX12_spelled_112 (by decide) ?_
          exact q_retl E hr hlk hI ⟨rfl, (hF.trans hout)⟩ dX12_spelled_117
      · skip
        replace hF := q_ifp hF c_28
        refine lv_lload hx hb dX12_spelled_72 (lv_at hl 0 rfl) ?_
        refine lv_ldc2 (v := 32) hx hb E.2.2.1 (E.2.2.2.1 _ (q_in_t7 (i := 199) (by first | rfl | decide +kernel) rfl)) dX12_spelled_74 ?_
        refine lv_lmul hx hb dX12_spelled_77 ?_
        refine lv_topl (fun y_34 ey_34 => ?_)
        replace hF := q_letX hF ey_34
        refine lv_iload hx hb dX12_spelled_78 (lv_at hl 5 rfl) ?_
        refine lv_i2l hx hb dX12_spelled_80 rfl ?_
        refine lv_topl (fun y_35 ey_35 => ?_)
        replace hF := q_letX hF ey_35
        refine lv_ladd hx hb dX12_spelled_81 ?_
        refine lv_topl (fun y_36 ey_36 => ?_)
        replace hF := q_letX hF ey_36
        refine lv_ldc2 (v := 96) hx hb E.2.2.1 (E.2.2.2.1 _ (q_in_t7 (i := 200) (by first | rfl | decide +kernel) rfl)) dX12_spelled_82 ?_
        refine lv_lsub hx hb dX12_spelled_85 ?_
        refine lv_topl (fun y_37 ey_37 => ?_)
        replace hF := q_letX hF ey_37
        refine lv_goto (tgt := 91) hx hb dX12_spelled_86 (by decide) ?_
        refine lv_lstore (lv' := [(6, .long y_37), (0, .int v0), (1, .int v1), (2, .int v2), (3, .int v3), (4, .int v4), (5, .int v5)]) hx hb dX12_spelled_91 hl (by decide) rfl (fun ls hl => ?_)
        refine lv_iload hx hb dX12_spelled_93 (lv_at hl 6 rfl) ?_
        refine q_if_le (A := v5.toInt) E rfl (tgt := 115) dX12_spelled_95 (by decide) (fun c_38 => ?_) (fun c_38 => ?_)
        · skip
          replace hF := q_ifn hF (Int.not_lt.mpr c_38)
          refine lv_lload hx hb dX12_spelled_115 (lv_at hl 0 rfl) ?_
          exact q_retl E hr hlk hI ⟨rfl, (hF.trans hout)⟩ dX12_spelled_117
        · skip
          replace hF := q_ifp hF c_38
          refine lv_lload hx hb dX12_spelled_98 (lv_at hl 0 rfl) ?_
          refine lv_ldc2 (v := 32) hx hb E.2.2.1 (E.2.2.2.1 _ (q_in_t7 (i := 199) (by first | rfl | decide +kernel) rfl)) dX12_spelled_100 ?_
          refine lv_lmul hx hb dX12_spelled_103 ?_
          refine lv_topl (fun y_39 ey_39 => ?_)
          replace hF := q_letX hF ey_39
          refine lv_iload hx hb dX12_spelled_104 (lv_at hl 6 rfl) ?_
          refine lv_i2l hx hb dX12_spelled_106 rfl ?_
          refine lv_topl (fun y_40 ey_40 => ?_)
          replace hF := q_letX hF ey_40
          refine lv_ladd hx hb dX12_spelled_107 ?_
          refine lv_topl (fun y_41 ey_41 => ?_)
          replace hF := q_letX hF ey_41
          refine lv_ldc2 (v := 96) hx hb E.2.2.1 (E.2.2.2.1 _ (q_in_t7 (i := 200) (by first | rfl | decide +kernel) rfl)) dX12_spelled_108 ?_
          refine lv_lsub hx hb dX12_spelled_111 ?_
          refine lv_topl (fun y_42 ey_42 => ?_)
          replace hF := q_letX hF ey_42
          refine lv_goto (tgt := 117) hx hb dX12_spelled_112 (by decide) ?_
          exact q_retl E hr hlk hI ⟨rfl, (hF.trans hout)⟩ dX12_spelled_117
  · skip
    replace hF := q_ifp hF c_7
    refine lv_lload hx hb dX12_spelled_23 (lv_at hl 0 rfl) ?_
    refine lv_ldc2 (v := 32) hx hb E.2.2.1 (E.2.2.2.1 _ (q_in_t7 (i := 199) (by first | rfl | decide +kernel) rfl)) dX12_spelled_25 ?_
    refine lv_lmul hx hb dX12_spelled_28 ?_
    refine lv_topl (fun y_43 ey_43 => ?_)
    replace hF := q_letX hF ey_43
    refine lv_iload_n hx hb dX12_spelled_29 rfl (lv_at hl 3 rfl) ?_
    refine lv_i2l hx hb dX12_spelled_30 rfl ?_
    refine lv_topl (fun y_44 ey_44 => ?_)
    replace hF := q_letX hF ey_44
    refine lv_ladd hx hb dX12_spelled_31 ?_
    refine lv_topl (fun y_45 ey_45 => ?_)
    replace hF := q_letX hF ey_45
    refine lv_ldc2 (v := 96) hx hb E.2.2.1 (E.2.2.2.1 _ (q_in_t7 (i := 200) (by first | rfl | decide +kernel) rfl)) dX12_spelled_32 ?_
    refine lv_lsub hx hb dX12_spelled_35 ?_
    refine lv_topl (fun y_46 ey_46 => ?_)
    replace hF := q_letX hF ey_46
    refine lv_goto (tgt := 41) hx hb dX12_spelled_36 (by decide) ?_
    refine lv_lstore (lv' := [(6, .long y_46), (0, .int v0), (1, .int v1), (2, .int v2), (3, .int v3), (4, .int v4), (5, .int v5)]) hx hb dX12_spelled_41 hl (by decide) rfl (fun ls hl => ?_)
    refine lv_iload_n hx hb dX12_spelled_43 rfl (lv_at hl 4 rfl) ?_
    refine q_if_le (A := v3.toInt) E rfl (tgt := 63) dX12_spelled_44 (by decide) (fun c_47 => ?_) (fun c_47 => ?_)
    · skip
      replace hF := q_ifn hF (Int.not_lt.mpr c_47)
      refine lv_lload hx hb dX12_spelled_63 (lv_at hl 0 rfl) ?_
      refine lv_lstore (lv' := [(6, .long y_46), (0, .int v0), (1, .int v1), (2, .int v2), (3, .int v3), (4, .int v4), (5, .int v5)]) hx hb dX12_spelled_65 hl (by decide) rfl (fun ls hl => ?_)
      refine lv_iload hx hb dX12_spelled_67 (lv_at hl 5 rfl) ?_
      refine q_if_le (A := v4.toInt) E rfl (tgt := 89) dX12_spelled_69 (by decide) (fun c_48 => ?_) (fun c_48 => ?_)
      · skip
        replace hF := q_ifn hF (Int.not_lt.mpr c_48)
        refine lv_lload hx hb dX12_spelled_89 (lv_at hl 0 rfl) ?_
        refine lv_lstore (lv' := [(6, .long y_46), (0, .int v0), (1, .int v1), (2, .int v2), (3, .int v3), (4, .int v4), (5, .int v5)]) hx hb dX12_spelled_91 hl (by decide) rfl (fun ls hl => ?_)
        refine lv_iload hx hb dX12_spelled_93 (lv_at hl 6 rfl) ?_
        refine q_if_le (A := v5.toInt) E rfl (tgt := 115) dX12_spelled_95 (by decide) (fun c_49 => ?_) (fun c_49 => ?_)
        · skip
          replace hF := q_ifn hF (Int.not_lt.mpr c_49)
          refine lv_lload hx hb dX12_spelled_115 (lv_at hl 0 rfl) ?_
          exact q_retl E hr hlk hI ⟨rfl, (hF.trans hout)⟩ dX12_spelled_117
        · skip
          replace hF := q_ifp hF c_49
          refine lv_lload hx hb dX12_spelled_98 (lv_at hl 0 rfl) ?_
          refine lv_ldc2 (v := 32) hx hb E.2.2.1 (E.2.2.2.1 _ (q_in_t7 (i := 199) (by first | rfl | decide +kernel) rfl)) dX12_spelled_100 ?_
          refine lv_lmul hx hb dX12_spelled_103 ?_
          refine lv_topl (fun y_50 ey_50 => ?_)
          replace hF := q_letX hF ey_50
          refine lv_iload hx hb dX12_spelled_104 (lv_at hl 6 rfl) ?_
          refine lv_i2l hx hb dX12_spelled_106 rfl ?_
          refine lv_topl (fun y_51 ey_51 => ?_)
          replace hF := q_letX hF ey_51
          refine lv_ladd hx hb dX12_spelled_107 ?_
          refine lv_topl (fun y_52 ey_52 => ?_)
          replace hF := q_letX hF ey_52
          refine lv_ldc2 (v := 96) hx hb E.2.2.1 (E.2.2.2.1 _ (q_in_t7 (i := 200) (by first | rfl | decide +kernel) rfl)) dX12_spelled_108 ?_
          refine lv_lsub hx hb dX12_spelled_111 ?_
          refine lv_topl (fun y_53 ey_53 => ?_)
          replace hF := q_letX hF ey_53
          refine lv_goto (tgt := 117) hx hb dX12_spelled_112 (by decide) ?_
          exact q_retl E hr hlk hI ⟨rfl, (hF.trans hout)⟩ dX12_spelled_117
      · skip
        replace hF := q_ifp hF c_48
        refine lv_lload hx hb dX12_spelled_72 (lv_at hl 0 rfl) ?_
        refine lv_ldc2 (v := 32) hx hb E.2.2.1 (E.2.2.2.1 _ (q_in_t7 (i := 199) (by first | rfl | decide +kernel) rfl)) dX12_spelled_74 ?_
        refine lv_lmul hx hb dX12_spelled_77 ?_
        refine lv_topl (fun y_54 ey_54 => ?_)
        replace hF := q_letX hF ey_54
        refine lv_iload hx hb dX12_spelled_78 (lv_at hl 5 rfl) ?_
        refine lv_i2l hx hb dX12_spelled_80 rfl ?_
        refine lv_topl (fun y_55 ey_55 => ?_)
        replace hF := q_letX hF ey_55
        refine lv_ladd hx hb dX12_spelled_81 ?_
        refine lv_topl (fun y_56 ey_56 => ?_)
        replace hF := q_letX hF ey_56
        refine lv_ldc2 (v := 96) hx hb E.2.2.1 (E.2.2.2.1 _ (q_in_t7 (i := 200) (by first | rfl | decide +kernel) rfl)) dX12_spelled_82 ?_
        refine lv_lsub hx hb dX12_spelled_85 ?_
        refine lv_topl (fun y_57 ey_57 => ?_)
        replace hF := q_letX hF ey_57
        refine lv_goto (tgt := 91) hx hb dX12_spelled_86 (by decide) ?_
        refine lv_lstore (lv' := [(6, .long y_57), (0, .int v0), (1, .int v1), (2, .int v2), (3, .int v3), (4, .int v4), (5, .int v5)]) hx hb dX12_spelled_91 hl (by decide) rfl (fun ls hl => ?_)
        refine lv_iload hx hb dX12_spelled_93 (lv_at hl 6 rfl) ?_
        refine q_if_le (A := v5.toInt) E rfl (tgt := 115) dX12_spelled_95 (by decide) (fun c_58 => ?_) (fun c_58 => ?_)
        · skip
          replace hF := q_ifn hF (Int.not_lt.mpr c_58)
          refine lv_lload hx hb dX12_spelled_115 (lv_at hl 0 rfl) ?_
          exact q_retl E hr hlk hI ⟨rfl, (hF.trans hout)⟩ dX12_spelled_117
        · skip
          replace hF := q_ifp hF c_58
          refine lv_lload hx hb dX12_spelled_98 (lv_at hl 0 rfl) ?_
          refine lv_ldc2 (v := 32) hx hb E.2.2.1 (E.2.2.2.1 _ (q_in_t7 (i := 199) (by first | rfl | decide +kernel) rfl)) dX12_spelled_100 ?_
          refine lv_lmul hx hb dX12_spelled_103 ?_
          refine lv_topl (fun y_59 ey_59 => ?_)
          replace hF := q_letX hF ey_59
          refine lv_iload hx hb dX12_spelled_104 (lv_at hl 6 rfl) ?_
          refine lv_i2l hx hb dX12_spelled_106 rfl ?_
          refine lv_topl (fun y_60 ey_60 => ?_)
          replace hF := q_letX hF ey_60
          refine lv_ladd hx hb dX12_spelled_107 ?_
          refine lv_topl (fun y_61 ey_61 => ?_)
          replace hF := q_letX hF ey_61
          refine lv_ldc2 (v := 96) hx hb E.2.2.1 (E.2.2.2.1 _ (q_in_t7 (i := 200) (by first | rfl | decide +kernel) rfl)) dX12_spelled_108 ?_
          refine lv_lsub hx hb dX12_spelled_111 ?_
          refine lv_topl (fun y_62 ey_62 => ?_)
          replace hF := q_letX hF ey_62
          refine lv_goto (tgt := 117) hx hb dX12_spelled_112 (by decide) ?_
          exact q_retl E hr hlk hI ⟨rfl, (hF.trans hout)⟩ dX12_spelled_117
    · skip
      replace hF := q_ifp hF c_47
      refine lv_lload hx hb dX12_spelled_47 (lv_at hl 0 rfl) ?_
      refine lv_ldc2 (v := 32) hx hb E.2.2.1 (E.2.2.2.1 _ (q_in_t7 (i := 199) (by first | rfl | decide +kernel) rfl)) dX12_spelled_49 ?_
      refine lv_lmul hx hb dX12_spelled_52 ?_
      refine lv_topl (fun y_63 ey_63 => ?_)
      replace hF := q_letX hF ey_63
      refine lv_iload_n hx hb dX12_spelled_53 rfl (lv_at hl 4 rfl) ?_
      refine lv_i2l hx hb dX12_spelled_54 rfl ?_
      refine lv_topl (fun y_64 ey_64 => ?_)
      replace hF := q_letX hF ey_64
      refine lv_ladd hx hb dX12_spelled_55 ?_
      refine lv_topl (fun y_65 ey_65 => ?_)
      replace hF := q_letX hF ey_65
      refine lv_ldc2 (v := 96) hx hb E.2.2.1 (E.2.2.2.1 _ (q_in_t7 (i := 200) (by first | rfl | decide +kernel) rfl)) dX12_spelled_56 ?_
      refine lv_lsub hx hb dX12_spelled_59 ?_
      refine lv_topl (fun y_66 ey_66 => ?_)
      replace hF := q_letX hF ey_66
      refine lv_goto (tgt := 65) hx hb dX12_spelled_60 (by decide) ?_
      refine lv_lstore (lv' := [(6, .long y_66), (0, .int v0), (1, .int v1), (2, .int v2), (3, .int v3), (4, .int v4), (5, .int v5)]) hx hb dX12_spelled_65 hl (by decide) rfl (fun ls hl => ?_)
      refine lv_iload hx hb dX12_spelled_67 (lv_at hl 5 rfl) ?_
      refine q_if_le (A := v4.toInt) E rfl (tgt := 89) dX12_spelled_69 (by decide) (fun c_67 => ?_) (fun c_67 => ?_)
      · skip
        replace hF := q_ifn hF (Int.not_lt.mpr c_67)
        refine lv_lload hx hb dX12_spelled_89 (lv_at hl 0 rfl) ?_
        refine lv_lstore (lv' := [(6, .long y_66), (0, .int v0), (1, .int v1), (2, .int v2), (3, .int v3), (4, .int v4), (5, .int v5)]) hx hb dX12_spelled_91 hl (by decide) rfl (fun ls hl => ?_)
        refine lv_iload hx hb dX12_spelled_93 (lv_at hl 6 rfl) ?_
        refine q_if_le (A := v5.toInt) E rfl (tgt := 115) dX12_spelled_95 (by decide) (fun c_68 => ?_) (fun c_68 => ?_)
        · skip
          replace hF := q_ifn hF (Int.not_lt.mpr c_68)
          refine lv_lload hx hb dX12_spelled_115 (lv_at hl 0 rfl) ?_
          exact q_retl E hr hlk hI ⟨rfl, (hF.trans hout)⟩ dX12_spelled_117
        · skip
          replace hF := q_ifp hF c_68
          refine lv_lload hx hb dX12_spelled_98 (lv_at hl 0 rfl) ?_
          refine lv_ldc2 (v := 32) hx hb E.2.2.1 (E.2.2.2.1 _ (q_in_t7 (i := 199) (by first | rfl | decide +kernel) rfl)) dX12_spelled_100 ?_
          refine lv_lmul hx hb dX12_spelled_103 ?_
          refine lv_topl (fun y_69 ey_69 => ?_)
          replace hF := q_letX hF ey_69
          refine lv_iload hx hb dX12_spelled_104 (lv_at hl 6 rfl) ?_
          refine lv_i2l hx hb dX12_spelled_106 rfl ?_
          refine lv_topl (fun y_70 ey_70 => ?_)
          replace hF := q_letX hF ey_70
          refine lv_ladd hx hb dX12_spelled_107 ?_
          refine lv_topl (fun y_71 ey_71 => ?_)
          replace hF := q_letX hF ey_71
          refine lv_ldc2 (v := 96) hx hb E.2.2.1 (E.2.2.2.1 _ (q_in_t7 (i := 200) (by first | rfl | decide +kernel) rfl)) dX12_spelled_108 ?_
          refine lv_lsub hx hb dX12_spelled_111 ?_
          refine lv_topl (fun y_72 ey_72 => ?_)
          replace hF := q_letX hF ey_72
          refine lv_goto (tgt := 117) hx hb dX12_spelled_112 (by decide) ?_
          exact q_retl E hr hlk hI ⟨rfl, (hF.trans hout)⟩ dX12_spelled_117
      · skip
        replace hF := q_ifp hF c_67
        refine lv_lload hx hb dX12_spelled_72 (lv_at hl 0 rfl) ?_
        refine lv_ldc2 (v := 32) hx hb E.2.2.1 (E.2.2.2.1 _ (q_in_t7 (i := 199) (by first | rfl | decide +kernel) rfl)) dX12_spelled_74 ?_
        refine lv_lmul hx hb dX12_spelled_77 ?_
        refine lv_topl (fun y_73 ey_73 => ?_)
        replace hF := q_letX hF ey_73
        refine lv_iload hx hb dX12_spelled_78 (lv_at hl 5 rfl) ?_
        refine lv_i2l hx hb dX12_spelled_80 rfl ?_
        refine lv_topl (fun y_74 ey_74 => ?_)
        replace hF := q_letX hF ey_74
        refine lv_ladd hx hb dX12_spelled_81 ?_
        refine lv_topl (fun y_75 ey_75 => ?_)
        replace hF := q_letX hF ey_75
        refine lv_ldc2 (v := 96) hx hb E.2.2.1 (E.2.2.2.1 _ (q_in_t7 (i := 200) (by first | rfl | decide +kernel) rfl)) dX12_spelled_82 ?_
        refine lv_lsub hx hb dX12_spelled_85 ?_
        refine lv_topl (fun y_76 ey_76 => ?_)
        replace hF := q_letX hF ey_76
        refine lv_goto (tgt := 91) hx hb dX12_spelled_86 (by decide) ?_
        refine lv_lstore (lv' := [(6, .long y_76), (0, .int v0), (1, .int v1), (2, .int v2), (3, .int v3), (4, .int v4), (5, .int v5)]) hx hb dX12_spelled_91 hl (by decide) rfl (fun ls hl => ?_)
        refine lv_iload hx hb dX12_spelled_93 (lv_at hl 6 rfl) ?_
        refine q_if_le (A := v5.toInt) E rfl (tgt := 115) dX12_spelled_95 (by decide) (fun c_77 => ?_) (fun c_77 => ?_)
        · skip
          replace hF := q_ifn hF (Int.not_lt.mpr c_77)
          refine lv_lload hx hb dX12_spelled_115 (lv_at hl 0 rfl) ?_
          exact q_retl E hr hlk hI ⟨rfl, (hF.trans hout)⟩ dX12_spelled_117
        · skip
          replace hF := q_ifp hF c_77
          refine lv_lload hx hb dX12_spelled_98 (lv_at hl 0 rfl) ?_
          refine lv_ldc2 (v := 32) hx hb E.2.2.1 (E.2.2.2.1 _ (q_in_t7 (i := 199) (by first | rfl | decide +kernel) rfl)) dX12_spelled_100 ?_
          refine lv_lmul hx hb dX12_spelled_103 ?_
          refine lv_topl (fun y_78 ey_78 => ?_)
          replace hF := q_letX hF ey_78
          refine lv_iload hx hb dX12_spelled_104 (lv_at hl 6 rfl) ?_
          refine lv_i2l hx hb dX12_spelled_106 rfl ?_
          refine lv_topl (fun y_79 ey_79 => ?_)
          replace hF := q_letX hF ey_79
          refine lv_ladd hx hb dX12_spelled_107 ?_
          refine lv_topl (fun y_80 ey_80 => ?_)
          replace hF := q_letX hF ey_80
          refine lv_ldc2 (v := 96) hx hb E.2.2.1 (E.2.2.2.1 _ (q_in_t7 (i := 200) (by first | rfl | decide +kernel) rfl)) dX12_spelled_108 ?_
          refine lv_lsub hx hb dX12_spelled_111 ?_
          refine lv_topl (fun y_81 ey_81 => ?_)
          replace hF := q_letX hF ey_81
          refine lv_goto (tgt := 117) hx hb dX12_spelled_112 (by decide) ?_
          exact q_retl E hr hlk hI ⟨rfl, (hF.trans hout)⟩ dX12_spelled_117
end
/-! FROM 34.words.a.lean.txt -/
section
section QS
variable {p : Program} {l : Launch} {e : Env} {R : Room} {s : State} {m : MethodId} {args : Array Value} {below : List Frame} {meth : Method} {c : Code} {H : Heap} {locs : List Loc} {cells slots : Nat} {Q : State → Prop} {cc : ByteArray} {X : XW} {n : Nat} {σ0 σ : ST} {H0 : Heap} {pc : Nat} {ls : Array Slot} {rest : List Value} {a : Nat}
theorem ks_X12_135 : q_okS RX12 135 yX12_spelled cX12_spelled 8 (some .long) 6 := ⟨(q_in_t7 (i := 212) (by first | rfl | decide +kernel) rfl), (q_in_t7 (i := 213) (by first | rfl | decide +kernel) rfl), (q_in_t1 (i := 14) (by first | rfl | decide +kernel) rfl), (q_in_t7 (i := 214) (by first | rfl | decide +kernel) rfl), ⟨by decide, by decide, rfl⟩⟩
theorem kv_X12_139 : q_okV RX12 139 RX12 yX12_isWord cX12_isWord 3 (some .boolean) 1 := ⟨(q_in_t7 (i := 215) (by first | rfl | decide +kernel) rfl), (q_in_t7 (i := 217) (by first | rfl | decide +kernel) rfl), (q_in_p (i := 46) (by decide +kernel) rfl), (q_in_t1 (i := 14) (by first | rfl | decide +kernel) rfl), (q_in_t7 (i := 218) (by first | rfl | decide +kernel) rfl), ⟨rfl, by decide, by decide, rfl⟩⟩
theorem kv_X12_143 : q_okV RX12 143 RX12 yX12_isLies cX12_isLies 1 (some .boolean) 0 := ⟨(q_in_t8 (i := 55) (by first | rfl | decide +kernel) rfl), (q_in_t8 (i := 57) (by first | rfl | decide +kernel) rfl), (q_in_p (i := 65) (by decide +kernel) rfl), (q_in_t1 (i := 14) (by first | rfl | decide +kernel) rfl), (q_in_t8 (i := 58) (by first | rfl | decide +kernel) rfl), ⟨rfl, by decide, by decide, rfl⟩⟩
theorem kv_X12_147 : q_okV RX12 147 RX12 yX12_isDoubts cX12_isDoubts 1 (some .boolean) 0 := ⟨(q_in_t8 (i := 59) (by first | rfl | decide +kernel) rfl), (q_in_t8 (i := 61) (by first | rfl | decide +kernel) rfl), (q_in_p (i := 66) (by decide +kernel) rfl), (q_in_t1 (i := 14) (by first | rfl | decide +kernel) rfl), (q_in_t8 (i := 62) (by first | rfl | decide +kernel) rfl), ⟨rfl, by decide, by decide, rfl⟩⟩
theorem kv_X12_150 : q_okV RX12 150 RX12 yX12_isKinds cX12_isKinds 1 (some .boolean) 0 := ⟨(q_in_t7 (i := 208) (by first | rfl | decide +kernel) rfl), (q_in_t7 (i := 210) (by first | rfl | decide +kernel) rfl), (q_in_p (i := 45) (by decide +kernel) rfl), (q_in_t1 (i := 14) (by first | rfl | decide +kernel) rfl), (q_in_t7 (i := 211) (by first | rfl | decide +kernel) rfl), ⟨rfl, by decide, by decide, rfl⟩⟩
theorem kv_X12_153 : q_okV RX12 153 RX12 yX12_isEach cX12_isEach 1 (some .boolean) 0 := ⟨(q_in_t7 (i := 238) (by first | rfl | decide +kernel) rfl), (q_in_t8 (i := 0) (by first | rfl | decide +kernel) rfl), (q_in_p (i := 51) (by decide +kernel) rfl), (q_in_t1 (i := 14) (by first | rfl | decide +kernel) rfl), (q_in_t8 (i := 1) (by first | rfl | decide +kernel) rfl), ⟨rfl, by decide, by decide, rfl⟩⟩
theorem kv_X12_156 : q_okV RX12 156 RX12 yX12_isLaw cX12_isLaw 1 (some .boolean) 0 := ⟨(q_in_t8 (i := 6) (by first | rfl | decide +kernel) rfl), (q_in_t8 (i := 8) (by first | rfl | decide +kernel) rfl), (q_in_p (i := 53) (by decide +kernel) rfl), (q_in_t1 (i := 14) (by first | rfl | decide +kernel) rfl), (q_in_t8 (i := 9) (by first | rfl | decide +kernel) rfl), ⟨rfl, by decide, by decide, rfl⟩⟩
theorem kv_X12_159 : q_okV RX12 159 RX12 yX12_isMost cX12_isMost 1 (some .boolean) 0 := ⟨(q_in_t8 (i := 19) (by first | rfl | decide +kernel) rfl), (q_in_t8 (i := 21) (by first | rfl | decide +kernel) rfl), (q_in_p (i := 56) (by decide +kernel) rfl), (q_in_t1 (i := 14) (by first | rfl | decide +kernel) rfl), (q_in_t8 (i := 22) (by first | rfl | decide +kernel) rfl), ⟨rfl, by decide, by decide, rfl⟩⟩
theorem kv_X12_162 : q_okV RX12 162 RX12 yX12_isPlayer cX12_isPlayer 1 (some .boolean) 0 := ⟨(q_in_t8 (i := 27) (by first | rfl | decide +kernel) rfl), (q_in_t8 (i := 29) (by first | rfl | decide +kernel) rfl), (q_in_p (i := 58) (by decide +kernel) rfl), (q_in_t1 (i := 14) (by first | rfl | decide +kernel) rfl), (q_in_t8 (i := 30) (by first | rfl | decide +kernel) rfl), ⟨rfl, by decide, by decide, rfl⟩⟩
theorem kv_X12_165 : q_okV RX12 165 RX12 yX12_isHand cX12_isHand 1 (some .boolean) 0 := ⟨(q_in_t8 (i := 43) (by first | rfl | decide +kernel) rfl), (q_in_t8 (i := 45) (by first | rfl | decide +kernel) rfl), (q_in_p (i := 62) (by decide +kernel) rfl), (q_in_t1 (i := 14) (by first | rfl | decide +kernel) rfl), (q_in_t8 (i := 46) (by first | rfl | decide +kernel) rfl), ⟨rfl, by decide, by decide, rfl⟩⟩
theorem kv_X12_168 : q_okV RX12 168 RX12 yX12_isOf cX12_isOf 1 (some .boolean) 0 := ⟨(q_in_t8 (i := 47) (by first | rfl | decide +kernel) rfl), (q_in_t8 (i := 49) (by first | rfl | decide +kernel) rfl), (q_in_p (i := 63) (by decide +kernel) rfl), (q_in_t1 (i := 14) (by first | rfl | decide +kernel) rfl), (q_in_t8 (i := 50) (by first | rfl | decide +kernel) rfl), ⟨rfl, by decide, by decide, rfl⟩⟩
theorem kv_X12_171 : q_okV RX12 171 RX12 yX12_lawWord cX12_lawWord 1 (some .int) 0 := ⟨(q_in_t8 (i := 14) (by first | rfl | decide +kernel) rfl), (q_in_t8 (i := 16) (by first | rfl | decide +kernel) rfl), (q_in_p (i := 55) (by decide +kernel) rfl), (q_in_t1 (i := 14) (by first | rfl | decide +kernel) rfl), (q_in_t8 (i := 17) (by first | rfl | decide +kernel) rfl), ⟨rfl, by decide, by decide, rfl⟩⟩
theorem kv_X12_175 : q_okV RX12 175 RX12 yX12_stepWord cX12_stepWord 1 (some .int) 0 := ⟨(q_in_t8 (i := 51) (by first | rfl | decide +kernel) rfl), (q_in_t8 (i := 53) (by first | rfl | decide +kernel) rfl), (q_in_p (i := 64) (by decide +kernel) rfl), (q_in_t1 (i := 14) (by first | rfl | decide +kernel) rfl), (q_in_t8 (i := 54) (by first | rfl | decide +kernel) rfl), ⟨rfl, by decide, by decide, rfl⟩⟩
theorem kv_X12_178 : q_okV RX12 178 RX12 yX12_testWord cX12_testWord 1 (some .int) 0 := ⟨(q_in_t8 (i := 63) (by first | rfl | decide +kernel) rfl), (q_in_t8 (i := 65) (by first | rfl | decide +kernel) rfl), (q_in_p (i := 67) (by decide +kernel) rfl), (q_in_t1 (i := 14) (by first | rfl | decide +kernel) rfl), (q_in_t8 (i := 66) (by first | rfl | decide +kernel) rfl), ⟨rfl, by decide, by decide, rfl⟩⟩
theorem kv_X12_181 : q_okV RX12 181 RX12 yX12_isEnd cX12_isEnd 1 (some .boolean) 0 := ⟨(q_in_t8 (i := 67) (by first | rfl | decide +kernel) rfl), (q_in_t8 (i := 69) (by first | rfl | decide +kernel) rfl), (q_in_p (i := 68) (by decide +kernel) rfl), (q_in_t1 (i := 14) (by first | rfl | decide +kernel) rfl), (q_in_t8 (i := 70) (by first | rfl | decide +kernel) rfl), ⟨rfl, by decide, by decide, rfl⟩⟩
theorem gs_X12_123_12 (E : q_E p c cc s m args RX12 X) (hI : q_I X n σ0 H0 locs σ H) (ha : q_kd X a = 12) (hdg : decode cc pc = .ok (.getfield 123, 3)) (kk : W p l e R s m args below meth c H locs cells slots Q (F0 m (pc + 3) ls (.int (σ.1 a 18) :: rest))) : W p l e R s m args below meth c H locs cells slots Q (F0 m pc ls (.ref a :: rest)) :=
  q_getf (ref := "CheatHeapModel") E hI ha ⟨rfl, by decide⟩ (show vwCl[11]? = some (RX12, TX12, 46) from rfl) q_inX12 (f := 18) (by decide) (q_in_t7 (i := 3) (by first | rfl | decide +kernel) rfl) (Or.inl rfl) rfl hdg kk
theorem kv_X12_184 : q_okV RX12 184 RX12 yX12_isKept cX12_isKept 1 (some .boolean) 0 := ⟨(q_in_t8 (i := 39) (by first | rfl | decide +kernel) rfl), (q_in_t8 (i := 41) (by first | rfl | decide +kernel) rfl), (q_in_p (i := 61) (by decide +kernel) rfl), (q_in_t1 (i := 14) (by first | rfl | decide +kernel) rfl), (q_in_t8 (i := 42) (by first | rfl | decide +kernel) rfl), ⟨rfl, by decide, by decide, rfl⟩⟩
end QS
end
/-! FROM 34.words.b00.lean.txt -/
section
set_option maxRecDepth 100000 in
set_option maxHeartbeats 4000000 in
theorem c_X12_isKinds (l : Launch) (X : XW) (σ : ST) (a : Nat) (ha : q_kd X a = 12) : Met l yX12_isKinds (q_ws yX12_isKinds cX12_isKinds 1 (some .boolean)) (q_rm 1 27) (q_P X σ [.ref a]) (q_Qi X 9 σ (fun (r : Int32) (σ' : ST) => σ' = σ ∧ (0 ≤ r.toInt ∧ r.toInt ≤ 1) ∧ r = F_X12_isKinds X σ a)) 0 0 (q_reg X) := by
  refine q_met 9 (by first | exact rfl | decide +kernel) rfl (Nat.le_of_ble_eq_true rfl) (fun p e s m below meth c E hml hr hlk hI ls hl => ?_)
  have hx := E.1
  have hb := E.2.1
  have hl : lv_has ls 1 [(0, .ref a)] := hl
  obtain ⟨out, hout⟩ : ∃ o, o = F_X12_isKinds X σ a := ⟨_, rfl⟩
  have hF := hout.symm
  unfold F_X12_isKinds at hF
  refine lv_aload_n hx hb dX12_isKinds_0 rfl (lv_at hl 0 rfl) ?_
  refine lv_bipush (v := 107) hx hb dX12_isKinds_1 zkb_107 ?_
  refine lv_bipush (v := 105) hx hb dX12_isKinds_3 zkb_105 ?_
  refine lv_bipush (v := 110) hx hb dX12_isKinds_5 zkb_110 ?_
  refine lv_bipush (v := 100) hx hb dX12_isKinds_7 zkb_100 ?_
  refine lv_bipush (v := 115) hx hb dX12_isKinds_9 zkb_115 ?_
  refine lv_iconst (v := 0) hx hb dX12_isKinds_11 zki_0 ?_
  have kc_1 : (107 : Int32).toInt = 107 := zt_107
  have kc_2 : (105 : Int32).toInt = 105 := zt_105
  have kc_3 : (110 : Int32).toInt = 110 := zt_110
  have kc_4 : (100 : Int32).toInt = 100 := zt_100
  have kc_5 : (115 : Int32).toInt = 115 := zt_115
  have kc_6 : (0 : Int32).toInt = 0 := zt_0
  refine q_cl_ (q_runS (As := [.int 107, .int 105, .int 110, .int 100, .int 115, .int 0]) (rest := [.ref a]) E (hml.trans hl.1.symm) hI (c_X12_spelled l X σ (107 : Int32) (105 : Int32) (110 : Int32) (100 : Int32) (115 : Int32) (0 : Int32)) ks_X12_135 rfl ⟨Nat.le_of_ble_eq_true rfl, Nat.le_of_ble_eq_true rfl⟩ ⟨Nat.le_refl _, Nat.le_refl _⟩ rfl (Nat.le_of_ble_eq_true rfl) dX12_isKinds_12) hI (Nat.le_of_ble_eq_true rfl) (fun r_7 σ_8 H locs hpσ_8 hkσ_8 hI => ?_)
  have ahpσ_8 := hpσ_8.1
  have bhpσ_8 := hpσ_8.2
  clear hpσ_8
  replace hI := q_Irw ahpσ_8 hI
  replace hF := q_letX hF bhpσ_8
  refine q_ci (q_rV11_1 (rest := []) E (hml.trans hl.1.symm) hI (c_X12_isWord l X σ a r_7 ha) kv_X12_139 ha ⟨Nat.le_of_ble_eq_true rfl, Nat.le_of_ble_eq_true rfl⟩ (Nat.le_of_ble_eq_true rfl) dX12_isKinds_15) hI (Nat.le_of_ble_eq_true rfl) (fun r_9 σ_10 H locs hpσ_10 hkσ_10 hI => ?_)
  have ahpσ_10 := hpσ_10.1
  have bhpσ_10 := hpσ_10.2.1
  have chpσ_10 := hpσ_10.2.2.1
  have dhpσ_10 := hpσ_10.2.2.2
  clear hpσ_10
  replace hI := q_Irw ahpσ_10 hI
  replace hF := q_letX hF dhpσ_10
  exact q_retz E hr hlk hI ⟨by omega, by omega⟩ ⟨rfl, ⟨by omega, by omega⟩, (hF.trans hout)⟩ dX12_isKinds_18

set_option maxRecDepth 100000 in
set_option maxHeartbeats 4000000 in
theorem c_X12_isEach (l : Launch) (X : XW) (σ : ST) (a : Nat) (ha : q_kd X a = 12) : Met l yX12_isEach (q_ws yX12_isEach cX12_isEach 1 (some .boolean)) (q_rm 1 27) (q_P X σ [.ref a]) (q_Qi X 9 σ (fun (r : Int32) (σ' : ST) => σ' = σ ∧ (0 ≤ r.toInt ∧ r.toInt ≤ 1) ∧ r = F_X12_isEach X σ a)) 0 0 (q_reg X) := by
  refine q_met 9 (by first | exact rfl | decide +kernel) rfl (Nat.le_of_ble_eq_true rfl) (fun p e s m below meth c E hml hr hlk hI ls hl => ?_)
  have hx := E.1
  have hb := E.2.1
  have hl : lv_has ls 1 [(0, .ref a)] := hl
  obtain ⟨out, hout⟩ : ∃ o, o = F_X12_isEach X σ a := ⟨_, rfl⟩
  have hF := hout.symm
  unfold F_X12_isEach at hF
  refine lv_aload_n hx hb dX12_isEach_0 rfl (lv_at hl 0 rfl) ?_
  refine lv_bipush (v := 101) hx hb dX12_isEach_1 zkb_101 ?_
  refine lv_bipush (v := 97) hx hb dX12_isEach_3 zkb_97 ?_
  refine lv_bipush (v := 99) hx hb dX12_isEach_5 zkb_99 ?_
  refine lv_bipush (v := 104) hx hb dX12_isEach_7 zkb_104 ?_
  refine lv_iconst (v := 0) hx hb dX12_isEach_9 zki_0 ?_
  refine lv_iconst (v := 0) hx hb dX12_isEach_10 zki_0 ?_
  have kc_1 : (101 : Int32).toInt = 101 := zt_101
  have kc_2 : (97 : Int32).toInt = 97 := zt_97
  have kc_3 : (99 : Int32).toInt = 99 := zt_99
  have kc_4 : (104 : Int32).toInt = 104 := zt_104
  have kc_5 : (0 : Int32).toInt = 0 := zt_0
  have kc_6 : (0 : Int32).toInt = 0 := zt_0
  refine q_cl_ (q_runS (As := [.int 101, .int 97, .int 99, .int 104, .int 0, .int 0]) (rest := [.ref a]) E (hml.trans hl.1.symm) hI (c_X12_spelled l X σ (101 : Int32) (97 : Int32) (99 : Int32) (104 : Int32) (0 : Int32) (0 : Int32)) ks_X12_135 rfl ⟨Nat.le_of_ble_eq_true rfl, Nat.le_of_ble_eq_true rfl⟩ ⟨Nat.le_refl _, Nat.le_refl _⟩ rfl (Nat.le_of_ble_eq_true rfl) dX12_isEach_11) hI (Nat.le_of_ble_eq_true rfl) (fun r_7 σ_8 H locs hpσ_8 hkσ_8 hI => ?_)
  have ahpσ_8 := hpσ_8.1
  have bhpσ_8 := hpσ_8.2
  clear hpσ_8
  replace hI := q_Irw ahpσ_8 hI
  replace hF := q_letX hF bhpσ_8
  refine q_ci (q_rV11_1 (rest := []) E (hml.trans hl.1.symm) hI (c_X12_isWord l X σ a r_7 ha) kv_X12_139 ha ⟨Nat.le_of_ble_eq_true rfl, Nat.le_of_ble_eq_true rfl⟩ (Nat.le_of_ble_eq_true rfl) dX12_isEach_14) hI (Nat.le_of_ble_eq_true rfl) (fun r_9 σ_10 H locs hpσ_10 hkσ_10 hI => ?_)
  have ahpσ_10 := hpσ_10.1
  have bhpσ_10 := hpσ_10.2.1
  have chpσ_10 := hpσ_10.2.2.1
  have dhpσ_10 := hpσ_10.2.2.2
  clear hpσ_10
  replace hI := q_Irw ahpσ_10 hI
  replace hF := q_letX hF dhpσ_10
  exact q_retz E hr hlk hI ⟨by omega, by omega⟩ ⟨rfl, ⟨by omega, by omega⟩, (hF.trans hout)⟩ dX12_isEach_17

set_option maxRecDepth 100000 in
set_option maxHeartbeats 4000000 in
theorem c_X12_isLaw (l : Launch) (X : XW) (σ : ST) (a : Nat) (ha : q_kd X a = 12) : Met l yX12_isLaw (q_ws yX12_isLaw cX12_isLaw 1 (some .boolean)) (q_rm 1 27) (q_P X σ [.ref a]) (q_Qi X 9 σ (fun (r : Int32) (σ' : ST) => σ' = σ ∧ (0 ≤ r.toInt ∧ r.toInt ≤ 1) ∧ r = F_X12_isLaw X σ a)) 0 0 (q_reg X) := by
  refine q_met 9 (by first | exact rfl | decide +kernel) rfl (Nat.le_of_ble_eq_true rfl) (fun p e s m below meth c E hml hr hlk hI ls hl => ?_)
  have hx := E.1
  have hb := E.2.1
  have hl : lv_has ls 1 [(0, .ref a)] := hl
  obtain ⟨out, hout⟩ : ∃ o, o = F_X12_isLaw X σ a := ⟨_, rfl⟩
  have hF := hout.symm
  unfold F_X12_isLaw at hF
  refine lv_aload_n hx hb dX12_isLaw_0 rfl (lv_at hl 0 rfl) ?_
  refine lv_bipush (v := 108) hx hb dX12_isLaw_1 zkb_108 ?_
  refine lv_bipush (v := 97) hx hb dX12_isLaw_3 zkb_97 ?_
  refine lv_bipush (v := 119) hx hb dX12_isLaw_5 zkb_119 ?_
  refine lv_iconst (v := 0) hx hb dX12_isLaw_7 zki_0 ?_
  refine lv_iconst (v := 0) hx hb dX12_isLaw_8 zki_0 ?_
  refine lv_iconst (v := 0) hx hb dX12_isLaw_9 zki_0 ?_
  have kc_1 : (108 : Int32).toInt = 108 := zt_108
  have kc_2 : (97 : Int32).toInt = 97 := zt_97
  have kc_3 : (119 : Int32).toInt = 119 := zt_119
  have kc_4 : (0 : Int32).toInt = 0 := zt_0
  have kc_5 : (0 : Int32).toInt = 0 := zt_0
  have kc_6 : (0 : Int32).toInt = 0 := zt_0
  refine q_cl_ (q_runS (As := [.int 108, .int 97, .int 119, .int 0, .int 0, .int 0]) (rest := [.ref a]) E (hml.trans hl.1.symm) hI (c_X12_spelled l X σ (108 : Int32) (97 : Int32) (119 : Int32) (0 : Int32) (0 : Int32) (0 : Int32)) ks_X12_135 rfl ⟨Nat.le_of_ble_eq_true rfl, Nat.le_of_ble_eq_true rfl⟩ ⟨Nat.le_refl _, Nat.le_refl _⟩ rfl (Nat.le_of_ble_eq_true rfl) dX12_isLaw_10) hI (Nat.le_of_ble_eq_true rfl) (fun r_7 σ_8 H locs hpσ_8 hkσ_8 hI => ?_)
  have ahpσ_8 := hpσ_8.1
  have bhpσ_8 := hpσ_8.2
  clear hpσ_8
  replace hI := q_Irw ahpσ_8 hI
  replace hF := q_letX hF bhpσ_8
  refine q_ci (q_rV11_1 (rest := []) E (hml.trans hl.1.symm) hI (c_X12_isWord l X σ a r_7 ha) kv_X12_139 ha ⟨Nat.le_of_ble_eq_true rfl, Nat.le_of_ble_eq_true rfl⟩ (Nat.le_of_ble_eq_true rfl) dX12_isLaw_13) hI (Nat.le_of_ble_eq_true rfl) (fun r_9 σ_10 H locs hpσ_10 hkσ_10 hI => ?_)
  have ahpσ_10 := hpσ_10.1
  have bhpσ_10 := hpσ_10.2.1
  have chpσ_10 := hpσ_10.2.2.1
  have dhpσ_10 := hpσ_10.2.2.2
  clear hpσ_10
  replace hI := q_Irw ahpσ_10 hI
  replace hF := q_letX hF dhpσ_10
  exact q_retz E hr hlk hI ⟨by omega, by omega⟩ ⟨rfl, ⟨by omega, by omega⟩, (hF.trans hout)⟩ dX12_isLaw_16

set_option maxRecDepth 100000 in
set_option maxHeartbeats 4000000 in
theorem c_X12_isMost (l : Launch) (X : XW) (σ : ST) (a : Nat) (ha : q_kd X a = 12) : Met l yX12_isMost (q_ws yX12_isMost cX12_isMost 1 (some .boolean)) (q_rm 1 27) (q_P X σ [.ref a]) (q_Qi X 9 σ (fun (r : Int32) (σ' : ST) => σ' = σ ∧ (0 ≤ r.toInt ∧ r.toInt ≤ 1) ∧ r = F_X12_isMost X σ a)) 0 0 (q_reg X) := by
  refine q_met 9 (by first | exact rfl | decide +kernel) rfl (Nat.le_of_ble_eq_true rfl) (fun p e s m below meth c E hml hr hlk hI ls hl => ?_)
  have hx := E.1
  have hb := E.2.1
  have hl : lv_has ls 1 [(0, .ref a)] := hl
  obtain ⟨out, hout⟩ : ∃ o, o = F_X12_isMost X σ a := ⟨_, rfl⟩
  have hF := hout.symm
  unfold F_X12_isMost at hF
  refine lv_aload_n hx hb dX12_isMost_0 rfl (lv_at hl 0 rfl) ?_
  refine lv_bipush (v := 109) hx hb dX12_isMost_1 zkb_109 ?_
  refine lv_bipush (v := 111) hx hb dX12_isMost_3 zkb_111 ?_
  refine lv_bipush (v := 115) hx hb dX12_isMost_5 zkb_115 ?_
  refine lv_bipush (v := 116) hx hb dX12_isMost_7 zkb_116 ?_
  refine lv_iconst (v := 0) hx hb dX12_isMost_9 zki_0 ?_
  refine lv_iconst (v := 0) hx hb dX12_isMost_10 zki_0 ?_
  have kc_1 : (109 : Int32).toInt = 109 := zt_109
  have kc_2 : (111 : Int32).toInt = 111 := zt_111
  have kc_3 : (115 : Int32).toInt = 115 := zt_115
  have kc_4 : (116 : Int32).toInt = 116 := zt_116
  have kc_5 : (0 : Int32).toInt = 0 := zt_0
  have kc_6 : (0 : Int32).toInt = 0 := zt_0
  refine q_cl_ (q_runS (As := [.int 109, .int 111, .int 115, .int 116, .int 0, .int 0]) (rest := [.ref a]) E (hml.trans hl.1.symm) hI (c_X12_spelled l X σ (109 : Int32) (111 : Int32) (115 : Int32) (116 : Int32) (0 : Int32) (0 : Int32)) ks_X12_135 rfl ⟨Nat.le_of_ble_eq_true rfl, Nat.le_of_ble_eq_true rfl⟩ ⟨Nat.le_refl _, Nat.le_refl _⟩ rfl (Nat.le_of_ble_eq_true rfl) dX12_isMost_11) hI (Nat.le_of_ble_eq_true rfl) (fun r_7 σ_8 H locs hpσ_8 hkσ_8 hI => ?_)
  have ahpσ_8 := hpσ_8.1
  have bhpσ_8 := hpσ_8.2
  clear hpσ_8
  replace hI := q_Irw ahpσ_8 hI
  replace hF := q_letX hF bhpσ_8
  refine q_ci (q_rV11_1 (rest := []) E (hml.trans hl.1.symm) hI (c_X12_isWord l X σ a r_7 ha) kv_X12_139 ha ⟨Nat.le_of_ble_eq_true rfl, Nat.le_of_ble_eq_true rfl⟩ (Nat.le_of_ble_eq_true rfl) dX12_isMost_14) hI (Nat.le_of_ble_eq_true rfl) (fun r_9 σ_10 H locs hpσ_10 hkσ_10 hI => ?_)
  have ahpσ_10 := hpσ_10.1
  have bhpσ_10 := hpσ_10.2.1
  have chpσ_10 := hpσ_10.2.2.1
  have dhpσ_10 := hpσ_10.2.2.2
  clear hpσ_10
  replace hI := q_Irw ahpσ_10 hI
  replace hF := q_letX hF dhpσ_10
  exact q_retz E hr hlk hI ⟨by omega, by omega⟩ ⟨rfl, ⟨by omega, by omega⟩, (hF.trans hout)⟩ dX12_isMost_17

set_option maxRecDepth 100000 in
set_option maxHeartbeats 4000000 in
theorem c_X12_isPlayer (l : Launch) (X : XW) (σ : ST) (a : Nat) (ha : q_kd X a = 12) : Met l yX12_isPlayer (q_ws yX12_isPlayer cX12_isPlayer 1 (some .boolean)) (q_rm 1 27) (q_P X σ [.ref a]) (q_Qi X 9 σ (fun (r : Int32) (σ' : ST) => σ' = σ ∧ (0 ≤ r.toInt ∧ r.toInt ≤ 1) ∧ r = F_X12_isPlayer X σ a)) 0 0 (q_reg X) := by
  refine q_met 9 (by first | exact rfl | decide +kernel) rfl (Nat.le_of_ble_eq_true rfl) (fun p e s m below meth c E hml hr hlk hI ls hl => ?_)
  have hx := E.1
  have hb := E.2.1
  have hl : lv_has ls 1 [(0, .ref a)] := hl
  obtain ⟨out, hout⟩ : ∃ o, o = F_X12_isPlayer X σ a := ⟨_, rfl⟩
  have hF := hout.symm
  unfold F_X12_isPlayer at hF
  refine lv_aload_n hx hb dX12_isPlayer_0 rfl (lv_at hl 0 rfl) ?_
  refine lv_bipush (v := 112) hx hb dX12_isPlayer_1 zkb_112 ?_
  refine lv_bipush (v := 108) hx hb dX12_isPlayer_3 zkb_108 ?_
  refine lv_bipush (v := 97) hx hb dX12_isPlayer_5 zkb_97 ?_
  refine lv_bipush (v := 121) hx hb dX12_isPlayer_7 zkb_121 ?_
  refine lv_bipush (v := 101) hx hb dX12_isPlayer_9 zkb_101 ?_
  refine lv_bipush (v := 114) hx hb dX12_isPlayer_11 zkb_114 ?_
  have kc_1 : (112 : Int32).toInt = 112 := zt_112
  have kc_2 : (108 : Int32).toInt = 108 := zt_108
  have kc_3 : (97 : Int32).toInt = 97 := zt_97
  have kc_4 : (121 : Int32).toInt = 121 := zt_121
  have kc_5 : (101 : Int32).toInt = 101 := zt_101
  have kc_6 : (114 : Int32).toInt = 114 := zt_114
  refine q_cl_ (q_runS (As := [.int 112, .int 108, .int 97, .int 121, .int 101, .int 114]) (rest := [.ref a]) E (hml.trans hl.1.symm) hI (c_X12_spelled l X σ (112 : Int32) (108 : Int32) (97 : Int32) (121 : Int32) (101 : Int32) (114 : Int32)) ks_X12_135 rfl ⟨Nat.le_of_ble_eq_true rfl, Nat.le_of_ble_eq_true rfl⟩ ⟨Nat.le_refl _, Nat.le_refl _⟩ rfl (Nat.le_of_ble_eq_true rfl) dX12_isPlayer_13) hI (Nat.le_of_ble_eq_true rfl) (fun r_7 σ_8 H locs hpσ_8 hkσ_8 hI => ?_)
  have ahpσ_8 := hpσ_8.1
  have bhpσ_8 := hpσ_8.2
  clear hpσ_8
  replace hI := q_Irw ahpσ_8 hI
  replace hF := q_letX hF bhpσ_8
  refine q_ci (q_rV11_1 (rest := []) E (hml.trans hl.1.symm) hI (c_X12_isWord l X σ a r_7 ha) kv_X12_139 ha ⟨Nat.le_of_ble_eq_true rfl, Nat.le_of_ble_eq_true rfl⟩ (Nat.le_of_ble_eq_true rfl) dX12_isPlayer_16) hI (Nat.le_of_ble_eq_true rfl) (fun r_9 σ_10 H locs hpσ_10 hkσ_10 hI => ?_)
  have ahpσ_10 := hpσ_10.1
  have bhpσ_10 := hpσ_10.2.1
  have chpσ_10 := hpσ_10.2.2.1
  have dhpσ_10 := hpσ_10.2.2.2
  clear hpσ_10
  replace hI := q_Irw ahpσ_10 hI
  replace hF := q_letX hF dhpσ_10
  exact q_retz E hr hlk hI ⟨by omega, by omega⟩ ⟨rfl, ⟨by omega, by omega⟩, (hF.trans hout)⟩ dX12_isPlayer_19

set_option maxRecDepth 100000 in
set_option maxHeartbeats 4000000 in
theorem c_X12_isLies (l : Launch) (X : XW) (σ : ST) (a : Nat) (ha : q_kd X a = 12) : Met l yX12_isLies (q_ws yX12_isLies cX12_isLies 1 (some .boolean)) (q_rm 1 27) (q_P X σ [.ref a]) (q_Qi X 9 σ (fun (r : Int32) (σ' : ST) => σ' = σ ∧ (0 ≤ r.toInt ∧ r.toInt ≤ 1) ∧ (r.toInt = 1 → (σ.1 a 14).toInt = 1) ∧ r = F_X12_isLies X σ a)) 0 0 (q_reg X) := by
  refine q_met 9 (by first | exact rfl | decide +kernel) rfl (Nat.le_of_ble_eq_true rfl) (fun p e s m below meth c E hml hr hlk hI ls hl => ?_)
  have hx := E.1
  have hb := E.2.1
  have hl : lv_has ls 1 [(0, .ref a)] := hl
  obtain ⟨out, hout⟩ : ∃ o, o = F_X12_isLies X σ a := ⟨_, rfl⟩
  have hF := hout.symm
  unfold F_X12_isLies at hF
  refine lv_aload_n hx hb dX12_isLies_0 rfl (lv_at hl 0 rfl) ?_
  refine lv_bipush (v := 108) hx hb dX12_isLies_1 zkb_108 ?_
  refine lv_bipush (v := 105) hx hb dX12_isLies_3 zkb_105 ?_
  refine lv_bipush (v := 101) hx hb dX12_isLies_5 zkb_101 ?_
  refine lv_bipush (v := 115) hx hb dX12_isLies_7 zkb_115 ?_
  refine lv_iconst (v := 0) hx hb dX12_isLies_9 zki_0 ?_
  refine lv_iconst (v := 0) hx hb dX12_isLies_10 zki_0 ?_
  have kc_1 : (108 : Int32).toInt = 108 := zt_108
  have kc_2 : (105 : Int32).toInt = 105 := zt_105
  have kc_3 : (101 : Int32).toInt = 101 := zt_101
  have kc_4 : (115 : Int32).toInt = 115 := zt_115
  have kc_5 : (0 : Int32).toInt = 0 := zt_0
  have kc_6 : (0 : Int32).toInt = 0 := zt_0
  refine q_cl_ (q_runS (As := [.int 108, .int 105, .int 101, .int 115, .int 0, .int 0]) (rest := [.ref a]) E (hml.trans hl.1.symm) hI (c_X12_spelled l X σ (108 : Int32) (105 : Int32) (101 : Int32) (115 : Int32) (0 : Int32) (0 : Int32)) ks_X12_135 rfl ⟨Nat.le_of_ble_eq_true rfl, Nat.le_of_ble_eq_true rfl⟩ ⟨Nat.le_refl _, Nat.le_refl _⟩ rfl (Nat.le_of_ble_eq_true rfl) dX12_isLies_11) hI (Nat.le_of_ble_eq_true rfl) (fun r_7 σ_8 H locs hpσ_8 hkσ_8 hI => ?_)
  have ahpσ_8 := hpσ_8.1
  have bhpσ_8 := hpσ_8.2
  clear hpσ_8
  replace hI := q_Irw ahpσ_8 hI
  replace hF := q_letX hF bhpσ_8
  refine q_ci (q_rV11_1 (rest := []) E (hml.trans hl.1.symm) hI (c_X12_isWord l X σ a r_7 ha) kv_X12_139 ha ⟨Nat.le_of_ble_eq_true rfl, Nat.le_of_ble_eq_true rfl⟩ (Nat.le_of_ble_eq_true rfl) dX12_isLies_14) hI (Nat.le_of_ble_eq_true rfl) (fun r_9 σ_10 H locs hpσ_10 hkσ_10 hI => ?_)
  have ahpσ_10 := hpσ_10.1
  have bhpσ_10 := hpσ_10.2.1
  have chpσ_10 := hpσ_10.2.2.1
  have dhpσ_10 := hpσ_10.2.2.2
  clear hpσ_10
  replace hI := q_Irw ahpσ_10 hI
  replace hF := q_letX hF dhpσ_10
  exact q_retz E hr hlk hI ⟨by omega, by omega⟩ ⟨rfl, ⟨by omega, by omega⟩, (by omega), (hF.trans hout)⟩ dX12_isLies_17

set_option maxRecDepth 100000 in
set_option maxHeartbeats 4000000 in
theorem c_X12_isDoubts (l : Launch) (X : XW) (σ : ST) (a : Nat) (ha : q_kd X a = 12) : Met l yX12_isDoubts (q_ws yX12_isDoubts cX12_isDoubts 1 (some .boolean)) (q_rm 1 27) (q_P X σ [.ref a]) (q_Qi X 9 σ (fun (r : Int32) (σ' : ST) => σ' = σ ∧ (0 ≤ r.toInt ∧ r.toInt ≤ 1) ∧ (r.toInt = 1 → (σ.1 a 14).toInt = 1) ∧ r = F_X12_isDoubts X σ a)) 0 0 (q_reg X) := by
  refine q_met 9 (by first | exact rfl | decide +kernel) rfl (Nat.le_of_ble_eq_true rfl) (fun p e s m below meth c E hml hr hlk hI ls hl => ?_)
  have hx := E.1
  have hb := E.2.1
  have hl : lv_has ls 1 [(0, .ref a)] := hl
  obtain ⟨out, hout⟩ : ∃ o, o = F_X12_isDoubts X σ a := ⟨_, rfl⟩
  have hF := hout.symm
  unfold F_X12_isDoubts at hF
  refine lv_aload_n hx hb dX12_isDoubts_0 rfl (lv_at hl 0 rfl) ?_
  refine lv_bipush (v := 100) hx hb dX12_isDoubts_1 zkb_100 ?_
  refine lv_bipush (v := 111) hx hb dX12_isDoubts_3 zkb_111 ?_
  refine lv_bipush (v := 117) hx hb dX12_isDoubts_5 zkb_117 ?_
  refine lv_bipush (v := 98) hx hb dX12_isDoubts_7 zkb_98 ?_
  refine lv_bipush (v := 116) hx hb dX12_isDoubts_9 zkb_116 ?_
  refine lv_bipush (v := 115) hx hb dX12_isDoubts_11 zkb_115 ?_
  have kc_1 : (100 : Int32).toInt = 100 := zt_100
  have kc_2 : (111 : Int32).toInt = 111 := zt_111
  have kc_3 : (117 : Int32).toInt = 117 := zt_117
  have kc_4 : (98 : Int32).toInt = 98 := zt_98
  have kc_5 : (116 : Int32).toInt = 116 := zt_116
  have kc_6 : (115 : Int32).toInt = 115 := zt_115
  refine q_cl_ (q_runS (As := [.int 100, .int 111, .int 117, .int 98, .int 116, .int 115]) (rest := [.ref a]) E (hml.trans hl.1.symm) hI (c_X12_spelled l X σ (100 : Int32) (111 : Int32) (117 : Int32) (98 : Int32) (116 : Int32) (115 : Int32)) ks_X12_135 rfl ⟨Nat.le_of_ble_eq_true rfl, Nat.le_of_ble_eq_true rfl⟩ ⟨Nat.le_refl _, Nat.le_refl _⟩ rfl (Nat.le_of_ble_eq_true rfl) dX12_isDoubts_13) hI (Nat.le_of_ble_eq_true rfl) (fun r_7 σ_8 H locs hpσ_8 hkσ_8 hI => ?_)
  have ahpσ_8 := hpσ_8.1
  have bhpσ_8 := hpσ_8.2
  clear hpσ_8
  replace hI := q_Irw ahpσ_8 hI
  replace hF := q_letX hF bhpσ_8
  refine q_ci (q_rV11_1 (rest := []) E (hml.trans hl.1.symm) hI (c_X12_isWord l X σ a r_7 ha) kv_X12_139 ha ⟨Nat.le_of_ble_eq_true rfl, Nat.le_of_ble_eq_true rfl⟩ (Nat.le_of_ble_eq_true rfl) dX12_isDoubts_16) hI (Nat.le_of_ble_eq_true rfl) (fun r_9 σ_10 H locs hpσ_10 hkσ_10 hI => ?_)
  have ahpσ_10 := hpσ_10.1
  have bhpσ_10 := hpσ_10.2.1
  have chpσ_10 := hpσ_10.2.2.1
  have dhpσ_10 := hpσ_10.2.2.2
  clear hpσ_10
  replace hI := q_Irw ahpσ_10 hI
  replace hF := q_letX hF dhpσ_10
  exact q_retz E hr hlk hI ⟨by omega, by omega⟩ ⟨rfl, ⟨by omega, by omega⟩, (by omega), (hF.trans hout)⟩ dX12_isDoubts_19

set_option maxRecDepth 100000 in
set_option maxHeartbeats 4000000 in
theorem c_X12_isHand (l : Launch) (X : XW) (σ : ST) (a : Nat) (ha : q_kd X a = 12) : Met l yX12_isHand (q_ws yX12_isHand cX12_isHand 1 (some .boolean)) (q_rm 1 27) (q_P X σ [.ref a]) (q_Qi X 9 σ (fun (r : Int32) (σ' : ST) => σ' = σ ∧ (0 ≤ r.toInt ∧ r.toInt ≤ 1) ∧ r = F_X12_isHand X σ a)) 0 0 (q_reg X) := by
  refine q_met 9 (by first | exact rfl | decide +kernel) rfl (Nat.le_of_ble_eq_true rfl) (fun p e s m below meth c E hml hr hlk hI ls hl => ?_)
  have hx := E.1
  have hb := E.2.1
  have hl : lv_has ls 1 [(0, .ref a)] := hl
  obtain ⟨out, hout⟩ : ∃ o, o = F_X12_isHand X σ a := ⟨_, rfl⟩
  have hF := hout.symm
  unfold F_X12_isHand at hF
  refine lv_aload_n hx hb dX12_isHand_0 rfl (lv_at hl 0 rfl) ?_
  refine lv_bipush (v := 104) hx hb dX12_isHand_1 zkb_104 ?_
  refine lv_bipush (v := 97) hx hb dX12_isHand_3 zkb_97 ?_
  refine lv_bipush (v := 110) hx hb dX12_isHand_5 zkb_110 ?_
  refine lv_bipush (v := 100) hx hb dX12_isHand_7 zkb_100 ?_
  refine lv_iconst (v := 0) hx hb dX12_isHand_9 zki_0 ?_
  refine lv_iconst (v := 0) hx hb dX12_isHand_10 zki_0 ?_
  have kc_1 : (104 : Int32).toInt = 104 := zt_104
  have kc_2 : (97 : Int32).toInt = 97 := zt_97
  have kc_3 : (110 : Int32).toInt = 110 := zt_110
  have kc_4 : (100 : Int32).toInt = 100 := zt_100
  have kc_5 : (0 : Int32).toInt = 0 := zt_0
  have kc_6 : (0 : Int32).toInt = 0 := zt_0
  refine q_cl_ (q_runS (As := [.int 104, .int 97, .int 110, .int 100, .int 0, .int 0]) (rest := [.ref a]) E (hml.trans hl.1.symm) hI (c_X12_spelled l X σ (104 : Int32) (97 : Int32) (110 : Int32) (100 : Int32) (0 : Int32) (0 : Int32)) ks_X12_135 rfl ⟨Nat.le_of_ble_eq_true rfl, Nat.le_of_ble_eq_true rfl⟩ ⟨Nat.le_refl _, Nat.le_refl _⟩ rfl (Nat.le_of_ble_eq_true rfl) dX12_isHand_11) hI (Nat.le_of_ble_eq_true rfl) (fun r_7 σ_8 H locs hpσ_8 hkσ_8 hI => ?_)
  have ahpσ_8 := hpσ_8.1
  have bhpσ_8 := hpσ_8.2
  clear hpσ_8
  replace hI := q_Irw ahpσ_8 hI
  replace hF := q_letX hF bhpσ_8
  refine q_ci (q_rV11_1 (rest := []) E (hml.trans hl.1.symm) hI (c_X12_isWord l X σ a r_7 ha) kv_X12_139 ha ⟨Nat.le_of_ble_eq_true rfl, Nat.le_of_ble_eq_true rfl⟩ (Nat.le_of_ble_eq_true rfl) dX12_isHand_14) hI (Nat.le_of_ble_eq_true rfl) (fun r_9 σ_10 H locs hpσ_10 hkσ_10 hI => ?_)
  have ahpσ_10 := hpσ_10.1
  have bhpσ_10 := hpσ_10.2.1
  have chpσ_10 := hpσ_10.2.2.1
  have dhpσ_10 := hpσ_10.2.2.2
  clear hpσ_10
  replace hI := q_Irw ahpσ_10 hI
  replace hF := q_letX hF dhpσ_10
  exact q_retz E hr hlk hI ⟨by omega, by omega⟩ ⟨rfl, ⟨by omega, by omega⟩, (hF.trans hout)⟩ dX12_isHand_17

set_option maxRecDepth 100000 in
set_option maxHeartbeats 4000000 in
theorem c_X12_isOf (l : Launch) (X : XW) (σ : ST) (a : Nat) (ha : q_kd X a = 12) : Met l yX12_isOf (q_ws yX12_isOf cX12_isOf 1 (some .boolean)) (q_rm 1 27) (q_P X σ [.ref a]) (q_Qi X 9 σ (fun (r : Int32) (σ' : ST) => σ' = σ ∧ (0 ≤ r.toInt ∧ r.toInt ≤ 1) ∧ r = F_X12_isOf X σ a)) 0 0 (q_reg X) := by
  refine q_met 9 (by first | exact rfl | decide +kernel) rfl (Nat.le_of_ble_eq_true rfl) (fun p e s m below meth c E hml hr hlk hI ls hl => ?_)
  have hx := E.1
  have hb := E.2.1
  have hl : lv_has ls 1 [(0, .ref a)] := hl
  obtain ⟨out, hout⟩ : ∃ o, o = F_X12_isOf X σ a := ⟨_, rfl⟩
  have hF := hout.symm
  unfold F_X12_isOf at hF
  refine lv_aload_n hx hb dX12_isOf_0 rfl (lv_at hl 0 rfl) ?_
  refine lv_bipush (v := 111) hx hb dX12_isOf_1 zkb_111 ?_
  refine lv_bipush (v := 102) hx hb dX12_isOf_3 zkb_102 ?_
  refine lv_iconst (v := 0) hx hb dX12_isOf_5 zki_0 ?_
  refine lv_iconst (v := 0) hx hb dX12_isOf_6 zki_0 ?_
  refine lv_iconst (v := 0) hx hb dX12_isOf_7 zki_0 ?_
  refine lv_iconst (v := 0) hx hb dX12_isOf_8 zki_0 ?_
  have kc_1 : (111 : Int32).toInt = 111 := zt_111
  have kc_2 : (102 : Int32).toInt = 102 := zt_102
  have kc_3 : (0 : Int32).toInt = 0 := zt_0
  have kc_4 : (0 : Int32).toInt = 0 := zt_0
  have kc_5 : (0 : Int32).toInt = 0 := zt_0
  have kc_6 : (0 : Int32).toInt = 0 := zt_0
  refine q_cl_ (q_runS (As := [.int 111, .int 102, .int 0, .int 0, .int 0, .int 0]) (rest := [.ref a]) E (hml.trans hl.1.symm) hI (c_X12_spelled l X σ (111 : Int32) (102 : Int32) (0 : Int32) (0 : Int32) (0 : Int32) (0 : Int32)) ks_X12_135 rfl ⟨Nat.le_of_ble_eq_true rfl, Nat.le_of_ble_eq_true rfl⟩ ⟨Nat.le_refl _, Nat.le_refl _⟩ rfl (Nat.le_of_ble_eq_true rfl) dX12_isOf_9) hI (Nat.le_of_ble_eq_true rfl) (fun r_7 σ_8 H locs hpσ_8 hkσ_8 hI => ?_)
  have ahpσ_8 := hpσ_8.1
  have bhpσ_8 := hpσ_8.2
  clear hpσ_8
  replace hI := q_Irw ahpσ_8 hI
  replace hF := q_letX hF bhpσ_8
  refine q_ci (q_rV11_1 (rest := []) E (hml.trans hl.1.symm) hI (c_X12_isWord l X σ a r_7 ha) kv_X12_139 ha ⟨Nat.le_of_ble_eq_true rfl, Nat.le_of_ble_eq_true rfl⟩ (Nat.le_of_ble_eq_true rfl) dX12_isOf_12) hI (Nat.le_of_ble_eq_true rfl) (fun r_9 σ_10 H locs hpσ_10 hkσ_10 hI => ?_)
  have ahpσ_10 := hpσ_10.1
  have bhpσ_10 := hpσ_10.2.1
  have chpσ_10 := hpσ_10.2.2.1
  have dhpσ_10 := hpσ_10.2.2.2
  clear hpσ_10
  replace hI := q_Irw ahpσ_10 hI
  replace hF := q_letX hF dhpσ_10
  exact q_retz E hr hlk hI ⟨by omega, by omega⟩ ⟨rfl, ⟨by omega, by omega⟩, (hF.trans hout)⟩ dX12_isOf_15

set_option maxRecDepth 100000 in
set_option maxHeartbeats 4000000 in
theorem c_X12_isEnd (l : Launch) (X : XW) (σ : ST) (a : Nat) (ha : q_kd X a = 12) : Met l yX12_isEnd (q_ws yX12_isEnd cX12_isEnd 1 (some .boolean)) (q_rm 1 27) (q_P X σ [.ref a]) (q_Qi X 9 σ (fun (r : Int32) (σ' : ST) => σ' = σ ∧ (0 ≤ r.toInt ∧ r.toInt ≤ 1) ∧ r = F_X12_isEnd X σ a)) 0 0 (q_reg X) := by
  refine q_met 9 (by first | exact rfl | decide +kernel) rfl (Nat.le_of_ble_eq_true rfl) (fun p e s m below meth c E hml hr hlk hI ls hl => ?_)
  have hx := E.1
  have hb := E.2.1
  have hl : lv_has ls 1 [(0, .ref a)] := hl
  obtain ⟨out, hout⟩ : ∃ o, o = F_X12_isEnd X σ a := ⟨_, rfl⟩
  have hF := hout.symm
  unfold F_X12_isEnd at hF
  refine lv_aload_n hx hb dX12_isEnd_0 rfl (lv_at hl 0 rfl) ?_
  refine lv_bipush (v := 101) hx hb dX12_isEnd_1 zkb_101 ?_
  refine lv_bipush (v := 110) hx hb dX12_isEnd_3 zkb_110 ?_
  refine lv_bipush (v := 100) hx hb dX12_isEnd_5 zkb_100 ?_
  refine lv_iconst (v := 0) hx hb dX12_isEnd_7 zki_0 ?_
  refine lv_iconst (v := 0) hx hb dX12_isEnd_8 zki_0 ?_
  refine lv_iconst (v := 0) hx hb dX12_isEnd_9 zki_0 ?_
  have kc_1 : (101 : Int32).toInt = 101 := zt_101
  have kc_2 : (110 : Int32).toInt = 110 := zt_110
  have kc_3 : (100 : Int32).toInt = 100 := zt_100
  have kc_4 : (0 : Int32).toInt = 0 := zt_0
  have kc_5 : (0 : Int32).toInt = 0 := zt_0
  have kc_6 : (0 : Int32).toInt = 0 := zt_0
  refine q_cl_ (q_runS (As := [.int 101, .int 110, .int 100, .int 0, .int 0, .int 0]) (rest := [.ref a]) E (hml.trans hl.1.symm) hI (c_X12_spelled l X σ (101 : Int32) (110 : Int32) (100 : Int32) (0 : Int32) (0 : Int32) (0 : Int32)) ks_X12_135 rfl ⟨Nat.le_of_ble_eq_true rfl, Nat.le_of_ble_eq_true rfl⟩ ⟨Nat.le_refl _, Nat.le_refl _⟩ rfl (Nat.le_of_ble_eq_true rfl) dX12_isEnd_10) hI (Nat.le_of_ble_eq_true rfl) (fun r_7 σ_8 H locs hpσ_8 hkσ_8 hI => ?_)
  have ahpσ_8 := hpσ_8.1
  have bhpσ_8 := hpσ_8.2
  clear hpσ_8
  replace hI := q_Irw ahpσ_8 hI
  replace hF := q_letX hF bhpσ_8
  refine q_ci (q_rV11_1 (rest := []) E (hml.trans hl.1.symm) hI (c_X12_isWord l X σ a r_7 ha) kv_X12_139 ha ⟨Nat.le_of_ble_eq_true rfl, Nat.le_of_ble_eq_true rfl⟩ (Nat.le_of_ble_eq_true rfl) dX12_isEnd_13) hI (Nat.le_of_ble_eq_true rfl) (fun r_9 σ_10 H locs hpσ_10 hkσ_10 hI => ?_)
  have ahpσ_10 := hpσ_10.1
  have bhpσ_10 := hpσ_10.2.1
  have chpσ_10 := hpσ_10.2.2.1
  have dhpσ_10 := hpσ_10.2.2.2
  clear hpσ_10
  replace hI := q_Irw ahpσ_10 hI
  replace hF := q_letX hF dhpσ_10
  exact q_retz E hr hlk hI ⟨by omega, by omega⟩ ⟨rfl, ⟨by omega, by omega⟩, (hF.trans hout)⟩ dX12_isEnd_16

set_option maxRecDepth 100000 in
set_option maxHeartbeats 4000000 in
theorem c_X12_lawWord (l : Launch) (X : XW) (σ : ST) (a : Nat) (ha : q_kd X a = 12) : Met l yX12_lawWord (q_ws yX12_lawWord cX12_lawWord 1 (some .int)) (q_rm 1 27) (q_P X σ [.ref a]) (q_Qi X 9 σ (fun (r : Int32) (σ' : ST) => σ' = σ ∧ (-1 ≤ r.toInt ∧ r.toInt ≤ 2) ∧ r = F_X12_lawWord X σ a)) 0 0 (q_reg X) := by
  refine q_met 9 (by first | exact rfl | decide +kernel) rfl (Nat.le_of_ble_eq_true rfl) (fun p e s m below meth c E hml hr hlk hI ls hl => ?_)
  have hx := E.1
  have hb := E.2.1
  have hl : lv_has ls 1 [(0, .ref a)] := hl
  obtain ⟨out, hout⟩ : ∃ o, o = F_X12_lawWord X σ a := ⟨_, rfl⟩
  have hF := hout.symm
  unfold F_X12_lawWord at hF
  refine lv_aload_n hx hb dX12_lawWord_0 rfl (lv_at hl 0 rfl) ?_
  refine lv_bipush (v := 117) hx hb dX12_lawWord_1 zkb_117 ?_
  refine lv_bipush (v := 112) hx hb dX12_lawWord_3 zkb_112 ?_
  refine lv_iconst (v := 0) hx hb dX12_lawWord_5 zki_0 ?_
  refine lv_iconst (v := 0) hx hb dX12_lawWord_6 zki_0 ?_
  refine lv_iconst (v := 0) hx hb dX12_lawWord_7 zki_0 ?_
  refine lv_iconst (v := 0) hx hb dX12_lawWord_8 zki_0 ?_
  have kc_1 : (117 : Int32).toInt = 117 := zt_117
  have kc_2 : (112 : Int32).toInt = 112 := zt_112
  have kc_3 : (0 : Int32).toInt = 0 := zt_0
  have kc_4 : (0 : Int32).toInt = 0 := zt_0
  have kc_5 : (0 : Int32).toInt = 0 := zt_0
  have kc_6 : (0 : Int32).toInt = 0 := zt_0
  refine q_cl_ (q_runS (As := [.int 117, .int 112, .int 0, .int 0, .int 0, .int 0]) (rest := [.ref a]) E (hml.trans hl.1.symm) hI (c_X12_spelled l X σ (117 : Int32) (112 : Int32) (0 : Int32) (0 : Int32) (0 : Int32) (0 : Int32)) ks_X12_135 rfl ⟨Nat.le_of_ble_eq_true rfl, Nat.le_of_ble_eq_true rfl⟩ ⟨Nat.le_refl _, Nat.le_refl _⟩ rfl (Nat.le_of_ble_eq_true rfl) dX12_lawWord_9) hI (Nat.le_of_ble_eq_true rfl) (fun r_7 σ_8 H locs hpσ_8 hkσ_8 hI => ?_)
  have ahpσ_8 := hpσ_8.1
  have bhpσ_8 := hpσ_8.2
  clear hpσ_8
  replace hI := q_Irw ahpσ_8 hI
  replace hF := q_letX hF bhpσ_8
  refine q_ci (q_rV11_1 (rest := []) E (hml.trans hl.1.symm) hI (c_X12_isWord l X σ a r_7 ha) kv_X12_139 ha ⟨Nat.le_of_ble_eq_true rfl, Nat.le_of_ble_eq_true rfl⟩ (Nat.le_of_ble_eq_true rfl) dX12_lawWord_12) hI (Nat.le_of_ble_eq_true rfl) (fun r_9 σ_10 H locs hpσ_10 hkσ_10 hI => ?_)
  have ahpσ_10 := hpσ_10.1
  have bhpσ_10 := hpσ_10.2.1
  have chpσ_10 := hpσ_10.2.2.1
  have dhpσ_10 := hpσ_10.2.2.2
  clear hpσ_10
  replace hI := q_Irw ahpσ_10 hI
  replace hF := q_letX hF dhpσ_10
  refine q_if_eq (A := r_9.toInt) E rfl (tgt := 20) dX12_lawWord_15 (by decide) (fun c_11 => ?_) (fun c_11 => ?_)
  · skip
    replace hF := q_ifp hF c_11
    clear chpσ_10
    refine lv_aload_n hx hb dX12_lawWord_20 rfl (lv_at hl 0 rfl) ?_
    refine lv_bipush (v := 100) hx hb dX12_lawWord_21 zkb_100 ?_
    refine lv_bipush (v := 111) hx hb dX12_lawWord_23 zkb_111 ?_
    refine lv_bipush (v := 119) hx hb dX12_lawWord_25 zkb_119 ?_
    refine lv_bipush (v := 110) hx hb dX12_lawWord_27 zkb_110 ?_
    refine lv_iconst (v := 0) hx hb dX12_lawWord_29 zki_0 ?_
    refine lv_iconst (v := 0) hx hb dX12_lawWord_30 zki_0 ?_
    have kc_12 : (100 : Int32).toInt = 100 := zt_100
    have kc_13 : (111 : Int32).toInt = 111 := zt_111
    have kc_14 : (119 : Int32).toInt = 119 := zt_119
    have kc_15 : (110 : Int32).toInt = 110 := zt_110
    have kc_16 : (0 : Int32).toInt = 0 := zt_0
    have kc_17 : (0 : Int32).toInt = 0 := zt_0
    refine q_cl_ (q_runS (As := [.int 100, .int 111, .int 119, .int 110, .int 0, .int 0]) (rest := [.ref a]) E (hml.trans hl.1.symm) hI (c_X12_spelled l X σ (100 : Int32) (111 : Int32) (119 : Int32) (110 : Int32) (0 : Int32) (0 : Int32)) ks_X12_135 rfl ⟨Nat.le_of_ble_eq_true rfl, Nat.le_of_ble_eq_true rfl⟩ ⟨Nat.le_refl _, Nat.le_refl _⟩ rfl (Nat.le_of_ble_eq_true rfl) dX12_lawWord_31) hI (Nat.le_of_ble_eq_true rfl) (fun r_18 σ_19 H locs hpσ_19 hkσ_19 hI => ?_)
    have ahpσ_19 := hpσ_19.1
    have bhpσ_19 := hpσ_19.2
    clear hpσ_19
    replace hI := q_Irw ahpσ_19 hI
    replace hF := q_letX hF bhpσ_19
    refine q_ci (q_rV11_1 (rest := []) E (hml.trans hl.1.symm) hI (c_X12_isWord l X σ a r_18 ha) kv_X12_139 ha ⟨Nat.le_of_ble_eq_true rfl, Nat.le_of_ble_eq_true rfl⟩ (Nat.le_of_ble_eq_true rfl) dX12_lawWord_34) hI (Nat.le_of_ble_eq_true rfl) (fun r_20 σ_21 H locs hpσ_21 hkσ_21 hI => ?_)
    have ahpσ_21 := hpσ_21.1
    have bhpσ_21 := hpσ_21.2.1
    have chpσ_21 := hpσ_21.2.2.1
    have dhpσ_21 := hpσ_21.2.2.2
    clear hpσ_21
    replace hI := q_Irw ahpσ_21 hI
    replace hF := q_letX hF dhpσ_21
    refine q_if_eq (A := r_20.toInt) E rfl (tgt := 42) dX12_lawWord_37 (by decide) (fun c_22 => ?_) (fun c_22 => ?_)
    · skip
      replace hF := q_ifp hF c_22
      clear chpσ_21
      refine lv_aload_n hx hb dX12_lawWord_42 rfl (lv_at hl 0 rfl) ?_
      refine lv_bipush (v := 115) hx hb dX12_lawWord_43 zkb_115 ?_
      refine lv_bipush (v := 97) hx hb dX12_lawWord_45 zkb_97 ?_
      refine lv_bipush (v := 109) hx hb dX12_lawWord_47 zkb_109 ?_
      refine lv_bipush (v := 101) hx hb dX12_lawWord_49 zkb_101 ?_
      refine lv_iconst (v := 0) hx hb dX12_lawWord_51 zki_0 ?_
      refine lv_iconst (v := 0) hx hb dX12_lawWord_52 zki_0 ?_
      have kc_23 : (115 : Int32).toInt = 115 := zt_115
      have kc_24 : (97 : Int32).toInt = 97 := zt_97
      have kc_25 : (109 : Int32).toInt = 109 := zt_109
      have kc_26 : (101 : Int32).toInt = 101 := zt_101
      have kc_27 : (0 : Int32).toInt = 0 := zt_0
      have kc_28 : (0 : Int32).toInt = 0 := zt_0
      refine q_cl_ (q_runS (As := [.int 115, .int 97, .int 109, .int 101, .int 0, .int 0]) (rest := [.ref a]) E (hml.trans hl.1.symm) hI (c_X12_spelled l X σ (115 : Int32) (97 : Int32) (109 : Int32) (101 : Int32) (0 : Int32) (0 : Int32)) ks_X12_135 rfl ⟨Nat.le_of_ble_eq_true rfl, Nat.le_of_ble_eq_true rfl⟩ ⟨Nat.le_refl _, Nat.le_refl _⟩ rfl (Nat.le_of_ble_eq_true rfl) dX12_lawWord_53) hI (Nat.le_of_ble_eq_true rfl) (fun r_29 σ_30 H locs hpσ_30 hkσ_30 hI => ?_)
      have ahpσ_30 := hpσ_30.1
      have bhpσ_30 := hpσ_30.2
      clear hpσ_30
      replace hI := q_Irw ahpσ_30 hI
      replace hF := q_letX hF bhpσ_30
      refine q_ci (q_rV11_1 (rest := []) E (hml.trans hl.1.symm) hI (c_X12_isWord l X σ a r_29 ha) kv_X12_139 ha ⟨Nat.le_of_ble_eq_true rfl, Nat.le_of_ble_eq_true rfl⟩ (Nat.le_of_ble_eq_true rfl) dX12_lawWord_56) hI (Nat.le_of_ble_eq_true rfl) (fun r_31 σ_32 H locs hpσ_32 hkσ_32 hI => ?_)
      have ahpσ_32 := hpσ_32.1
      have bhpσ_32 := hpσ_32.2.1
      have chpσ_32 := hpσ_32.2.2.1
      have dhpσ_32 := hpσ_32.2.2.2
      clear hpσ_32
      replace hI := q_Irw ahpσ_32 hI
      replace hF := q_letX hF dhpσ_32
      refine q_if_eq (A := r_31.toInt) E rfl (tgt := 66) dX12_lawWord_59 (by decide) (fun c_33 => ?_) (fun c_33 => ?_)
      · skip
        replace hF := q_ifp hF c_33
        clear chpσ_32
        refine lv_iconst (v := (-1)) hx hb dX12_lawWord_66 zki_m1 ?_
        have hrv : ((-1) : Int32).toInt = (-1) := zt_m1
        exact q_reti E hr hlk hI ⟨rfl, (by first | (clear kc_1 kc_2 kc_3 kc_4 kc_5 kc_6 ahpσ_8 bhpσ_8 ahpσ_10 bhpσ_10 dhpσ_10 c_11 kc_12 kc_13 kc_14 kc_15 kc_16 kc_17 ahpσ_19 bhpσ_19 ahpσ_21 bhpσ_21 dhpσ_21 c_22 kc_23 kc_24 kc_25 kc_26 kc_27 kc_28 ahpσ_30 bhpσ_30 ahpσ_32 bhpσ_32 dhpσ_32 c_33; omega) | omega), (hF.trans hout)⟩ dX12_lawWord_67
      · skip
        replace hF := q_ifn hF c_33
        replace c_33 := q_ifOne bhpσ_32 c_33
        replace chpσ_32 := chpσ_32 c_33
        refine lv_iconst (v := 2) hx hb dX12_lawWord_62 zki_2 ?_
        refine lv_goto (tgt := 67) hx hb dX12_lawWord_63 (by decide) ?_
        have hrv : (2 : Int32).toInt = 2 := zt_2
        exact q_reti E hr hlk hI ⟨rfl, (by first | (clear kc_1 kc_2 kc_3 kc_4 kc_5 kc_6 ahpσ_8 bhpσ_8 ahpσ_10 bhpσ_10 dhpσ_10 c_11 kc_12 kc_13 kc_14 kc_15 kc_16 kc_17 ahpσ_19 bhpσ_19 ahpσ_21 bhpσ_21 dhpσ_21 c_22 kc_23 kc_24 kc_25 kc_26 kc_27 kc_28 ahpσ_30 bhpσ_30 ahpσ_32 bhpσ_32 dhpσ_32 c_33 chpσ_32; omega) | omega), (hF.trans hout)⟩ dX12_lawWord_67
    · skip
      replace hF := q_ifn hF c_22
      replace c_22 := q_ifOne bhpσ_21 c_22
      replace chpσ_21 := chpσ_21 c_22
      refine lv_iconst (v := 1) hx hb dX12_lawWord_40 zki_1 ?_
      have hrv : (1 : Int32).toInt = 1 := zt_1
      exact q_reti E hr hlk hI ⟨rfl, (by first | (clear kc_1 kc_2 kc_3 kc_4 kc_5 kc_6 ahpσ_8 bhpσ_8 ahpσ_10 bhpσ_10 dhpσ_10 c_11 kc_12 kc_13 kc_14 kc_15 kc_16 kc_17 ahpσ_19 bhpσ_19 ahpσ_21 bhpσ_21 dhpσ_21 c_22 chpσ_21; omega) | omega), (hF.trans hout)⟩ dX12_lawWord_41
  · skip
    replace hF := q_ifn hF c_11
    replace c_11 := q_ifOne bhpσ_10 c_11
    replace chpσ_10 := chpσ_10 c_11
    refine lv_iconst (v := 0) hx hb dX12_lawWord_18 zki_0 ?_
    have hrv : (0 : Int32).toInt = 0 := zt_0
    exact q_reti E hr hlk hI ⟨rfl, (by first | (clear kc_1 kc_2 kc_4 kc_5 kc_6 ahpσ_8 bhpσ_8 ahpσ_10 bhpσ_10 dhpσ_10 c_11 chpσ_10 hrv; omega) | omega), (hF.trans hout)⟩ dX12_lawWord_19

set_option maxRecDepth 100000 in
set_option maxHeartbeats 4000000 in
theorem c_X12_stepWord (l : Launch) (X : XW) (σ : ST) (a : Nat) (ha : q_kd X a = 12) (ht : 0 ≤ (σ.1 a 14).toInt) : Met l yX12_stepWord (q_ws yX12_stepWord cX12_stepWord 1 (some .int)) (q_rm 2 47) (q_P X σ [.ref a]) (q_Qi X 9 σ (fun (r : Int32) (σ' : ST) => σ' = σ ∧ (-1 ≤ r.toInt ∧ r.toInt ≤ 5) ∧ (r.toInt + 1 ≤ 6 * (σ.1 a 14).toInt) ∧ r = F_X12_stepWord X σ a)) 0 0 (q_reg X) := by
  refine q_met 9 (by first | exact rfl | decide +kernel) rfl (Nat.le_of_ble_eq_true rfl) (fun p e s m below meth c E hml hr hlk hI ls hl => ?_)
  have hx := E.1
  have hb := E.2.1
  have hl : lv_has ls 1 [(0, .ref a)] := hl
  obtain ⟨out, hout⟩ : ∃ o, o = F_X12_stepWord X σ a := ⟨_, rfl⟩
  have hF := hout.symm
  unfold F_X12_stepWord at hF
  refine lv_aload_n hx hb dX12_stepWord_0 rfl (lv_at hl 0 rfl) ?_
  refine lv_bipush (v := 116) hx hb dX12_stepWord_1 zkb_116 ?_
  refine lv_bipush (v := 117) hx hb dX12_stepWord_3 zkb_117 ?_
  refine lv_bipush (v := 114) hx hb dX12_stepWord_5 zkb_114 ?_
  refine lv_bipush (v := 110) hx hb dX12_stepWord_7 zkb_110 ?_
  refine lv_iconst (v := 0) hx hb dX12_stepWord_9 zki_0 ?_
  refine lv_iconst (v := 0) hx hb dX12_stepWord_10 zki_0 ?_
  have kc_1 : (116 : Int32).toInt = 116 := zt_116
  have kc_2 : (117 : Int32).toInt = 117 := zt_117
  have kc_3 : (114 : Int32).toInt = 114 := zt_114
  have kc_4 : (110 : Int32).toInt = 110 := zt_110
  have kc_5 : (0 : Int32).toInt = 0 := zt_0
  have kc_6 : (0 : Int32).toInt = 0 := zt_0
  refine q_cl_ (q_runS (As := [.int 116, .int 117, .int 114, .int 110, .int 0, .int 0]) (rest := [.ref a]) E (hml.trans hl.1.symm) hI (c_X12_spelled l X σ (116 : Int32) (117 : Int32) (114 : Int32) (110 : Int32) (0 : Int32) (0 : Int32)) ks_X12_135 rfl ⟨Nat.le_of_ble_eq_true rfl, Nat.le_of_ble_eq_true rfl⟩ ⟨Nat.le_refl _, Nat.le_refl _⟩ rfl (Nat.le_of_ble_eq_true rfl) dX12_stepWord_11) hI (Nat.le_of_ble_eq_true rfl) (fun r_7 σ_8 H locs hpσ_8 hkσ_8 hI => ?_)
  have ahpσ_8 := hpσ_8.1
  have bhpσ_8 := hpσ_8.2
  clear hpσ_8
  replace hI := q_Irw ahpσ_8 hI
  replace hF := q_letX hF bhpσ_8
  refine q_ci (q_rV11_1 (rest := []) E (hml.trans hl.1.symm) hI (c_X12_isWord l X σ a r_7 ha) kv_X12_139 ha ⟨Nat.le_of_ble_eq_true rfl, Nat.le_of_ble_eq_true rfl⟩ (Nat.le_of_ble_eq_true rfl) dX12_stepWord_14) hI (Nat.le_of_ble_eq_true rfl) (fun r_9 σ_10 H locs hpσ_10 hkσ_10 hI => ?_)
  have ahpσ_10 := hpσ_10.1
  have bhpσ_10 := hpσ_10.2.1
  have chpσ_10 := hpσ_10.2.2.1
  have dhpσ_10 := hpσ_10.2.2.2
  clear hpσ_10
  replace hI := q_Irw ahpσ_10 hI
  replace hF := q_letX hF dhpσ_10
  refine q_if_eq (A := r_9.toInt) E rfl (tgt := 22) dX12_stepWord_17 (by decide) (fun c_11 => ?_) (fun c_11 => ?_)
  · skip
    replace hF := q_ifp hF c_11
    clear chpσ_10
    refine lv_aload_n hx hb dX12_stepWord_22 rfl (lv_at hl 0 rfl) ?_
    refine q_ci (q_rV11_0 (rest := []) E (hml.trans hl.1.symm) hI (c_X12_isLies l X σ a ha) kv_X12_143 ha ⟨Nat.le_of_ble_eq_true rfl, Nat.le_of_ble_eq_true rfl⟩ (Nat.le_of_ble_eq_true rfl) dX12_stepWord_23) hI (Nat.le_of_ble_eq_true rfl) (fun r_12 σ_13 H locs hpσ_13 hkσ_13 hI => ?_)
    have ahpσ_13 := hpσ_13.1
    have bhpσ_13 := hpσ_13.2.1
    have chpσ_13 := hpσ_13.2.2.1
    have dhpσ_13 := hpσ_13.2.2.2
    clear hpσ_13
    replace hI := q_Irw ahpσ_13 hI
    replace hF := q_letX hF dhpσ_13
    refine q_if_eq (A := r_12.toInt) E rfl (tgt := 31) dX12_stepWord_26 (by decide) (fun c_14 => ?_) (fun c_14 => ?_)
    · skip
      replace hF := q_ifp hF c_14
      clear chpσ_13
      refine lv_aload_n hx hb dX12_stepWord_31 rfl (lv_at hl 0 rfl) ?_
      refine q_ci (q_rV11_0 (rest := []) E (hml.trans hl.1.symm) hI (c_X12_isDoubts l X σ a ha) kv_X12_147 ha ⟨Nat.le_of_ble_eq_true rfl, Nat.le_of_ble_eq_true rfl⟩ (Nat.le_of_ble_eq_true rfl) dX12_stepWord_32) hI (Nat.le_of_ble_eq_true rfl) (fun r_15 σ_16 H locs hpσ_16 hkσ_16 hI => ?_)
      have ahpσ_16 := hpσ_16.1
      have bhpσ_16 := hpσ_16.2.1
      have chpσ_16 := hpσ_16.2.2.1
      have dhpσ_16 := hpσ_16.2.2.2
      clear hpσ_16
      replace hI := q_Irw ahpσ_16 hI
      replace hF := q_letX hF dhpσ_16
      refine q_if_eq (A := r_15.toInt) E rfl (tgt := 40) dX12_stepWord_35 (by decide) (fun c_17 => ?_) (fun c_17 => ?_)
      · skip
        replace hF := q_ifp hF c_17
        clear chpσ_16
        refine lv_aload_n hx hb dX12_stepWord_40 rfl (lv_at hl 0 rfl) ?_
        refine lv_bipush (v := 119) hx hb dX12_stepWord_41 zkb_119 ?_
        refine lv_bipush (v := 104) hx hb dX12_stepWord_43 zkb_104 ?_
        refine lv_bipush (v := 101) hx hb dX12_stepWord_45 zkb_101 ?_
        refine lv_bipush (v := 110) hx hb dX12_stepWord_47 zkb_110 ?_
        refine lv_iconst (v := 0) hx hb dX12_stepWord_49 zki_0 ?_
        refine lv_iconst (v := 0) hx hb dX12_stepWord_50 zki_0 ?_
        have kc_18 : (119 : Int32).toInt = 119 := zt_119
        have kc_19 : (104 : Int32).toInt = 104 := zt_104
        have kc_20 : (101 : Int32).toInt = 101 := zt_101
        have kc_21 : (110 : Int32).toInt = 110 := zt_110
        have kc_22 : (0 : Int32).toInt = 0 := zt_0
        have kc_23 : (0 : Int32).toInt = 0 := zt_0
        refine q_cl_ (q_runS (As := [.int 119, .int 104, .int 101, .int 110, .int 0, .int 0]) (rest := [.ref a]) E (hml.trans hl.1.symm) hI (c_X12_spelled l X σ (119 : Int32) (104 : Int32) (101 : Int32) (110 : Int32) (0 : Int32) (0 : Int32)) ks_X12_135 rfl ⟨Nat.le_of_ble_eq_true rfl, Nat.le_of_ble_eq_true rfl⟩ ⟨Nat.le_refl _, Nat.le_refl _⟩ rfl (Nat.le_of_ble_eq_true rfl) dX12_stepWord_51) hI (Nat.le_of_ble_eq_true rfl) (fun r_24 σ_25 H locs hpσ_25 hkσ_25 hI => ?_)
        have ahpσ_25 := hpσ_25.1
        have bhpσ_25 := hpσ_25.2
        clear hpσ_25
        replace hI := q_Irw ahpσ_25 hI
        replace hF := q_letX hF bhpσ_25
        refine q_ci (q_rV11_1 (rest := []) E (hml.trans hl.1.symm) hI (c_X12_isWord l X σ a r_24 ha) kv_X12_139 ha ⟨Nat.le_of_ble_eq_true rfl, Nat.le_of_ble_eq_true rfl⟩ (Nat.le_of_ble_eq_true rfl) dX12_stepWord_54) hI (Nat.le_of_ble_eq_true rfl) (fun r_26 σ_27 H locs hpσ_27 hkσ_27 hI => ?_)
        have ahpσ_27 := hpσ_27.1
        have bhpσ_27 := hpσ_27.2.1
        have chpσ_27 := hpσ_27.2.2.1
        have dhpσ_27 := hpσ_27.2.2.2
        clear hpσ_27
        replace hI := q_Irw ahpσ_27 hI
        replace hF := q_letX hF dhpσ_27
        refine q_if_eq (A := r_26.toInt) E rfl (tgt := 62) dX12_stepWord_57 (by decide) (fun c_28 => ?_) (fun c_28 => ?_)
        · skip
          replace hF := q_ifp hF c_28
          clear chpσ_27
          refine lv_aload_n hx hb dX12_stepWord_62 rfl (lv_at hl 0 rfl) ?_
          refine lv_bipush (v := 108) hx hb dX12_stepWord_63 zkb_108 ?_
          refine lv_bipush (v := 111) hx hb dX12_stepWord_65 zkb_111 ?_
          refine lv_bipush (v := 111) hx hb dX12_stepWord_67 zkb_111 ?_
          refine lv_bipush (v := 112) hx hb dX12_stepWord_69 zkb_112 ?_
          refine lv_iconst (v := 0) hx hb dX12_stepWord_71 zki_0 ?_
          refine lv_iconst (v := 0) hx hb dX12_stepWord_72 zki_0 ?_
          have kc_29 : (108 : Int32).toInt = 108 := zt_108
          have kc_30 : (111 : Int32).toInt = 111 := zt_111
          have kc_31 : (111 : Int32).toInt = 111 := zt_111
          have kc_32 : (112 : Int32).toInt = 112 := zt_112
          have kc_33 : (0 : Int32).toInt = 0 := zt_0
          have kc_34 : (0 : Int32).toInt = 0 := zt_0
          refine q_cl_ (q_runS (As := [.int 108, .int 111, .int 111, .int 112, .int 0, .int 0]) (rest := [.ref a]) E (hml.trans hl.1.symm) hI (c_X12_spelled l X σ (108 : Int32) (111 : Int32) (111 : Int32) (112 : Int32) (0 : Int32) (0 : Int32)) ks_X12_135 rfl ⟨Nat.le_of_ble_eq_true rfl, Nat.le_of_ble_eq_true rfl⟩ ⟨Nat.le_refl _, Nat.le_refl _⟩ rfl (Nat.le_of_ble_eq_true rfl) dX12_stepWord_73) hI (Nat.le_of_ble_eq_true rfl) (fun r_35 σ_36 H locs hpσ_36 hkσ_36 hI => ?_)
          have ahpσ_36 := hpσ_36.1
          have bhpσ_36 := hpσ_36.2
          clear hpσ_36
          replace hI := q_Irw ahpσ_36 hI
          replace hF := q_letX hF bhpσ_36
          refine q_ci (q_rV11_1 (rest := []) E (hml.trans hl.1.symm) hI (c_X12_isWord l X σ a r_35 ha) kv_X12_139 ha ⟨Nat.le_of_ble_eq_true rfl, Nat.le_of_ble_eq_true rfl⟩ (Nat.le_of_ble_eq_true rfl) dX12_stepWord_76) hI (Nat.le_of_ble_eq_true rfl) (fun r_37 σ_38 H locs hpσ_38 hkσ_38 hI => ?_)
          have ahpσ_38 := hpσ_38.1
          have bhpσ_38 := hpσ_38.2.1
          have chpσ_38 := hpσ_38.2.2.1
          have dhpσ_38 := hpσ_38.2.2.2
          clear hpσ_38
          replace hI := q_Irw ahpσ_38 hI
          replace hF := q_letX hF dhpσ_38
          refine q_if_eq (A := r_37.toInt) E rfl (tgt := 84) dX12_stepWord_79 (by decide) (fun c_39 => ?_) (fun c_39 => ?_)
          · skip
            replace hF := q_ifp hF c_39
            clear chpσ_38
            refine lv_aload_n hx hb dX12_stepWord_84 rfl (lv_at hl 0 rfl) ?_
            refine lv_bipush (v := 115) hx hb dX12_stepWord_85 zkb_115 ?_
            refine lv_bipush (v := 116) hx hb dX12_stepWord_87 zkb_116 ?_
            refine lv_bipush (v := 111) hx hb dX12_stepWord_89 zkb_111 ?_
            refine lv_bipush (v := 112) hx hb dX12_stepWord_91 zkb_112 ?_
            refine lv_iconst (v := 0) hx hb dX12_stepWord_93 zki_0 ?_
            refine lv_iconst (v := 0) hx hb dX12_stepWord_94 zki_0 ?_
            have kc_40 : (115 : Int32).toInt = 115 := zt_115
            have kc_41 : (116 : Int32).toInt = 116 := zt_116
            have kc_42 : (111 : Int32).toInt = 111 := zt_111
            have kc_43 : (112 : Int32).toInt = 112 := zt_112
            have kc_44 : (0 : Int32).toInt = 0 := zt_0
            have kc_45 : (0 : Int32).toInt = 0 := zt_0
            refine q_cl_ (q_runS (As := [.int 115, .int 116, .int 111, .int 112, .int 0, .int 0]) (rest := [.ref a]) E (hml.trans hl.1.symm) hI (c_X12_spelled l X σ (115 : Int32) (116 : Int32) (111 : Int32) (112 : Int32) (0 : Int32) (0 : Int32)) ks_X12_135 rfl ⟨Nat.le_of_ble_eq_true rfl, Nat.le_of_ble_eq_true rfl⟩ ⟨Nat.le_refl _, Nat.le_refl _⟩ rfl (Nat.le_of_ble_eq_true rfl) dX12_stepWord_95) hI (Nat.le_of_ble_eq_true rfl) (fun r_46 σ_47 H locs hpσ_47 hkσ_47 hI => ?_)
            have ahpσ_47 := hpσ_47.1
            have bhpσ_47 := hpσ_47.2
            clear hpσ_47
            replace hI := q_Irw ahpσ_47 hI
            replace hF := q_letX hF bhpσ_47
            refine q_ci (q_rV11_1 (rest := []) E (hml.trans hl.1.symm) hI (c_X12_isWord l X σ a r_46 ha) kv_X12_139 ha ⟨Nat.le_of_ble_eq_true rfl, Nat.le_of_ble_eq_true rfl⟩ (Nat.le_of_ble_eq_true rfl) dX12_stepWord_98) hI (Nat.le_of_ble_eq_true rfl) (fun r_48 σ_49 H locs hpσ_49 hkσ_49 hI => ?_)
            have ahpσ_49 := hpσ_49.1
            have bhpσ_49 := hpσ_49.2.1
            have chpσ_49 := hpσ_49.2.2.1
            have dhpσ_49 := hpσ_49.2.2.2
            clear hpσ_49
            replace hI := q_Irw ahpσ_49 hI
            replace hF := q_letX hF dhpσ_49
            refine q_if_eq (A := r_48.toInt) E rfl (tgt := 108) dX12_stepWord_101 (by decide) (fun c_50 => ?_) (fun c_50 => ?_)
            · skip
              replace hF := q_ifp hF c_50
              clear chpσ_49
              refine lv_iconst (v := (-1)) hx hb dX12_stepWord_108 zki_m1 ?_
              have hrv : ((-1) : Int32).toInt = (-1) := zt_m1
              exact q_reti E hr hlk hI ⟨rfl, (by first | (clear ht kc_1 kc_2 kc_3 kc_4 kc_5 kc_6 ahpσ_8 bhpσ_8 ahpσ_10 bhpσ_10 dhpσ_10 c_11 ahpσ_13 bhpσ_13 dhpσ_13 c_14 ahpσ_16 bhpσ_16 dhpσ_16 c_17 kc_18 kc_19 kc_20 kc_21 kc_22 kc_23 ahpσ_25 bhpσ_25 ahpσ_27 bhpσ_27 dhpσ_27 c_28 kc_29 kc_30 kc_31 kc_32 kc_33 kc_34 ahpσ_36 bhpσ_36 ahpσ_38 bhpσ_38 dhpσ_38 c_39 kc_40 kc_41 kc_42 kc_43 kc_44 kc_45 ahpσ_47 bhpσ_47 ahpσ_49 bhpσ_49 dhpσ_49 c_50; omega) | omega), (by first | (clear kc_1 kc_2 kc_3 kc_4 kc_5 kc_6 ahpσ_8 bhpσ_8 ahpσ_10 bhpσ_10 dhpσ_10 c_11 ahpσ_13 bhpσ_13 dhpσ_13 c_14 ahpσ_16 bhpσ_16 dhpσ_16 c_17 kc_18 kc_19 kc_20 kc_21 kc_22 kc_23 ahpσ_25 bhpσ_25 ahpσ_27 bhpσ_27 dhpσ_27 c_28 kc_29 kc_30 kc_31 kc_32 kc_33 kc_34 ahpσ_36 bhpσ_36 ahpσ_38 bhpσ_38 dhpσ_38 c_39 kc_40 kc_41 kc_42 kc_43 kc_44 kc_45 ahpσ_47 bhpσ_47 ahpσ_49 bhpσ_49 dhpσ_49 c_50; omega) | omega), (hF.trans hout)⟩ dX12_stepWord_109
            · skip
              replace hF := q_ifn hF c_50
              replace c_50 := q_ifOne bhpσ_49 c_50
              replace chpσ_49 := chpσ_49 c_50
              refine lv_iconst (v := 5) hx hb dX12_stepWord_104 zki_5 ?_
              refine lv_goto (tgt := 109) hx hb dX12_stepWord_105 (by decide) ?_
              have hrv : (5 : Int32).toInt = 5 := zt_5
              exact q_reti E hr hlk hI ⟨rfl, (by first | (clear ht kc_1 kc_2 kc_3 kc_4 kc_5 kc_6 ahpσ_8 bhpσ_8 ahpσ_10 bhpσ_10 dhpσ_10 c_11 ahpσ_13 bhpσ_13 dhpσ_13 c_14 ahpσ_16 bhpσ_16 dhpσ_16 c_17 kc_18 kc_19 kc_20 kc_21 kc_22 kc_23 ahpσ_25 bhpσ_25 ahpσ_27 bhpσ_27 dhpσ_27 c_28 kc_29 kc_30 kc_31 kc_32 kc_33 kc_34 ahpσ_36 bhpσ_36 ahpσ_38 bhpσ_38 dhpσ_38 c_39 kc_40 kc_41 kc_42 kc_43 kc_44 kc_45 ahpσ_47 bhpσ_47 ahpσ_49 bhpσ_49 dhpσ_49 c_50 chpσ_49; omega) | omega), (by first | (clear ht kc_1 kc_2 kc_3 kc_4 kc_5 kc_6 ahpσ_8 bhpσ_8 ahpσ_10 bhpσ_10 dhpσ_10 c_11 ahpσ_13 bhpσ_13 dhpσ_13 c_14 ahpσ_16 bhpσ_16 dhpσ_16 c_17 kc_18 kc_19 kc_20 kc_21 kc_22 kc_23 ahpσ_25 bhpσ_25 ahpσ_27 bhpσ_27 dhpσ_27 c_28 kc_29 kc_30 kc_31 kc_32 kc_33 kc_34 ahpσ_36 bhpσ_36 ahpσ_38 bhpσ_38 dhpσ_38 c_39 kc_40 kc_41 kc_42 kc_43 kc_44 kc_45 ahpσ_47 bhpσ_47 ahpσ_49 bhpσ_49 dhpσ_49 c_50; omega) | omega), (hF.trans hout)⟩ dX12_stepWord_109
          · skip
            replace hF := q_ifn hF c_39
            replace c_39 := q_ifOne bhpσ_38 c_39
            replace chpσ_38 := chpσ_38 c_39
            refine lv_iconst (v := 4) hx hb dX12_stepWord_82 zki_4 ?_
            have hrv : (4 : Int32).toInt = 4 := zt_4
            exact q_reti E hr hlk hI ⟨rfl, (by first | (clear ht kc_1 kc_2 kc_3 kc_4 kc_5 kc_6 ahpσ_8 bhpσ_8 ahpσ_10 bhpσ_10 dhpσ_10 c_11 ahpσ_13 bhpσ_13 dhpσ_13 c_14 ahpσ_16 bhpσ_16 dhpσ_16 c_17 kc_18 kc_19 kc_20 kc_21 kc_22 kc_23 ahpσ_25 bhpσ_25 ahpσ_27 bhpσ_27 dhpσ_27 c_28 kc_29 kc_30 kc_31 kc_32 kc_33 kc_34 ahpσ_36 bhpσ_36 ahpσ_38 bhpσ_38 dhpσ_38 c_39 chpσ_38; omega) | omega), (by first | (clear ht kc_1 kc_2 kc_3 kc_4 kc_5 kc_6 ahpσ_8 bhpσ_8 ahpσ_10 bhpσ_10 dhpσ_10 c_11 ahpσ_13 bhpσ_13 dhpσ_13 c_14 ahpσ_16 bhpσ_16 dhpσ_16 c_17 kc_18 kc_19 kc_20 kc_21 kc_22 kc_23 ahpσ_25 bhpσ_25 ahpσ_27 bhpσ_27 dhpσ_27 c_28 kc_29 kc_30 kc_31 kc_32 kc_33 kc_34 ahpσ_36 bhpσ_36 ahpσ_38 bhpσ_38 dhpσ_38 c_39; omega) | omega), (hF.trans hout)⟩ dX12_stepWord_83
        · skip
          replace hF := q_ifn hF c_28
          replace c_28 := q_ifOne bhpσ_27 c_28
          replace chpσ_27 := chpσ_27 c_28
          refine lv_iconst (v := 3) hx hb dX12_stepWord_60 zki_3 ?_
          have hrv : (3 : Int32).toInt = 3 := zt_3
          exact q_reti E hr hlk hI ⟨rfl, (by first | (clear ht kc_1 kc_2 kc_3 kc_4 kc_5 kc_6 ahpσ_8 bhpσ_8 ahpσ_10 bhpσ_10 dhpσ_10 c_11 ahpσ_13 bhpσ_13 dhpσ_13 c_14 ahpσ_16 bhpσ_16 dhpσ_16 c_17 kc_18 kc_19 kc_20 kc_21 kc_22 kc_23 ahpσ_25 bhpσ_25 ahpσ_27 bhpσ_27 dhpσ_27 c_28 chpσ_27; omega) | omega), (by first | (clear ht kc_1 kc_2 kc_3 kc_4 kc_5 kc_6 ahpσ_8 bhpσ_8 ahpσ_10 bhpσ_10 dhpσ_10 c_11 ahpσ_13 bhpσ_13 dhpσ_13 c_14 ahpσ_16 bhpσ_16 dhpσ_16 c_17 kc_18 kc_19 kc_20 kc_21 kc_22 kc_23 ahpσ_25 bhpσ_25 ahpσ_27 bhpσ_27 dhpσ_27 c_28; omega) | omega), (hF.trans hout)⟩ dX12_stepWord_61
      · skip
        replace hF := q_ifn hF c_17
        replace c_17 := q_ifOne bhpσ_16 c_17
        replace chpσ_16 := chpσ_16 c_17
        refine lv_iconst (v := 2) hx hb dX12_stepWord_38 zki_2 ?_
        have hrv : (2 : Int32).toInt = 2 := zt_2
        exact q_reti E hr hlk hI ⟨rfl, (by first | (clear ht kc_1 kc_2 kc_3 kc_4 kc_5 kc_6 ahpσ_8 bhpσ_8 ahpσ_10 bhpσ_10 dhpσ_10 c_11 ahpσ_13 bhpσ_13 dhpσ_13 c_14 ahpσ_16 bhpσ_16 dhpσ_16 c_17 chpσ_16; omega) | omega), (by first | (clear ht kc_1 kc_2 kc_3 kc_4 kc_5 kc_6 ahpσ_8 bhpσ_8 ahpσ_10 bhpσ_10 dhpσ_10 c_11 ahpσ_13 bhpσ_13 dhpσ_13 c_14 ahpσ_16 bhpσ_16 dhpσ_16 c_17; omega) | omega), (hF.trans hout)⟩ dX12_stepWord_39
    · skip
      replace hF := q_ifn hF c_14
      replace c_14 := q_ifOne bhpσ_13 c_14
      replace chpσ_13 := chpσ_13 c_14
      refine lv_iconst (v := 1) hx hb dX12_stepWord_29 zki_1 ?_
      have hrv : (1 : Int32).toInt = 1 := zt_1
      exact q_reti E hr hlk hI ⟨rfl, (by first | (clear ht kc_1 kc_2 kc_3 kc_4 kc_5 kc_6 ahpσ_8 bhpσ_8 ahpσ_10 bhpσ_10 dhpσ_10 c_11 ahpσ_13 bhpσ_13 dhpσ_13 c_14 chpσ_13; omega) | omega), (by first | (clear ht kc_1 kc_2 kc_3 kc_4 kc_5 kc_6 ahpσ_8 bhpσ_8 ahpσ_10 bhpσ_10 dhpσ_10 c_11 ahpσ_13 bhpσ_13 dhpσ_13 c_14; omega) | omega), (hF.trans hout)⟩ dX12_stepWord_30
  · skip
    replace hF := q_ifn hF c_11
    replace c_11 := q_ifOne bhpσ_10 c_11
    replace chpσ_10 := chpσ_10 c_11
    refine lv_iconst (v := 0) hx hb dX12_stepWord_20 zki_0 ?_
    have hrv : (0 : Int32).toInt = 0 := zt_0
    exact q_reti E hr hlk hI ⟨rfl, (by first | (clear ht kc_1 kc_2 kc_3 kc_4 kc_6 ahpσ_8 bhpσ_8 ahpσ_10 bhpσ_10 dhpσ_10 c_11 chpσ_10 hrv; omega) | omega), (by first | (clear ht kc_1 kc_2 kc_3 kc_4 kc_6 ahpσ_8 bhpσ_8 ahpσ_10 bhpσ_10 dhpσ_10 c_11 hrv; omega) | omega), (hF.trans hout)⟩ dX12_stepWord_21

set_option maxRecDepth 100000 in
set_option maxHeartbeats 4000000 in
theorem c_X12_testWord (l : Launch) (X : XW) (σ : ST) (a : Nat) (ha : q_kd X a = 12) : Met l yX12_testWord (q_ws yX12_testWord cX12_testWord 1 (some .int)) (q_rm 1 27) (q_P X σ [.ref a]) (q_Qi X 9 σ (fun (r : Int32) (σ' : ST) => σ' = σ ∧ (-1 ≤ r.toInt ∧ r.toInt ≤ 3) ∧ r = F_X12_testWord X σ a)) 0 0 (q_reg X) := by
  refine q_met 9 (by first | exact rfl | decide +kernel) rfl (Nat.le_of_ble_eq_true rfl) (fun p e s m below meth c E hml hr hlk hI ls hl => ?_)
  have hx := E.1
  have hb := E.2.1
  have hl : lv_has ls 1 [(0, .ref a)] := hl
  obtain ⟨out, hout⟩ : ∃ o, o = F_X12_testWord X σ a := ⟨_, rfl⟩
  have hF := hout.symm
  unfold F_X12_testWord at hF
  refine lv_aload_n hx hb dX12_testWord_0 rfl (lv_at hl 0 rfl) ?_
  refine lv_bipush (v := 99) hx hb dX12_testWord_1 zkb_99 ?_
  refine lv_bipush (v := 97) hx hb dX12_testWord_3 zkb_97 ?_
  refine lv_bipush (v := 114) hx hb dX12_testWord_5 zkb_114 ?_
  refine lv_bipush (v := 100) hx hb dX12_testWord_7 zkb_100 ?_
  refine lv_bipush (v := 115) hx hb dX12_testWord_9 zkb_115 ?_
  refine lv_iconst (v := 0) hx hb dX12_testWord_11 zki_0 ?_
  have kc_1 : (99 : Int32).toInt = 99 := zt_99
  have kc_2 : (97 : Int32).toInt = 97 := zt_97
  have kc_3 : (114 : Int32).toInt = 114 := zt_114
  have kc_4 : (100 : Int32).toInt = 100 := zt_100
  have kc_5 : (115 : Int32).toInt = 115 := zt_115
  have kc_6 : (0 : Int32).toInt = 0 := zt_0
  refine q_cl_ (q_runS (As := [.int 99, .int 97, .int 114, .int 100, .int 115, .int 0]) (rest := [.ref a]) E (hml.trans hl.1.symm) hI (c_X12_spelled l X σ (99 : Int32) (97 : Int32) (114 : Int32) (100 : Int32) (115 : Int32) (0 : Int32)) ks_X12_135 rfl ⟨Nat.le_of_ble_eq_true rfl, Nat.le_of_ble_eq_true rfl⟩ ⟨Nat.le_refl _, Nat.le_refl _⟩ rfl (Nat.le_of_ble_eq_true rfl) dX12_testWord_12) hI (Nat.le_of_ble_eq_true rfl) (fun r_7 σ_8 H locs hpσ_8 hkσ_8 hI => ?_)
  have ahpσ_8 := hpσ_8.1
  have bhpσ_8 := hpσ_8.2
  clear hpσ_8
  replace hI := q_Irw ahpσ_8 hI
  replace hF := q_letX hF bhpσ_8
  refine q_ci (q_rV11_1 (rest := []) E (hml.trans hl.1.symm) hI (c_X12_isWord l X σ a r_7 ha) kv_X12_139 ha ⟨Nat.le_of_ble_eq_true rfl, Nat.le_of_ble_eq_true rfl⟩ (Nat.le_of_ble_eq_true rfl) dX12_testWord_15) hI (Nat.le_of_ble_eq_true rfl) (fun r_9 σ_10 H locs hpσ_10 hkσ_10 hI => ?_)
  have ahpσ_10 := hpσ_10.1
  have bhpσ_10 := hpσ_10.2.1
  have chpσ_10 := hpσ_10.2.2.1
  have dhpσ_10 := hpσ_10.2.2.2
  clear hpσ_10
  replace hI := q_Irw ahpσ_10 hI
  replace hF := q_letX hF dhpσ_10
  refine q_if_eq (A := r_9.toInt) E rfl (tgt := 23) dX12_testWord_18 (by decide) (fun c_11 => ?_) (fun c_11 => ?_)
  · skip
    replace hF := q_ifp hF c_11
    clear chpσ_10
    refine lv_aload_n hx hb dX12_testWord_23 rfl (lv_at hl 0 rfl) ?_
    refine lv_bipush (v := 104) hx hb dX12_testWord_24 zkb_104 ?_
    refine lv_bipush (v := 101) hx hb dX12_testWord_26 zkb_101 ?_
    refine lv_bipush (v := 97) hx hb dX12_testWord_28 zkb_97 ?_
    refine lv_bipush (v := 112) hx hb dX12_testWord_30 zkb_112 ?_
    refine lv_iconst (v := 0) hx hb dX12_testWord_32 zki_0 ?_
    refine lv_iconst (v := 0) hx hb dX12_testWord_33 zki_0 ?_
    have kc_12 : (104 : Int32).toInt = 104 := zt_104
    have kc_13 : (101 : Int32).toInt = 101 := zt_101
    have kc_14 : (97 : Int32).toInt = 97 := zt_97
    have kc_15 : (112 : Int32).toInt = 112 := zt_112
    have kc_16 : (0 : Int32).toInt = 0 := zt_0
    have kc_17 : (0 : Int32).toInt = 0 := zt_0
    refine q_cl_ (q_runS (As := [.int 104, .int 101, .int 97, .int 112, .int 0, .int 0]) (rest := [.ref a]) E (hml.trans hl.1.symm) hI (c_X12_spelled l X σ (104 : Int32) (101 : Int32) (97 : Int32) (112 : Int32) (0 : Int32) (0 : Int32)) ks_X12_135 rfl ⟨Nat.le_of_ble_eq_true rfl, Nat.le_of_ble_eq_true rfl⟩ ⟨Nat.le_refl _, Nat.le_refl _⟩ rfl (Nat.le_of_ble_eq_true rfl) dX12_testWord_34) hI (Nat.le_of_ble_eq_true rfl) (fun r_18 σ_19 H locs hpσ_19 hkσ_19 hI => ?_)
    have ahpσ_19 := hpσ_19.1
    have bhpσ_19 := hpσ_19.2
    clear hpσ_19
    replace hI := q_Irw ahpσ_19 hI
    replace hF := q_letX hF bhpσ_19
    refine q_ci (q_rV11_1 (rest := []) E (hml.trans hl.1.symm) hI (c_X12_isWord l X σ a r_18 ha) kv_X12_139 ha ⟨Nat.le_of_ble_eq_true rfl, Nat.le_of_ble_eq_true rfl⟩ (Nat.le_of_ble_eq_true rfl) dX12_testWord_37) hI (Nat.le_of_ble_eq_true rfl) (fun r_20 σ_21 H locs hpσ_21 hkσ_21 hI => ?_)
    have ahpσ_21 := hpσ_21.1
    have bhpσ_21 := hpσ_21.2.1
    have chpσ_21 := hpσ_21.2.2.1
    have dhpσ_21 := hpσ_21.2.2.2
    clear hpσ_21
    replace hI := q_Irw ahpσ_21 hI
    replace hF := q_letX hF dhpσ_21
    refine q_if_eq (A := r_20.toInt) E rfl (tgt := 45) dX12_testWord_40 (by decide) (fun c_22 => ?_) (fun c_22 => ?_)
    · skip
      replace hF := q_ifp hF c_22
      clear chpσ_21
      refine lv_aload_n hx hb dX12_testWord_45 rfl (lv_at hl 0 rfl) ?_
      refine lv_bipush (v := 115) hx hb dX12_testWord_46 zkb_115 ?_
      refine lv_bipush (v := 104) hx hb dX12_testWord_48 zkb_104 ?_
      refine lv_bipush (v := 111) hx hb dX12_testWord_50 zkb_111 ?_
      refine lv_bipush (v := 119) hx hb dX12_testWord_52 zkb_119 ?_
      refine lv_bipush (v := 110) hx hb dX12_testWord_54 zkb_110 ?_
      refine lv_iconst (v := 0) hx hb dX12_testWord_56 zki_0 ?_
      have kc_23 : (115 : Int32).toInt = 115 := zt_115
      have kc_24 : (104 : Int32).toInt = 104 := zt_104
      have kc_25 : (111 : Int32).toInt = 111 := zt_111
      have kc_26 : (119 : Int32).toInt = 119 := zt_119
      have kc_27 : (110 : Int32).toInt = 110 := zt_110
      have kc_28 : (0 : Int32).toInt = 0 := zt_0
      refine q_cl_ (q_runS (As := [.int 115, .int 104, .int 111, .int 119, .int 110, .int 0]) (rest := [.ref a]) E (hml.trans hl.1.symm) hI (c_X12_spelled l X σ (115 : Int32) (104 : Int32) (111 : Int32) (119 : Int32) (110 : Int32) (0 : Int32)) ks_X12_135 rfl ⟨Nat.le_of_ble_eq_true rfl, Nat.le_of_ble_eq_true rfl⟩ ⟨Nat.le_refl _, Nat.le_refl _⟩ rfl (Nat.le_of_ble_eq_true rfl) dX12_testWord_57) hI (Nat.le_of_ble_eq_true rfl) (fun r_29 σ_30 H locs hpσ_30 hkσ_30 hI => ?_)
      have ahpσ_30 := hpσ_30.1
      have bhpσ_30 := hpσ_30.2
      clear hpσ_30
      replace hI := q_Irw ahpσ_30 hI
      replace hF := q_letX hF bhpσ_30
      refine q_ci (q_rV11_1 (rest := []) E (hml.trans hl.1.symm) hI (c_X12_isWord l X σ a r_29 ha) kv_X12_139 ha ⟨Nat.le_of_ble_eq_true rfl, Nat.le_of_ble_eq_true rfl⟩ (Nat.le_of_ble_eq_true rfl) dX12_testWord_60) hI (Nat.le_of_ble_eq_true rfl) (fun r_31 σ_32 H locs hpσ_32 hkσ_32 hI => ?_)
      have ahpσ_32 := hpσ_32.1
      have bhpσ_32 := hpσ_32.2.1
      have chpσ_32 := hpσ_32.2.2.1
      have dhpσ_32 := hpσ_32.2.2.2
      clear hpσ_32
      replace hI := q_Irw ahpσ_32 hI
      replace hF := q_letX hF dhpσ_32
      refine q_if_eq (A := r_31.toInt) E rfl (tgt := 68) dX12_testWord_63 (by decide) (fun c_33 => ?_) (fun c_33 => ?_)
      · skip
        replace hF := q_ifp hF c_33
        clear chpσ_32
        refine lv_aload_n hx hb dX12_testWord_68 rfl (lv_at hl 0 rfl) ?_
        refine lv_bipush (v := 119) hx hb dX12_testWord_69 zkb_119 ?_
        refine lv_bipush (v := 111) hx hb dX12_testWord_71 zkb_111 ?_
        refine lv_bipush (v := 110) hx hb dX12_testWord_73 zkb_110 ?_
        refine lv_iconst (v := 0) hx hb dX12_testWord_75 zki_0 ?_
        refine lv_iconst (v := 0) hx hb dX12_testWord_76 zki_0 ?_
        refine lv_iconst (v := 0) hx hb dX12_testWord_77 zki_0 ?_
        have kc_34 : (119 : Int32).toInt = 119 := zt_119
        have kc_35 : (111 : Int32).toInt = 111 := zt_111
        have kc_36 : (110 : Int32).toInt = 110 := zt_110
        have kc_37 : (0 : Int32).toInt = 0 := zt_0
        have kc_38 : (0 : Int32).toInt = 0 := zt_0
        have kc_39 : (0 : Int32).toInt = 0 := zt_0
        refine q_cl_ (q_runS (As := [.int 119, .int 111, .int 110, .int 0, .int 0, .int 0]) (rest := [.ref a]) E (hml.trans hl.1.symm) hI (c_X12_spelled l X σ (119 : Int32) (111 : Int32) (110 : Int32) (0 : Int32) (0 : Int32) (0 : Int32)) ks_X12_135 rfl ⟨Nat.le_of_ble_eq_true rfl, Nat.le_of_ble_eq_true rfl⟩ ⟨Nat.le_refl _, Nat.le_refl _⟩ rfl (Nat.le_of_ble_eq_true rfl) dX12_testWord_78) hI (Nat.le_of_ble_eq_true rfl) (fun r_40 σ_41 H locs hpσ_41 hkσ_41 hI => ?_)
        have ahpσ_41 := hpσ_41.1
        have bhpσ_41 := hpσ_41.2
        clear hpσ_41
        replace hI := q_Irw ahpσ_41 hI
        replace hF := q_letX hF bhpσ_41
        refine q_ci (q_rV11_1 (rest := []) E (hml.trans hl.1.symm) hI (c_X12_isWord l X σ a r_40 ha) kv_X12_139 ha ⟨Nat.le_of_ble_eq_true rfl, Nat.le_of_ble_eq_true rfl⟩ (Nat.le_of_ble_eq_true rfl) dX12_testWord_81) hI (Nat.le_of_ble_eq_true rfl) (fun r_42 σ_43 H locs hpσ_43 hkσ_43 hI => ?_)
        have ahpσ_43 := hpσ_43.1
        have bhpσ_43 := hpσ_43.2.1
        have chpσ_43 := hpσ_43.2.2.1
        have dhpσ_43 := hpσ_43.2.2.2
        clear hpσ_43
        replace hI := q_Irw ahpσ_43 hI
        replace hF := q_letX hF dhpσ_43
        refine q_if_eq (A := r_42.toInt) E rfl (tgt := 91) dX12_testWord_84 (by decide) (fun c_44 => ?_) (fun c_44 => ?_)
        · skip
          replace hF := q_ifp hF c_44
          clear chpσ_43
          refine lv_iconst (v := (-1)) hx hb dX12_testWord_91 zki_m1 ?_
          have hrv : ((-1) : Int32).toInt = (-1) := zt_m1
          exact q_reti E hr hlk hI ⟨rfl, (by first | (clear kc_1 kc_2 kc_3 kc_4 kc_5 kc_6 ahpσ_8 bhpσ_8 ahpσ_10 bhpσ_10 dhpσ_10 c_11 kc_12 kc_13 kc_14 kc_15 kc_16 kc_17 ahpσ_19 bhpσ_19 ahpσ_21 bhpσ_21 dhpσ_21 c_22 kc_23 kc_24 kc_25 kc_26 kc_27 kc_28 ahpσ_30 bhpσ_30 ahpσ_32 bhpσ_32 dhpσ_32 c_33 kc_34 kc_35 kc_36 kc_37 kc_38 kc_39 ahpσ_41 bhpσ_41 ahpσ_43 bhpσ_43 dhpσ_43 c_44; omega) | omega), (hF.trans hout)⟩ dX12_testWord_92
        · skip
          replace hF := q_ifn hF c_44
          replace c_44 := q_ifOne bhpσ_43 c_44
          replace chpσ_43 := chpσ_43 c_44
          refine lv_iconst (v := 3) hx hb dX12_testWord_87 zki_3 ?_
          refine lv_goto (tgt := 92) hx hb dX12_testWord_88 (by decide) ?_
          have hrv : (3 : Int32).toInt = 3 := zt_3
          exact q_reti E hr hlk hI ⟨rfl, (by first | (clear kc_1 kc_2 kc_3 kc_4 kc_5 kc_6 ahpσ_8 bhpσ_8 ahpσ_10 bhpσ_10 dhpσ_10 c_11 kc_12 kc_13 kc_14 kc_15 kc_16 kc_17 ahpσ_19 bhpσ_19 ahpσ_21 bhpσ_21 dhpσ_21 c_22 kc_23 kc_24 kc_25 kc_26 kc_27 kc_28 ahpσ_30 bhpσ_30 ahpσ_32 bhpσ_32 dhpσ_32 c_33 kc_34 kc_35 kc_36 kc_37 kc_38 kc_39 ahpσ_41 bhpσ_41 ahpσ_43 bhpσ_43 dhpσ_43 c_44 chpσ_43; omega) | omega), (hF.trans hout)⟩ dX12_testWord_92
      · skip
        replace hF := q_ifn hF c_33
        replace c_33 := q_ifOne bhpσ_32 c_33
        replace chpσ_32 := chpσ_32 c_33
        refine lv_iconst (v := 2) hx hb dX12_testWord_66 zki_2 ?_
        have hrv : (2 : Int32).toInt = 2 := zt_2
        exact q_reti E hr hlk hI ⟨rfl, (by first | (clear kc_1 kc_2 kc_3 kc_4 kc_5 kc_6 ahpσ_8 bhpσ_8 ahpσ_10 bhpσ_10 dhpσ_10 c_11 kc_12 kc_13 kc_14 kc_15 kc_16 kc_17 ahpσ_19 bhpσ_19 ahpσ_21 bhpσ_21 dhpσ_21 c_22 kc_23 kc_24 kc_25 kc_26 kc_27 kc_28 ahpσ_30 bhpσ_30 ahpσ_32 bhpσ_32 dhpσ_32 c_33 chpσ_32; omega) | omega), (hF.trans hout)⟩ dX12_testWord_67
    · skip
      replace hF := q_ifn hF c_22
      replace c_22 := q_ifOne bhpσ_21 c_22
      replace chpσ_21 := chpσ_21 c_22
      refine lv_iconst (v := 1) hx hb dX12_testWord_43 zki_1 ?_
      have hrv : (1 : Int32).toInt = 1 := zt_1
      exact q_reti E hr hlk hI ⟨rfl, (by first | (clear kc_1 kc_2 kc_3 kc_4 kc_5 kc_6 ahpσ_8 bhpσ_8 ahpσ_10 bhpσ_10 dhpσ_10 c_11 kc_12 kc_13 kc_14 kc_15 kc_16 kc_17 ahpσ_19 bhpσ_19 ahpσ_21 bhpσ_21 dhpσ_21 c_22 chpσ_21; omega) | omega), (hF.trans hout)⟩ dX12_testWord_44
  · skip
    replace hF := q_ifn hF c_11
    replace c_11 := q_ifOne bhpσ_10 c_11
    replace chpσ_10 := chpσ_10 c_11
    refine lv_iconst (v := 0) hx hb dX12_testWord_21 zki_0 ?_
    have hrv : (0 : Int32).toInt = 0 := zt_0
    exact q_reti E hr hlk hI ⟨rfl, (by first | (clear kc_1 kc_2 kc_3 kc_4 kc_5 ahpσ_8 bhpσ_8 ahpσ_10 bhpσ_10 dhpσ_10 c_11 chpσ_10 hrv; omega) | omega), (hF.trans hout)⟩ dX12_testWord_22

set_option maxRecDepth 100000 in
set_option maxHeartbeats 4000000 in
theorem c_X12_isKept (l : Launch) (X : XW) (σ : ST) (a : Nat) (ha : q_kd X a = 12) (ht : 0 ≤ (σ.1 a 14).toInt) : Met l yX12_isKept (q_ws yX12_isKept cX12_isKept 1 (some .boolean)) (q_rm 3 67) (q_P X σ [.ref a]) (q_Qi X 9 σ (fun (r : Int32) (σ' : ST) => σ' = σ ∧ (0 ≤ r.toInt ∧ r.toInt ≤ 1) ∧ r = F_X12_isKept X σ a)) 0 0 (q_reg X) := by
  refine q_met 9 (by first | exact rfl | decide +kernel) rfl (Nat.le_of_ble_eq_true rfl) (fun p e s m below meth c E hml hr hlk hI ls hl => ?_)
  have hx := E.1
  have hb := E.2.1
  have hl : lv_has ls 1 [(0, .ref a)] := hl
  obtain ⟨out, hout⟩ : ∃ o, o = F_X12_isKept X σ a := ⟨_, rfl⟩
  have hF := hout.symm
  unfold F_X12_isKept at hF
  refine lv_aload_n hx hb dX12_isKept_0 rfl (lv_at hl 0 rfl) ?_
  refine q_ci (q_rV11_0 (rest := []) E (hml.trans hl.1.symm) hI (c_X12_isKinds l X σ a ha) kv_X12_150 ha ⟨Nat.le_of_ble_eq_true rfl, Nat.le_of_ble_eq_true rfl⟩ (Nat.le_of_ble_eq_true rfl) dX12_isKept_1) hI (Nat.le_of_ble_eq_true rfl) (fun r_1 σ_2 H locs hpσ_2 hkσ_2 hI => ?_)
  have ahpσ_2 := hpσ_2.1
  have bhpσ_2 := hpσ_2.2.1
  have chpσ_2 := hpσ_2.2.2
  clear hpσ_2
  replace hI := q_Irw ahpσ_2 hI
  replace hF := q_letX hF chpσ_2
  refine q_if_ne (A := r_1.toInt) E rfl (tgt := 56) dX12_isKept_4 (by decide) (fun c_3 => ?_) (fun c_3 => ?_)
  · skip
    replace hF := q_ifn hF c_3
    replace c_3 := q_ifOne bhpσ_2 c_3
    refine lv_iconst (v := 1) hx hb dX12_isKept_56 zki_1 ?_
    have hrv : (1 : Int32).toInt = 1 := zt_1
    exact q_retz E hr hlk hI ⟨by decide, by decide⟩ ⟨rfl, ⟨by decide, by decide⟩, (hF.trans hout)⟩ dX12_isKept_57
  · skip
    replace hF := q_ifp hF c_3
    refine lv_aload_n hx hb dX12_isKept_7 rfl (lv_at hl 0 rfl) ?_
    refine q_ci (q_rV11_0 (rest := []) E (hml.trans hl.1.symm) hI (c_X12_isEach l X σ a ha) kv_X12_153 ha ⟨Nat.le_of_ble_eq_true rfl, Nat.le_of_ble_eq_true rfl⟩ (Nat.le_of_ble_eq_true rfl) dX12_isKept_8) hI (Nat.le_of_ble_eq_true rfl) (fun r_4 σ_5 H locs hpσ_5 hkσ_5 hI => ?_)
    have ahpσ_5 := hpσ_5.1
    have bhpσ_5 := hpσ_5.2.1
    have chpσ_5 := hpσ_5.2.2
    clear hpσ_5
    replace hI := q_Irw ahpσ_5 hI
    replace hF := q_letX hF chpσ_5
    refine q_if_ne (A := r_4.toInt) E rfl (tgt := 56) dX12_isKept_11 (by decide) (fun c_6 => ?_) (fun c_6 => ?_)
    · skip
      replace hF := q_ifn hF c_6
      replace c_6 := q_ifOne bhpσ_5 c_6
      refine lv_iconst (v := 1) hx hb dX12_isKept_56 zki_1 ?_
      have hrv : (1 : Int32).toInt = 1 := zt_1
      exact q_retz E hr hlk hI ⟨by decide, by decide⟩ ⟨rfl, ⟨by decide, by decide⟩, (hF.trans hout)⟩ dX12_isKept_57
    · skip
      replace hF := q_ifp hF c_6
      refine lv_aload_n hx hb dX12_isKept_14 rfl (lv_at hl 0 rfl) ?_
      refine q_ci (q_rV11_0 (rest := []) E (hml.trans hl.1.symm) hI (c_X12_isLaw l X σ a ha) kv_X12_156 ha ⟨Nat.le_of_ble_eq_true rfl, Nat.le_of_ble_eq_true rfl⟩ (Nat.le_of_ble_eq_true rfl) dX12_isKept_15) hI (Nat.le_of_ble_eq_true rfl) (fun r_7 σ_8 H locs hpσ_8 hkσ_8 hI => ?_)
      have ahpσ_8 := hpσ_8.1
      have bhpσ_8 := hpσ_8.2.1
      have chpσ_8 := hpσ_8.2.2
      clear hpσ_8
      replace hI := q_Irw ahpσ_8 hI
      replace hF := q_letX hF chpσ_8
      refine q_if_ne (A := r_7.toInt) E rfl (tgt := 56) dX12_isKept_18 (by decide) (fun c_9 => ?_) (fun c_9 => ?_)
      · skip
        replace hF := q_ifn hF c_9
        replace c_9 := q_ifOne bhpσ_8 c_9
        refine lv_iconst (v := 1) hx hb dX12_isKept_56 zki_1 ?_
        have hrv : (1 : Int32).toInt = 1 := zt_1
        exact q_retz E hr hlk hI ⟨by decide, by decide⟩ ⟨rfl, ⟨by decide, by decide⟩, (hF.trans hout)⟩ dX12_isKept_57
      · skip
        replace hF := q_ifp hF c_9
        refine lv_aload_n hx hb dX12_isKept_21 rfl (lv_at hl 0 rfl) ?_
        refine q_ci (q_rV11_0 (rest := []) E (hml.trans hl.1.symm) hI (c_X12_isMost l X σ a ha) kv_X12_159 ha ⟨Nat.le_of_ble_eq_true rfl, Nat.le_of_ble_eq_true rfl⟩ (Nat.le_of_ble_eq_true rfl) dX12_isKept_22) hI (Nat.le_of_ble_eq_true rfl) (fun r_10 σ_11 H locs hpσ_11 hkσ_11 hI => ?_)
        have ahpσ_11 := hpσ_11.1
        have bhpσ_11 := hpσ_11.2.1
        have chpσ_11 := hpσ_11.2.2
        clear hpσ_11
        replace hI := q_Irw ahpσ_11 hI
        replace hF := q_letX hF chpσ_11
        refine q_if_ne (A := r_10.toInt) E rfl (tgt := 56) dX12_isKept_25 (by decide) (fun c_12 => ?_) (fun c_12 => ?_)
        · skip
          replace hF := q_ifn hF c_12
          replace c_12 := q_ifOne bhpσ_11 c_12
          refine lv_iconst (v := 1) hx hb dX12_isKept_56 zki_1 ?_
          have hrv : (1 : Int32).toInt = 1 := zt_1
          exact q_retz E hr hlk hI ⟨by decide, by decide⟩ ⟨rfl, ⟨by decide, by decide⟩, (hF.trans hout)⟩ dX12_isKept_57
        · skip
          replace hF := q_ifp hF c_12
          refine lv_aload_n hx hb dX12_isKept_28 rfl (lv_at hl 0 rfl) ?_
          refine q_ci (q_rV11_0 (rest := []) E (hml.trans hl.1.symm) hI (c_X12_isPlayer l X σ a ha) kv_X12_162 ha ⟨Nat.le_of_ble_eq_true rfl, Nat.le_of_ble_eq_true rfl⟩ (Nat.le_of_ble_eq_true rfl) dX12_isKept_29) hI (Nat.le_of_ble_eq_true rfl) (fun r_13 σ_14 H locs hpσ_14 hkσ_14 hI => ?_)
          have ahpσ_14 := hpσ_14.1
          have bhpσ_14 := hpσ_14.2.1
          have chpσ_14 := hpσ_14.2.2
          clear hpσ_14
          replace hI := q_Irw ahpσ_14 hI
          replace hF := q_letX hF chpσ_14
          refine q_if_ne (A := r_13.toInt) E rfl (tgt := 56) dX12_isKept_32 (by decide) (fun c_15 => ?_) (fun c_15 => ?_)
          · skip
            replace hF := q_ifn hF c_15
            replace c_15 := q_ifOne bhpσ_14 c_15
            refine lv_iconst (v := 1) hx hb dX12_isKept_56 zki_1 ?_
            have hrv : (1 : Int32).toInt = 1 := zt_1
            exact q_retz E hr hlk hI ⟨by decide, by decide⟩ ⟨rfl, ⟨by decide, by decide⟩, (hF.trans hout)⟩ dX12_isKept_57
          · skip
            replace hF := q_ifp hF c_15
            refine lv_aload_n hx hb dX12_isKept_35 rfl (lv_at hl 0 rfl) ?_
            refine q_ci (q_rV11_0 (rest := []) E (hml.trans hl.1.symm) hI (c_X12_isHand l X σ a ha) kv_X12_165 ha ⟨Nat.le_of_ble_eq_true rfl, Nat.le_of_ble_eq_true rfl⟩ (Nat.le_of_ble_eq_true rfl) dX12_isKept_36) hI (Nat.le_of_ble_eq_true rfl) (fun r_16 σ_17 H locs hpσ_17 hkσ_17 hI => ?_)
            have ahpσ_17 := hpσ_17.1
            have bhpσ_17 := hpσ_17.2.1
            have chpσ_17 := hpσ_17.2.2
            clear hpσ_17
            replace hI := q_Irw ahpσ_17 hI
            replace hF := q_letX hF chpσ_17
            refine q_if_ne (A := r_16.toInt) E rfl (tgt := 56) dX12_isKept_39 (by decide) (fun c_18 => ?_) (fun c_18 => ?_)
            · skip
              replace hF := q_ifn hF c_18
              replace c_18 := q_ifOne bhpσ_17 c_18
              refine lv_iconst (v := 1) hx hb dX12_isKept_56 zki_1 ?_
              have hrv : (1 : Int32).toInt = 1 := zt_1
              exact q_retz E hr hlk hI ⟨by decide, by decide⟩ ⟨rfl, ⟨by decide, by decide⟩, (hF.trans hout)⟩ dX12_isKept_57
            · skip
              replace hF := q_ifp hF c_18
              refine lv_aload_n hx hb dX12_isKept_42 rfl (lv_at hl 0 rfl) ?_
              refine q_ci (q_rV11_0 (rest := []) E (hml.trans hl.1.symm) hI (c_X12_isOf l X σ a ha) kv_X12_168 ha ⟨Nat.le_of_ble_eq_true rfl, Nat.le_of_ble_eq_true rfl⟩ (Nat.le_of_ble_eq_true rfl) dX12_isKept_43) hI (Nat.le_of_ble_eq_true rfl) (fun r_19 σ_20 H locs hpσ_20 hkσ_20 hI => ?_)
              have ahpσ_20 := hpσ_20.1
              have bhpσ_20 := hpσ_20.2.1
              have chpσ_20 := hpσ_20.2.2
              clear hpσ_20
              replace hI := q_Irw ahpσ_20 hI
              replace hF := q_letX hF chpσ_20
              refine q_if_ne (A := r_19.toInt) E rfl (tgt := 56) dX12_isKept_46 (by decide) (fun c_21 => ?_) (fun c_21 => ?_)
              · skip
                replace hF := q_ifn hF c_21
                replace c_21 := q_ifOne bhpσ_20 c_21
                refine lv_iconst (v := 1) hx hb dX12_isKept_56 zki_1 ?_
                have hrv : (1 : Int32).toInt = 1 := zt_1
                exact q_retz E hr hlk hI ⟨by decide, by decide⟩ ⟨rfl, ⟨by decide, by decide⟩, (hF.trans hout)⟩ dX12_isKept_57
              · skip
                replace hF := q_ifp hF c_21
                refine lv_aload_n hx hb dX12_isKept_49 rfl (lv_at hl 0 rfl) ?_
                refine q_ci (q_rV11_0 (rest := []) E (hml.trans hl.1.symm) hI (c_X12_lawWord l X σ a ha) kv_X12_171 ha ⟨Nat.le_of_ble_eq_true rfl, Nat.le_of_ble_eq_true rfl⟩ (Nat.le_of_ble_eq_true rfl) dX12_isKept_50) hI (Nat.le_of_ble_eq_true rfl) (fun r_22 σ_23 H locs hpσ_23 hkσ_23 hI => ?_)
                have ahpσ_23 := hpσ_23.1
                have bhpσ_23 := hpσ_23.2.1
                have chpσ_23 := hpσ_23.2.2
                clear hpσ_23
                replace hI := q_Irw ahpσ_23 hI
                replace hF := q_letX hF chpσ_23
                refine q_if_lt (A := r_22.toInt) E rfl (tgt := 58) dX12_isKept_53 (by decide) (fun c_24 => ?_) (fun c_24 => ?_)
                · skip
                  replace hF := q_ifp hF c_24
                  refine lv_aload_n hx hb dX12_isKept_58 rfl (lv_at hl 0 rfl) ?_
                  refine q_ci (q_rV11_0 (rest := []) E (hml.trans hl.1.symm) hI (c_X12_stepWord l X σ a ha ht) kv_X12_175 ha ⟨Nat.le_of_ble_eq_true rfl, Nat.le_of_ble_eq_true rfl⟩ (Nat.le_of_ble_eq_true rfl) dX12_isKept_59) hI (Nat.le_of_ble_eq_true rfl) (fun r_25 σ_26 H locs hpσ_26 hkσ_26 hI => ?_)
                  have ahpσ_26 := hpσ_26.1
                  have bhpσ_26 := hpσ_26.2.1
                  have chpσ_26 := hpσ_26.2.2.1
                  have dhpσ_26 := hpσ_26.2.2.2
                  clear hpσ_26
                  replace hI := q_Irw ahpσ_26 hI
                  replace hF := q_letX hF dhpσ_26
                  refine q_if_ge (A := r_25.toInt) E rfl (tgt := 79) dX12_isKept_62 (by decide) (fun c_27 => ?_) (fun c_27 => ?_)
                  · skip
                    replace hF := q_ifn hF (Int.not_lt.mpr c_27)
                    refine lv_iconst (v := 1) hx hb dX12_isKept_79 zki_1 ?_
                    refine lv_goto (tgt := 84) hx hb dX12_isKept_80 (by decide) ?_
                    have hrv : (1 : Int32).toInt = 1 := zt_1
                    exact q_retz E hr hlk hI ⟨by decide, by decide⟩ ⟨rfl, ⟨by decide, by decide⟩, (hF.trans hout)⟩ dX12_isKept_84
                  · skip
                    replace hF := q_ifp hF c_27
                    refine lv_aload_n hx hb dX12_isKept_65 rfl (lv_at hl 0 rfl) ?_
                    refine q_ci (q_rV11_0 (rest := []) E (hml.trans hl.1.symm) hI (c_X12_testWord l X σ a ha) kv_X12_178 ha ⟨Nat.le_of_ble_eq_true rfl, Nat.le_of_ble_eq_true rfl⟩ (Nat.le_of_ble_eq_true rfl) dX12_isKept_66) hI (Nat.le_of_ble_eq_true rfl) (fun r_28 σ_29 H locs hpσ_29 hkσ_29 hI => ?_)
                    have ahpσ_29 := hpσ_29.1
                    have bhpσ_29 := hpσ_29.2.1
                    have chpσ_29 := hpσ_29.2.2
                    clear hpσ_29
                    replace hI := q_Irw ahpσ_29 hI
                    replace hF := q_letX hF chpσ_29
                    refine q_if_ge (A := r_28.toInt) E rfl (tgt := 79) dX12_isKept_69 (by decide) (fun c_30 => ?_) (fun c_30 => ?_)
                    · skip
                      replace hF := q_ifn hF (Int.not_lt.mpr c_30)
                      refine lv_iconst (v := 1) hx hb dX12_isKept_79 zki_1 ?_
                      refine lv_goto (tgt := 84) hx hb dX12_isKept_80 (by decide) ?_
                      have hrv : (1 : Int32).toInt = 1 := zt_1
                      exact q_retz E hr hlk hI ⟨by decide, by decide⟩ ⟨rfl, ⟨by decide, by decide⟩, (hF.trans hout)⟩ dX12_isKept_84
                    · skip
                      replace hF := q_ifp hF c_30
                      refine lv_aload_n hx hb dX12_isKept_72 rfl (lv_at hl 0 rfl) ?_
                      refine q_ci (q_rV11_0 (rest := []) E (hml.trans hl.1.symm) hI (c_X12_isEnd l X σ a ha) kv_X12_181 ha ⟨Nat.le_of_ble_eq_true rfl, Nat.le_of_ble_eq_true rfl⟩ (Nat.le_of_ble_eq_true rfl) dX12_isKept_73) hI (Nat.le_of_ble_eq_true rfl) (fun r_31 σ_32 H locs hpσ_32 hkσ_32 hI => ?_)
                      have ahpσ_32 := hpσ_32.1
                      have bhpσ_32 := hpσ_32.2.1
                      have chpσ_32 := hpσ_32.2.2
                      clear hpσ_32
                      replace hI := q_Irw ahpσ_32 hI
                      replace hF := q_letX hF chpσ_32
                      refine q_if_eq (A := r_31.toInt) E rfl (tgt := 83) dX12_isKept_76 (by decide) (fun c_33 => ?_) (fun c_33 => ?_)
                      · skip
                        replace hF := q_ifp hF c_33
                        refine lv_iconst (v := 0) hx hb dX12_isKept_83 zki_0 ?_
                        have hrv : (0 : Int32).toInt = 0 := zt_0
                        exact q_retz E hr hlk hI ⟨by decide, by decide⟩ ⟨rfl, ⟨by decide, by decide⟩, (hF.trans hout)⟩ dX12_isKept_84
                      · skip
                        replace hF := q_ifn hF c_33
                        replace c_33 := q_ifOne bhpσ_32 c_33
                        refine lv_iconst (v := 1) hx hb dX12_isKept_79 zki_1 ?_
                        refine lv_goto (tgt := 84) hx hb dX12_isKept_80 (by decide) ?_
                        have hrv : (1 : Int32).toInt = 1 := zt_1
                        exact q_retz E hr hlk hI ⟨by decide, by decide⟩ ⟨rfl, ⟨by decide, by decide⟩, (hF.trans hout)⟩ dX12_isKept_84
                · skip
                  replace hF := q_ifn hF (Int.not_lt.mpr c_24)
                  refine lv_iconst (v := 1) hx hb dX12_isKept_56 zki_1 ?_
                  have hrv : (1 : Int32).toInt = 1 := zt_1
                  exact q_retz E hr hlk hI ⟨by decide, by decide⟩ ⟨rfl, ⟨by decide, by decide⟩, (hF.trans hout)⟩ dX12_isKept_57

set_option maxRecDepth 100000 in
set_option maxHeartbeats 4000000 in
theorem c_X12_isName (l : Launch) (X : XW) (σ : ST) (a : Nat) (ha : q_kd X a = 12) (ht : 0 ≤ (σ.1 a 14).toInt) : Met l yX12_isName (q_ws yX12_isName cX12_isName 1 (some .boolean)) (q_rm 4 87) (q_P X σ [.ref a]) (q_Qi X 9 σ (fun (r : Int32) (σ' : ST) => σ' = σ ∧ (0 ≤ r.toInt ∧ r.toInt ≤ 1) ∧ r = F_X12_isName X σ a)) 0 0 (q_reg X) := by
  refine q_met 9 (by first | exact rfl | decide +kernel) rfl (Nat.le_of_ble_eq_true rfl) (fun p e s m below meth c E hml hr hlk hI ls hl => ?_)
  have hx := E.1
  have hb := E.2.1
  have hl : lv_has ls 1 [(0, .ref a)] := hl
  obtain ⟨out, hout⟩ : ∃ o, o = F_X12_isName X σ a := ⟨_, rfl⟩
  have hF := hout.symm
  unfold F_X12_isName at hF
  refine lv_aload_n hx hb dX12_isName_0 rfl (lv_at hl 0 rfl) ?_
  refine gs_X12_110_12 E hI ha dX12_isName_1 ?_
  refine lv_topi (fun f_1 ef_1 => ?_)
  replace hF := q_letX hF ef_1
  refine lv_iconst (v := 1) hx hb dX12_isName_4 zki_1 ?_
  refine q_icmp_ne (A := f_1.toInt) (B := 1) E rfl (by decide) (tgt := 28) dX12_isName_5 (by decide) (fun c_2 => ?_) (fun c_2 => ?_)
  · skip
    replace hF := q_ifn hF c_2
    refine lv_iconst (v := 0) hx hb dX12_isName_28 zki_0 ?_
    have hrv : (0 : Int32).toInt = 0 := zt_0
    exact q_retz E hr hlk hI ⟨by decide, by decide⟩ ⟨rfl, ⟨by decide, by decide⟩, (hF.trans hout)⟩ dX12_isName_29
  · skip
    replace hF := q_ifp hF c_2
    refine lv_aload_n hx hb dX12_isName_8 rfl (lv_at hl 0 rfl) ?_
    refine gs_X12_123_12 E hI ha dX12_isName_9 ?_
    refine lv_topi (fun f_3 ef_3 => ?_)
    replace hF := q_letX hF ef_3
    refine lv_bipush (v := 8) hx hb dX12_isName_12 zkb_8 ?_
    refine q_icmp_gt (A := f_3.toInt) (B := 8) E rfl (by decide) (tgt := 28) dX12_isName_14 (by decide) (fun c_4 => ?_) (fun c_4 => ?_)
    · skip
      replace hF := q_ifp hF c_4
      refine lv_iconst (v := 0) hx hb dX12_isName_28 zki_0 ?_
      have hrv : (0 : Int32).toInt = 0 := zt_0
      exact q_retz E hr hlk hI ⟨by decide, by decide⟩ ⟨rfl, ⟨by decide, by decide⟩, (hF.trans hout)⟩ dX12_isName_29
    · skip
      replace hF := q_ifn hF (Int.not_lt.mpr c_4)
      refine lv_aload_n hx hb dX12_isName_17 rfl (lv_at hl 0 rfl) ?_
      refine q_ci (q_rV11_0 (rest := []) E (hml.trans hl.1.symm) hI (c_X12_isKept l X σ a ha ht) kv_X12_184 ha ⟨Nat.le_of_ble_eq_true rfl, Nat.le_of_ble_eq_true rfl⟩ (Nat.le_of_ble_eq_true rfl) dX12_isName_18) hI (Nat.le_of_ble_eq_true rfl) (fun r_5 σ_6 H locs hpσ_6 hkσ_6 hI => ?_)
      have ahpσ_6 := hpσ_6.1
      have bhpσ_6 := hpσ_6.2.1
      have chpσ_6 := hpσ_6.2.2
      clear hpσ_6
      replace hI := q_Irw ahpσ_6 hI
      replace hF := q_letX hF chpσ_6
      refine q_if_ne (A := r_5.toInt) E rfl (tgt := 28) dX12_isName_21 (by decide) (fun c_7 => ?_) (fun c_7 => ?_)
      · skip
        replace hF := q_ifn hF c_7
        replace c_7 := q_ifOne bhpσ_6 c_7
        refine lv_iconst (v := 0) hx hb dX12_isName_28 zki_0 ?_
        have hrv : (0 : Int32).toInt = 0 := zt_0
        exact q_retz E hr hlk hI ⟨by decide, by decide⟩ ⟨rfl, ⟨by decide, by decide⟩, (hF.trans hout)⟩ dX12_isName_29
      · skip
        replace hF := q_ifp hF c_7
        refine lv_iconst (v := 1) hx hb dX12_isName_24 zki_1 ?_
        refine lv_goto (tgt := 29) hx hb dX12_isName_25 (by decide) ?_
        have hrv : (1 : Int32).toInt = 1 := zt_1
        exact q_retz E hr hlk hI ⟨by decide, by decide⟩ ⟨rfl, ⟨by decide, by decide⟩, (hF.trans hout)⟩ dX12_isName_29
end
/-! FROM 35.told.a.lean.txt -/
section
section QS
variable {p : Program} {l : Launch} {e : Env} {R : Room} {s : State} {m : MethodId} {args : Array Value} {below : List Frame} {meth : Method} {c : Code} {H : Heap} {locs : List Loc} {cells slots : Nat} {Q : State → Prop} {cc : ByteArray} {X : XW} {n : Nat} {σ0 σ : ST} {H0 : Heap} {pc : Nat} {ls : Array Slot} {rest : List Value} {a : Nat}
theorem gs_X12_35_12 (E : q_E p c cc s m args RX12 X) (hI : q_I X n σ0 H0 locs σ H) (ha : q_kd X a = 12) (hdg : decode cc pc = .ok (.getfield 35, 3)) (kk : W p l e R s m args below meth c H locs cells slots Q (F0 m (pc + 3) ls (.ref (q_rf X a 20) :: rest))) : W p l e R s m args below meth c H locs cells slots Q (F0 m pc ls (.ref a :: rest)) :=
  q_getf (ref := "CheatHeapModel") E hI ha ⟨rfl, by decide⟩ (show vwCl[11]? = some (RX12, TX12, 46) from rfl) q_inX12 (f := 20) (by decide) (q_in_t7 (i := 5) (by first | rfl | decide +kernel) rfl) (Or.inl rfl) rfl hdg kk
theorem gs_X12_44_12 (E : q_E p c cc s m args RX12 X) (hI : q_I X n σ0 H0 locs σ H) (ha : q_kd X a = 12) (hdg : decode cc pc = .ok (.getfield 44, 3)) (kk : W p l e R s m args below meth c H locs cells slots Q (F0 m (pc + 3) ls (.ref (q_rf X a 23) :: rest))) : W p l e R s m args below meth c H locs cells slots Q (F0 m pc ls (.ref a :: rest)) :=
  q_getf (ref := "CheatHeapModel") E hI ha ⟨rfl, by decide⟩ (show vwCl[11]? = some (RX12, TX12, 46) from rfl) q_inX12 (f := 23) (by decide) (q_in_t7 (i := 8) (by first | rfl | decide +kernel) rfl) (Or.inl rfl) rfl hdg kk
theorem kv_X12_216 : q_okV RX12 216 RX12 yX12_must cX12_must 2 none 1 := ⟨(q_in_t7 (i := 219) (by first | rfl | decide +kernel) rfl), (q_in_t7 (i := 221) (by first | rfl | decide +kernel) rfl), (q_in_p (i := 47) (by decide +kernel) rfl), (q_in_t1 (i := 14) (by first | rfl | decide +kernel) rfl), (q_in_t7 (i := 222) (by first | rfl | decide +kernel) rfl), ⟨rfl, by decide, by decide, rfl⟩⟩
theorem ks_X12_220 : q_okS RX12 220 yJ9_max_7cf53 cJ9_max_7cf53 2 (some .int) 2 := ⟨(q_in_t8 (i := 18) (by first | rfl | decide +kernel) rfl), (q_in_t1 (i := 49) (by first | rfl | decide +kernel) rfl), (q_in_t1 (i := 5) (by first | rfl | decide +kernel) rfl), (q_in_t1 (i := 50) (by first | rfl | decide +kernel) rfl), ⟨by decide, by decide, rfl⟩⟩
theorem kv_X12_213 : q_okV RX12 213 RX12 yX12_named cX12_named 3 (some .int) 1 := ⟨(q_in_t8 (i := 71) (by first | rfl | decide +kernel) rfl), (q_in_t8 (i := 73) (by first | rfl | decide +kernel) rfl), (q_in_p (i := 69) (by decide +kernel) rfl), (q_in_t1 (i := 14) (by first | rfl | decide +kernel) rfl), (q_in_t8 (i := 74) (by first | rfl | decide +kernel) rfl), ⟨rfl, by decide, by decide, rfl⟩⟩
theorem kv_X12_210 : q_okV RX12 210 RX12 yX12_isName cX12_isName 1 (some .boolean) 0 := ⟨(q_in_t8 (i := 35) (by first | rfl | decide +kernel) rfl), (q_in_t8 (i := 37) (by first | rfl | decide +kernel) rfl), (q_in_p (i := 60) (by decide +kernel) rfl), (q_in_t1 (i := 14) (by first | rfl | decide +kernel) rfl), (q_in_t8 (i := 38) (by first | rfl | decide +kernel) rfl), ⟨rfl, by decide, by decide, rfl⟩⟩
end QS
end
/-! FROM 35.told.b00.lean.txt -/
section
set_option maxRecDepth 100000 in
set_option maxHeartbeats 4000000 in
theorem c_X12_named (l : Launch) (X : XW) (σ : ST) (a : Nat) (v1 : Int32) (ha : q_kd X a = 12) (hq : v1.toInt = 0 ∨ v1.toInt = 4) (hm : m_c X σ a (930 * v1.toInt + 2) ≤ 6) : Met l yX12_named (q_ws yX12_named cX12_named 3 (some .int)) (q_rm 0 0) (q_P X σ [.ref a, .int v1]) (q_Qi X 9 σ (fun (r : Int32) (σ' : ST) => σ' = σ ∧ (-1 ≤ r.toInt ∧ r.toInt ≤ 5) ∧ r = F_X12_named X σ a v1)) 0 0 (q_reg X) := by
  refine q_met 9 (by first | exact rfl | decide +kernel) rfl (Nat.le_of_ble_eq_true rfl) (fun p e s m below meth c E hml hr hlk hI ls hl => ?_)
  have hx := E.1
  have hb := E.2.1
  have hl : lv_has ls 3 [(0, .ref a), (1, .int v1)] := hl
  obtain ⟨out, hout⟩ : ∃ o, o = F_X12_named X σ a v1 := ⟨_, rfl⟩
  have hF := hout.symm
  unfold F_X12_named at hF
  refine lv_iconst (v := 0) hx hb dX12_named_0 zki_0 ?_
  refine lv_istore_n (lv' := [(2, .int 0), (0, .ref a), (1, .int v1)]) hx hb dX12_named_1 rfl hl (by decide) rfl (fun ls hl => ?_)
  have L_2_2 : ∀ (k_2 : Nat) (x_1 : Int32) (H : Heap) (locs : List Loc) (ls : Array Slot), (2147483647 - x_1.toInt).toNat < k_2 → (0 ≤ x_1.toInt) → (F_X12_named_L2_1 X v1 σ a k_2 x_1 = out) → q_I X 9 σ s.heap locs σ H → lv_has ls 3 [(0, .ref a), (1, .int v1), (2, .int x_1)] → W p l e (q_rm 0 0) s m ([.ref a, .int v1] : List Value).toArray below meth c H locs 0 0 (MQ below (q_Qi X 9 σ (fun (r : Int32) (σ' : ST) => σ' = σ ∧ (-1 ≤ r.toInt ∧ r.toInt ≤ 5) ∧ r = F_X12_named X σ a v1)) ([.ref a, .int v1] : List Value).toArray s 0 0 (q_reg X)) (F0 m 2 ls []) := by
    clear hF
    intro k_2
    induction k_2 with
    | zero =>
      intro x_1 H locs ls hms
      exact absurd hms (Nat.not_lt_zero _)
    | succ k_2 ih2 =>
      intro x_1 H locs ls hm2 hge2 hF hI hl
      replace hF := (F_X12_named_L2_1_s).symm.trans hF
      unfold F_X12_named_B2_1 at hF
      refine lv_iload_n hx hb dX12_named_2 rfl (lv_at hl 2 rfl) ?_
      refine lv_aload_n hx hb dX12_named_3 rfl (lv_at hl 0 rfl) ?_
      refine gs_X12_35_12 E hI ha dX12_named_4 ?_
      refine lv_sipush (v := 930) hx hb dX12_named_7 zks_930 ?_
      refine lv_iload_n hx hb dX12_named_10 rfl (lv_at hl 1 rfl) ?_
      refine lv_imul hx hb dX12_named_11 ?_
      refine lv_topi (fun z_3 ez_3 => ?_)
      replace hF := q_letX hF ez_3
      have iz_3 := q_mulI (A := 930) (B := v1.toInt) ez_3 (by decide) rfl (by first | (clear hm hm2 hge2; omega) | omega) (by first | (clear hm hm2 hge2; omega) | omega)
      refine lv_iconst (v := 2) hx hb dX12_named_12 zki_2 ?_
      refine lv_iadd hx hb dX12_named_13 ?_
      refine lv_topi (fun z_4 ez_4 => ?_)
      replace hF := q_letX hF ez_4
      have iz_4 := q_addI (A := (930 * v1.toInt)) (B := 2) ez_4 iz_3 (by decide) (by first | (clear hm hm2 hge2 iz_3; omega) | omega) (by first | (clear hm hm2 hge2 iz_3; omega) | omega)
      refine q_iald E hI (q_tk (k' := 34) hI ha rfl (Nat.succ_ne_zero _)) ⟨by decide, rfl⟩ (by first | (clear hm hm2 hge2 iz_3; omega) | omega) (by rw [q_lnk (v := 4650) hI (q_tk (k' := 34) hI ha rfl (Nat.succ_ne_zero _)) rfl (by decide)]; omega) dX12_named_14 ?_
      refine lv_topi (fun f_5 ef_5 => ?_)
      replace hF := q_letX hF ef_5
      have if_5 : f_5.toInt = m_c X σ a ((930 * v1.toInt) + 2) := m_rd ef_5 iz_4
      have gc_6_x_1 := q_rng x_1
      have gc_6_f_5 := q_rng f_5
      refine q_icmp_ge (A := x_1.toInt) (B := f_5.toInt) E rfl rfl (tgt := 45) dX12_named_15 (by decide) (fun c_6 => ?_) (fun c_6 => ?_)
      · skip
        replace hF := q_ifn hF (Int.not_lt.mpr c_6)
        skip
        refine lv_iconst (v := (-1)) hx hb dX12_named_45 zki_m1 ?_
        have hrv : ((-1) : Int32).toInt = (-1) := zt_m1
        exact q_reti E hr hlk hI ⟨rfl, (by first | (clear hq hm hm2 hge2 iz_3 iz_4 if_5 gc_6_x_1 gc_6_f_5 c_6; omega) | omega), (hF.trans hout)⟩ dX12_named_46
      · skip
        replace hF := q_ifp hF c_6
        refine lv_aload_n hx hb dX12_named_18 rfl (lv_at hl 0 rfl) ?_
        refine gs_X12_44_12 E hI ha dX12_named_19 ?_
        refine lv_bipush (v := 6) hx hb dX12_named_22 zkb_6 ?_
        refine lv_iload_n hx hb dX12_named_24 rfl (lv_at hl 1 rfl) ?_
        refine lv_imul hx hb dX12_named_25 ?_
        refine lv_topi (fun z_7 ez_7 => ?_)
        replace hF := q_letX hF ez_7
        have iz_7 := q_mulI (A := 6) (B := v1.toInt) ez_7 (by decide) rfl (by first | (clear hm2 iz_3 iz_4; omega) | omega) (by first | (clear hm2 iz_3 iz_4; omega) | omega)
        refine lv_iload_n hx hb dX12_named_26 rfl (lv_at hl 2 rfl) ?_
        refine lv_iadd hx hb dX12_named_27 ?_
        refine lv_topi (fun z_8 ez_8 => ?_)
        replace hF := q_letX hF ez_8
        have iz_8 := q_addI (A := (6 * v1.toInt)) (B := x_1.toInt) ez_8 iz_7 rfl (by first | (clear hm2 iz_3 iz_4 iz_7; omega) | omega) (by first | (clear hm2 iz_3 iz_4 iz_7; omega) | omega)
        refine q_lald E hI (q_tk (k' := 37) hI ha rfl (Nat.succ_ne_zero _)) ⟨by decide, rfl⟩ (by first | (clear hm2 iz_3 iz_4 iz_7; omega) | omega) (by rw [q_lnk (v := 30) hI (q_tk (k' := 37) hI ha rfl (Nat.succ_ne_zero _)) rfl (by decide)]; omega) dX12_named_28 ?_
        refine lv_topl (fun g_9 eg_9 => ?_)
        replace hF := q_letX hF eg_9
        refine lv_aload_n hx hb dX12_named_29 rfl (lv_at hl 0 rfl) ?_
        refine gs_X12_116_12 E hI ha dX12_named_30 ?_
        refine lv_topl (fun g_10 eg_10 => ?_)
        replace hF := q_letX hF eg_10
        refine q_lcmpX E dX12_named_33 (fun z_11 ez_11 hz_11 => ?_)
        replace hF := q_letX hF ez_11
        refine q_if_ne (A := z_11.toInt) E rfl (tgt := 39) dX12_named_34 (by decide) (fun c_12 => ?_) (fun c_12 => ?_)
        · skip
          replace hF := q_ifn hF c_12
          obtain ⟨z_13, ez_13⟩ : ∃ y : Int32, y = x_1 + 1 := ⟨_, rfl⟩
          replace hF := q_letX hF ez_13
          refine lv_iinc (v := z_13) (lv' := [(2, .int z_13), (0, .ref a), (1, .int v1)]) hx hb dX12_named_39 hl (k := 2) rfl (by rw [ez_13]; rfl) (by decide) rfl (fun ls hl => ?_)
          have iz_13 : z_13.toInt = x_1.toInt + 1 := q_inc ez_13 (by first | (clear hq hm2 iz_3 iz_4 iz_7 hz_11 c_12; omega) | omega)
          refine lv_goto (tgt := 2) hx hb dX12_named_42 (by decide) ?_
          exact ih2 z_13 _ _ ls (by first | (clear hq iz_3 iz_4 iz_7; omega) | omega) (by first | (clear hq hm hm2 iz_3 iz_4 if_5 gc_6_f_5 c_6 iz_7 hz_11 c_12; omega) | omega) hF hI (lv_sub hl [1, 2, 0] rfl)
        · skip
          replace hF := q_ifp hF c_12
          skip
          refine lv_iload_n hx hb dX12_named_37 rfl (lv_at hl 2 rfl) ?_
          exact q_reti E hr hlk hI ⟨rfl, (by first | (clear hq hm2 iz_3 iz_4 iz_7 hz_11 c_12; omega) | omega), (hF.trans hout)⟩ dX12_named_38
  exact L_2_2 ((2147483647 - (0 : Int32).toInt).toNat + 1) 0 _ _ ls (Nat.lt_succ_self _) (by decide) hF hI (lv_sub hl [1, 2, 0] rfl)

set_option maxRecDepth 100000 in
set_option maxHeartbeats 4000000 in
theorem c_X12_readTold (l : Launch) (X : XW) (σ : ST) (a : Nat) (v1 : Int32) (ha : q_kd X a = 12) (hs : 0 ≤ (σ.1 a 15).toInt ∧ (σ.1 a 15).toInt ≤ (σ.1 a 16).toInt ∧ (σ.1 a 16).toInt ≤ (σ.1 a 9).toInt ∧ (σ.1 a 9).toInt ≤ 900 ∧ 0 ≤ (σ.1 a 14).toInt ∧ (σ.1 a 14).toInt ≤ 4 ∧ (σ.1 a 14).toInt ≤ 4 * ((σ.1 a 16).toInt - (σ.1 a 15).toInt) ∧ (σ.1 a 14).toInt ≤ 4 * ((σ.1 a 9).toInt - (σ.1 a 15).toInt) ∧ 0 ≤ (σ.1 a 12).toInt) (hq : v1.toInt = 0 ∨ v1.toInt = 4) (hm : m_c X σ a (930 * v1.toInt + 2) ≤ 6) : Met l yX12_readTold (q_ws yX12_readTold cX12_readTold 3 (some .int)) (q_rm 5 107) (q_P X σ [.ref a, .int v1]) (q_Qi X 2 σ (fun (r : Int32) (σ' : ST) => (q_KS (fun b g => b = a ∧ 12 ≤ g ∧ g ≤ 18) 9 X σ σ') ∧ (0 ≤ (σ'.1 a 15).toInt ∧ (σ'.1 a 15).toInt ≤ (σ'.1 a 16).toInt ∧ (σ'.1 a 16).toInt ≤ (σ'.1 a 9).toInt ∧ (σ'.1 a 9).toInt ≤ 900 ∧ 0 ≤ (σ'.1 a 14).toInt ∧ (σ'.1 a 14).toInt ≤ 4 ∧ (σ'.1 a 14).toInt ≤ 4 * ((σ'.1 a 16).toInt - (σ'.1 a 15).toInt) ∧ (σ'.1 a 14).toInt ≤ 4 * ((σ'.1 a 9).toInt - (σ'.1 a 15).toInt) ∧ 0 ≤ (σ'.1 a 12).toInt ∧ (σ'.1 a 9).toInt = (σ.1 a 9).toInt ∧ (σ.1 a 15).toInt ≤ (σ'.1 a 15).toInt ∧ (σ.1 a 12).toInt ≤ (σ'.1 a 12).toInt) ∧ ((σ.1 a 16).toInt ≤ (σ'.1 a 15).toInt + 1000 * (σ'.1 a 12).toInt ∧ 0 ≤ r.toInt ∧ r.toInt ≤ 5) ∧ (r, σ') = F_X12_readTold X σ a v1 ∧ q_ow [(12, 12), (12, 13), (12, 14), (12, 15), (12, 16), (12, 17), (12, 18)] [(12, 19)] X σ σ')) 0 0 (q_reg X) := by
  refine q_met 2 (by first | exact rfl | decide +kernel) rfl (Nat.le_of_ble_eq_true rfl) (fun p e s m below meth c E hml hr hlk hI ls hl => ?_)
  have hx := E.1
  have hb := E.2.1
  have hl : lv_has ls 3 [(0, .ref a), (1, .int v1)] := hl
  have ks_σ : q_KS (fun b g => b = a ∧ 12 ≤ g ∧ g ≤ 18) 9 X σ σ := q_KS.rf
  have fr_σ : q_ow [(12, 12), (12, 13), (12, 14), (12, 15), (12, 16), (12, 17), (12, 18)] [(12, 19)] X σ σ := q_ow.rf
  obtain ⟨out, hout⟩ : ∃ o, o = F_X12_readTold X σ a v1 := ⟨_, rfl⟩
  have hF := hout.symm
  unfold F_X12_readTold at hF
  refine lv_aload_n hx hb dX12_readTold_0 rfl (lv_at hl 0 rfl) ?_
  refine gs_X12_187_12 E hI ha dX12_readTold_1 ?_
  refine lv_topi (fun f_1 ef_1 => ?_)
  replace hF := q_letX hF ef_1
  have if_1 : f_1.toInt = (σ.1 a 12).toInt := congrArg Int32.toInt ef_1
  have J_18_2 : ∀  (σ_2 : ST) (H : Heap) (locs : List Loc) (ls : Array Slot), (0 ≤ (σ_2.1 a 15).toInt ∧ (σ_2.1 a 15).toInt ≤ (σ_2.1 a 16).toInt ∧ (σ_2.1 a 16).toInt ≤ (σ_2.1 a 9).toInt ∧ (σ_2.1 a 9).toInt ≤ 900 ∧ 0 ≤ (σ_2.1 a 14).toInt ∧ (σ_2.1 a 14).toInt ≤ 4 ∧ (σ_2.1 a 14).toInt ≤ 4 * ((σ_2.1 a 16).toInt - (σ_2.1 a 15).toInt) ∧ (σ_2.1 a 14).toInt ≤ 4 * ((σ_2.1 a 9).toInt - (σ_2.1 a 15).toInt) ∧ 0 ≤ (σ_2.1 a 12).toInt ∧ (σ_2.1 a 9).toInt = (σ.1 a 9).toInt ∧ (σ_2.1 a 15).toInt = (σ.1 a 15).toInt ∧ (σ_2.1 a 16).toInt = (σ.1 a 16).toInt ∧ (σ.1 a 12).toInt ≤ (σ_2.1 a 12).toInt) → (q_KS (fun b g => b = a ∧ 12 ≤ g ∧ g ≤ 18) 9 X σ σ_2) → (q_ow [(12, 12), (12, 13), (12, 14), (12, 15), (12, 16), (12, 17), (12, 18)] [(12, 19)] X σ σ_2) → (F_X12_readTold_J18_1 X a v1 σ_2 = out) → q_I X 2 σ s.heap locs σ_2 H → lv_has ls 3 [(0, .ref a), (1, .int v1)] → W p l e (q_rm 5 107) s m ([.ref a, .int v1] : List Value).toArray below meth c H locs 0 0 (MQ below (q_Qi X 2 σ (fun (r : Int32) (σ' : ST) => (q_KS (fun b g => b = a ∧ 12 ≤ g ∧ g ≤ 18) 9 X σ σ') ∧ (0 ≤ (σ'.1 a 15).toInt ∧ (σ'.1 a 15).toInt ≤ (σ'.1 a 16).toInt ∧ (σ'.1 a 16).toInt ≤ (σ'.1 a 9).toInt ∧ (σ'.1 a 9).toInt ≤ 900 ∧ 0 ≤ (σ'.1 a 14).toInt ∧ (σ'.1 a 14).toInt ≤ 4 ∧ (σ'.1 a 14).toInt ≤ 4 * ((σ'.1 a 16).toInt - (σ'.1 a 15).toInt) ∧ (σ'.1 a 14).toInt ≤ 4 * ((σ'.1 a 9).toInt - (σ'.1 a 15).toInt) ∧ 0 ≤ (σ'.1 a 12).toInt ∧ (σ'.1 a 9).toInt = (σ.1 a 9).toInt ∧ (σ.1 a 15).toInt ≤ (σ'.1 a 15).toInt ∧ (σ.1 a 12).toInt ≤ (σ'.1 a 12).toInt) ∧ ((σ.1 a 16).toInt ≤ (σ'.1 a 15).toInt + 1000 * (σ'.1 a 12).toInt ∧ 0 ≤ r.toInt ∧ r.toInt ≤ 5) ∧ (r, σ') = F_X12_readTold X σ a v1 ∧ q_ow [(12, 12), (12, 13), (12, 14), (12, 15), (12, 16), (12, 17), (12, 18)] [(12, 19)] X σ σ')) ([.ref a, .int v1] : List Value).toArray s 0 0 (q_reg X)) (F0 m 18 ls []) := by
    clear hF
    intro σ_2 H locs ls j18σ_2 ks_σ_2 fr_σ_2 hF hI hl
    try clear fr_σ
    unfold F_X12_readTold_J18_1 at hF
    refine lv_aload_n hx hb dX12_readTold_18 rfl (lv_at hl 0 rfl) ?_
    refine gs_X12_187_12 E hI ha dX12_readTold_19 ?_
    refine lv_topi (fun f_3 ef_3 => ?_)
    replace hF := q_letX hF ef_3
    have if_3 : f_3.toInt = (σ_2.1 a 12).toInt := congrArg Int32.toInt ef_3
    refine q_if_ne (A := f_3.toInt) E rfl (tgt := 33) dX12_readTold_22 (by decide) (fun c_4 => ?_) (fun c_4 => ?_)
    · skip
      replace hF := q_ifn hF c_4
      refine lv_iconst (v := 0) hx hb dX12_readTold_33 zki_0 ?_
      refine lv_istore_n (lv' := [(2, .int 0), (0, .ref a), (1, .int v1)]) hx hb dX12_readTold_34 rfl hl (by decide) rfl (fun ls hl => ?_)
      refine lv_aload_n hx hb dX12_readTold_35 rfl (lv_at hl 1 rfl) ?_
      refine gs_X12_187_12 E hI ha dX12_readTold_36 ?_
      refine lv_topi (fun f_5 ef_5 => ?_)
      replace hF := q_letX hF ef_5
      have if_5 : f_5.toInt = (σ_2.1 a 12).toInt := congrArg Int32.toInt ef_5
      refine q_if_ne (A := f_5.toInt) E rfl (tgt := 55) dX12_readTold_39 (by decide) (fun c_6 => ?_) (fun c_6 => ?_)
      · skip
        replace hF := q_ifn hF c_6
        refine lv_aload_n hx hb dX12_readTold_55 rfl (lv_at hl 1 rfl) ?_
        refine lv_iconst (v := 1) hx hb dX12_readTold_56 zki_1 ?_
        have kc_7 : (1 : Int32).toInt = 1 := zt_1
        refine q_cv (q_rV11_1 (rest := []) E (hml.trans hl.1.symm) hI (c_X12_must l X σ_2 a (1 : Int32) ha (by first | (clear hq hm if_1 c_4 c_6 kc_7; omega) | omega) (by first | (clear hs hq hm if_1 j18σ_2 if_3 c_4 if_5 c_6; omega) | omega)) kv_X12_216 ha ⟨Nat.le_of_ble_eq_true rfl, Nat.le_of_ble_eq_true rfl⟩ (Nat.le_of_ble_eq_true rfl) dX12_readTold_57) hI (Nat.le_of_ble_eq_true rfl) (fun σ_9 H locs hpσ_9 hkσ_9 hI => ?_)
        have ahpσ_9 := hpσ_9.1
        have bhpσ_9 := hpσ_9.2.1
        have chpσ_9 := hpσ_9.2.2.1
        have dhpσ_9 := hpσ_9.2.2.2.1
        have ehpσ_9 := hpσ_9.2.2.2.2
        clear hpσ_9
        have fr_σ_9 := fr_σ_2.call ehpσ_9 rfl rfl
        replace hF := q_letX hF dhpσ_9
        have ks_σ_9 : q_KS (fun b g => b = a ∧ 12 ≤ g ∧ g ≤ 18) 9 X σ σ_9 := ks_σ_2.KS ahpσ_9 (by decide) (fun _ _ h => h)
        refine lv_iconst (v := 0) hx hb dX12_readTold_60 zki_0 ?_
        refine lv_iload_n hx hb dX12_readTold_61 rfl (lv_at hl 0 rfl) ?_
        have kc_10 : (0 : Int32).toInt = 0 := zt_0
        have kc_11 : (0 : Int32).toInt = 0 := zt_0
        refine q_ci (q_runS (As := [.int 0, .int 0]) (rest := []) E (hml.trans hl.1.symm) hI (c_J9_max_7cf53 l X σ_9 (0 : Int32) (0 : Int32)) ks_X12_220 rfl ⟨Nat.le_of_ble_eq_true rfl, Nat.le_of_ble_eq_true rfl⟩ ⟨Nat.le_refl _, Nat.le_refl _⟩ rfl (Nat.le_of_ble_eq_true rfl) dX12_readTold_62) hI (Nat.le_of_ble_eq_true rfl) (fun r_12 σ_13 H locs hpσ_13 hkσ_13 hI => ?_)
        have ahpσ_13 := hpσ_13.1
        have bhpσ_13 := hpσ_13.2.1
        have chpσ_13 := hpσ_13.2.2
        clear hpσ_13
        replace hI := q_Irw ahpσ_13 hI
        replace hF := q_letX hF chpσ_13
        exact q_reti E hr hlk hI ⟨ks_σ_9, (by first | (clear hq hm c_4 c_6 kc_7 ahpσ_9 chpσ_9 dhpσ_9 ehpσ_9 kc_10 kc_11 ahpσ_13 bhpσ_13 chpσ_13; omega) | omega), (by first | (clear hs hq hm if_1 if_3 c_4 if_5 c_6 kc_7 ahpσ_9 bhpσ_9 dhpσ_9 ehpσ_9 kc_11 ahpσ_13 chpσ_13; omega) | omega), (hF.trans hout), fr_σ_9⟩ dX12_readTold_65
      · skip
        replace hF := q_ifp hF c_6
        refine lv_iload_n hx hb dX12_readTold_42 rfl (lv_at hl 0 rfl) ?_
        refine q_if_ge (A := 0) E (by decide) (tgt := 55) dX12_readTold_43 (by decide) (fun c_14 => ?_) (fun c_14 => ?_)
        · skip
          replace hF := q_ifn hF (Int.not_lt.mpr c_14)
          refine lv_aload_n hx hb dX12_readTold_55 rfl (lv_at hl 1 rfl) ?_
          refine lv_iconst (v := 1) hx hb dX12_readTold_56 zki_1 ?_
          have kc_15 : (1 : Int32).toInt = 1 := zt_1
          refine q_cv (q_rV11_1 (rest := []) E (hml.trans hl.1.symm) hI (c_X12_must l X σ_2 a (1 : Int32) ha (by first | (clear hq hm if_1 c_4 c_14 kc_15; omega) | omega) (by first | (clear hs hq hm if_1 j18σ_2 if_3 c_4 if_5 c_6 c_14; omega) | omega)) kv_X12_216 ha ⟨Nat.le_of_ble_eq_true rfl, Nat.le_of_ble_eq_true rfl⟩ (Nat.le_of_ble_eq_true rfl) dX12_readTold_57) hI (Nat.le_of_ble_eq_true rfl) (fun σ_17 H locs hpσ_17 hkσ_17 hI => ?_)
          have ahpσ_17 := hpσ_17.1
          have bhpσ_17 := hpσ_17.2.1
          have chpσ_17 := hpσ_17.2.2.1
          have dhpσ_17 := hpσ_17.2.2.2.1
          have ehpσ_17 := hpσ_17.2.2.2.2
          clear hpσ_17
          have fr_σ_17 := fr_σ_2.call ehpσ_17 rfl rfl
          replace hF := q_letX hF dhpσ_17
          have ks_σ_17 : q_KS (fun b g => b = a ∧ 12 ≤ g ∧ g ≤ 18) 9 X σ σ_17 := ks_σ_2.KS ahpσ_17 (by decide) (fun _ _ h => h)
          refine lv_iconst (v := 0) hx hb dX12_readTold_60 zki_0 ?_
          refine lv_iload_n hx hb dX12_readTold_61 rfl (lv_at hl 0 rfl) ?_
          have kc_18 : (0 : Int32).toInt = 0 := zt_0
          have kc_19 : (0 : Int32).toInt = 0 := zt_0
          refine q_ci (q_runS (As := [.int 0, .int 0]) (rest := []) E (hml.trans hl.1.symm) hI (c_J9_max_7cf53 l X σ_17 (0 : Int32) (0 : Int32)) ks_X12_220 rfl ⟨Nat.le_of_ble_eq_true rfl, Nat.le_of_ble_eq_true rfl⟩ ⟨Nat.le_refl _, Nat.le_refl _⟩ rfl (Nat.le_of_ble_eq_true rfl) dX12_readTold_62) hI (Nat.le_of_ble_eq_true rfl) (fun r_20 σ_21 H locs hpσ_21 hkσ_21 hI => ?_)
          have ahpσ_21 := hpσ_21.1
          have bhpσ_21 := hpσ_21.2.1
          have chpσ_21 := hpσ_21.2.2
          clear hpσ_21
          replace hI := q_Irw ahpσ_21 hI
          replace hF := q_letX hF chpσ_21
          exact q_reti E hr hlk hI ⟨ks_σ_17, (by first | (clear hq hm c_4 c_14 kc_15 ahpσ_17 chpσ_17 dhpσ_17 ehpσ_17 kc_18 kc_19 ahpσ_21 bhpσ_21 chpσ_21; omega) | omega), (by first | (clear hs hq hm if_1 if_3 c_4 if_5 c_6 c_14 kc_15 ahpσ_17 bhpσ_17 dhpσ_17 ehpσ_17 kc_19 ahpσ_21 chpσ_21; omega) | omega), (hF.trans hout), fr_σ_17⟩ dX12_readTold_65
        · skip
          replace hF := q_ifp hF c_14
          refine lv_aload_n hx hb dX12_readTold_46 rfl (lv_at hl 1 rfl) ?_
          refine lv_iconst (v := 3) hx hb dX12_readTold_47 zki_3 ?_
          refine lv_aload_n hx hb dX12_readTold_48 rfl (lv_at hl 1 rfl) ?_
          refine gs_X12_104_12 E hI ha dX12_readTold_49 ?_
          refine lv_topi (fun f_22 ef_22 => ?_)
          replace hF := q_letX hF ef_22
          have if_22 : f_22.toInt = (σ_2.1 a 15).toInt := congrArg Int32.toInt ef_22
          have kc_23 : (3 : Int32).toInt = 3 := zt_3
          refine q_cv (q_rV11_2 (rest := []) E (hml.trans hl.1.symm) hI (c_X12_fail l X σ_2 a (3 : Int32) f_22 ha (by first | (clear hs hq hm if_1 j18σ_2 if_3 c_4 if_5 c_6 if_22 kc_23; omega) | omega) (by first | (clear hs hq hm if_1 j18σ_2 if_3 c_4 if_5 c_6 if_22 kc_23; omega) | omega)) kv_X12_193 ha ⟨Nat.le_of_ble_eq_true rfl, Nat.le_of_ble_eq_true rfl⟩ (Nat.le_of_ble_eq_true rfl) dX12_readTold_52) hI (Nat.le_of_ble_eq_true rfl) (fun σ_25 H locs hpσ_25 hkσ_25 hI => ?_)
          have ahpσ_25 := hpσ_25.1
          have bhpσ_25 := hpσ_25.2.1
          have chpσ_25 := hpσ_25.2.2.1
          have dhpσ_25 := hpσ_25.2.2.2.1
          have ehpσ_25 := hpσ_25.2.2.2.2
          clear hpσ_25
          have fr_σ_25 := fr_σ_2.call ehpσ_25 rfl rfl
          replace hF := q_letX hF dhpσ_25
          have ks_σ_25 : q_KS (fun b g => b = a ∧ 12 ≤ g ∧ g ≤ 18) 9 X σ σ_25 := ks_σ_2.KS ahpσ_25 (by decide) (fun _ _ h => h)
          refine lv_aload_n hx hb dX12_readTold_55 rfl (lv_at hl 1 rfl) ?_
          refine lv_iconst (v := 1) hx hb dX12_readTold_56 zki_1 ?_
          have kc_26 : (1 : Int32).toInt = 1 := zt_1
          refine q_cv (q_rV11_1 (rest := []) E (hml.trans hl.1.symm) hI (c_X12_must l X σ_25 a (1 : Int32) ha (by first | (clear hs hq hm if_1 j18σ_2 if_3 c_4 if_5 c_6 if_22 kc_23 ahpσ_25 bhpσ_25 chpσ_25 dhpσ_25 ehpσ_25 kc_26; omega) | omega) (by first | (clear hs hq hm if_1 j18σ_2 if_3 c_4 if_5 c_6 if_22 kc_23 ahpσ_25 bhpσ_25 chpσ_25 dhpσ_25 ehpσ_25 kc_26; omega) | omega)) kv_X12_216 ha ⟨Nat.le_of_ble_eq_true rfl, Nat.le_of_ble_eq_true rfl⟩ (Nat.le_of_ble_eq_true rfl) dX12_readTold_57) hI (Nat.le_of_ble_eq_true rfl) (fun σ_28 H locs hpσ_28 hkσ_28 hI => ?_)
          have ahpσ_28 := hpσ_28.1
          have bhpσ_28 := hpσ_28.2.1
          have chpσ_28 := hpσ_28.2.2.1
          have dhpσ_28 := hpσ_28.2.2.2.1
          have ehpσ_28 := hpσ_28.2.2.2.2
          clear hpσ_28
          have fr_σ_28 := fr_σ_25.call ehpσ_28 rfl rfl
          replace hF := q_letX hF dhpσ_28
          have ks_σ_28 : q_KS (fun b g => b = a ∧ 12 ≤ g ∧ g ≤ 18) 9 X σ σ_28 := ks_σ_25.KS ahpσ_28 (by decide) (fun _ _ h => h)
          refine lv_iconst (v := 0) hx hb dX12_readTold_60 zki_0 ?_
          refine lv_iload_n hx hb dX12_readTold_61 rfl (lv_at hl 0 rfl) ?_
          have kc_29 : (0 : Int32).toInt = 0 := zt_0
          have kc_30 : (0 : Int32).toInt = 0 := zt_0
          refine q_ci (q_runS (As := [.int 0, .int 0]) (rest := []) E (hml.trans hl.1.symm) hI (c_J9_max_7cf53 l X σ_28 (0 : Int32) (0 : Int32)) ks_X12_220 rfl ⟨Nat.le_of_ble_eq_true rfl, Nat.le_of_ble_eq_true rfl⟩ ⟨Nat.le_refl _, Nat.le_refl _⟩ rfl (Nat.le_of_ble_eq_true rfl) dX12_readTold_62) hI (Nat.le_of_ble_eq_true rfl) (fun r_31 σ_32 H locs hpσ_32 hkσ_32 hI => ?_)
          have ahpσ_32 := hpσ_32.1
          have bhpσ_32 := hpσ_32.2.1
          have chpσ_32 := hpσ_32.2.2
          clear hpσ_32
          replace hI := q_Irw ahpσ_32 hI
          replace hF := q_letX hF chpσ_32
          exact q_reti E hr hlk hI ⟨ks_σ_28, (by first | (clear hs hq hm if_1 j18σ_2 if_3 c_4 if_5 c_6 if_22 kc_23 ahpσ_25 bhpσ_25 chpσ_25 dhpσ_25 ehpσ_25 kc_26 ahpσ_28 bhpσ_28 chpσ_28 dhpσ_28 ehpσ_28 kc_29 kc_30 ahpσ_32 bhpσ_32 chpσ_32; omega) | omega), (by first | (clear hs hq hm if_1 j18σ_2 if_3 c_4 if_5 c_6 if_22 kc_23 ahpσ_25 bhpσ_25 chpσ_25 dhpσ_25 ehpσ_25 kc_26 ahpσ_28 bhpσ_28 chpσ_28 dhpσ_28 ehpσ_28 kc_29 kc_30 ahpσ_32 bhpσ_32 chpσ_32; omega) | omega), (hF.trans hout), fr_σ_28⟩ dX12_readTold_65
    · skip
      replace hF := q_ifp hF c_4
      refine lv_aload_n hx hb dX12_readTold_25 rfl (lv_at hl 0 rfl) ?_
      refine lv_iload_n hx hb dX12_readTold_26 rfl (lv_at hl 1 rfl) ?_
      refine q_ci (q_rV11_1 (rest := []) E (hml.trans hl.1.symm) hI (c_X12_named l X σ_2 a v1 ha hq (by rw [m_cK hI.2.2.2.2.2 hI.1 ha (by decide)]; exact hm)) kv_X12_213 ha ⟨Nat.le_of_ble_eq_true rfl, Nat.le_of_ble_eq_true rfl⟩ (Nat.le_of_ble_eq_true rfl) dX12_readTold_27) hI (Nat.le_of_ble_eq_true rfl) (fun r_33 σ_34 H locs hpσ_34 hkσ_34 hI => ?_)
      have ahpσ_34 := hpσ_34.1
      have bhpσ_34 := hpσ_34.2.1
      have chpσ_34 := hpσ_34.2.2
      clear hpσ_34
      replace hI := q_Irw ahpσ_34 hI
      replace hF := q_letX hF chpσ_34
      refine lv_goto (tgt := 34) hx hb dX12_readTold_30 (by decide) ?_
      refine lv_istore_n (lv' := [(2, .int r_33), (0, .ref a), (1, .int v1)]) hx hb dX12_readTold_34 rfl hl (by decide) rfl (fun ls hl => ?_)
      refine lv_aload_n hx hb dX12_readTold_35 rfl (lv_at hl 1 rfl) ?_
      refine gs_X12_187_12 E hI ha dX12_readTold_36 ?_
      refine lv_topi (fun f_35 ef_35 => ?_)
      replace hF := q_letX hF ef_35
      have if_35 : f_35.toInt = (σ_2.1 a 12).toInt := congrArg Int32.toInt ef_35
      refine q_if_ne (A := f_35.toInt) E rfl (tgt := 55) dX12_readTold_39 (by decide) (fun c_36 => ?_) (fun c_36 => ?_)
      · skip
        replace hF := q_ifn hF c_36
        refine lv_aload_n hx hb dX12_readTold_55 rfl (lv_at hl 1 rfl) ?_
        refine lv_iconst (v := 1) hx hb dX12_readTold_56 zki_1 ?_
        have kc_37 : (1 : Int32).toInt = 1 := zt_1
        refine q_cv (q_rV11_1 (rest := []) E (hml.trans hl.1.symm) hI (c_X12_must l X σ_2 a (1 : Int32) ha (by first | (clear hq hm if_1 ahpσ_34 bhpσ_34 chpσ_34 if_35 c_36 kc_37; omega) | omega) (by first | (clear hs hq hm if_1 j18σ_2 if_3 c_4 ahpσ_34 bhpσ_34 chpσ_34 if_35 c_36; omega) | omega)) kv_X12_216 ha ⟨Nat.le_of_ble_eq_true rfl, Nat.le_of_ble_eq_true rfl⟩ (Nat.le_of_ble_eq_true rfl) dX12_readTold_57) hI (Nat.le_of_ble_eq_true rfl) (fun σ_39 H locs hpσ_39 hkσ_39 hI => ?_)
        have ahpσ_39 := hpσ_39.1
        have bhpσ_39 := hpσ_39.2.1
        have chpσ_39 := hpσ_39.2.2.1
        have dhpσ_39 := hpσ_39.2.2.2.1
        have ehpσ_39 := hpσ_39.2.2.2.2
        clear hpσ_39
        have fr_σ_39 := fr_σ_2.call ehpσ_39 rfl rfl
        replace hF := q_letX hF dhpσ_39
        have ks_σ_39 : q_KS (fun b g => b = a ∧ 12 ≤ g ∧ g ≤ 18) 9 X σ σ_39 := ks_σ_2.KS ahpσ_39 (by decide) (fun _ _ h => h)
        refine lv_iconst (v := 0) hx hb dX12_readTold_60 zki_0 ?_
        refine lv_iload_n hx hb dX12_readTold_61 rfl (lv_at hl 0 rfl) ?_
        have kc_40 : (0 : Int32).toInt = 0 := zt_0
        refine q_ci (q_runS (As := [.int 0, .int r_33]) (rest := []) E (hml.trans hl.1.symm) hI (c_J9_max_7cf53 l X σ_39 (0 : Int32) r_33) ks_X12_220 rfl ⟨Nat.le_of_ble_eq_true rfl, Nat.le_of_ble_eq_true rfl⟩ ⟨Nat.le_refl _, Nat.le_refl _⟩ rfl (Nat.le_of_ble_eq_true rfl) dX12_readTold_62) hI (Nat.le_of_ble_eq_true rfl) (fun r_41 σ_42 H locs hpσ_42 hkσ_42 hI => ?_)
        have ahpσ_42 := hpσ_42.1
        have bhpσ_42 := hpσ_42.2.1
        have chpσ_42 := hpσ_42.2.2
        clear hpσ_42
        replace hI := q_Irw ahpσ_42 hI
        replace hF := q_letX hF chpσ_42
        exact q_reti E hr hlk hI ⟨ks_σ_39, (by first | (clear hq hm ahpσ_34 bhpσ_34 chpσ_34 if_35 c_36 kc_37 ahpσ_39 chpσ_39 dhpσ_39 ehpσ_39 kc_40 ahpσ_42 bhpσ_42 chpσ_42; omega) | omega), (by first | (clear hs hq hm if_1 if_3 c_4 ahpσ_34 chpσ_34 if_35 c_36 kc_37 ahpσ_39 bhpσ_39 dhpσ_39 ehpσ_39 ahpσ_42 chpσ_42; omega) | omega), (hF.trans hout), fr_σ_39⟩ dX12_readTold_65
      · skip
        replace hF := q_ifp hF c_36
        refine lv_iload_n hx hb dX12_readTold_42 rfl (lv_at hl 0 rfl) ?_
        refine q_if_ge (A := r_33.toInt) E rfl (tgt := 55) dX12_readTold_43 (by decide) (fun c_43 => ?_) (fun c_43 => ?_)
        · skip
          replace hF := q_ifn hF (Int.not_lt.mpr c_43)
          refine lv_aload_n hx hb dX12_readTold_55 rfl (lv_at hl 1 rfl) ?_
          refine lv_iconst (v := 1) hx hb dX12_readTold_56 zki_1 ?_
          have kc_44 : (1 : Int32).toInt = 1 := zt_1
          refine q_cv (q_rV11_1 (rest := []) E (hml.trans hl.1.symm) hI (c_X12_must l X σ_2 a (1 : Int32) ha (by first | (clear hq hm if_1 ahpσ_34 bhpσ_34 chpσ_34 if_35 c_36 c_43 kc_44; omega) | omega) (by first | (clear hs hq hm if_1 j18σ_2 if_3 c_4 ahpσ_34 bhpσ_34 chpσ_34 if_35 c_36 c_43; omega) | omega)) kv_X12_216 ha ⟨Nat.le_of_ble_eq_true rfl, Nat.le_of_ble_eq_true rfl⟩ (Nat.le_of_ble_eq_true rfl) dX12_readTold_57) hI (Nat.le_of_ble_eq_true rfl) (fun σ_46 H locs hpσ_46 hkσ_46 hI => ?_)
          have ahpσ_46 := hpσ_46.1
          have bhpσ_46 := hpσ_46.2.1
          have chpσ_46 := hpσ_46.2.2.1
          have dhpσ_46 := hpσ_46.2.2.2.1
          have ehpσ_46 := hpσ_46.2.2.2.2
          clear hpσ_46
          have fr_σ_46 := fr_σ_2.call ehpσ_46 rfl rfl
          replace hF := q_letX hF dhpσ_46
          have ks_σ_46 : q_KS (fun b g => b = a ∧ 12 ≤ g ∧ g ≤ 18) 9 X σ σ_46 := ks_σ_2.KS ahpσ_46 (by decide) (fun _ _ h => h)
          refine lv_iconst (v := 0) hx hb dX12_readTold_60 zki_0 ?_
          refine lv_iload_n hx hb dX12_readTold_61 rfl (lv_at hl 0 rfl) ?_
          have kc_47 : (0 : Int32).toInt = 0 := zt_0
          refine q_ci (q_runS (As := [.int 0, .int r_33]) (rest := []) E (hml.trans hl.1.symm) hI (c_J9_max_7cf53 l X σ_46 (0 : Int32) r_33) ks_X12_220 rfl ⟨Nat.le_of_ble_eq_true rfl, Nat.le_of_ble_eq_true rfl⟩ ⟨Nat.le_refl _, Nat.le_refl _⟩ rfl (Nat.le_of_ble_eq_true rfl) dX12_readTold_62) hI (Nat.le_of_ble_eq_true rfl) (fun r_48 σ_49 H locs hpσ_49 hkσ_49 hI => ?_)
          have ahpσ_49 := hpσ_49.1
          have bhpσ_49 := hpσ_49.2.1
          have chpσ_49 := hpσ_49.2.2
          clear hpσ_49
          replace hI := q_Irw ahpσ_49 hI
          replace hF := q_letX hF chpσ_49
          exact q_reti E hr hlk hI ⟨ks_σ_46, (by first | (clear hq hm ahpσ_34 bhpσ_34 chpσ_34 if_35 c_36 c_43 kc_44 ahpσ_46 chpσ_46 dhpσ_46 ehpσ_46 kc_47 ahpσ_49 bhpσ_49 chpσ_49; omega) | omega), (by first | (clear hs hq hm if_1 if_3 c_4 ahpσ_34 chpσ_34 if_35 c_36 kc_44 ahpσ_46 bhpσ_46 dhpσ_46 ehpσ_46 ahpσ_49 chpσ_49; omega) | omega), (hF.trans hout), fr_σ_46⟩ dX12_readTold_65
        · skip
          replace hF := q_ifp hF c_43
          refine lv_aload_n hx hb dX12_readTold_46 rfl (lv_at hl 1 rfl) ?_
          refine lv_iconst (v := 3) hx hb dX12_readTold_47 zki_3 ?_
          refine lv_aload_n hx hb dX12_readTold_48 rfl (lv_at hl 1 rfl) ?_
          refine gs_X12_104_12 E hI ha dX12_readTold_49 ?_
          refine lv_topi (fun f_50 ef_50 => ?_)
          replace hF := q_letX hF ef_50
          have if_50 : f_50.toInt = (σ_2.1 a 15).toInt := congrArg Int32.toInt ef_50
          have kc_51 : (3 : Int32).toInt = 3 := zt_3
          refine q_cv (q_rV11_2 (rest := []) E (hml.trans hl.1.symm) hI (c_X12_fail l X σ_2 a (3 : Int32) f_50 ha (by first | (clear hs hq hm if_1 j18σ_2 ahpσ_34 bhpσ_34 chpσ_34 if_35 c_36 c_43 if_50 kc_51; omega) | omega) (by first | (clear hs hq hm if_1 j18σ_2 if_3 c_4 ahpσ_34 bhpσ_34 chpσ_34 if_35 c_36 c_43 if_50; omega) | omega)) kv_X12_193 ha ⟨Nat.le_of_ble_eq_true rfl, Nat.le_of_ble_eq_true rfl⟩ (Nat.le_of_ble_eq_true rfl) dX12_readTold_52) hI (Nat.le_of_ble_eq_true rfl) (fun σ_53 H locs hpσ_53 hkσ_53 hI => ?_)
          have ahpσ_53 := hpσ_53.1
          have bhpσ_53 := hpσ_53.2.1
          have chpσ_53 := hpσ_53.2.2.1
          have dhpσ_53 := hpσ_53.2.2.2.1
          have ehpσ_53 := hpσ_53.2.2.2.2
          clear hpσ_53
          have fr_σ_53 := fr_σ_2.call ehpσ_53 rfl rfl
          replace hF := q_letX hF dhpσ_53
          have ks_σ_53 : q_KS (fun b g => b = a ∧ 12 ≤ g ∧ g ≤ 18) 9 X σ σ_53 := ks_σ_2.KS ahpσ_53 (by decide) (fun _ _ h => h)
          refine lv_aload_n hx hb dX12_readTold_55 rfl (lv_at hl 1 rfl) ?_
          refine lv_iconst (v := 1) hx hb dX12_readTold_56 zki_1 ?_
          have kc_54 : (1 : Int32).toInt = 1 := zt_1
          refine q_cv (q_rV11_1 (rest := []) E (hml.trans hl.1.symm) hI (c_X12_must l X σ_53 a (1 : Int32) ha (by first | (clear hq hm if_1 if_3 c_4 ahpσ_34 bhpσ_34 chpσ_34 if_35 c_36 c_43 kc_51 ahpσ_53 dhpσ_53 ehpσ_53 kc_54; omega) | omega) (by first | (clear hs hq hm if_1 j18σ_2 if_3 c_4 ahpσ_34 bhpσ_34 chpσ_34 if_35 c_36 c_43 if_50 kc_51 ahpσ_53 bhpσ_53 chpσ_53 dhpσ_53 ehpσ_53; omega) | omega)) kv_X12_216 ha ⟨Nat.le_of_ble_eq_true rfl, Nat.le_of_ble_eq_true rfl⟩ (Nat.le_of_ble_eq_true rfl) dX12_readTold_57) hI (Nat.le_of_ble_eq_true rfl) (fun σ_56 H locs hpσ_56 hkσ_56 hI => ?_)
          have ahpσ_56 := hpσ_56.1
          have bhpσ_56 := hpσ_56.2.1
          have chpσ_56 := hpσ_56.2.2.1
          have dhpσ_56 := hpσ_56.2.2.2.1
          have ehpσ_56 := hpσ_56.2.2.2.2
          clear hpσ_56
          have fr_σ_56 := fr_σ_53.call ehpσ_56 rfl rfl
          replace hF := q_letX hF dhpσ_56
          have ks_σ_56 : q_KS (fun b g => b = a ∧ 12 ≤ g ∧ g ≤ 18) 9 X σ σ_56 := ks_σ_53.KS ahpσ_56 (by decide) (fun _ _ h => h)
          refine lv_iconst (v := 0) hx hb dX12_readTold_60 zki_0 ?_
          refine lv_iload_n hx hb dX12_readTold_61 rfl (lv_at hl 0 rfl) ?_
          have kc_57 : (0 : Int32).toInt = 0 := zt_0
          refine q_ci (q_runS (As := [.int 0, .int r_33]) (rest := []) E (hml.trans hl.1.symm) hI (c_J9_max_7cf53 l X σ_56 (0 : Int32) r_33) ks_X12_220 rfl ⟨Nat.le_of_ble_eq_true rfl, Nat.le_of_ble_eq_true rfl⟩ ⟨Nat.le_refl _, Nat.le_refl _⟩ rfl (Nat.le_of_ble_eq_true rfl) dX12_readTold_62) hI (Nat.le_of_ble_eq_true rfl) (fun r_58 σ_59 H locs hpσ_59 hkσ_59 hI => ?_)
          have ahpσ_59 := hpσ_59.1
          have bhpσ_59 := hpσ_59.2.1
          have chpσ_59 := hpσ_59.2.2
          clear hpσ_59
          replace hI := q_Irw ahpσ_59 hI
          replace hF := q_letX hF chpσ_59
          exact q_reti E hr hlk hI ⟨ks_σ_56, (by first | (clear hs hq hm ahpσ_34 bhpσ_34 chpσ_34 if_35 c_36 c_43 kc_51 ahpσ_53 dhpσ_53 ehpσ_53 kc_54 ahpσ_56 chpσ_56 dhpσ_56 ehpσ_56 kc_57 ahpσ_59 bhpσ_59 chpσ_59; omega) | omega), (by first | (clear hs hq hm if_1 if_3 c_4 ahpσ_34 chpσ_34 if_35 c_36 if_50 kc_51 ahpσ_53 chpσ_53 dhpσ_53 ehpσ_53 kc_54 ahpσ_56 bhpσ_56 dhpσ_56 ehpσ_56 ahpσ_59 chpσ_59; omega) | omega), (hF.trans hout), fr_σ_56⟩ dX12_readTold_65
  refine q_if_ne (A := f_1.toInt) E rfl (tgt := 18) dX12_readTold_4 (by decide) (fun c_60 => ?_) (fun c_60 => ?_)
  · skip
    replace hF := q_ifn hF c_60
    exact J_18_2 σ _ _ ls (by first | (clear hq hm c_60; omega) | omega) ks_σ fr_σ hF hI (lv_sub hl [0, 1] rfl)
  · skip
    replace hF := q_ifp hF c_60
    refine lv_aload_n hx hb dX12_readTold_7 rfl (lv_at hl 0 rfl) ?_
    refine q_ci (q_rV11_0 (rest := []) E (hml.trans hl.1.symm) hI (c_X12_isName l X σ a ha (by first | (clear hq hm if_1 c_60; omega) | omega)) kv_X12_210 ha ⟨Nat.le_of_ble_eq_true rfl, Nat.le_of_ble_eq_true rfl⟩ (Nat.le_of_ble_eq_true rfl) dX12_readTold_8) hI (Nat.le_of_ble_eq_true rfl) (fun r_61 σ_62 H locs hpσ_62 hkσ_62 hI => ?_)
    have ahpσ_62 := hpσ_62.1
    have bhpσ_62 := hpσ_62.2.1
    have chpσ_62 := hpσ_62.2.2
    clear hpσ_62
    replace hI := q_Irw ahpσ_62 hI
    replace hF := q_letX hF chpσ_62
    refine q_if_ne (A := r_61.toInt) E rfl (tgt := 18) dX12_readTold_11 (by decide) (fun c_63 => ?_) (fun c_63 => ?_)
    · skip
      replace hF := q_ifn hF c_63
      replace c_63 := q_ifOne bhpσ_62 c_63
      exact J_18_2 σ _ _ ls (by first | (clear hq hm ahpσ_62 bhpσ_62 chpσ_62 c_63; omega) | omega) ks_σ fr_σ hF hI (lv_sub hl [0, 1] rfl)
    · skip
      replace hF := q_ifp hF c_63
      refine lv_aload_n hx hb dX12_readTold_14 rfl (lv_at hl 0 rfl) ?_
      refine q_cv (q_rV11_0 (rest := []) E (hml.trans hl.1.symm) hI (c_X12_wrong l X σ a ha (by first | (clear hs hq hm ahpσ_62 bhpσ_62 chpσ_62 c_63; omega) | omega)) kv_X12_200 ha ⟨Nat.le_of_ble_eq_true rfl, Nat.le_of_ble_eq_true rfl⟩ (Nat.le_of_ble_eq_true rfl) dX12_readTold_15) hI (Nat.le_of_ble_eq_true rfl) (fun σ_65 H locs hpσ_65 hkσ_65 hI => ?_)
      have ahpσ_65 := hpσ_65.1
      have bhpσ_65 := hpσ_65.2.1
      have chpσ_65 := hpσ_65.2.2.1
      have dhpσ_65 := hpσ_65.2.2.2.1
      have ehpσ_65 := hpσ_65.2.2.2.2
      clear hpσ_65
      have fr_σ_65 := fr_σ.call ehpσ_65 rfl rfl
      replace hF := q_letX hF dhpσ_65
      have ks_σ_65 : q_KS (fun b g => b = a ∧ 12 ≤ g ∧ g ≤ 18) 9 X σ σ_65 := ks_σ.KS ahpσ_65 (by decide) (fun _ _ h => h)
      exact J_18_2 σ_65 _ _ ls (by first | (clear hq hm ahpσ_62 bhpσ_62 chpσ_62 c_63 ahpσ_65 dhpσ_65 ehpσ_65; omega) | omega) ks_σ_65 fr_σ_65 hF hI (lv_sub hl [0, 1] rfl)
end
/-! FROM 36.read.a.lean.txt -/
section
section QS
variable {p : Program} {l : Launch} {e : Env} {R : Room} {s : State} {m : MethodId} {args : Array Value} {below : List Frame} {meth : Method} {c : Code} {H : Heap} {locs : List Loc} {cells slots : Nat} {Q : State → Prop} {cc : ByteArray} {X : XW} {n : Nat} {σ0 σ : ST} {H0 : Heap} {pc : Nat} {ls : Array Slot} {rest : List Value} {a : Nat}
theorem gs_X12_232_12 (E : q_E p c cc s m args RX12 X) (hI : q_I X n σ0 H0 locs σ H) (ha : q_kd X a = 12) (hdg : decode cc pc = .ok (.getfield 232, 3)) (kk : W p l e R s m args below meth c H locs cells slots Q (F0 m (pc + 3) ls (.int (σ.1 a 25) :: rest))) : W p l e R s m args below meth c H locs cells slots Q (F0 m pc ls (.ref a :: rest)) :=
  q_getf (ref := "CheatHeapModel") E hI ha ⟨rfl, by decide⟩ (show vwCl[11]? = some (RX12, TX12, 46) from rfl) q_inX12 (f := 25) (by decide) (q_in_t7 (i := 10) (by first | rfl | decide +kernel) rfl) (Or.inl rfl) rfl hdg kk
theorem ps_X12_232_12 (E : q_E p c cc s m args RX12 X) (hI : q_I X n σ0 H0 locs σ H) (ha : q_kd X a = 12) {v : Int32} (hcl : n < 3) (h1 : 0 ≤ v.toInt) (h2 : v.toInt ≤ 1) (hdg : decode cc pc = .ok (.putfield 232, 3)) (kk : ∀ (H1 : Heap) (locs1 : List Loc) (σ1 : ST), σ1 = q_si σ a 25 v → q_I X n σ0 H0 locs1 σ1 H1 → W p l e R s m args below meth c H1 locs1 cells slots Q (F0 m (pc + 3) ls rest)) : W p l e R s m args below meth c H locs cells slots Q (F0 m pc ls (.int v :: .ref a :: rest)) :=
  q_puti (ref := "CheatHeapModel") E hI ha ⟨rfl, by decide⟩ (show vwCl[11]? = some (RX12, TX12, 46) from rfl) q_inX12 tyX12_ok nmX12 (f := 25) (by decide) (q_in_t7 (i := 10) (by first | rfl | decide +kernel) rfl) (Or.inl rfl) rfl rfl hcl hdg (q_inB rfl h1 h2) (Or.inr ⟨rfl, h1, h2⟩) (fun H1 l1 h => kk H1 l1 _ rfl h)
theorem gs_X12_236_12 (E : q_E p c cc s m args RX12 X) (hI : q_I X n σ0 H0 locs σ H) (ha : q_kd X a = 12) (hdg : decode cc pc = .ok (.getfield 236, 3)) (kk : W p l e R s m args below meth c H locs cells slots Q (F0 m (pc + 3) ls (.int (σ.1 a 26) :: rest))) : W p l e R s m args below meth c H locs cells slots Q (F0 m pc ls (.ref a :: rest)) :=
  q_getf (ref := "CheatHeapModel") E hI ha ⟨rfl, by decide⟩ (show vwCl[11]? = some (RX12, TX12, 46) from rfl) q_inX12 (f := 26) (by decide) (q_in_t7 (i := 11) (by first | rfl | decide +kernel) rfl) (Or.inl rfl) rfl hdg kk
theorem ps_X12_236_12 (E : q_E p c cc s m args RX12 X) (hI : q_I X n σ0 H0 locs σ H) (ha : q_kd X a = 12) {v : Int32} (hcl : n < 3) (h1 : 0 ≤ v.toInt) (h2 : v.toInt ≤ 1) (hdg : decode cc pc = .ok (.putfield 236, 3)) (kk : ∀ (H1 : Heap) (locs1 : List Loc) (σ1 : ST), σ1 = q_si σ a 26 v → q_I X n σ0 H0 locs1 σ1 H1 → W p l e R s m args below meth c H1 locs1 cells slots Q (F0 m (pc + 3) ls rest)) : W p l e R s m args below meth c H locs cells slots Q (F0 m pc ls (.int v :: .ref a :: rest)) :=
  q_puti (ref := "CheatHeapModel") E hI ha ⟨rfl, by decide⟩ (show vwCl[11]? = some (RX12, TX12, 46) from rfl) q_inX12 tyX12_ok nmX12 (f := 26) (by decide) (q_in_t7 (i := 11) (by first | rfl | decide +kernel) rfl) (Or.inl rfl) rfl rfl hcl hdg (q_inB rfl h1 h2) (Or.inr ⟨rfl, h1, h2⟩) (fun H1 l1 h => kk H1 l1 _ rfl h)
theorem kv_X12_223 : q_okV RX12 223 RX12 yX12_count cX12_count 4 (some .int) 2 := ⟨(q_in_t7 (i := 231) (by first | rfl | decide +kernel) rfl), (q_in_t7 (i := 233) (by first | rfl | decide +kernel) rfl), (q_in_p (i := 50) (by decide +kernel) rfl), (q_in_t1 (i := 14) (by first | rfl | decide +kernel) rfl), (q_in_t7 (i := 234) (by first | rfl | decide +kernel) rfl), ⟨rfl, by decide, by decide, rfl⟩⟩
theorem kv_X12_226 : q_okV RX12 226 RX12 yX12_readTold cX12_readTold 3 (some .int) 1 := ⟨(q_in_t8 (i := 79) (by first | rfl | decide +kernel) rfl), (q_in_t8 (i := 81) (by first | rfl | decide +kernel) rfl), (q_in_p (i := 71) (by decide +kernel) rfl), (q_in_t1 (i := 14) (by first | rfl | decide +kernel) rfl), (q_in_t8 (i := 82) (by first | rfl | decide +kernel) rfl), ⟨rfl, by decide, by decide, rfl⟩⟩
theorem gs_X12_41_12 (E : q_E p c cc s m args RX12 X) (hI : q_I X n σ0 H0 locs σ H) (ha : q_kd X a = 12) (hdg : decode cc pc = .ok (.getfield 41, 3)) (kk : W p l e R s m args below meth c H locs cells slots Q (F0 m (pc + 3) ls (.ref (q_rf X a 22) :: rest))) : W p l e R s m args below meth c H locs cells slots Q (F0 m pc ls (.ref a :: rest)) :=
  q_getf (ref := "CheatHeapModel") E hI ha ⟨rfl, by decide⟩ (show vwCl[11]? = some (RX12, TX12, 46) from rfl) q_inX12 (f := 22) (by decide) (q_in_t7 (i := 7) (by first | rfl | decide +kernel) rfl) (Or.inl rfl) rfl hdg kk
theorem kv_X12_229 : q_okV RX12 229 RX12 yX12_toldOf cX12_toldOf 4 (some .int) 1 := ⟨(q_in_t8 (i := 83) (by first | rfl | decide +kernel) rfl), (q_in_t8 (i := 85) (by first | rfl | decide +kernel) rfl), (q_in_p (i := 72) (by decide +kernel) rfl), (q_in_t1 (i := 14) (by first | rfl | decide +kernel) rfl), (q_in_t8 (i := 86) (by first | rfl | decide +kernel) rfl), ⟨rfl, by decide, by decide, rfl⟩⟩
end QS
end
/-! FROM 36.read.b00.lean.txt -/
section
set_option maxRecDepth 100000 in
set_option maxHeartbeats 4000000 in
theorem c_X12_toldOf (l : Launch) (X : XW) (σ : ST) (a : Nat) (v1 : Int32) (ha : q_kd X a = 12) (h0 : 0 ≤ v1.toInt) (h1 : v1.toInt ≤ 9) (hN : m_N (m_c X σ a)) : Met l yX12_toldOf (q_ws yX12_toldOf cX12_toldOf 4 (some .int)) (q_rm 0 0) (q_P X σ [.ref a, .int v1]) (q_Qi X 9 σ (fun (r : Int32) (σ' : ST) => σ' = σ ∧ (r.toInt = m_sum (m_c X σ a) 3720 v1.toInt) ∧ r = F_X12_toldOf X σ a v1)) 0 0 (q_reg X) := by
  refine q_met 9 (by first | exact rfl | decide +kernel) rfl (Nat.le_of_ble_eq_true rfl) (fun p e s m below meth c E hml hr hlk hI ls hl => ?_)
  have hx := E.1
  have hb := E.2.1
  have hl : lv_has ls 4 [(0, .ref a), (1, .int v1)] := hl
  obtain ⟨out, hout⟩ : ∃ o, o = F_X12_toldOf X σ a v1 := ⟨_, rfl⟩
  have hF := hout.symm
  unfold F_X12_toldOf at hF
  refine lv_iconst (v := 0) hx hb dX12_toldOf_0 zki_0 ?_
  refine lv_istore_n (lv' := [(2, .int 0), (0, .ref a), (1, .int v1)]) hx hb dX12_toldOf_1 rfl hl (by decide) rfl (fun ls hl => ?_)
  refine lv_iconst (v := 0) hx hb dX12_toldOf_2 zki_0 ?_
  refine lv_istore_n (lv' := [(3, .int 0), (2, .int 0), (0, .ref a), (1, .int v1)]) hx hb dX12_toldOf_3 rfl hl (by decide) rfl (fun ls hl => ?_)
  have L_4_3 : ∀ (k_3 : Nat) (x_1 : Int32) (x_2 : Int32) (H : Heap) (locs : List Loc) (ls : Array Slot), (2147483647 - x_2.toInt).toNat < k_3 → (0 ≤ x_2.toInt ∧ x_2.toInt ≤ 6) → (x_1.toInt = m_ps (m_c X σ a) v1.toInt x_2.toInt.toNat) → (F_X12_toldOf_L4_1 X v1 σ a k_3 x_1 x_2 = out) → q_I X 9 σ s.heap locs σ H → lv_has ls 4 [(0, .ref a), (1, .int v1), (2, .int x_1), (3, .int x_2)] → W p l e (q_rm 0 0) s m ([.ref a, .int v1] : List Value).toArray below meth c H locs 0 0 (MQ below (q_Qi X 9 σ (fun (r : Int32) (σ' : ST) => σ' = σ ∧ (r.toInt = m_sum (m_c X σ a) 3720 v1.toInt) ∧ r = F_X12_toldOf X σ a v1)) ([.ref a, .int v1] : List Value).toArray s 0 0 (q_reg X)) (F0 m 4 ls []) := by
    clear hF
    intro k_3
    induction k_3 with
    | zero =>
      intro x_1 x_2 H locs ls hms
      exact absurd hms (Nat.not_lt_zero _)
    | succ k_3 ih4 =>
      intro x_1 x_2 H locs ls hm4 hge4 hps hF hI hl
      replace hF := (F_X12_toldOf_L4_1_s).symm.trans hF
      unfold F_X12_toldOf_B4_1 at hF
      have pb := m_ps_bd hN ⟨h0, by omega⟩ x_2.toInt.toNat (by first | (clear h0 h1 hm4; omega) | omega)
      have pc := fun h => m_ps_bd hN ⟨h0, by omega⟩ (x_2.toInt + 1).toNat h
      have ps := m_ps_succ (m_c X σ a) v1.toInt x_2.toInt hge4.1
      refine lv_iload_n hx hb dX12_toldOf_4 rfl (lv_at hl 3 rfl) ?_
      refine lv_bipush (v := 6) hx hb dX12_toldOf_5 zkb_6 ?_
      have gc_4_x_2 := q_rng x_2
      refine q_icmp_ge (A := x_2.toInt) (B := 6) E rfl (by decide) (tgt := 34) dX12_toldOf_7 (by decide) (fun c_4 => ?_) (fun c_4 => ?_)
      · skip
        replace hF := q_ifn hF (Int.not_lt.mpr c_4)
        skip
        refine lv_iload_n hx hb dX12_toldOf_34 rfl (lv_at hl 2 rfl) ?_
        exact q_reti E hr hlk hI ⟨rfl, (by rw [← m_ps_6]; have q : x_2.toInt.toNat = 6 := (by first | (clear h0 h1 hm4 pc ps gc_4_x_2; omega) | omega); rw [q] at hps; exact hps), (hF.trans hout)⟩ dX12_toldOf_35
      · skip
        replace hF := q_ifp hF c_4
        refine lv_iload_n hx hb dX12_toldOf_10 rfl (lv_at hl 2 rfl) ?_
        refine lv_aload_n hx hb dX12_toldOf_11 rfl (lv_at hl 0 rfl) ?_
        refine gs_X12_35_12 E hI ha dX12_toldOf_12 ?_
        refine lv_sipush (v := 3754) hx hb dX12_toldOf_15 zks_3754 ?_
        refine lv_bipush (v := 10) hx hb dX12_toldOf_18 zkb_10 ?_
        refine lv_iload_n hx hb dX12_toldOf_20 rfl (lv_at hl 3 rfl) ?_
        refine lv_imul hx hb dX12_toldOf_21 ?_
        refine lv_topi (fun z_5 ez_5 => ?_)
        replace hF := q_letX hF ez_5
        have iz_5 := q_mulI (A := 10) (B := x_2.toInt) ez_5 (by decide) rfl (by first | (clear h0 h1 hm4 pc ps gc_4_x_2; omega) | omega) (by first | (clear h0 h1 hm4 pc ps gc_4_x_2; omega) | omega)
        refine lv_iadd hx hb dX12_toldOf_22 ?_
        refine lv_topi (fun z_6 ez_6 => ?_)
        replace hF := q_letX hF ez_6
        have iz_6 := q_addI (A := 3754) (B := (10 * x_2.toInt)) ez_6 (by decide) iz_5 (by first | (clear h0 h1 hm4 pc ps gc_4_x_2 iz_5; omega) | omega) (by first | (clear h0 h1 hm4 pc ps gc_4_x_2 iz_5; omega) | omega)
        refine lv_iload_n hx hb dX12_toldOf_23 rfl (lv_at hl 1 rfl) ?_
        refine lv_iadd hx hb dX12_toldOf_24 ?_
        refine lv_topi (fun z_7 ez_7 => ?_)
        replace hF := q_letX hF ez_7
        have iz_7 := q_addI (A := (3754 + (10 * x_2.toInt))) (B := v1.toInt) ez_7 iz_6 rfl (by first | (clear h0 h1 hm4 pc ps gc_4_x_2 iz_5 iz_6; omega) | omega) (by first | (clear h0 h1 hm4 pc ps gc_4_x_2 iz_5 iz_6; omega) | omega)
        refine q_iald E hI (q_tk (k' := 34) hI ha rfl (Nat.succ_ne_zero _)) ⟨by decide, rfl⟩ (by first | (clear h0 h1 hm4 pc ps gc_4_x_2 iz_5 iz_6; omega) | omega) (by rw [q_lnk (v := 4650) hI (q_tk (k' := 34) hI ha rfl (Nat.succ_ne_zero _)) rfl (by decide)]; omega) dX12_toldOf_25 ?_
        refine lv_topi (fun f_8 ef_8 => ?_)
        replace hF := q_letX hF ef_8
        have if_8 : f_8.toInt = m_c X σ a ((3754 + (10 * x_2.toInt)) + v1.toInt) := m_rd ef_8 iz_7
        have pcx := pc (by first | (clear h0 h1 hm4 pc ps gc_4_x_2 iz_5 iz_6 iz_7 if_8; omega) | omega)
        rw [ps] at pcx
        refine lv_iadd hx hb dX12_toldOf_26 ?_
        refine lv_topi (fun z_9 ez_9 => ?_)
        replace hF := q_letX hF ez_9
        have iz_9 := q_addI (A := x_1.toInt) (B := (m_c X σ a ((3754 + (10 * x_2.toInt)) + v1.toInt))) ez_9 rfl if_8 (by first | (clear h0 h1 hm4 hge4 pc gc_4_x_2 c_4 iz_5 iz_6 iz_7 if_8; omega) | omega) (by first | (clear h0 h1 hm4 hge4 pc gc_4_x_2 c_4 iz_5 iz_6 iz_7 if_8; omega) | omega)
        refine lv_istore_n (lv' := [(2, .int z_9), (0, .ref a), (1, .int v1), (3, .int x_2)]) hx hb dX12_toldOf_27 rfl hl (by decide) rfl (fun ls hl => ?_)
        obtain ⟨z_10, ez_10⟩ : ∃ y : Int32, y = x_2 + 1 := ⟨_, rfl⟩
        replace hF := q_letX hF ez_10
        refine lv_iinc (v := z_10) (lv' := [(3, .int z_10), (2, .int z_9), (0, .ref a), (1, .int v1)]) hx hb dX12_toldOf_28 hl (k := 3) rfl (by rw [ez_10]; rfl) (by decide) rfl (fun ls hl => ?_)
        have iz_10 : z_10.toInt = x_2.toInt + 1 := q_inc ez_10 (by first | (clear h0 h1 hm4 pc ps gc_4_x_2 iz_5 iz_6 iz_7 if_8 pcx iz_9; omega) | omega)
        have pz := ps
        rw [← iz_10] at pz
        refine lv_goto (tgt := 4) hx hb dX12_toldOf_31 (by decide) ?_
        exact ih4 z_9 z_10 _ _ ls (by first | (clear h0 h1 ps gc_4_x_2 iz_5 iz_6 iz_7 if_8 pcx iz_9 pz; omega) | omega) (by first | (clear h0 h1 hm4 pc ps gc_4_x_2 iz_5 iz_6 iz_7 if_8 pcx iz_9 pz; omega) | omega) (by first | (clear h0 h1 hm4 hge4 pc gc_4_x_2 c_4 iz_5 iz_6 iz_7 if_8 pcx iz_10; omega) | omega) hF hI (lv_sub hl [2, 3, 1, 0] rfl)
  exact L_4_3 ((2147483647 - (0 : Int32).toInt).toNat + 1) 0 0 _ _ ls (Nat.lt_succ_self _) (by decide) rfl hF hI (lv_sub hl [2, 3, 1, 0] rfl)

set_option maxRecDepth 100000 in
set_option maxHeartbeats 4000000 in
theorem c_X12_readLaw (l : Launch) (X : XW) (σ : ST) (a : Nat) (ha : q_kd X a = 12) (hs : 0 ≤ (σ.1 a 15).toInt ∧ (σ.1 a 15).toInt ≤ (σ.1 a 16).toInt ∧ (σ.1 a 16).toInt ≤ (σ.1 a 9).toInt ∧ (σ.1 a 9).toInt ≤ 900 ∧ 0 ≤ (σ.1 a 14).toInt ∧ (σ.1 a 14).toInt ≤ 4 ∧ (σ.1 a 14).toInt ≤ 4 * ((σ.1 a 16).toInt - (σ.1 a 15).toInt) ∧ (σ.1 a 14).toInt ≤ 4 * ((σ.1 a 9).toInt - (σ.1 a 15).toInt) ∧ 0 ≤ (σ.1 a 12).toInt) (hN : m_N (m_c X σ a)) (hz : (σ.1 a 12).toInt = 0) (hk : 2 ≤ m_c X σ a 3720) (h4 : 1 ≤ m_c X σ a 3724) : Met l yX12_readLaw (q_ws yX12_readLaw cX12_readLaw 1 none) (q_rm 3 63) (q_P X σ [.ref a]) (q_Qv X 1 σ (fun (σ' : ST) => (m_N (m_c X σ' a)) ∧ (∀ j, 0 ≤ j → j < 3720 → m_c X σ' a j = m_c X σ a j) ∧ (0 ≤ (σ'.1 a 15).toInt ∧ (σ'.1 a 15).toInt ≤ (σ'.1 a 16).toInt ∧ (σ'.1 a 16).toInt ≤ (σ'.1 a 9).toInt ∧ (σ'.1 a 9).toInt ≤ 900 ∧ 0 ≤ (σ'.1 a 14).toInt ∧ (σ'.1 a 14).toInt ≤ 4 ∧ (σ'.1 a 14).toInt ≤ 4 * ((σ'.1 a 16).toInt - (σ'.1 a 15).toInt) ∧ (σ'.1 a 14).toInt ≤ 4 * ((σ'.1 a 9).toInt - (σ'.1 a 15).toInt) ∧ 0 ≤ (σ'.1 a 12).toInt ∧ (σ'.1 a 9).toInt = (σ.1 a 9).toInt ∧ (σ.1 a 15).toInt ≤ (σ'.1 a 15).toInt ∧ (σ.1 a 12).toInt ≤ (σ'.1 a 12).toInt) ∧ ((σ.1 a 16).toInt ≤ (σ'.1 a 15).toInt + 1000 * (σ'.1 a 12).toInt) ∧ (m_c X σ' a 3720 = m_c X σ a 3720 ∧ m_c X σ' a 3721 = m_c X σ a 3721) ∧ (1 ≤ m_c X σ' a 3724 + 10 * (σ'.1 a 12).toInt) ∧ σ' = F_X12_readLaw X σ a ∧ q_ow [(12, 12), (12, 13), (12, 14), (12, 15), (12, 16), (12, 17), (12, 18), (12, 25), (34, 99)] [(12, 19)] X σ σ')) 0 0 (q_reg X) := by
  refine q_met 1 (by first | exact rfl | decide +kernel) rfl (Nat.le_of_ble_eq_true rfl) (fun p e s m below meth c E hml hr hlk hI ls hl => ?_)
  have hx := E.1
  have hb := E.2.1
  have hl : lv_has ls 1 [(0, .ref a)] := hl
  have nnσ : m_N (m_c X σ a) := hN
  have kpσ : ∀ j, 0 ≤ j → j < 3720 → m_c X σ a j = m_c X σ a j := fun _ _ _ => rfl
  have k3σ : m_c X σ a 3720 = m_c X σ a 3720 ∧ m_c X σ a 3721 = m_c X σ a 3721 := ⟨rfl, rfl⟩
  have k4σ : 1 ≤ m_c X σ a 3724 + 10 * (σ.1 a 12).toInt := (by first | (clear hs hk h4 k3σ; omega) | omega)
  have smσ : 0 ≤ (σ.1 a 15).toInt ∧ (σ.1 a 15).toInt ≤ (σ.1 a 16).toInt ∧ (σ.1 a 16).toInt ≤ (σ.1 a 9).toInt ∧ (σ.1 a 9).toInt ≤ 900 ∧ 0 ≤ (σ.1 a 14).toInt ∧ (σ.1 a 14).toInt ≤ 4 ∧ (σ.1 a 14).toInt ≤ 4 * ((σ.1 a 16).toInt - (σ.1 a 15).toInt) ∧ (σ.1 a 14).toInt ≤ 4 * ((σ.1 a 9).toInt - (σ.1 a 15).toInt) ∧ 0 ≤ (σ.1 a 12).toInt ∧ (σ.1 a 9).toInt = (σ.1 a 9).toInt ∧ (σ.1 a 15).toInt ≤ (σ.1 a 15).toInt ∧ (σ.1 a 12).toInt ≤ (σ.1 a 12).toInt := (by first | (clear hk h4 k3σ k4σ; omega) | omega)
  have beσ : (σ.1 a 16).toInt = (σ.1 a 16).toInt := rfl
  have fr_σ : q_ow [(12, 12), (12, 13), (12, 14), (12, 15), (12, 16), (12, 17), (12, 18), (12, 25), (34, 99)] [(12, 19)] X σ σ := q_ow.rf
  obtain ⟨out, hout⟩ : ∃ o, o = F_X12_readLaw X σ a := ⟨_, rfl⟩
  have hF := hout.symm
  unfold F_X12_readLaw at hF
  refine lv_aload_n hx hb dX12_readLaw_0 rfl (lv_at hl 0 rfl) ?_
  refine gs_X12_232_12 E hI ha dX12_readLaw_1 ?_
  refine lv_topi (fun f_1 ef_1 => ?_)
  replace hF := q_letX hF ef_1
  have if_1 : f_1.toInt = (σ.1 a 25).toInt := congrArg Int32.toInt ef_1
  have bf_1 : 0 ≤ f_1.toInt ∧ f_1.toInt ≤ 1 := by rw [ef_1]; exact q_bd hI ha rfl
  refine q_if_eq (A := f_1.toInt) E rfl (tgt := 16) dX12_readLaw_4 (by decide) (fun c_2 => ?_) (fun c_2 => ?_)
  · skip
    replace hF := q_ifp hF c_2
    refine lv_aload_n hx hb dX12_readLaw_16 rfl (lv_at hl 0 rfl) ?_
    refine gs_X12_187_12 E hI ha dX12_readLaw_17 ?_
    refine lv_topi (fun f_3 ef_3 => ?_)
    replace hF := q_letX hF ef_3
    have if_3 : f_3.toInt = (σ.1 a 12).toInt := congrArg Int32.toInt ef_3
    refine q_if_le (A := f_3.toInt) E rfl (tgt := 24) dX12_readLaw_20 (by decide) (fun c_4 => ?_) (fun c_4 => ?_)
    · skip
      replace hF := q_ifn hF (Int.not_lt.mpr c_4)
      refine lv_aload_n hx hb dX12_readLaw_24 rfl (lv_at hl 0 rfl) ?_
      refine lv_iconst (v := 1) hx hb dX12_readLaw_25 zki_1 ?_
      refine ps_X12_232_12 E hI ha (by decide) (by decide) (by decide) dX12_readLaw_26 (fun H locs σ_5 hσ_5 hI => ?_)
      replace hF := q_letX hF hσ_5
      have fr_σ_5 := fr_σ.si hσ_5 ha rfl
      have mv9_σ_5 : (σ_5.1 a 9).toInt = (σ.1 a 9).toInt := congrArg Int32.toInt (q_rdn hσ_5 (Or.inr (by decide)))
      have mv12_σ_5 : (σ_5.1 a 12).toInt = (σ.1 a 12).toInt := congrArg Int32.toInt (q_rdn hσ_5 (Or.inr (by decide)))
      have mv14_σ_5 : (σ_5.1 a 14).toInt = (σ.1 a 14).toInt := congrArg Int32.toInt (q_rdn hσ_5 (Or.inr (by decide)))
      have mv15_σ_5 : (σ_5.1 a 15).toInt = (σ.1 a 15).toInt := congrArg Int32.toInt (q_rdn hσ_5 (Or.inr (by decide)))
      have mv16_σ_5 : (σ_5.1 a 16).toInt = (σ.1 a 16).toInt := congrArg Int32.toInt (q_rdn hσ_5 (Or.inr (by decide)))
      have mcσ_5 := m_wo hσ_5 (m_ne ha (q_tk (f := 20) (k' := 34) hI ha rfl (by decide)) (by decide))
      have nnσ_5 : m_N (m_c X σ_5 a) := m_N.ext mcσ_5 nnσ
      have kpσ_5 : ∀ j, 0 ≤ j → j < 3720 → m_c X σ_5 a j = m_c X σ a j := fun j h0 h1 => (mcσ_5 j).trans (kpσ j h0 h1)
      have k3σ_5 : m_c X σ_5 a 3720 = m_c X σ a 3720 ∧ m_c X σ_5 a 3721 = m_c X σ a 3721 := ⟨(mcσ_5 3720).trans k3σ.1, (mcσ_5 3721).trans k3σ.2⟩
      have k4σ_5 : 1 ≤ m_c X σ_5 a 3724 + 10 * (σ_5.1 a 12).toInt := (by have := mcσ_5 3724; omega)
      have smσ_5 : 0 ≤ (σ_5.1 a 15).toInt ∧ (σ_5.1 a 15).toInt ≤ (σ_5.1 a 16).toInt ∧ (σ_5.1 a 16).toInt ≤ (σ_5.1 a 9).toInt ∧ (σ_5.1 a 9).toInt ≤ 900 ∧ 0 ≤ (σ_5.1 a 14).toInt ∧ (σ_5.1 a 14).toInt ≤ 4 ∧ (σ_5.1 a 14).toInt ≤ 4 * ((σ_5.1 a 16).toInt - (σ_5.1 a 15).toInt) ∧ (σ_5.1 a 14).toInt ≤ 4 * ((σ_5.1 a 9).toInt - (σ_5.1 a 15).toInt) ∧ 0 ≤ (σ_5.1 a 12).toInt ∧ (σ_5.1 a 9).toInt = (σ.1 a 9).toInt ∧ (σ.1 a 15).toInt ≤ (σ_5.1 a 15).toInt ∧ (σ.1 a 12).toInt ≤ (σ_5.1 a 12).toInt := (by first | (rw [mv12_σ_5, mv14_σ_5, mv15_σ_5, mv16_σ_5, mv9_σ_5]; exact smσ) | omega)
      have beσ_5 : (σ_5.1 a 16).toInt = (σ.1 a 16).toInt := (by omega)
      clear mv9_σ_5 mv12_σ_5 mv14_σ_5 mv15_σ_5 mv16_σ_5 k4σ smσ beσ
      refine lv_aload_n hx hb dX12_readLaw_29 rfl (lv_at hl 0 rfl) ?_
      refine q_cv (q_rV11_0 (rest := []) E (hml.trans hl.1.symm) hI (c_X12_next l X σ_5 a ha (by first | (clear hz hk h4 k3σ if_1 bf_1 c_2 if_3 c_4 k3σ_5 k4σ_5 smσ_5; omega) | omega) (by first | (clear hs hz hk h4 k3σ if_1 bf_1 c_2 if_3 c_4 k3σ_5 k4σ_5 beσ_5; omega) | omega) (by first | (clear hz hk h4 k3σ if_1 bf_1 c_2 if_3 c_4 k3σ_5 k4σ_5 beσ_5; omega) | omega)) kv_X12_197 ha ⟨Nat.le_of_ble_eq_true rfl, Nat.le_of_ble_eq_true rfl⟩ (Nat.le_of_ble_eq_true rfl) dX12_readLaw_30) hI (Nat.le_of_ble_eq_true rfl) (fun σ_7 H locs hpσ_7 hkσ_7 hI => ?_)
      have ahpσ_7 := hpσ_7.1
      have bhpσ_7 := hpσ_7.2.1
      have chpσ_7 := hpσ_7.2.2.1
      have dhpσ_7 := hpσ_7.2.2.2.1
      have ehpσ_7 := hpσ_7.2.2.2.2
      clear hpσ_7
      have fr_σ_7 := fr_σ_5.call ehpσ_7 rfl rfl
      replace hF := q_letX hF dhpσ_7
      have mcσ_7 := m_cK hkσ_7 hI.1 ha (by decide)
      have nnσ_7 : m_N (m_c X σ_7 a) := m_N.ext mcσ_7 nnσ_5
      have kpσ_7 : ∀ j, 0 ≤ j → j < 3720 → m_c X σ_7 a j = m_c X σ a j := fun j h0 h1 => (mcσ_7 j).trans (kpσ_5 j h0 h1)
      have k3σ_7 : m_c X σ_7 a 3720 = m_c X σ a 3720 ∧ m_c X σ_7 a 3721 = m_c X σ a 3721 := ⟨(mcσ_7 3720).trans k3σ_5.1, (mcσ_7 3721).trans k3σ_5.2⟩
      have k4σ_7 : 1 ≤ m_c X σ_7 a 3724 + 10 * (σ_7.1 a 12).toInt := (by have := mcσ_7 3724; omega)
      have smσ_7 : 0 ≤ (σ_7.1 a 15).toInt ∧ (σ_7.1 a 15).toInt ≤ (σ_7.1 a 16).toInt ∧ (σ_7.1 a 16).toInt ≤ (σ_7.1 a 9).toInt ∧ (σ_7.1 a 9).toInt ≤ 900 ∧ 0 ≤ (σ_7.1 a 14).toInt ∧ (σ_7.1 a 14).toInt ≤ 4 ∧ (σ_7.1 a 14).toInt ≤ 4 * ((σ_7.1 a 16).toInt - (σ_7.1 a 15).toInt) ∧ (σ_7.1 a 14).toInt ≤ 4 * ((σ_7.1 a 9).toInt - (σ_7.1 a 15).toInt) ∧ 0 ≤ (σ_7.1 a 12).toInt ∧ (σ_7.1 a 9).toInt = (σ.1 a 9).toInt ∧ (σ.1 a 15).toInt ≤ (σ_7.1 a 15).toInt ∧ (σ.1 a 12).toInt ≤ (σ_7.1 a 12).toInt := (by first | exact sm_nx smσ_5 bhpσ_7 chpσ_7 | omega)
      have onσ_7 : (σ.1 a 16).toInt ≤ (σ_7.1 a 15).toInt := (by first | (clear hs hz hk h4 k3σ if_1 bf_1 c_2 if_3 c_4 k3σ_5 k4σ_5 smσ_5 ahpσ_7 bhpσ_7 dhpσ_7 ehpσ_7 k3σ_7 k4σ_7 smσ_7; omega) | omega)
      clear k4σ_5 smσ_5 bhpσ_7 chpσ_7
      refine lv_aload_n hx hb dX12_readLaw_33 rfl (lv_at hl 0 rfl) ?_
      refine gs_X12_35_12 E hI ha dX12_readLaw_34 ?_
      refine lv_sipush (v := 3723) hx hb dX12_readLaw_37 zks_3723 ?_
      refine lv_iconst (v := 0) hx hb dX12_readLaw_40 zki_0 ?_
      refine lv_aload_n hx hb dX12_readLaw_41 rfl (lv_at hl 0 rfl) ?_
      refine q_ci (q_rV11_0 (rest := [.int 0, .int 3723, .ref (q_rf X a 20)]) E (hml.trans hl.1.symm) hI (c_X12_lawWord l X σ_7 a ha) kv_X12_171 ha ⟨Nat.le_of_ble_eq_true rfl, Nat.le_of_ble_eq_true rfl⟩ (Nat.le_of_ble_eq_true rfl) dX12_readLaw_42) hI (Nat.le_of_ble_eq_true rfl) (fun r_8 σ_9 H locs hpσ_9 hkσ_9 hI => ?_)
      have ahpσ_9 := hpσ_9.1
      have bhpσ_9 := hpσ_9.2.1
      have chpσ_9 := hpσ_9.2.2
      clear hpσ_9
      replace hI := q_Irw ahpσ_9 hI
      replace hF := q_letX hF chpσ_9
      have kc_10 : (0 : Int32).toInt = 0 := zt_0
      refine q_ci (q_runS (As := [.int 0, .int r_8]) (rest := [.int 3723, .ref (q_rf X a 20)]) E (hml.trans hl.1.symm) hI (c_J9_max_7cf53 l X σ_7 (0 : Int32) r_8) ks_X12_220 rfl ⟨Nat.le_of_ble_eq_true rfl, Nat.le_of_ble_eq_true rfl⟩ ⟨Nat.le_refl _, Nat.le_refl _⟩ rfl (Nat.le_of_ble_eq_true rfl) dX12_readLaw_45) hI (Nat.le_of_ble_eq_true rfl) (fun r_11 σ_12 H locs hpσ_12 hkσ_12 hI => ?_)
      have ahpσ_12 := hpσ_12.1
      have bhpσ_12 := hpσ_12.2.1
      have chpσ_12 := hpσ_12.2.2
      clear hpσ_12
      replace hI := q_Irw ahpσ_12 hI
      replace hF := q_letX hF chpσ_12
      refine q_iastN E hI (q_tk (k' := 34) hI ha rfl (Nat.succ_ne_zero _)) ⟨by decide, rfl⟩ (by decide) (by rw [q_lnk (v := 4650) hI (q_tk (k' := 34) hI ha rfl (Nat.succ_ne_zero _)) rfl (by decide)]; decide) (show 1 < 2 by decide) (q_inU rfl) dX12_readLaw_48 (fun H locs σ_13 hσ_13 hI => ?_)
      replace hF := q_letX hF hσ_13
      have fr_σ_13 := fr_σ_7.si hσ_13 (q_tk (k' := 34) hI ha rfl (Nat.succ_ne_zero _)) rfl
      have mv9_σ_13 : (σ_13.1 a 9).toInt = (σ_7.1 a 9).toInt := congrArg Int32.toInt (q_rdn hσ_13 (Or.inl (m_ne ha (q_tk (k' := 34) hI ha rfl (Nat.succ_ne_zero _)) (by decide))))
      have mv12_σ_13 : (σ_13.1 a 12).toInt = (σ_7.1 a 12).toInt := congrArg Int32.toInt (q_rdn hσ_13 (Or.inl (m_ne ha (q_tk (k' := 34) hI ha rfl (Nat.succ_ne_zero _)) (by decide))))
      have mv14_σ_13 : (σ_13.1 a 14).toInt = (σ_7.1 a 14).toInt := congrArg Int32.toInt (q_rdn hσ_13 (Or.inl (m_ne ha (q_tk (k' := 34) hI ha rfl (Nat.succ_ne_zero _)) (by decide))))
      have mv15_σ_13 : (σ_13.1 a 15).toInt = (σ_7.1 a 15).toInt := congrArg Int32.toInt (q_rdn hσ_13 (Or.inl (m_ne ha (q_tk (k' := 34) hI ha rfl (Nat.succ_ne_zero _)) (by decide))))
      have mv16_σ_13 : (σ_13.1 a 16).toInt = (σ_7.1 a 16).toInt := congrArg Int32.toInt (q_rdn hσ_13 (Or.inl (m_ne ha (q_tk (k' := 34) hI ha rfl (Nat.succ_ne_zero _)) (by decide))))
      have mcσ_13 := m_wr (v := r_11) (A := 3723) hσ_13 (by decide) (by decide)
      have nnσ_13 : m_N (m_c X σ_13 a) := m_N.wr nnσ_7 mcσ_13 (by first | (clear hs hz hk h4 k3σ if_1 bf_1 c_2 if_3 c_4 k3σ_5 beσ_5 ahpσ_7 dhpσ_7 ehpσ_7 k3σ_7 k4σ_7 smσ_7 onσ_7 ahpσ_9 chpσ_9 ahpσ_12 chpσ_12 mv9_σ_13 mv12_σ_13 mv14_σ_13 mv15_σ_13 mv16_σ_13; omega) | omega)
      have kpσ_13 : ∀ j, 0 ≤ j → j < 3720 → m_c X σ_13 a j = m_c X σ a j := fun j h0 h1 => by rw [mcσ_13 j h0, if_neg (by first | (clear hs hz hk h4 k3σ if_1 bf_1 c_2 if_3 c_4 k3σ_5 beσ_5 ahpσ_7 dhpσ_7 ehpσ_7 k3σ_7 k4σ_7 smσ_7 onσ_7 ahpσ_9 bhpσ_9 chpσ_9 kc_10 ahpσ_12 bhpσ_12 chpσ_12 mv9_σ_13 mv12_σ_13 mv14_σ_13 mv15_σ_13 mv16_σ_13; omega) | omega)]; exact kpσ_7 j h0 h1
      have k3σ_13 : m_c X σ_13 a 3720 = m_c X σ a 3720 ∧ m_c X σ_13 a 3721 = m_c X σ a 3721 := ⟨by rw [mcσ_13 3720 (by decide), if_neg (by first | (clear hs hz hk h4 k3σ if_1 bf_1 c_2 if_3 c_4 k3σ_5 beσ_5 ahpσ_7 dhpσ_7 ehpσ_7 k3σ_7 k4σ_7 smσ_7 onσ_7 ahpσ_9 bhpσ_9 chpσ_9 kc_10 ahpσ_12 bhpσ_12 chpσ_12 mv9_σ_13 mv12_σ_13 mv14_σ_13 mv15_σ_13 mv16_σ_13; omega) | omega)]; exact k3σ_7.1, by rw [mcσ_13 3721 (by decide), if_neg (by first | (clear hs hz hk h4 k3σ if_1 bf_1 c_2 if_3 c_4 k3σ_5 beσ_5 ahpσ_7 dhpσ_7 ehpσ_7 k3σ_7 k4σ_7 smσ_7 onσ_7 ahpσ_9 bhpσ_9 chpσ_9 kc_10 ahpσ_12 bhpσ_12 chpσ_12 mv9_σ_13 mv12_σ_13 mv14_σ_13 mv15_σ_13 mv16_σ_13; omega) | omega)]; exact k3σ_7.2⟩
      have k4σ_13 : 1 ≤ m_c X σ_13 a 3724 + 10 * (σ_13.1 a 12).toInt := (by have := mcσ_13 3724 (by decide); rw [if_neg (by first | (clear hs hz hk h4 k3σ if_1 bf_1 c_2 if_3 c_4 k3σ_5 beσ_5 ahpσ_7 dhpσ_7 ehpσ_7 k3σ_7 k4σ_7 smσ_7 onσ_7 ahpσ_9 bhpσ_9 chpσ_9 kc_10 ahpσ_12 bhpσ_12 chpσ_12 mv9_σ_13 mv12_σ_13 mv14_σ_13 mv15_σ_13 mv16_σ_13 k3σ_13; omega) | omega)] at this; omega)
      have smσ_13 : 0 ≤ (σ_13.1 a 15).toInt ∧ (σ_13.1 a 15).toInt ≤ (σ_13.1 a 16).toInt ∧ (σ_13.1 a 16).toInt ≤ (σ_13.1 a 9).toInt ∧ (σ_13.1 a 9).toInt ≤ 900 ∧ 0 ≤ (σ_13.1 a 14).toInt ∧ (σ_13.1 a 14).toInt ≤ 4 ∧ (σ_13.1 a 14).toInt ≤ 4 * ((σ_13.1 a 16).toInt - (σ_13.1 a 15).toInt) ∧ (σ_13.1 a 14).toInt ≤ 4 * ((σ_13.1 a 9).toInt - (σ_13.1 a 15).toInt) ∧ 0 ≤ (σ_13.1 a 12).toInt ∧ (σ_13.1 a 9).toInt = (σ.1 a 9).toInt ∧ (σ.1 a 15).toInt ≤ (σ_13.1 a 15).toInt ∧ (σ.1 a 12).toInt ≤ (σ_13.1 a 12).toInt := (by first | (rw [mv12_σ_13, mv14_σ_13, mv15_σ_13, mv16_σ_13, mv9_σ_13]; exact smσ_7) | omega)
      have onσ_13 : (σ.1 a 16).toInt ≤ (σ_13.1 a 15).toInt := (by first | (clear hs hz hk h4 k3σ if_1 bf_1 c_2 if_3 c_4 k3σ_5 ahpσ_7 dhpσ_7 ehpσ_7 k3σ_7 k4σ_7 smσ_7 ahpσ_9 bhpσ_9 chpσ_9 kc_10 ahpσ_12 bhpσ_12 chpσ_12 mv9_σ_13 mv12_σ_13 mv14_σ_13 mv16_σ_13 k3σ_13 k4σ_13 smσ_13; omega) | omega)
      clear mv9_σ_13 mv12_σ_13 mv14_σ_13 mv15_σ_13 mv16_σ_13 k4σ_7 smσ_7 onσ_7
      refine lv_aload_n hx hb dX12_readLaw_49 rfl (lv_at hl 0 rfl) ?_
      refine lv_aload_n hx hb dX12_readLaw_50 rfl (lv_at hl 0 rfl) ?_
      refine q_ci (q_rV11_0 (rest := [.ref a]) E (hml.trans hl.1.symm) hI (c_X12_lawWord l X σ_13 a ha) kv_X12_171 ha ⟨Nat.le_of_ble_eq_true rfl, Nat.le_of_ble_eq_true rfl⟩ (Nat.le_of_ble_eq_true rfl) dX12_readLaw_51) hI (Nat.le_of_ble_eq_true rfl) (fun r_14 σ_15 H locs hpσ_15 hkσ_15 hI => ?_)
      have ahpσ_15 := hpσ_15.1
      have bhpσ_15 := hpσ_15.2.1
      have chpσ_15 := hpσ_15.2.2
      clear hpσ_15
      replace hI := q_Irw ahpσ_15 hI
      replace hF := q_letX hF chpσ_15
      refine q_if_lt (A := r_14.toInt) E rfl (tgt := 61) dX12_readLaw_54 (by decide) (fun c_16 => ?_) (fun c_16 => ?_)
      · skip
        replace hF := q_ifp hF c_16
        refine lv_iconst (v := 0) hx hb dX12_readLaw_61 zki_0 ?_
        have kc_17 : (0 : Int32).toInt = 0 := zt_0
        refine q_cv (q_rV11_1 (rest := []) E (hml.trans hl.1.symm) hI (c_X12_must l X σ_13 a (0 : Int32) ha (by first | exact sm_9 smσ_13 | exact hs | omega) (by first | (clear hs hz hk h4 k3σ if_1 bf_1 c_2 if_3 c_4 k3σ_5 beσ_5 ahpσ_7 dhpσ_7 ehpσ_7 k3σ_7 ahpσ_9 bhpσ_9 chpσ_9 ahpσ_12 bhpσ_12 chpσ_12 k3σ_13 k4σ_13 smσ_13 onσ_13 ahpσ_15 bhpσ_15 chpσ_15 c_16 kc_17; omega) | omega)) kv_X12_216 ha ⟨Nat.le_of_ble_eq_true rfl, Nat.le_of_ble_eq_true rfl⟩ (Nat.le_of_ble_eq_true rfl) dX12_readLaw_62) hI (Nat.le_of_ble_eq_true rfl) (fun σ_19 H locs hpσ_19 hkσ_19 hI => ?_)
        have ahpσ_19 := hpσ_19.1
        have bhpσ_19 := hpσ_19.2.1
        have chpσ_19 := hpσ_19.2.2.1
        have dhpσ_19 := hpσ_19.2.2.2.1
        have ehpσ_19 := hpσ_19.2.2.2.2
        clear hpσ_19
        have fr_σ_19 := fr_σ_13.call ehpσ_19 rfl rfl
        replace hF := q_letX hF dhpσ_19
        have mcσ_19 := m_cK hkσ_19 hI.1 ha (by decide)
        have nnσ_19 : m_N (m_c X σ_19 a) := m_N.ext mcσ_19 nnσ_13
        have kpσ_19 : ∀ j, 0 ≤ j → j < 3720 → m_c X σ_19 a j = m_c X σ a j := fun j h0 h1 => (mcσ_19 j).trans (kpσ_13 j h0 h1)
        have k3σ_19 : m_c X σ_19 a 3720 = m_c X σ a 3720 ∧ m_c X σ_19 a 3721 = m_c X σ a 3721 := ⟨(mcσ_19 3720).trans k3σ_13.1, (mcσ_19 3721).trans k3σ_13.2⟩
        have k4σ_19 : 1 ≤ m_c X σ_19 a 3724 + 10 * (σ_19.1 a 12).toInt := (by have := mcσ_19 3724; omega)
        have smσ_19 : 0 ≤ (σ_19.1 a 15).toInt ∧ (σ_19.1 a 15).toInt ≤ (σ_19.1 a 16).toInt ∧ (σ_19.1 a 16).toInt ≤ (σ_19.1 a 9).toInt ∧ (σ_19.1 a 9).toInt ≤ 900 ∧ 0 ≤ (σ_19.1 a 14).toInt ∧ (σ_19.1 a 14).toInt ≤ 4 ∧ (σ_19.1 a 14).toInt ≤ 4 * ((σ_19.1 a 16).toInt - (σ_19.1 a 15).toInt) ∧ (σ_19.1 a 14).toInt ≤ 4 * ((σ_19.1 a 9).toInt - (σ_19.1 a 15).toInt) ∧ 0 ≤ (σ_19.1 a 12).toInt ∧ (σ_19.1 a 9).toInt = (σ.1 a 9).toInt ∧ (σ.1 a 15).toInt ≤ (σ_19.1 a 15).toInt ∧ (σ.1 a 12).toInt ≤ (σ_19.1 a 12).toInt := (by first | exact sm_tr smσ_13 bhpσ_19 | exact sm_tr smσ_13 chpσ_19 | omega)
        have onσ_19 : (σ.1 a 16).toInt ≤ (σ_19.1 a 15).toInt := (by first | (clear hs hz hk h4 k3σ if_1 bf_1 c_2 if_3 c_4 k3σ_5 ahpσ_7 dhpσ_7 ehpσ_7 k3σ_7 ahpσ_9 bhpσ_9 chpσ_9 kc_10 ahpσ_12 bhpσ_12 chpσ_12 k3σ_13 k4σ_13 smσ_13 ahpσ_15 bhpσ_15 chpσ_15 c_16 kc_17 ahpσ_19 chpσ_19 dhpσ_19 ehpσ_19 k3σ_19 k4σ_19 smσ_19; omega) | omega)
        clear k4σ_13 smσ_13 onσ_13 bhpσ_19
        exact q_retv E hr hlk hI ⟨nnσ_19, kpσ_19, (by first | exact smσ_19 | omega), (by first | exact smσ_19 | omega), k3σ_19, k4σ_19, (hF.trans hout), fr_σ_19⟩ dX12_readLaw_65
      · skip
        replace hF := q_ifn hF (Int.not_lt.mpr c_16)
        refine lv_iconst (v := 1) hx hb dX12_readLaw_57 zki_1 ?_
        refine lv_goto (tgt := 62) hx hb dX12_readLaw_58 (by decide) ?_
        have kc_20 : (1 : Int32).toInt = 1 := zt_1
        refine q_cv (q_rV11_1 (rest := []) E (hml.trans hl.1.symm) hI (c_X12_must l X σ_13 a (1 : Int32) ha (by first | exact sm_9 smσ_13 | exact hs | omega) (by first | (clear hs hk h4 k3σ if_1 bf_1 c_2 k3σ_5 beσ_5 ahpσ_7 dhpσ_7 ehpσ_7 k3σ_7 ahpσ_9 bhpσ_9 chpσ_9 kc_10 ahpσ_12 bhpσ_12 chpσ_12 k3σ_13 ahpσ_15 bhpσ_15 chpσ_15 c_16; omega) | omega)) kv_X12_216 ha ⟨Nat.le_of_ble_eq_true rfl, Nat.le_of_ble_eq_true rfl⟩ (Nat.le_of_ble_eq_true rfl) dX12_readLaw_62) hI (Nat.le_of_ble_eq_true rfl) (fun σ_22 H locs hpσ_22 hkσ_22 hI => ?_)
        have ahpσ_22 := hpσ_22.1
        have bhpσ_22 := hpσ_22.2.1
        have chpσ_22 := hpσ_22.2.2.1
        have dhpσ_22 := hpσ_22.2.2.2.1
        have ehpσ_22 := hpσ_22.2.2.2.2
        clear hpσ_22
        have fr_σ_22 := fr_σ_13.call ehpσ_22 rfl rfl
        replace hF := q_letX hF dhpσ_22
        have mcσ_22 := m_cK hkσ_22 hI.1 ha (by decide)
        have nnσ_22 : m_N (m_c X σ_22 a) := m_N.ext mcσ_22 nnσ_13
        have kpσ_22 : ∀ j, 0 ≤ j → j < 3720 → m_c X σ_22 a j = m_c X σ a j := fun j h0 h1 => (mcσ_22 j).trans (kpσ_13 j h0 h1)
        have k3σ_22 : m_c X σ_22 a 3720 = m_c X σ a 3720 ∧ m_c X σ_22 a 3721 = m_c X σ a 3721 := ⟨(mcσ_22 3720).trans k3σ_13.1, (mcσ_22 3721).trans k3σ_13.2⟩
        have k4σ_22 : 1 ≤ m_c X σ_22 a 3724 + 10 * (σ_22.1 a 12).toInt := (by have := mcσ_22 3724; omega)
        have smσ_22 : 0 ≤ (σ_22.1 a 15).toInt ∧ (σ_22.1 a 15).toInt ≤ (σ_22.1 a 16).toInt ∧ (σ_22.1 a 16).toInt ≤ (σ_22.1 a 9).toInt ∧ (σ_22.1 a 9).toInt ≤ 900 ∧ 0 ≤ (σ_22.1 a 14).toInt ∧ (σ_22.1 a 14).toInt ≤ 4 ∧ (σ_22.1 a 14).toInt ≤ 4 * ((σ_22.1 a 16).toInt - (σ_22.1 a 15).toInt) ∧ (σ_22.1 a 14).toInt ≤ 4 * ((σ_22.1 a 9).toInt - (σ_22.1 a 15).toInt) ∧ 0 ≤ (σ_22.1 a 12).toInt ∧ (σ_22.1 a 9).toInt = (σ.1 a 9).toInt ∧ (σ.1 a 15).toInt ≤ (σ_22.1 a 15).toInt ∧ (σ.1 a 12).toInt ≤ (σ_22.1 a 12).toInt := (by first | exact sm_tr smσ_13 bhpσ_22 | exact sm_tr smσ_13 chpσ_22 | omega)
        have onσ_22 : (σ.1 a 16).toInt ≤ (σ_22.1 a 15).toInt := (by first | (clear hs hz hk h4 k3σ if_1 bf_1 c_2 if_3 c_4 k3σ_5 ahpσ_7 dhpσ_7 ehpσ_7 k3σ_7 ahpσ_9 bhpσ_9 chpσ_9 kc_10 ahpσ_12 bhpσ_12 chpσ_12 k3σ_13 ahpσ_15 bhpσ_15 chpσ_15 c_16 kc_20 ahpσ_22 chpσ_22 dhpσ_22 ehpσ_22 k3σ_22 k4σ_22 smσ_22; omega) | omega)
        clear k4σ_13 smσ_13 onσ_13 bhpσ_22
        exact q_retv E hr hlk hI ⟨nnσ_22, kpσ_22, (by first | exact smσ_22 | omega), (by first | exact smσ_22 | omega), k3σ_22, k4σ_22, (hF.trans hout), fr_σ_22⟩ dX12_readLaw_65
    · skip
      replace hF := q_ifp hF c_4
      exact q_retv E hr hlk hI ⟨nnσ, kpσ, (by first | exact smσ | omega), (by first | exact smσ | omega), k3σ, k4σ, (hF.trans hout), fr_σ⟩ dX12_readLaw_23
  · skip
    replace hF := q_ifn hF c_2
    refine lv_aload_n hx hb dX12_readLaw_7 rfl (lv_at hl 0 rfl) ?_
    refine lv_iconst (v := 5) hx hb dX12_readLaw_8 zki_5 ?_
    refine lv_aload_n hx hb dX12_readLaw_9 rfl (lv_at hl 0 rfl) ?_
    refine gs_X12_104_12 E hI ha dX12_readLaw_10 ?_
    refine lv_topi (fun f_23 ef_23 => ?_)
    replace hF := q_letX hF ef_23
    have if_23 : f_23.toInt = (σ.1 a 15).toInt := congrArg Int32.toInt ef_23
    have kc_24 : (5 : Int32).toInt = 5 := zt_5
    refine q_cv (q_rV11_2 (rest := []) E (hml.trans hl.1.symm) hI (c_X12_fail l X σ a (5 : Int32) f_23 ha (by first | (clear hs hk h4 k3σ if_1 bf_1 c_2 if_23 kc_24; omega) | omega) (by first | (clear hs hz hk h4 k3σ if_1 bf_1 c_2 if_23; omega) | omega)) kv_X12_193 ha ⟨Nat.le_of_ble_eq_true rfl, Nat.le_of_ble_eq_true rfl⟩ (Nat.le_of_ble_eq_true rfl) dX12_readLaw_13) hI (Nat.le_of_ble_eq_true rfl) (fun σ_26 H locs hpσ_26 hkσ_26 hI => ?_)
    have ahpσ_26 := hpσ_26.1
    have bhpσ_26 := hpσ_26.2.1
    have chpσ_26 := hpσ_26.2.2.1
    have dhpσ_26 := hpσ_26.2.2.2.1
    have ehpσ_26 := hpσ_26.2.2.2.2
    clear hpσ_26
    have fr_σ_26 := fr_σ.call ehpσ_26 rfl rfl
    replace hF := q_letX hF dhpσ_26
    have mcσ_26 := m_cK hkσ_26 hI.1 ha (by decide)
    have nnσ_26 : m_N (m_c X σ_26 a) := m_N.ext mcσ_26 nnσ
    have kpσ_26 : ∀ j, 0 ≤ j → j < 3720 → m_c X σ_26 a j = m_c X σ a j := fun j h0 h1 => (mcσ_26 j).trans (kpσ j h0 h1)
    have k3σ_26 : m_c X σ_26 a 3720 = m_c X σ a 3720 ∧ m_c X σ_26 a 3721 = m_c X σ a 3721 := ⟨(mcσ_26 3720).trans k3σ.1, (mcσ_26 3721).trans k3σ.2⟩
    have k4σ_26 : 1 ≤ m_c X σ_26 a 3724 + 10 * (σ_26.1 a 12).toInt := (by have := mcσ_26 3724; omega)
    have smσ_26 : 0 ≤ (σ_26.1 a 15).toInt ∧ (σ_26.1 a 15).toInt ≤ (σ_26.1 a 16).toInt ∧ (σ_26.1 a 16).toInt ≤ (σ_26.1 a 9).toInt ∧ (σ_26.1 a 9).toInt ≤ 900 ∧ 0 ≤ (σ_26.1 a 14).toInt ∧ (σ_26.1 a 14).toInt ≤ 4 ∧ (σ_26.1 a 14).toInt ≤ 4 * ((σ_26.1 a 16).toInt - (σ_26.1 a 15).toInt) ∧ (σ_26.1 a 14).toInt ≤ 4 * ((σ_26.1 a 9).toInt - (σ_26.1 a 15).toInt) ∧ 0 ≤ (σ_26.1 a 12).toInt ∧ (σ_26.1 a 9).toInt = (σ.1 a 9).toInt ∧ (σ.1 a 15).toInt ≤ (σ_26.1 a 15).toInt ∧ (σ.1 a 12).toInt ≤ (σ_26.1 a 12).toInt := (by first | exact sm_fl smσ bhpσ_26 chpσ_26 | omega)
    have beσ_26 : (σ_26.1 a 16).toInt = (σ.1 a 16).toInt := (by first | (clear hs hz hk h4 k3σ if_1 bf_1 c_2 if_23 kc_24 ahpσ_26 chpσ_26 dhpσ_26 ehpσ_26 k3σ_26 k4σ_26 smσ_26; omega) | omega)
    clear k4σ smσ beσ bhpσ_26
    refine lv_aload_n hx hb dX12_readLaw_16 rfl (lv_at hl 0 rfl) ?_
    refine gs_X12_187_12 E hI ha dX12_readLaw_17 ?_
    refine lv_topi (fun f_27 ef_27 => ?_)
    replace hF := q_letX hF ef_27
    have if_27 : f_27.toInt = (σ_26.1 a 12).toInt := congrArg Int32.toInt ef_27
    refine q_if_le (A := f_27.toInt) E rfl (tgt := 24) dX12_readLaw_20 (by decide) (fun c_28 => ?_) (fun c_28 => ?_)
    · skip
      replace hF := q_ifn hF (Int.not_lt.mpr c_28)
      refine lv_aload_n hx hb dX12_readLaw_24 rfl (lv_at hl 0 rfl) ?_
      refine lv_iconst (v := 1) hx hb dX12_readLaw_25 zki_1 ?_
      refine ps_X12_232_12 E hI ha (by decide) (by decide) (by decide) dX12_readLaw_26 (fun H locs σ_29 hσ_29 hI => ?_)
      replace hF := q_letX hF hσ_29
      have fr_σ_29 := fr_σ_26.si hσ_29 ha rfl
      have mv9_σ_29 : (σ_29.1 a 9).toInt = (σ_26.1 a 9).toInt := congrArg Int32.toInt (q_rdn hσ_29 (Or.inr (by decide)))
      have mv12_σ_29 : (σ_29.1 a 12).toInt = (σ_26.1 a 12).toInt := congrArg Int32.toInt (q_rdn hσ_29 (Or.inr (by decide)))
      have mv14_σ_29 : (σ_29.1 a 14).toInt = (σ_26.1 a 14).toInt := congrArg Int32.toInt (q_rdn hσ_29 (Or.inr (by decide)))
      have mv15_σ_29 : (σ_29.1 a 15).toInt = (σ_26.1 a 15).toInt := congrArg Int32.toInt (q_rdn hσ_29 (Or.inr (by decide)))
      have mv16_σ_29 : (σ_29.1 a 16).toInt = (σ_26.1 a 16).toInt := congrArg Int32.toInt (q_rdn hσ_29 (Or.inr (by decide)))
      have mcσ_29 := m_wo hσ_29 (m_ne ha (q_tk (f := 20) (k' := 34) hI ha rfl (by decide)) (by decide))
      have nnσ_29 : m_N (m_c X σ_29 a) := m_N.ext mcσ_29 nnσ_26
      have kpσ_29 : ∀ j, 0 ≤ j → j < 3720 → m_c X σ_29 a j = m_c X σ a j := fun j h0 h1 => (mcσ_29 j).trans (kpσ_26 j h0 h1)
      have k3σ_29 : m_c X σ_29 a 3720 = m_c X σ a 3720 ∧ m_c X σ_29 a 3721 = m_c X σ a 3721 := ⟨(mcσ_29 3720).trans k3σ_26.1, (mcσ_29 3721).trans k3σ_26.2⟩
      have k4σ_29 : 1 ≤ m_c X σ_29 a 3724 + 10 * (σ_29.1 a 12).toInt := (by have := mcσ_29 3724; omega)
      have smσ_29 : 0 ≤ (σ_29.1 a 15).toInt ∧ (σ_29.1 a 15).toInt ≤ (σ_29.1 a 16).toInt ∧ (σ_29.1 a 16).toInt ≤ (σ_29.1 a 9).toInt ∧ (σ_29.1 a 9).toInt ≤ 900 ∧ 0 ≤ (σ_29.1 a 14).toInt ∧ (σ_29.1 a 14).toInt ≤ 4 ∧ (σ_29.1 a 14).toInt ≤ 4 * ((σ_29.1 a 16).toInt - (σ_29.1 a 15).toInt) ∧ (σ_29.1 a 14).toInt ≤ 4 * ((σ_29.1 a 9).toInt - (σ_29.1 a 15).toInt) ∧ 0 ≤ (σ_29.1 a 12).toInt ∧ (σ_29.1 a 9).toInt = (σ.1 a 9).toInt ∧ (σ.1 a 15).toInt ≤ (σ_29.1 a 15).toInt ∧ (σ.1 a 12).toInt ≤ (σ_29.1 a 12).toInt := (by first | (rw [mv12_σ_29, mv14_σ_29, mv15_σ_29, mv16_σ_29, mv9_σ_29]; exact smσ_26) | omega)
      have beσ_29 : (σ_29.1 a 16).toInt = (σ.1 a 16).toInt := (by first | (clear hs hz hk h4 k3σ if_1 bf_1 c_2 if_23 kc_24 ahpσ_26 dhpσ_26 ehpσ_26 k3σ_26 k4σ_26 smσ_26 beσ_26 mv9_σ_29 mv12_σ_29 mv14_σ_29 mv15_σ_29 mv16_σ_29 k3σ_29 k4σ_29 smσ_29; omega) | omega)
      clear mv9_σ_29 mv12_σ_29 mv14_σ_29 mv15_σ_29 mv16_σ_29 k4σ_26 smσ_26 beσ_26
      refine lv_aload_n hx hb dX12_readLaw_29 rfl (lv_at hl 0 rfl) ?_
      refine q_cv (q_rV11_0 (rest := []) E (hml.trans hl.1.symm) hI (c_X12_next l X σ_29 a ha (by first | (clear hs hz hk h4 k3σ if_1 bf_1 c_2 if_23 kc_24 ahpσ_26 dhpσ_26 ehpσ_26 k3σ_26 k3σ_29 k4σ_29 smσ_29 beσ_29; omega) | omega) (by first | (clear hs hz hk h4 k3σ if_1 bf_1 c_2 if_23 kc_24 ahpσ_26 dhpσ_26 ehpσ_26 k3σ_26 k3σ_29 k4σ_29 smσ_29 beσ_29; omega) | omega) (by first | (clear hs hz hk h4 k3σ if_1 bf_1 c_2 if_23 kc_24 ahpσ_26 dhpσ_26 ehpσ_26 k3σ_26 k3σ_29 k4σ_29 smσ_29 beσ_29; omega) | omega)) kv_X12_197 ha ⟨Nat.le_of_ble_eq_true rfl, Nat.le_of_ble_eq_true rfl⟩ (Nat.le_of_ble_eq_true rfl) dX12_readLaw_30) hI (Nat.le_of_ble_eq_true rfl) (fun σ_31 H locs hpσ_31 hkσ_31 hI => ?_)
      have ahpσ_31 := hpσ_31.1
      have bhpσ_31 := hpσ_31.2.1
      have chpσ_31 := hpσ_31.2.2.1
      have dhpσ_31 := hpσ_31.2.2.2.1
      have ehpσ_31 := hpσ_31.2.2.2.2
      clear hpσ_31
      have fr_σ_31 := fr_σ_29.call ehpσ_31 rfl rfl
      replace hF := q_letX hF dhpσ_31
      have mcσ_31 := m_cK hkσ_31 hI.1 ha (by decide)
      have nnσ_31 : m_N (m_c X σ_31 a) := m_N.ext mcσ_31 nnσ_29
      have kpσ_31 : ∀ j, 0 ≤ j → j < 3720 → m_c X σ_31 a j = m_c X σ a j := fun j h0 h1 => (mcσ_31 j).trans (kpσ_29 j h0 h1)
      have k3σ_31 : m_c X σ_31 a 3720 = m_c X σ a 3720 ∧ m_c X σ_31 a 3721 = m_c X σ a 3721 := ⟨(mcσ_31 3720).trans k3σ_29.1, (mcσ_31 3721).trans k3σ_29.2⟩
      have k4σ_31 : 1 ≤ m_c X σ_31 a 3724 + 10 * (σ_31.1 a 12).toInt := (by have := mcσ_31 3724; omega)
      have smσ_31 : 0 ≤ (σ_31.1 a 15).toInt ∧ (σ_31.1 a 15).toInt ≤ (σ_31.1 a 16).toInt ∧ (σ_31.1 a 16).toInt ≤ (σ_31.1 a 9).toInt ∧ (σ_31.1 a 9).toInt ≤ 900 ∧ 0 ≤ (σ_31.1 a 14).toInt ∧ (σ_31.1 a 14).toInt ≤ 4 ∧ (σ_31.1 a 14).toInt ≤ 4 * ((σ_31.1 a 16).toInt - (σ_31.1 a 15).toInt) ∧ (σ_31.1 a 14).toInt ≤ 4 * ((σ_31.1 a 9).toInt - (σ_31.1 a 15).toInt) ∧ 0 ≤ (σ_31.1 a 12).toInt ∧ (σ_31.1 a 9).toInt = (σ.1 a 9).toInt ∧ (σ.1 a 15).toInt ≤ (σ_31.1 a 15).toInt ∧ (σ.1 a 12).toInt ≤ (σ_31.1 a 12).toInt := (by first | exact sm_nx smσ_29 bhpσ_31 chpσ_31 | omega)
      have onσ_31 : (σ.1 a 16).toInt ≤ (σ_31.1 a 15).toInt := (by first | (clear hs hz hk h4 k3σ if_1 bf_1 c_2 if_23 kc_24 ahpσ_26 dhpσ_26 ehpσ_26 k3σ_26 k3σ_29 k4σ_29 smσ_29 beσ_29 ahpσ_31 bhpσ_31 chpσ_31 dhpσ_31 ehpσ_31 k3σ_31 k4σ_31 smσ_31; omega) | omega)
      clear k4σ_29 smσ_29 bhpσ_31 chpσ_31
      refine lv_aload_n hx hb dX12_readLaw_33 rfl (lv_at hl 0 rfl) ?_
      refine gs_X12_35_12 E hI ha dX12_readLaw_34 ?_
      refine lv_sipush (v := 3723) hx hb dX12_readLaw_37 zks_3723 ?_
      refine lv_iconst (v := 0) hx hb dX12_readLaw_40 zki_0 ?_
      refine lv_aload_n hx hb dX12_readLaw_41 rfl (lv_at hl 0 rfl) ?_
      refine q_ci (q_rV11_0 (rest := [.int 0, .int 3723, .ref (q_rf X a 20)]) E (hml.trans hl.1.symm) hI (c_X12_lawWord l X σ_31 a ha) kv_X12_171 ha ⟨Nat.le_of_ble_eq_true rfl, Nat.le_of_ble_eq_true rfl⟩ (Nat.le_of_ble_eq_true rfl) dX12_readLaw_42) hI (Nat.le_of_ble_eq_true rfl) (fun r_32 σ_33 H locs hpσ_33 hkσ_33 hI => ?_)
      have ahpσ_33 := hpσ_33.1
      have bhpσ_33 := hpσ_33.2.1
      have chpσ_33 := hpσ_33.2.2
      clear hpσ_33
      replace hI := q_Irw ahpσ_33 hI
      replace hF := q_letX hF chpσ_33
      have kc_34 : (0 : Int32).toInt = 0 := zt_0
      refine q_ci (q_runS (As := [.int 0, .int r_32]) (rest := [.int 3723, .ref (q_rf X a 20)]) E (hml.trans hl.1.symm) hI (c_J9_max_7cf53 l X σ_31 (0 : Int32) r_32) ks_X12_220 rfl ⟨Nat.le_of_ble_eq_true rfl, Nat.le_of_ble_eq_true rfl⟩ ⟨Nat.le_refl _, Nat.le_refl _⟩ rfl (Nat.le_of_ble_eq_true rfl) dX12_readLaw_45) hI (Nat.le_of_ble_eq_true rfl) (fun r_35 σ_36 H locs hpσ_36 hkσ_36 hI => ?_)
      have ahpσ_36 := hpσ_36.1
      have bhpσ_36 := hpσ_36.2.1
      have chpσ_36 := hpσ_36.2.2
      clear hpσ_36
      replace hI := q_Irw ahpσ_36 hI
      replace hF := q_letX hF chpσ_36
      refine q_iastN E hI (q_tk (k' := 34) hI ha rfl (Nat.succ_ne_zero _)) ⟨by decide, rfl⟩ (by decide) (by rw [q_lnk (v := 4650) hI (q_tk (k' := 34) hI ha rfl (Nat.succ_ne_zero _)) rfl (by decide)]; decide) (show 1 < 2 by decide) (q_inU rfl) dX12_readLaw_48 (fun H locs σ_37 hσ_37 hI => ?_)
      replace hF := q_letX hF hσ_37
      have fr_σ_37 := fr_σ_31.si hσ_37 (q_tk (k' := 34) hI ha rfl (Nat.succ_ne_zero _)) rfl
      have mv9_σ_37 : (σ_37.1 a 9).toInt = (σ_31.1 a 9).toInt := congrArg Int32.toInt (q_rdn hσ_37 (Or.inl (m_ne ha (q_tk (k' := 34) hI ha rfl (Nat.succ_ne_zero _)) (by decide))))
      have mv12_σ_37 : (σ_37.1 a 12).toInt = (σ_31.1 a 12).toInt := congrArg Int32.toInt (q_rdn hσ_37 (Or.inl (m_ne ha (q_tk (k' := 34) hI ha rfl (Nat.succ_ne_zero _)) (by decide))))
      have mv14_σ_37 : (σ_37.1 a 14).toInt = (σ_31.1 a 14).toInt := congrArg Int32.toInt (q_rdn hσ_37 (Or.inl (m_ne ha (q_tk (k' := 34) hI ha rfl (Nat.succ_ne_zero _)) (by decide))))
      have mv15_σ_37 : (σ_37.1 a 15).toInt = (σ_31.1 a 15).toInt := congrArg Int32.toInt (q_rdn hσ_37 (Or.inl (m_ne ha (q_tk (k' := 34) hI ha rfl (Nat.succ_ne_zero _)) (by decide))))
      have mv16_σ_37 : (σ_37.1 a 16).toInt = (σ_31.1 a 16).toInt := congrArg Int32.toInt (q_rdn hσ_37 (Or.inl (m_ne ha (q_tk (k' := 34) hI ha rfl (Nat.succ_ne_zero _)) (by decide))))
      have mcσ_37 := m_wr (v := r_35) (A := 3723) hσ_37 (by decide) (by decide)
      have nnσ_37 : m_N (m_c X σ_37 a) := m_N.wr nnσ_31 mcσ_37 (by first | (clear hs hz hk h4 k3σ if_1 bf_1 c_2 if_23 kc_24 ahpσ_26 dhpσ_26 ehpσ_26 k3σ_26 k3σ_29 beσ_29 ahpσ_31 dhpσ_31 ehpσ_31 k3σ_31 k4σ_31 smσ_31 onσ_31 ahpσ_33 bhpσ_33 chpσ_33 kc_34 ahpσ_36 bhpσ_36 chpσ_36 mv9_σ_37 mv12_σ_37 mv14_σ_37 mv15_σ_37 mv16_σ_37; omega) | omega)
      have kpσ_37 : ∀ j, 0 ≤ j → j < 3720 → m_c X σ_37 a j = m_c X σ a j := fun j h0 h1 => by rw [mcσ_37 j h0, if_neg (by first | (clear hs hz hk h4 k3σ if_1 bf_1 c_2 if_23 kc_24 ahpσ_26 dhpσ_26 ehpσ_26 k3σ_26 k3σ_29 beσ_29 ahpσ_31 dhpσ_31 ehpσ_31 k3σ_31 k4σ_31 smσ_31 onσ_31 ahpσ_33 bhpσ_33 chpσ_33 kc_34 ahpσ_36 bhpσ_36 chpσ_36 mv9_σ_37 mv12_σ_37 mv14_σ_37 mv15_σ_37 mv16_σ_37; omega) | omega)]; exact kpσ_31 j h0 h1
      have k3σ_37 : m_c X σ_37 a 3720 = m_c X σ a 3720 ∧ m_c X σ_37 a 3721 = m_c X σ a 3721 := ⟨by rw [mcσ_37 3720 (by decide), if_neg (by first | (clear hs hz hk h4 k3σ if_1 bf_1 c_2 if_23 kc_24 ahpσ_26 dhpσ_26 ehpσ_26 k3σ_26 k3σ_29 beσ_29 ahpσ_31 dhpσ_31 ehpσ_31 k3σ_31 k4σ_31 smσ_31 onσ_31 ahpσ_33 bhpσ_33 chpσ_33 kc_34 ahpσ_36 bhpσ_36 chpσ_36 mv9_σ_37 mv12_σ_37 mv14_σ_37 mv15_σ_37 mv16_σ_37; omega) | omega)]; exact k3σ_31.1, by rw [mcσ_37 3721 (by decide), if_neg (by first | (clear hs hz hk h4 k3σ if_1 bf_1 c_2 if_23 kc_24 ahpσ_26 dhpσ_26 ehpσ_26 k3σ_26 k3σ_29 beσ_29 ahpσ_31 dhpσ_31 ehpσ_31 k3σ_31 k4σ_31 smσ_31 onσ_31 ahpσ_33 bhpσ_33 chpσ_33 kc_34 ahpσ_36 bhpσ_36 chpσ_36 mv9_σ_37 mv12_σ_37 mv14_σ_37 mv15_σ_37 mv16_σ_37; omega) | omega)]; exact k3σ_31.2⟩
      have k4σ_37 : 1 ≤ m_c X σ_37 a 3724 + 10 * (σ_37.1 a 12).toInt := (by have := mcσ_37 3724 (by decide); rw [if_neg (by first | (clear hs hz hk h4 k3σ if_1 bf_1 c_2 if_23 kc_24 ahpσ_26 dhpσ_26 ehpσ_26 k3σ_26 k3σ_29 beσ_29 ahpσ_31 dhpσ_31 ehpσ_31 k3σ_31 k4σ_31 smσ_31 onσ_31 ahpσ_33 bhpσ_33 chpσ_33 kc_34 ahpσ_36 bhpσ_36 chpσ_36 mv9_σ_37 mv12_σ_37 mv14_σ_37 mv15_σ_37 mv16_σ_37 k3σ_37; omega) | omega)] at this; omega)
      have smσ_37 : 0 ≤ (σ_37.1 a 15).toInt ∧ (σ_37.1 a 15).toInt ≤ (σ_37.1 a 16).toInt ∧ (σ_37.1 a 16).toInt ≤ (σ_37.1 a 9).toInt ∧ (σ_37.1 a 9).toInt ≤ 900 ∧ 0 ≤ (σ_37.1 a 14).toInt ∧ (σ_37.1 a 14).toInt ≤ 4 ∧ (σ_37.1 a 14).toInt ≤ 4 * ((σ_37.1 a 16).toInt - (σ_37.1 a 15).toInt) ∧ (σ_37.1 a 14).toInt ≤ 4 * ((σ_37.1 a 9).toInt - (σ_37.1 a 15).toInt) ∧ 0 ≤ (σ_37.1 a 12).toInt ∧ (σ_37.1 a 9).toInt = (σ.1 a 9).toInt ∧ (σ.1 a 15).toInt ≤ (σ_37.1 a 15).toInt ∧ (σ.1 a 12).toInt ≤ (σ_37.1 a 12).toInt := (by first | (rw [mv12_σ_37, mv14_σ_37, mv15_σ_37, mv16_σ_37, mv9_σ_37]; exact smσ_31) | omega)
      have onσ_37 : (σ.1 a 16).toInt ≤ (σ_37.1 a 15).toInt := (by first | (clear hs hz hk h4 k3σ if_1 bf_1 c_2 if_23 kc_24 ahpσ_26 dhpσ_26 ehpσ_26 k3σ_26 k3σ_29 beσ_29 ahpσ_31 dhpσ_31 ehpσ_31 k3σ_31 k4σ_31 smσ_31 onσ_31 ahpσ_33 bhpσ_33 chpσ_33 kc_34 ahpσ_36 bhpσ_36 chpσ_36 mv9_σ_37 mv12_σ_37 mv14_σ_37 mv15_σ_37 mv16_σ_37 k3σ_37 k4σ_37 smσ_37; omega) | omega)
      clear mv9_σ_37 mv12_σ_37 mv14_σ_37 mv15_σ_37 mv16_σ_37 k4σ_31 smσ_31 onσ_31
      refine lv_aload_n hx hb dX12_readLaw_49 rfl (lv_at hl 0 rfl) ?_
      refine lv_aload_n hx hb dX12_readLaw_50 rfl (lv_at hl 0 rfl) ?_
      refine q_ci (q_rV11_0 (rest := [.ref a]) E (hml.trans hl.1.symm) hI (c_X12_lawWord l X σ_37 a ha) kv_X12_171 ha ⟨Nat.le_of_ble_eq_true rfl, Nat.le_of_ble_eq_true rfl⟩ (Nat.le_of_ble_eq_true rfl) dX12_readLaw_51) hI (Nat.le_of_ble_eq_true rfl) (fun r_38 σ_39 H locs hpσ_39 hkσ_39 hI => ?_)
      have ahpσ_39 := hpσ_39.1
      have bhpσ_39 := hpσ_39.2.1
      have chpσ_39 := hpσ_39.2.2
      clear hpσ_39
      replace hI := q_Irw ahpσ_39 hI
      replace hF := q_letX hF chpσ_39
      refine q_if_lt (A := r_38.toInt) E rfl (tgt := 61) dX12_readLaw_54 (by decide) (fun c_40 => ?_) (fun c_40 => ?_)
      · skip
        replace hF := q_ifp hF c_40
        refine lv_iconst (v := 0) hx hb dX12_readLaw_61 zki_0 ?_
        have kc_41 : (0 : Int32).toInt = 0 := zt_0
        refine q_cv (q_rV11_1 (rest := []) E (hml.trans hl.1.symm) hI (c_X12_must l X σ_37 a (0 : Int32) ha (by first | exact sm_9 smσ_37 | exact hs | omega) (by first | (clear hz hk h4 k3σ if_1 bf_1 c_2 if_23 kc_24 ahpσ_26 dhpσ_26 ehpσ_26 k3σ_26 k3σ_29 beσ_29 ahpσ_31 dhpσ_31 ehpσ_31 k3σ_31 ahpσ_33 bhpσ_33 chpσ_33 kc_34 ahpσ_36 bhpσ_36 chpσ_36 k3σ_37 k4σ_37 smσ_37 onσ_37 ahpσ_39 bhpσ_39 chpσ_39 c_40 kc_41; omega) | omega)) kv_X12_216 ha ⟨Nat.le_of_ble_eq_true rfl, Nat.le_of_ble_eq_true rfl⟩ (Nat.le_of_ble_eq_true rfl) dX12_readLaw_62) hI (Nat.le_of_ble_eq_true rfl) (fun σ_43 H locs hpσ_43 hkσ_43 hI => ?_)
        have ahpσ_43 := hpσ_43.1
        have bhpσ_43 := hpσ_43.2.1
        have chpσ_43 := hpσ_43.2.2.1
        have dhpσ_43 := hpσ_43.2.2.2.1
        have ehpσ_43 := hpσ_43.2.2.2.2
        clear hpσ_43
        have fr_σ_43 := fr_σ_37.call ehpσ_43 rfl rfl
        replace hF := q_letX hF dhpσ_43
        have mcσ_43 := m_cK hkσ_43 hI.1 ha (by decide)
        have nnσ_43 : m_N (m_c X σ_43 a) := m_N.ext mcσ_43 nnσ_37
        have kpσ_43 : ∀ j, 0 ≤ j → j < 3720 → m_c X σ_43 a j = m_c X σ a j := fun j h0 h1 => (mcσ_43 j).trans (kpσ_37 j h0 h1)
        have k3σ_43 : m_c X σ_43 a 3720 = m_c X σ a 3720 ∧ m_c X σ_43 a 3721 = m_c X σ a 3721 := ⟨(mcσ_43 3720).trans k3σ_37.1, (mcσ_43 3721).trans k3σ_37.2⟩
        have k4σ_43 : 1 ≤ m_c X σ_43 a 3724 + 10 * (σ_43.1 a 12).toInt := (by have := mcσ_43 3724; omega)
        have smσ_43 : 0 ≤ (σ_43.1 a 15).toInt ∧ (σ_43.1 a 15).toInt ≤ (σ_43.1 a 16).toInt ∧ (σ_43.1 a 16).toInt ≤ (σ_43.1 a 9).toInt ∧ (σ_43.1 a 9).toInt ≤ 900 ∧ 0 ≤ (σ_43.1 a 14).toInt ∧ (σ_43.1 a 14).toInt ≤ 4 ∧ (σ_43.1 a 14).toInt ≤ 4 * ((σ_43.1 a 16).toInt - (σ_43.1 a 15).toInt) ∧ (σ_43.1 a 14).toInt ≤ 4 * ((σ_43.1 a 9).toInt - (σ_43.1 a 15).toInt) ∧ 0 ≤ (σ_43.1 a 12).toInt ∧ (σ_43.1 a 9).toInt = (σ.1 a 9).toInt ∧ (σ.1 a 15).toInt ≤ (σ_43.1 a 15).toInt ∧ (σ.1 a 12).toInt ≤ (σ_43.1 a 12).toInt := (by first | exact sm_tr smσ_37 bhpσ_43 | exact sm_tr smσ_37 chpσ_43 | omega)
        have onσ_43 : (σ.1 a 16).toInt ≤ (σ_43.1 a 15).toInt := (by first | (clear hs hz hk h4 k3σ if_1 bf_1 c_2 if_23 kc_24 ahpσ_26 dhpσ_26 ehpσ_26 k3σ_26 k3σ_29 beσ_29 ahpσ_31 dhpσ_31 ehpσ_31 k3σ_31 ahpσ_33 bhpσ_33 chpσ_33 kc_34 ahpσ_36 bhpσ_36 chpσ_36 k3σ_37 k4σ_37 smσ_37 onσ_37 ahpσ_39 bhpσ_39 chpσ_39 c_40 kc_41 ahpσ_43 bhpσ_43 chpσ_43 dhpσ_43 ehpσ_43 k3σ_43 k4σ_43 smσ_43; omega) | omega)
        clear k4σ_37 smσ_37 onσ_37 bhpσ_43
        exact q_retv E hr hlk hI ⟨nnσ_43, kpσ_43, (by first | exact smσ_43 | omega), (by first | exact smσ_43 | omega), k3σ_43, k4σ_43, (hF.trans hout), fr_σ_43⟩ dX12_readLaw_65
      · skip
        replace hF := q_ifn hF (Int.not_lt.mpr c_40)
        refine lv_iconst (v := 1) hx hb dX12_readLaw_57 zki_1 ?_
        refine lv_goto (tgt := 62) hx hb dX12_readLaw_58 (by decide) ?_
        have kc_44 : (1 : Int32).toInt = 1 := zt_1
        refine q_cv (q_rV11_1 (rest := []) E (hml.trans hl.1.symm) hI (c_X12_must l X σ_37 a (1 : Int32) ha (by first | exact sm_9 smσ_37 | exact hs | omega) (by first | (clear hs hz hk h4 k3σ if_1 bf_1 c_2 if_23 kc_24 ahpσ_26 dhpσ_26 ehpσ_26 k3σ_26 k3σ_29 beσ_29 ahpσ_31 dhpσ_31 ehpσ_31 k3σ_31 ahpσ_33 bhpσ_33 chpσ_33 kc_34 ahpσ_36 bhpσ_36 chpσ_36 k3σ_37 ahpσ_39 bhpσ_39 chpσ_39 c_40 kc_44; omega) | omega)) kv_X12_216 ha ⟨Nat.le_of_ble_eq_true rfl, Nat.le_of_ble_eq_true rfl⟩ (Nat.le_of_ble_eq_true rfl) dX12_readLaw_62) hI (Nat.le_of_ble_eq_true rfl) (fun σ_46 H locs hpσ_46 hkσ_46 hI => ?_)
        have ahpσ_46 := hpσ_46.1
        have bhpσ_46 := hpσ_46.2.1
        have chpσ_46 := hpσ_46.2.2.1
        have dhpσ_46 := hpσ_46.2.2.2.1
        have ehpσ_46 := hpσ_46.2.2.2.2
        clear hpσ_46
        have fr_σ_46 := fr_σ_37.call ehpσ_46 rfl rfl
        replace hF := q_letX hF dhpσ_46
        have mcσ_46 := m_cK hkσ_46 hI.1 ha (by decide)
        have nnσ_46 : m_N (m_c X σ_46 a) := m_N.ext mcσ_46 nnσ_37
        have kpσ_46 : ∀ j, 0 ≤ j → j < 3720 → m_c X σ_46 a j = m_c X σ a j := fun j h0 h1 => (mcσ_46 j).trans (kpσ_37 j h0 h1)
        have k3σ_46 : m_c X σ_46 a 3720 = m_c X σ a 3720 ∧ m_c X σ_46 a 3721 = m_c X σ a 3721 := ⟨(mcσ_46 3720).trans k3σ_37.1, (mcσ_46 3721).trans k3σ_37.2⟩
        have k4σ_46 : 1 ≤ m_c X σ_46 a 3724 + 10 * (σ_46.1 a 12).toInt := (by have := mcσ_46 3724; omega)
        have smσ_46 : 0 ≤ (σ_46.1 a 15).toInt ∧ (σ_46.1 a 15).toInt ≤ (σ_46.1 a 16).toInt ∧ (σ_46.1 a 16).toInt ≤ (σ_46.1 a 9).toInt ∧ (σ_46.1 a 9).toInt ≤ 900 ∧ 0 ≤ (σ_46.1 a 14).toInt ∧ (σ_46.1 a 14).toInt ≤ 4 ∧ (σ_46.1 a 14).toInt ≤ 4 * ((σ_46.1 a 16).toInt - (σ_46.1 a 15).toInt) ∧ (σ_46.1 a 14).toInt ≤ 4 * ((σ_46.1 a 9).toInt - (σ_46.1 a 15).toInt) ∧ 0 ≤ (σ_46.1 a 12).toInt ∧ (σ_46.1 a 9).toInt = (σ.1 a 9).toInt ∧ (σ.1 a 15).toInt ≤ (σ_46.1 a 15).toInt ∧ (σ.1 a 12).toInt ≤ (σ_46.1 a 12).toInt := (by first | exact sm_tr smσ_37 bhpσ_46 | exact sm_tr smσ_37 chpσ_46 | omega)
        have onσ_46 : (σ.1 a 16).toInt ≤ (σ_46.1 a 15).toInt := (by first | (clear hs hz hk h4 k3σ if_1 bf_1 c_2 if_23 kc_24 ahpσ_26 dhpσ_26 ehpσ_26 k3σ_26 k3σ_29 beσ_29 ahpσ_31 dhpσ_31 ehpσ_31 k3σ_31 ahpσ_33 bhpσ_33 chpσ_33 kc_34 ahpσ_36 bhpσ_36 chpσ_36 k3σ_37 ahpσ_39 bhpσ_39 chpσ_39 c_40 kc_44 ahpσ_46 bhpσ_46 chpσ_46 dhpσ_46 ehpσ_46 k3σ_46 k4σ_46 smσ_46; omega) | omega)
        clear k4σ_37 smσ_37 onσ_37 bhpσ_46
        exact q_retv E hr hlk hI ⟨nnσ_46, kpσ_46, (by first | exact smσ_46 | omega), (by first | exact smσ_46 | omega), k3σ_46, k4σ_46, (hF.trans hout), fr_σ_46⟩ dX12_readLaw_65
    · skip
      replace hF := q_ifp hF c_28
      exact q_retv E hr hlk hI ⟨nnσ_26, kpσ_26, (by first | exact smσ_26 | omega), (by first | exact smσ_26 | omega), k3σ_26, k4σ_26, (hF.trans hout), fr_σ_26⟩ dX12_readLaw_23

set_option maxRecDepth 100000 in
set_option maxHeartbeats 4000000 in
theorem c_X12_readMost (l : Launch) (X : XW) (σ : ST) (a : Nat) (ha : q_kd X a = 12) (hs : 0 ≤ (σ.1 a 15).toInt ∧ (σ.1 a 15).toInt ≤ (σ.1 a 16).toInt ∧ (σ.1 a 16).toInt ≤ (σ.1 a 9).toInt ∧ (σ.1 a 9).toInt ≤ 900 ∧ 0 ≤ (σ.1 a 14).toInt ∧ (σ.1 a 14).toInt ≤ 4 ∧ (σ.1 a 14).toInt ≤ 4 * ((σ.1 a 16).toInt - (σ.1 a 15).toInt) ∧ (σ.1 a 14).toInt ≤ 4 * ((σ.1 a 9).toInt - (σ.1 a 15).toInt) ∧ 0 ≤ (σ.1 a 12).toInt) (hN : m_N (m_c X σ a)) (hz : (σ.1 a 12).toInt = 0) (hk : 2 ≤ m_c X σ a 3720) (h4 : 1 ≤ m_c X σ a 3724) : Met l yX12_readMost (q_ws yX12_readMost cX12_readMost 1 none) (q_rm 3 65) (q_P X σ [.ref a]) (q_Qv X 1 σ (fun (σ' : ST) => (m_N (m_c X σ' a)) ∧ (∀ j, 0 ≤ j → j < 3720 → m_c X σ' a j = m_c X σ a j) ∧ (0 ≤ (σ'.1 a 15).toInt ∧ (σ'.1 a 15).toInt ≤ (σ'.1 a 16).toInt ∧ (σ'.1 a 16).toInt ≤ (σ'.1 a 9).toInt ∧ (σ'.1 a 9).toInt ≤ 900 ∧ 0 ≤ (σ'.1 a 14).toInt ∧ (σ'.1 a 14).toInt ≤ 4 ∧ (σ'.1 a 14).toInt ≤ 4 * ((σ'.1 a 16).toInt - (σ'.1 a 15).toInt) ∧ (σ'.1 a 14).toInt ≤ 4 * ((σ'.1 a 9).toInt - (σ'.1 a 15).toInt) ∧ 0 ≤ (σ'.1 a 12).toInt ∧ (σ'.1 a 9).toInt = (σ.1 a 9).toInt ∧ (σ.1 a 15).toInt ≤ (σ'.1 a 15).toInt ∧ (σ.1 a 12).toInt ≤ (σ'.1 a 12).toInt) ∧ ((σ.1 a 16).toInt ≤ (σ'.1 a 15).toInt + 1000 * (σ'.1 a 12).toInt) ∧ (m_c X σ' a 3720 = m_c X σ a 3720 ∧ m_c X σ' a 3721 = m_c X σ a 3721) ∧ (1 ≤ m_c X σ' a 3724 + 10 * (σ'.1 a 12).toInt) ∧ σ' = F_X12_readMost X σ a ∧ q_ow [(12, 12), (12, 13), (12, 14), (12, 15), (12, 16), (12, 17), (12, 18), (12, 26), (34, 99)] [(12, 19)] X σ σ')) 0 0 (q_reg X) := by
  refine q_met 1 (by first | exact rfl | decide +kernel) rfl (Nat.le_of_ble_eq_true rfl) (fun p e s m below meth c E hml hr hlk hI ls hl => ?_)
  have hx := E.1
  have hb := E.2.1
  have hl : lv_has ls 1 [(0, .ref a)] := hl
  have nnσ : m_N (m_c X σ a) := hN
  have kpσ : ∀ j, 0 ≤ j → j < 3720 → m_c X σ a j = m_c X σ a j := fun _ _ _ => rfl
  have k3σ : m_c X σ a 3720 = m_c X σ a 3720 ∧ m_c X σ a 3721 = m_c X σ a 3721 := ⟨rfl, rfl⟩
  have k4σ : 1 ≤ m_c X σ a 3724 + 10 * (σ.1 a 12).toInt := (by omega)
  have smσ : 0 ≤ (σ.1 a 15).toInt ∧ (σ.1 a 15).toInt ≤ (σ.1 a 16).toInt ∧ (σ.1 a 16).toInt ≤ (σ.1 a 9).toInt ∧ (σ.1 a 9).toInt ≤ 900 ∧ 0 ≤ (σ.1 a 14).toInt ∧ (σ.1 a 14).toInt ≤ 4 ∧ (σ.1 a 14).toInt ≤ 4 * ((σ.1 a 16).toInt - (σ.1 a 15).toInt) ∧ (σ.1 a 14).toInt ≤ 4 * ((σ.1 a 9).toInt - (σ.1 a 15).toInt) ∧ 0 ≤ (σ.1 a 12).toInt ∧ (σ.1 a 9).toInt = (σ.1 a 9).toInt ∧ (σ.1 a 15).toInt ≤ (σ.1 a 15).toInt ∧ (σ.1 a 12).toInt ≤ (σ.1 a 12).toInt := (by omega)
  have beσ : (σ.1 a 16).toInt = (σ.1 a 16).toInt := rfl
  have fr_σ : q_ow [(12, 12), (12, 13), (12, 14), (12, 15), (12, 16), (12, 17), (12, 18), (12, 26), (34, 99)] [(12, 19)] X σ σ := q_ow.rf
  obtain ⟨out, hout⟩ : ∃ o, o = F_X12_readMost X σ a := ⟨_, rfl⟩
  have hF := hout.symm
  unfold F_X12_readMost at hF
  refine lv_aload_n hx hb dX12_readMost_0 rfl (lv_at hl 0 rfl) ?_
  refine gs_X12_236_12 E hI ha dX12_readMost_1 ?_
  refine lv_topi (fun f_1 ef_1 => ?_)
  replace hF := q_letX hF ef_1
  have if_1 : f_1.toInt = (σ.1 a 26).toInt := congrArg Int32.toInt ef_1
  have bf_1 : 0 ≤ f_1.toInt ∧ f_1.toInt ≤ 1 := by rw [ef_1]; exact q_bd hI ha rfl
  refine q_if_eq (A := f_1.toInt) E rfl (tgt := 16) dX12_readMost_4 (by decide) (fun c_2 => ?_) (fun c_2 => ?_)
  · skip
    replace hF := q_ifp hF c_2
    refine lv_aload_n hx hb dX12_readMost_16 rfl (lv_at hl 0 rfl) ?_
    refine gs_X12_187_12 E hI ha dX12_readMost_17 ?_
    refine lv_topi (fun f_3 ef_3 => ?_)
    replace hF := q_letX hF ef_3
    have if_3 : f_3.toInt = (σ.1 a 12).toInt := congrArg Int32.toInt ef_3
    refine q_if_le (A := f_3.toInt) E rfl (tgt := 24) dX12_readMost_20 (by decide) (fun c_4 => ?_) (fun c_4 => ?_)
    · skip
      replace hF := q_ifn hF (Int.not_lt.mpr c_4)
      refine lv_aload_n hx hb dX12_readMost_24 rfl (lv_at hl 0 rfl) ?_
      refine lv_iconst (v := 1) hx hb dX12_readMost_25 zki_1 ?_
      refine ps_X12_236_12 E hI ha (by decide) (by decide) (by decide) dX12_readMost_26 (fun H locs σ_5 hσ_5 hI => ?_)
      replace hF := q_letX hF hσ_5
      have fr_σ_5 := fr_σ.si hσ_5 ha rfl
      have mv9_σ_5 : (σ_5.1 a 9).toInt = (σ.1 a 9).toInt := congrArg Int32.toInt (q_rdn hσ_5 (Or.inr (by decide)))
      have mv12_σ_5 : (σ_5.1 a 12).toInt = (σ.1 a 12).toInt := congrArg Int32.toInt (q_rdn hσ_5 (Or.inr (by decide)))
      have mv14_σ_5 : (σ_5.1 a 14).toInt = (σ.1 a 14).toInt := congrArg Int32.toInt (q_rdn hσ_5 (Or.inr (by decide)))
      have mv15_σ_5 : (σ_5.1 a 15).toInt = (σ.1 a 15).toInt := congrArg Int32.toInt (q_rdn hσ_5 (Or.inr (by decide)))
      have mv16_σ_5 : (σ_5.1 a 16).toInt = (σ.1 a 16).toInt := congrArg Int32.toInt (q_rdn hσ_5 (Or.inr (by decide)))
      have mcσ_5 := m_wo hσ_5 (m_ne ha (q_tk (f := 20) (k' := 34) hI ha rfl (by decide)) (by decide))
      have nnσ_5 : m_N (m_c X σ_5 a) := m_N.ext mcσ_5 nnσ
      have kpσ_5 : ∀ j, 0 ≤ j → j < 3720 → m_c X σ_5 a j = m_c X σ a j := fun j h0 h1 => (mcσ_5 j).trans (kpσ j h0 h1)
      have k3σ_5 : m_c X σ_5 a 3720 = m_c X σ a 3720 ∧ m_c X σ_5 a 3721 = m_c X σ a 3721 := ⟨(mcσ_5 3720).trans k3σ.1, (mcσ_5 3721).trans k3σ.2⟩
      have k4σ_5 : 1 ≤ m_c X σ_5 a 3724 + 10 * (σ_5.1 a 12).toInt := (by have := mcσ_5 3724; omega)
      have smσ_5 : 0 ≤ (σ_5.1 a 15).toInt ∧ (σ_5.1 a 15).toInt ≤ (σ_5.1 a 16).toInt ∧ (σ_5.1 a 16).toInt ≤ (σ_5.1 a 9).toInt ∧ (σ_5.1 a 9).toInt ≤ 900 ∧ 0 ≤ (σ_5.1 a 14).toInt ∧ (σ_5.1 a 14).toInt ≤ 4 ∧ (σ_5.1 a 14).toInt ≤ 4 * ((σ_5.1 a 16).toInt - (σ_5.1 a 15).toInt) ∧ (σ_5.1 a 14).toInt ≤ 4 * ((σ_5.1 a 9).toInt - (σ_5.1 a 15).toInt) ∧ 0 ≤ (σ_5.1 a 12).toInt ∧ (σ_5.1 a 9).toInt = (σ.1 a 9).toInt ∧ (σ.1 a 15).toInt ≤ (σ_5.1 a 15).toInt ∧ (σ.1 a 12).toInt ≤ (σ_5.1 a 12).toInt := (by first | (rw [mv12_σ_5, mv14_σ_5, mv15_σ_5, mv16_σ_5, mv9_σ_5]; exact smσ) | omega)
      have beσ_5 : (σ_5.1 a 16).toInt = (σ.1 a 16).toInt := (by omega)
      clear mv9_σ_5 mv12_σ_5 mv14_σ_5 mv15_σ_5 mv16_σ_5 k4σ smσ beσ
      refine lv_aload_n hx hb dX12_readMost_29 rfl (lv_at hl 0 rfl) ?_
      refine q_cv (q_rV11_0 (rest := []) E (hml.trans hl.1.symm) hI (c_X12_next l X σ_5 a ha (by omega) (by omega) (by omega)) kv_X12_197 ha ⟨Nat.le_of_ble_eq_true rfl, Nat.le_of_ble_eq_true rfl⟩ (Nat.le_of_ble_eq_true rfl) dX12_readMost_30) hI (Nat.le_of_ble_eq_true rfl) (fun σ_7 H locs hpσ_7 hkσ_7 hI => ?_)
      have ahpσ_7 := hpσ_7.1
      have bhpσ_7 := hpσ_7.2.1
      have chpσ_7 := hpσ_7.2.2.1
      have dhpσ_7 := hpσ_7.2.2.2.1
      have ehpσ_7 := hpσ_7.2.2.2.2
      clear hpσ_7
      have fr_σ_7 := fr_σ_5.call ehpσ_7 rfl rfl
      replace hF := q_letX hF dhpσ_7
      have mcσ_7 := m_cK hkσ_7 hI.1 ha (by decide)
      have nnσ_7 : m_N (m_c X σ_7 a) := m_N.ext mcσ_7 nnσ_5
      have kpσ_7 : ∀ j, 0 ≤ j → j < 3720 → m_c X σ_7 a j = m_c X σ a j := fun j h0 h1 => (mcσ_7 j).trans (kpσ_5 j h0 h1)
      have k3σ_7 : m_c X σ_7 a 3720 = m_c X σ a 3720 ∧ m_c X σ_7 a 3721 = m_c X σ a 3721 := ⟨(mcσ_7 3720).trans k3σ_5.1, (mcσ_7 3721).trans k3σ_5.2⟩
      have k4σ_7 : 1 ≤ m_c X σ_7 a 3724 + 10 * (σ_7.1 a 12).toInt := (by have := mcσ_7 3724; omega)
      have smσ_7 : 0 ≤ (σ_7.1 a 15).toInt ∧ (σ_7.1 a 15).toInt ≤ (σ_7.1 a 16).toInt ∧ (σ_7.1 a 16).toInt ≤ (σ_7.1 a 9).toInt ∧ (σ_7.1 a 9).toInt ≤ 900 ∧ 0 ≤ (σ_7.1 a 14).toInt ∧ (σ_7.1 a 14).toInt ≤ 4 ∧ (σ_7.1 a 14).toInt ≤ 4 * ((σ_7.1 a 16).toInt - (σ_7.1 a 15).toInt) ∧ (σ_7.1 a 14).toInt ≤ 4 * ((σ_7.1 a 9).toInt - (σ_7.1 a 15).toInt) ∧ 0 ≤ (σ_7.1 a 12).toInt ∧ (σ_7.1 a 9).toInt = (σ.1 a 9).toInt ∧ (σ.1 a 15).toInt ≤ (σ_7.1 a 15).toInt ∧ (σ.1 a 12).toInt ≤ (σ_7.1 a 12).toInt := (by first | exact sm_nx smσ_5 bhpσ_7 chpσ_7 | omega)
      have onσ_7 : (σ.1 a 16).toInt ≤ (σ_7.1 a 15).toInt := (by omega)
      clear k4σ_5 smσ_5 bhpσ_7 chpσ_7
      refine lv_aload_n hx hb dX12_readMost_33 rfl (lv_at hl 0 rfl) ?_
      refine gs_X12_35_12 E hI ha dX12_readMost_34 ?_
      refine lv_sipush (v := 3724) hx hb dX12_readMost_37 zks_3724 ?_
      refine lv_aload_n hx hb dX12_readMost_40 rfl (lv_at hl 0 rfl) ?_
      refine lv_iconst (v := 1) hx hb dX12_readMost_41 zki_1 ?_
      refine lv_iconst (v := 4) hx hb dX12_readMost_42 zki_4 ?_
      have kc_8 : (1 : Int32).toInt = 1 := zt_1
      have kc_9 : (4 : Int32).toInt = 4 := zt_4
      refine q_ci (q_rV11_2 (rest := [.int 3724, .ref (q_rf X a 20)]) E (hml.trans hl.1.symm) hI (c_X12_count l X σ_7 a (1 : Int32) (4 : Int32) ha (by first | exact sm_9 smσ_7 | exact hs | omega) (by first | (clear hs hz hk h4 k3σ if_1 bf_1 c_2 if_3 c_4 k3σ_5 beσ_5 ahpσ_7 dhpσ_7 ehpσ_7 k3σ_7 k4σ_7 smσ_7 onσ_7; omega) | omega)) kv_X12_223 ha ⟨Nat.le_of_ble_eq_true rfl, Nat.le_of_ble_eq_true rfl⟩ (Nat.le_of_ble_eq_true rfl) dX12_readMost_43) hI (Nat.le_of_ble_eq_true rfl) (fun r_10 σ_11 H locs hpσ_11 hkσ_11 hI => ?_)
      have ahpσ_11 := hpσ_11.1
      have bhpσ_11 := hpσ_11.2.1
      have chpσ_11 := hpσ_11.2.2.1
      have dhpσ_11 := hpσ_11.2.2.2.1
      have ehpσ_11 := hpσ_11.2.2.2.2
      clear hpσ_11
      have fr_σ_11 := fr_σ_7.call ehpσ_11 rfl rfl
      replace hF := q_biX hF dhpσ_11
      have mcσ_11 := m_cK hkσ_11 hI.1 ha (by decide)
      have nnσ_11 : m_N (m_c X σ_11 a) := m_N.ext mcσ_11 nnσ_7
      have kpσ_11 : ∀ j, 0 ≤ j → j < 3720 → m_c X σ_11 a j = m_c X σ a j := fun j h0 h1 => (mcσ_11 j).trans (kpσ_7 j h0 h1)
      have k3σ_11 : m_c X σ_11 a 3720 = m_c X σ a 3720 ∧ m_c X σ_11 a 3721 = m_c X σ a 3721 := ⟨(mcσ_11 3720).trans k3σ_7.1, (mcσ_11 3721).trans k3σ_7.2⟩
      have k4σ_11 : 1 ≤ m_c X σ_11 a 3724 + 10 * (σ_11.1 a 12).toInt := (by have := mcσ_11 3724; omega)
      have smσ_11 : 0 ≤ (σ_11.1 a 15).toInt ∧ (σ_11.1 a 15).toInt ≤ (σ_11.1 a 16).toInt ∧ (σ_11.1 a 16).toInt ≤ (σ_11.1 a 9).toInt ∧ (σ_11.1 a 9).toInt ≤ 900 ∧ 0 ≤ (σ_11.1 a 14).toInt ∧ (σ_11.1 a 14).toInt ≤ 4 ∧ (σ_11.1 a 14).toInt ≤ 4 * ((σ_11.1 a 16).toInt - (σ_11.1 a 15).toInt) ∧ (σ_11.1 a 14).toInt ≤ 4 * ((σ_11.1 a 9).toInt - (σ_11.1 a 15).toInt) ∧ 0 ≤ (σ_11.1 a 12).toInt ∧ (σ_11.1 a 9).toInt = (σ.1 a 9).toInt ∧ (σ.1 a 15).toInt ≤ (σ_11.1 a 15).toInt ∧ (σ.1 a 12).toInt ≤ (σ_11.1 a 12).toInt := (by first | exact sm_tr smσ_7 bhpσ_11 | exact sm_tr smσ_7 chpσ_11 | omega)
      have onσ_11 : (σ.1 a 16).toInt ≤ (σ_11.1 a 15).toInt := (by first | (clear hs hz hk h4 k3σ if_1 bf_1 c_2 if_3 c_4 k3σ_5 ahpσ_7 dhpσ_7 ehpσ_7 k3σ_7 k4σ_7 smσ_7 kc_8 kc_9 ahpσ_11 chpσ_11 dhpσ_11 ehpσ_11 k3σ_11 k4σ_11 smσ_11; omega) | omega)
      clear k4σ_7 smσ_7 onσ_7 bhpσ_11
      refine q_iastN E hI (q_tk (k' := 34) hI ha rfl (Nat.succ_ne_zero _)) ⟨by decide, rfl⟩ (by decide) (by rw [q_lnk (v := 4650) hI (q_tk (k' := 34) hI ha rfl (Nat.succ_ne_zero _)) rfl (by decide)]; decide) (show 1 < 2 by decide) (q_inU rfl) dX12_readMost_46 (fun H locs σ_12 hσ_12 hI => ?_)
      replace hF := q_letX hF hσ_12
      have fr_σ_12 := fr_σ_11.si hσ_12 (q_tk (k' := 34) hI ha rfl (Nat.succ_ne_zero _)) rfl
      have mv9_σ_12 : (σ_12.1 a 9).toInt = (σ_11.1 a 9).toInt := congrArg Int32.toInt (q_rdn hσ_12 (Or.inl (m_ne ha (q_tk (k' := 34) hI ha rfl (Nat.succ_ne_zero _)) (by decide))))
      have mv12_σ_12 : (σ_12.1 a 12).toInt = (σ_11.1 a 12).toInt := congrArg Int32.toInt (q_rdn hσ_12 (Or.inl (m_ne ha (q_tk (k' := 34) hI ha rfl (Nat.succ_ne_zero _)) (by decide))))
      have mv14_σ_12 : (σ_12.1 a 14).toInt = (σ_11.1 a 14).toInt := congrArg Int32.toInt (q_rdn hσ_12 (Or.inl (m_ne ha (q_tk (k' := 34) hI ha rfl (Nat.succ_ne_zero _)) (by decide))))
      have mv15_σ_12 : (σ_12.1 a 15).toInt = (σ_11.1 a 15).toInt := congrArg Int32.toInt (q_rdn hσ_12 (Or.inl (m_ne ha (q_tk (k' := 34) hI ha rfl (Nat.succ_ne_zero _)) (by decide))))
      have mv16_σ_12 : (σ_12.1 a 16).toInt = (σ_11.1 a 16).toInt := congrArg Int32.toInt (q_rdn hσ_12 (Or.inl (m_ne ha (q_tk (k' := 34) hI ha rfl (Nat.succ_ne_zero _)) (by decide))))
      have mcσ_12 := m_wr (v := r_10) (A := 3724) hσ_12 (by decide) (by decide)
      have nnσ_12 : m_N (m_c X σ_12 a) := m_N.wr nnσ_11 mcσ_12 (by first | (clear hs hz hk h4 k3σ if_1 bf_1 c_2 if_3 c_4 k3σ_5 beσ_5 ahpσ_7 dhpσ_7 ehpσ_7 k3σ_7 kc_8 ahpσ_11 dhpσ_11 ehpσ_11 k3σ_11 k4σ_11 smσ_11 onσ_11 mv9_σ_12 mv12_σ_12 mv14_σ_12 mv15_σ_12 mv16_σ_12; omega) | omega)
      have kpσ_12 : ∀ j, 0 ≤ j → j < 3720 → m_c X σ_12 a j = m_c X σ a j := fun j h0 h1 => by rw [mcσ_12 j h0, if_neg (by first | (clear hs hz hk h4 k3σ if_1 bf_1 c_2 if_3 c_4 k3σ_5 beσ_5 ahpσ_7 dhpσ_7 ehpσ_7 k3σ_7 kc_8 kc_9 ahpσ_11 chpσ_11 dhpσ_11 ehpσ_11 k3σ_11 k4σ_11 smσ_11 onσ_11 mv9_σ_12 mv12_σ_12 mv14_σ_12 mv15_σ_12 mv16_σ_12; omega) | omega)]; exact kpσ_11 j h0 h1
      have k3σ_12 : m_c X σ_12 a 3720 = m_c X σ a 3720 ∧ m_c X σ_12 a 3721 = m_c X σ a 3721 := ⟨by rw [mcσ_12 3720 (by decide), if_neg (by first | (clear hs hz hk h4 k3σ if_1 bf_1 c_2 if_3 c_4 k3σ_5 beσ_5 ahpσ_7 dhpσ_7 ehpσ_7 k3σ_7 kc_8 kc_9 ahpσ_11 chpσ_11 dhpσ_11 ehpσ_11 k3σ_11 k4σ_11 smσ_11 onσ_11 mv9_σ_12 mv12_σ_12 mv14_σ_12 mv15_σ_12 mv16_σ_12; omega) | omega)]; exact k3σ_11.1, by rw [mcσ_12 3721 (by decide), if_neg (by first | (clear hs hz hk h4 k3σ if_1 bf_1 c_2 if_3 c_4 k3σ_5 beσ_5 ahpσ_7 dhpσ_7 ehpσ_7 k3σ_7 kc_8 kc_9 ahpσ_11 chpσ_11 dhpσ_11 ehpσ_11 k3σ_11 k4σ_11 smσ_11 onσ_11 mv9_σ_12 mv12_σ_12 mv14_σ_12 mv15_σ_12 mv16_σ_12; omega) | omega)]; exact k3σ_11.2⟩
      have k4σ_12 : 1 ≤ m_c X σ_12 a 3724 + 10 * (σ_12.1 a 12).toInt := (by have := mcσ_12 3724 (by decide); rw [if_pos (by first | (clear hs hz hk h4 k3σ if_1 bf_1 c_2 if_3 c_4 k3σ_5 beσ_5 ahpσ_7 dhpσ_7 ehpσ_7 k3σ_7 kc_8 kc_9 ahpσ_11 chpσ_11 dhpσ_11 ehpσ_11 k3σ_11 k4σ_11 smσ_11 onσ_11 mv9_σ_12 mv12_σ_12 mv14_σ_12 mv15_σ_12 mv16_σ_12 k3σ_12; omega) | omega)] at this; omega)
      have smσ_12 : 0 ≤ (σ_12.1 a 15).toInt ∧ (σ_12.1 a 15).toInt ≤ (σ_12.1 a 16).toInt ∧ (σ_12.1 a 16).toInt ≤ (σ_12.1 a 9).toInt ∧ (σ_12.1 a 9).toInt ≤ 900 ∧ 0 ≤ (σ_12.1 a 14).toInt ∧ (σ_12.1 a 14).toInt ≤ 4 ∧ (σ_12.1 a 14).toInt ≤ 4 * ((σ_12.1 a 16).toInt - (σ_12.1 a 15).toInt) ∧ (σ_12.1 a 14).toInt ≤ 4 * ((σ_12.1 a 9).toInt - (σ_12.1 a 15).toInt) ∧ 0 ≤ (σ_12.1 a 12).toInt ∧ (σ_12.1 a 9).toInt = (σ.1 a 9).toInt ∧ (σ.1 a 15).toInt ≤ (σ_12.1 a 15).toInt ∧ (σ.1 a 12).toInt ≤ (σ_12.1 a 12).toInt := (by first | (rw [mv12_σ_12, mv14_σ_12, mv15_σ_12, mv16_σ_12, mv9_σ_12]; exact smσ_11) | omega)
      have onσ_12 : (σ.1 a 16).toInt ≤ (σ_12.1 a 15).toInt := (by first | (clear hs hz hk h4 k3σ if_1 bf_1 c_2 if_3 c_4 k3σ_5 ahpσ_7 dhpσ_7 ehpσ_7 k3σ_7 kc_8 kc_9 ahpσ_11 chpσ_11 dhpσ_11 ehpσ_11 k3σ_11 k4σ_11 smσ_11 mv9_σ_12 mv12_σ_12 mv14_σ_12 mv16_σ_12 k3σ_12 k4σ_12 smσ_12; omega) | omega)
      clear mv9_σ_12 mv12_σ_12 mv14_σ_12 mv15_σ_12 mv16_σ_12 k4σ_11 smσ_11 onσ_11
      exact q_retv E hr hlk hI ⟨nnσ_12, kpσ_12, (by first | exact smσ_12 | omega), (by first | exact smσ_12 | omega), k3σ_12, k4σ_12, (hF.trans hout), fr_σ_12⟩ dX12_readMost_47
    · skip
      replace hF := q_ifp hF c_4
      exact q_retv E hr hlk hI ⟨nnσ, kpσ, (by first | exact smσ | omega), (by first | exact smσ | omega), k3σ, k4σ, (hF.trans hout), fr_σ⟩ dX12_readMost_23
  · skip
    replace hF := q_ifn hF c_2
    refine lv_aload_n hx hb dX12_readMost_7 rfl (lv_at hl 0 rfl) ?_
    refine lv_iconst (v := 5) hx hb dX12_readMost_8 zki_5 ?_
    refine lv_aload_n hx hb dX12_readMost_9 rfl (lv_at hl 0 rfl) ?_
    refine gs_X12_104_12 E hI ha dX12_readMost_10 ?_
    refine lv_topi (fun f_13 ef_13 => ?_)
    replace hF := q_letX hF ef_13
    have if_13 : f_13.toInt = (σ.1 a 15).toInt := congrArg Int32.toInt ef_13
    have kc_14 : (5 : Int32).toInt = 5 := zt_5
    refine q_cv (q_rV11_2 (rest := []) E (hml.trans hl.1.symm) hI (c_X12_fail l X σ a (5 : Int32) f_13 ha (by omega) (by omega)) kv_X12_193 ha ⟨Nat.le_of_ble_eq_true rfl, Nat.le_of_ble_eq_true rfl⟩ (Nat.le_of_ble_eq_true rfl) dX12_readMost_13) hI (Nat.le_of_ble_eq_true rfl) (fun σ_16 H locs hpσ_16 hkσ_16 hI => ?_)
    have ahpσ_16 := hpσ_16.1
    have bhpσ_16 := hpσ_16.2.1
    have chpσ_16 := hpσ_16.2.2.1
    have dhpσ_16 := hpσ_16.2.2.2.1
    have ehpσ_16 := hpσ_16.2.2.2.2
    clear hpσ_16
    have fr_σ_16 := fr_σ.call ehpσ_16 rfl rfl
    replace hF := q_letX hF dhpσ_16
    have mcσ_16 := m_cK hkσ_16 hI.1 ha (by decide)
    have nnσ_16 : m_N (m_c X σ_16 a) := m_N.ext mcσ_16 nnσ
    have kpσ_16 : ∀ j, 0 ≤ j → j < 3720 → m_c X σ_16 a j = m_c X σ a j := fun j h0 h1 => (mcσ_16 j).trans (kpσ j h0 h1)
    have k3σ_16 : m_c X σ_16 a 3720 = m_c X σ a 3720 ∧ m_c X σ_16 a 3721 = m_c X σ a 3721 := ⟨(mcσ_16 3720).trans k3σ.1, (mcσ_16 3721).trans k3σ.2⟩
    have k4σ_16 : 1 ≤ m_c X σ_16 a 3724 + 10 * (σ_16.1 a 12).toInt := (by have := mcσ_16 3724; omega)
    have smσ_16 : 0 ≤ (σ_16.1 a 15).toInt ∧ (σ_16.1 a 15).toInt ≤ (σ_16.1 a 16).toInt ∧ (σ_16.1 a 16).toInt ≤ (σ_16.1 a 9).toInt ∧ (σ_16.1 a 9).toInt ≤ 900 ∧ 0 ≤ (σ_16.1 a 14).toInt ∧ (σ_16.1 a 14).toInt ≤ 4 ∧ (σ_16.1 a 14).toInt ≤ 4 * ((σ_16.1 a 16).toInt - (σ_16.1 a 15).toInt) ∧ (σ_16.1 a 14).toInt ≤ 4 * ((σ_16.1 a 9).toInt - (σ_16.1 a 15).toInt) ∧ 0 ≤ (σ_16.1 a 12).toInt ∧ (σ_16.1 a 9).toInt = (σ.1 a 9).toInt ∧ (σ.1 a 15).toInt ≤ (σ_16.1 a 15).toInt ∧ (σ.1 a 12).toInt ≤ (σ_16.1 a 12).toInt := (by first | exact sm_fl smσ bhpσ_16 chpσ_16 | omega)
    have beσ_16 : (σ_16.1 a 16).toInt = (σ.1 a 16).toInt := (by omega)
    clear k4σ smσ beσ bhpσ_16
    refine lv_aload_n hx hb dX12_readMost_16 rfl (lv_at hl 0 rfl) ?_
    refine gs_X12_187_12 E hI ha dX12_readMost_17 ?_
    refine lv_topi (fun f_17 ef_17 => ?_)
    replace hF := q_letX hF ef_17
    have if_17 : f_17.toInt = (σ_16.1 a 12).toInt := congrArg Int32.toInt ef_17
    refine q_if_le (A := f_17.toInt) E rfl (tgt := 24) dX12_readMost_20 (by decide) (fun c_18 => ?_) (fun c_18 => ?_)
    · skip
      replace hF := q_ifn hF (Int.not_lt.mpr c_18)
      refine lv_aload_n hx hb dX12_readMost_24 rfl (lv_at hl 0 rfl) ?_
      refine lv_iconst (v := 1) hx hb dX12_readMost_25 zki_1 ?_
      refine ps_X12_236_12 E hI ha (by decide) (by decide) (by decide) dX12_readMost_26 (fun H locs σ_19 hσ_19 hI => ?_)
      replace hF := q_letX hF hσ_19
      have fr_σ_19 := fr_σ_16.si hσ_19 ha rfl
      have mv9_σ_19 : (σ_19.1 a 9).toInt = (σ_16.1 a 9).toInt := congrArg Int32.toInt (q_rdn hσ_19 (Or.inr (by decide)))
      have mv12_σ_19 : (σ_19.1 a 12).toInt = (σ_16.1 a 12).toInt := congrArg Int32.toInt (q_rdn hσ_19 (Or.inr (by decide)))
      have mv14_σ_19 : (σ_19.1 a 14).toInt = (σ_16.1 a 14).toInt := congrArg Int32.toInt (q_rdn hσ_19 (Or.inr (by decide)))
      have mv15_σ_19 : (σ_19.1 a 15).toInt = (σ_16.1 a 15).toInt := congrArg Int32.toInt (q_rdn hσ_19 (Or.inr (by decide)))
      have mv16_σ_19 : (σ_19.1 a 16).toInt = (σ_16.1 a 16).toInt := congrArg Int32.toInt (q_rdn hσ_19 (Or.inr (by decide)))
      have mcσ_19 := m_wo hσ_19 (m_ne ha (q_tk (f := 20) (k' := 34) hI ha rfl (by decide)) (by decide))
      have nnσ_19 : m_N (m_c X σ_19 a) := m_N.ext mcσ_19 nnσ_16
      have kpσ_19 : ∀ j, 0 ≤ j → j < 3720 → m_c X σ_19 a j = m_c X σ a j := fun j h0 h1 => (mcσ_19 j).trans (kpσ_16 j h0 h1)
      have k3σ_19 : m_c X σ_19 a 3720 = m_c X σ a 3720 ∧ m_c X σ_19 a 3721 = m_c X σ a 3721 := ⟨(mcσ_19 3720).trans k3σ_16.1, (mcσ_19 3721).trans k3σ_16.2⟩
      have k4σ_19 : 1 ≤ m_c X σ_19 a 3724 + 10 * (σ_19.1 a 12).toInt := (by have := mcσ_19 3724; omega)
      have smσ_19 : 0 ≤ (σ_19.1 a 15).toInt ∧ (σ_19.1 a 15).toInt ≤ (σ_19.1 a 16).toInt ∧ (σ_19.1 a 16).toInt ≤ (σ_19.1 a 9).toInt ∧ (σ_19.1 a 9).toInt ≤ 900 ∧ 0 ≤ (σ_19.1 a 14).toInt ∧ (σ_19.1 a 14).toInt ≤ 4 ∧ (σ_19.1 a 14).toInt ≤ 4 * ((σ_19.1 a 16).toInt - (σ_19.1 a 15).toInt) ∧ (σ_19.1 a 14).toInt ≤ 4 * ((σ_19.1 a 9).toInt - (σ_19.1 a 15).toInt) ∧ 0 ≤ (σ_19.1 a 12).toInt ∧ (σ_19.1 a 9).toInt = (σ.1 a 9).toInt ∧ (σ.1 a 15).toInt ≤ (σ_19.1 a 15).toInt ∧ (σ.1 a 12).toInt ≤ (σ_19.1 a 12).toInt := (by first | (rw [mv12_σ_19, mv14_σ_19, mv15_σ_19, mv16_σ_19, mv9_σ_19]; exact smσ_16) | omega)
      have beσ_19 : (σ_19.1 a 16).toInt = (σ.1 a 16).toInt := (by omega)
      clear mv9_σ_19 mv12_σ_19 mv14_σ_19 mv15_σ_19 mv16_σ_19 k4σ_16 smσ_16 beσ_16
      refine lv_aload_n hx hb dX12_readMost_29 rfl (lv_at hl 0 rfl) ?_
      refine q_cv (q_rV11_0 (rest := []) E (hml.trans hl.1.symm) hI (c_X12_next l X σ_19 a ha (by omega) (by omega) (by omega)) kv_X12_197 ha ⟨Nat.le_of_ble_eq_true rfl, Nat.le_of_ble_eq_true rfl⟩ (Nat.le_of_ble_eq_true rfl) dX12_readMost_30) hI (Nat.le_of_ble_eq_true rfl) (fun σ_21 H locs hpσ_21 hkσ_21 hI => ?_)
      have ahpσ_21 := hpσ_21.1
      have bhpσ_21 := hpσ_21.2.1
      have chpσ_21 := hpσ_21.2.2.1
      have dhpσ_21 := hpσ_21.2.2.2.1
      have ehpσ_21 := hpσ_21.2.2.2.2
      clear hpσ_21
      have fr_σ_21 := fr_σ_19.call ehpσ_21 rfl rfl
      replace hF := q_letX hF dhpσ_21
      have mcσ_21 := m_cK hkσ_21 hI.1 ha (by decide)
      have nnσ_21 : m_N (m_c X σ_21 a) := m_N.ext mcσ_21 nnσ_19
      have kpσ_21 : ∀ j, 0 ≤ j → j < 3720 → m_c X σ_21 a j = m_c X σ a j := fun j h0 h1 => (mcσ_21 j).trans (kpσ_19 j h0 h1)
      have k3σ_21 : m_c X σ_21 a 3720 = m_c X σ a 3720 ∧ m_c X σ_21 a 3721 = m_c X σ a 3721 := ⟨(mcσ_21 3720).trans k3σ_19.1, (mcσ_21 3721).trans k3σ_19.2⟩
      have k4σ_21 : 1 ≤ m_c X σ_21 a 3724 + 10 * (σ_21.1 a 12).toInt := (by have := mcσ_21 3724; omega)
      have smσ_21 : 0 ≤ (σ_21.1 a 15).toInt ∧ (σ_21.1 a 15).toInt ≤ (σ_21.1 a 16).toInt ∧ (σ_21.1 a 16).toInt ≤ (σ_21.1 a 9).toInt ∧ (σ_21.1 a 9).toInt ≤ 900 ∧ 0 ≤ (σ_21.1 a 14).toInt ∧ (σ_21.1 a 14).toInt ≤ 4 ∧ (σ_21.1 a 14).toInt ≤ 4 * ((σ_21.1 a 16).toInt - (σ_21.1 a 15).toInt) ∧ (σ_21.1 a 14).toInt ≤ 4 * ((σ_21.1 a 9).toInt - (σ_21.1 a 15).toInt) ∧ 0 ≤ (σ_21.1 a 12).toInt ∧ (σ_21.1 a 9).toInt = (σ.1 a 9).toInt ∧ (σ.1 a 15).toInt ≤ (σ_21.1 a 15).toInt ∧ (σ.1 a 12).toInt ≤ (σ_21.1 a 12).toInt := (by first | exact sm_nx smσ_19 bhpσ_21 chpσ_21 | omega)
      have onσ_21 : (σ.1 a 16).toInt ≤ (σ_21.1 a 15).toInt := (by omega)
      clear k4σ_19 smσ_19 bhpσ_21 chpσ_21
      refine lv_aload_n hx hb dX12_readMost_33 rfl (lv_at hl 0 rfl) ?_
      refine gs_X12_35_12 E hI ha dX12_readMost_34 ?_
      refine lv_sipush (v := 3724) hx hb dX12_readMost_37 zks_3724 ?_
      refine lv_aload_n hx hb dX12_readMost_40 rfl (lv_at hl 0 rfl) ?_
      refine lv_iconst (v := 1) hx hb dX12_readMost_41 zki_1 ?_
      refine lv_iconst (v := 4) hx hb dX12_readMost_42 zki_4 ?_
      have kc_22 : (1 : Int32).toInt = 1 := zt_1
      have kc_23 : (4 : Int32).toInt = 4 := zt_4
      refine q_ci (q_rV11_2 (rest := [.int 3724, .ref (q_rf X a 20)]) E (hml.trans hl.1.symm) hI (c_X12_count l X σ_21 a (1 : Int32) (4 : Int32) ha (by first | exact sm_9 smσ_21 | exact hs | omega) (by omega)) kv_X12_223 ha ⟨Nat.le_of_ble_eq_true rfl, Nat.le_of_ble_eq_true rfl⟩ (Nat.le_of_ble_eq_true rfl) dX12_readMost_43) hI (Nat.le_of_ble_eq_true rfl) (fun r_24 σ_25 H locs hpσ_25 hkσ_25 hI => ?_)
      have ahpσ_25 := hpσ_25.1
      have bhpσ_25 := hpσ_25.2.1
      have chpσ_25 := hpσ_25.2.2.1
      have dhpσ_25 := hpσ_25.2.2.2.1
      have ehpσ_25 := hpσ_25.2.2.2.2
      clear hpσ_25
      have fr_σ_25 := fr_σ_21.call ehpσ_25 rfl rfl
      replace hF := q_biX hF dhpσ_25
      have mcσ_25 := m_cK hkσ_25 hI.1 ha (by decide)
      have nnσ_25 : m_N (m_c X σ_25 a) := m_N.ext mcσ_25 nnσ_21
      have kpσ_25 : ∀ j, 0 ≤ j → j < 3720 → m_c X σ_25 a j = m_c X σ a j := fun j h0 h1 => (mcσ_25 j).trans (kpσ_21 j h0 h1)
      have k3σ_25 : m_c X σ_25 a 3720 = m_c X σ a 3720 ∧ m_c X σ_25 a 3721 = m_c X σ a 3721 := ⟨(mcσ_25 3720).trans k3σ_21.1, (mcσ_25 3721).trans k3σ_21.2⟩
      have k4σ_25 : 1 ≤ m_c X σ_25 a 3724 + 10 * (σ_25.1 a 12).toInt := (by have := mcσ_25 3724; omega)
      have smσ_25 : 0 ≤ (σ_25.1 a 15).toInt ∧ (σ_25.1 a 15).toInt ≤ (σ_25.1 a 16).toInt ∧ (σ_25.1 a 16).toInt ≤ (σ_25.1 a 9).toInt ∧ (σ_25.1 a 9).toInt ≤ 900 ∧ 0 ≤ (σ_25.1 a 14).toInt ∧ (σ_25.1 a 14).toInt ≤ 4 ∧ (σ_25.1 a 14).toInt ≤ 4 * ((σ_25.1 a 16).toInt - (σ_25.1 a 15).toInt) ∧ (σ_25.1 a 14).toInt ≤ 4 * ((σ_25.1 a 9).toInt - (σ_25.1 a 15).toInt) ∧ 0 ≤ (σ_25.1 a 12).toInt ∧ (σ_25.1 a 9).toInt = (σ.1 a 9).toInt ∧ (σ.1 a 15).toInt ≤ (σ_25.1 a 15).toInt ∧ (σ.1 a 12).toInt ≤ (σ_25.1 a 12).toInt := (by first | exact sm_tr smσ_21 bhpσ_25 | exact sm_tr smσ_21 chpσ_25 | omega)
      have onσ_25 : (σ.1 a 16).toInt ≤ (σ_25.1 a 15).toInt := (by omega)
      clear k4σ_21 smσ_21 onσ_21 bhpσ_25
      refine q_iastN E hI (q_tk (k' := 34) hI ha rfl (Nat.succ_ne_zero _)) ⟨by decide, rfl⟩ (by decide) (by rw [q_lnk (v := 4650) hI (q_tk (k' := 34) hI ha rfl (Nat.succ_ne_zero _)) rfl (by decide)]; decide) (show 1 < 2 by decide) (q_inU rfl) dX12_readMost_46 (fun H locs σ_26 hσ_26 hI => ?_)
      replace hF := q_letX hF hσ_26
      have fr_σ_26 := fr_σ_25.si hσ_26 (q_tk (k' := 34) hI ha rfl (Nat.succ_ne_zero _)) rfl
      have mv9_σ_26 : (σ_26.1 a 9).toInt = (σ_25.1 a 9).toInt := congrArg Int32.toInt (q_rdn hσ_26 (Or.inl (m_ne ha (q_tk (k' := 34) hI ha rfl (Nat.succ_ne_zero _)) (by decide))))
      have mv12_σ_26 : (σ_26.1 a 12).toInt = (σ_25.1 a 12).toInt := congrArg Int32.toInt (q_rdn hσ_26 (Or.inl (m_ne ha (q_tk (k' := 34) hI ha rfl (Nat.succ_ne_zero _)) (by decide))))
      have mv14_σ_26 : (σ_26.1 a 14).toInt = (σ_25.1 a 14).toInt := congrArg Int32.toInt (q_rdn hσ_26 (Or.inl (m_ne ha (q_tk (k' := 34) hI ha rfl (Nat.succ_ne_zero _)) (by decide))))
      have mv15_σ_26 : (σ_26.1 a 15).toInt = (σ_25.1 a 15).toInt := congrArg Int32.toInt (q_rdn hσ_26 (Or.inl (m_ne ha (q_tk (k' := 34) hI ha rfl (Nat.succ_ne_zero _)) (by decide))))
      have mv16_σ_26 : (σ_26.1 a 16).toInt = (σ_25.1 a 16).toInt := congrArg Int32.toInt (q_rdn hσ_26 (Or.inl (m_ne ha (q_tk (k' := 34) hI ha rfl (Nat.succ_ne_zero _)) (by decide))))
      have mcσ_26 := m_wr (v := r_24) (A := 3724) hσ_26 (by decide) (by decide)
      have nnσ_26 : m_N (m_c X σ_26 a) := m_N.wr nnσ_25 mcσ_26 (by omega)
      have kpσ_26 : ∀ j, 0 ≤ j → j < 3720 → m_c X σ_26 a j = m_c X σ a j := fun j h0 h1 => by rw [mcσ_26 j h0, if_neg (by omega)]; exact kpσ_25 j h0 h1
      have k3σ_26 : m_c X σ_26 a 3720 = m_c X σ a 3720 ∧ m_c X σ_26 a 3721 = m_c X σ a 3721 := ⟨by rw [mcσ_26 3720 (by decide), if_neg (by omega)]; exact k3σ_25.1, by rw [mcσ_26 3721 (by decide), if_neg (by omega)]; exact k3σ_25.2⟩
      have k4σ_26 : 1 ≤ m_c X σ_26 a 3724 + 10 * (σ_26.1 a 12).toInt := (by have := mcσ_26 3724 (by decide); rw [if_pos (by omega)] at this; omega)
      have smσ_26 : 0 ≤ (σ_26.1 a 15).toInt ∧ (σ_26.1 a 15).toInt ≤ (σ_26.1 a 16).toInt ∧ (σ_26.1 a 16).toInt ≤ (σ_26.1 a 9).toInt ∧ (σ_26.1 a 9).toInt ≤ 900 ∧ 0 ≤ (σ_26.1 a 14).toInt ∧ (σ_26.1 a 14).toInt ≤ 4 ∧ (σ_26.1 a 14).toInt ≤ 4 * ((σ_26.1 a 16).toInt - (σ_26.1 a 15).toInt) ∧ (σ_26.1 a 14).toInt ≤ 4 * ((σ_26.1 a 9).toInt - (σ_26.1 a 15).toInt) ∧ 0 ≤ (σ_26.1 a 12).toInt ∧ (σ_26.1 a 9).toInt = (σ.1 a 9).toInt ∧ (σ.1 a 15).toInt ≤ (σ_26.1 a 15).toInt ∧ (σ.1 a 12).toInt ≤ (σ_26.1 a 12).toInt := (by first | (rw [mv12_σ_26, mv14_σ_26, mv15_σ_26, mv16_σ_26, mv9_σ_26]; exact smσ_25) | omega)
      have onσ_26 : (σ.1 a 16).toInt ≤ (σ_26.1 a 15).toInt := (by omega)
      clear mv9_σ_26 mv12_σ_26 mv14_σ_26 mv15_σ_26 mv16_σ_26 k4σ_25 smσ_25 onσ_25
      exact q_retv E hr hlk hI ⟨nnσ_26, kpσ_26, (by first | exact smσ_26 | omega), (by first | exact smσ_26 | omega), k3σ_26, k4σ_26, (hF.trans hout), fr_σ_26⟩ dX12_readMost_47
    · skip
      replace hF := q_ifp hF c_18
      exact q_retv E hr hlk hI ⟨nnσ_16, kpσ_16, (by first | exact smσ_16 | omega), (by first | exact smσ_16 | omega), k3σ_16, k4σ_16, (hF.trans hout), fr_σ_16⟩ dX12_readMost_23

set_option maxRecDepth 100000 in
set_option maxHeartbeats 4000000 in
theorem c_X12_readPlayer (l : Launch) (X : XW) (σ : ST) (a : Nat) (ha : q_kd X a = 12) (hs : 0 ≤ (σ.1 a 15).toInt ∧ (σ.1 a 15).toInt ≤ (σ.1 a 16).toInt ∧ (σ.1 a 16).toInt ≤ (σ.1 a 9).toInt ∧ (σ.1 a 9).toInt ≤ 900 ∧ 0 ≤ (σ.1 a 14).toInt ∧ (σ.1 a 14).toInt ≤ 4 ∧ (σ.1 a 14).toInt ≤ 4 * ((σ.1 a 16).toInt - (σ.1 a 15).toInt) ∧ (σ.1 a 14).toInt ≤ 4 * ((σ.1 a 9).toInt - (σ.1 a 15).toInt) ∧ 0 ≤ (σ.1 a 12).toInt) (hN : m_N (m_c X σ a)) (hz : (σ.1 a 12).toInt = 0) (hk : 2 ≤ m_c X σ a 3720) (h4 : 1 ≤ m_c X σ a 3724) : Met l yX12_readPlayer (q_ws yX12_readPlayer cX12_readPlayer 2 none) (q_rm 5 107) (q_P X σ [.ref a]) (q_Qv X 1 σ (fun (σ' : ST) => (m_N (m_c X σ' a)) ∧ (∀ j, 0 ≤ j → j < 3720 → m_c X σ' a j = m_c X σ a j) ∧ (0 ≤ (σ'.1 a 15).toInt ∧ (σ'.1 a 15).toInt ≤ (σ'.1 a 16).toInt ∧ (σ'.1 a 16).toInt ≤ (σ'.1 a 9).toInt ∧ (σ'.1 a 9).toInt ≤ 900 ∧ 0 ≤ (σ'.1 a 14).toInt ∧ (σ'.1 a 14).toInt ≤ 4 ∧ (σ'.1 a 14).toInt ≤ 4 * ((σ'.1 a 16).toInt - (σ'.1 a 15).toInt) ∧ (σ'.1 a 14).toInt ≤ 4 * ((σ'.1 a 9).toInt - (σ'.1 a 15).toInt) ∧ 0 ≤ (σ'.1 a 12).toInt ∧ (σ'.1 a 9).toInt = (σ.1 a 9).toInt ∧ (σ.1 a 15).toInt ≤ (σ'.1 a 15).toInt ∧ (σ.1 a 12).toInt ≤ (σ'.1 a 12).toInt) ∧ ((σ.1 a 16).toInt ≤ (σ'.1 a 15).toInt + 1000 * (σ'.1 a 12).toInt) ∧ (m_c X σ' a 3720 = m_c X σ a 3720 ∧ m_c X σ' a 3721 = m_c X σ a 3721) ∧ (1 ≤ m_c X σ' a 3724 + 10 * (σ'.1 a 12).toInt) ∧ σ' = F_X12_readPlayer X σ a ∧ q_ow [(12, 12), (12, 13), (12, 14), (12, 15), (12, 16), (12, 17), (12, 18), (34, 99)] [(12, 19), (37, 99)] X σ σ')) 0 0 (q_reg X) := by
  refine q_met 1 (by first | exact rfl | decide +kernel) rfl (Nat.le_of_ble_eq_true rfl) (fun p e s m below meth c E hml hr hlk hI ls hl => ?_)
  have hx := E.1
  have hb := E.2.1
  have hl : lv_has ls 2 [(0, .ref a)] := hl
  have nnσ : m_N (m_c X σ a) := hN
  have kpσ : ∀ j, 0 ≤ j → j < 3720 → m_c X σ a j = m_c X σ a j := fun _ _ _ => rfl
  have k3σ : m_c X σ a 3720 = m_c X σ a 3720 ∧ m_c X σ a 3721 = m_c X σ a 3721 := ⟨rfl, rfl⟩
  have k4σ : 1 ≤ m_c X σ a 3724 + 10 * (σ.1 a 12).toInt := (by omega)
  have smσ : 0 ≤ (σ.1 a 15).toInt ∧ (σ.1 a 15).toInt ≤ (σ.1 a 16).toInt ∧ (σ.1 a 16).toInt ≤ (σ.1 a 9).toInt ∧ (σ.1 a 9).toInt ≤ 900 ∧ 0 ≤ (σ.1 a 14).toInt ∧ (σ.1 a 14).toInt ≤ 4 ∧ (σ.1 a 14).toInt ≤ 4 * ((σ.1 a 16).toInt - (σ.1 a 15).toInt) ∧ (σ.1 a 14).toInt ≤ 4 * ((σ.1 a 9).toInt - (σ.1 a 15).toInt) ∧ 0 ≤ (σ.1 a 12).toInt ∧ (σ.1 a 9).toInt = (σ.1 a 9).toInt ∧ (σ.1 a 15).toInt ≤ (σ.1 a 15).toInt ∧ (σ.1 a 12).toInt ≤ (σ.1 a 12).toInt := (by omega)
  have beσ : (σ.1 a 16).toInt = (σ.1 a 16).toInt := rfl
  have kmσ : m_c X σ a 3722 = m_c X σ a 3722 := rfl
  have fr_σ : q_ow [(12, 12), (12, 13), (12, 14), (12, 15), (12, 16), (12, 17), (12, 18), (34, 99)] [(12, 19), (37, 99)] X σ σ := q_ow.rf
  have n2 := hN.2.2.1
  obtain ⟨out, hout⟩ : ∃ o, o = F_X12_readPlayer X σ a := ⟨_, rfl⟩
  have hF := hout.symm
  unfold F_X12_readPlayer at hF
  refine lv_aload_n hx hb dX12_readPlayer_0 rfl (lv_at hl 0 rfl) ?_
  refine gs_X12_35_12 E hI ha dX12_readPlayer_1 ?_
  refine lv_sipush (v := 3722) hx hb dX12_readPlayer_4 zks_3722 ?_
  refine q_iald E hI (q_tk (k' := 34) hI ha rfl (Nat.succ_ne_zero _)) ⟨by decide, rfl⟩ (by decide) (by rw [q_lnk (v := 4650) hI (q_tk (k' := 34) hI ha rfl (Nat.succ_ne_zero _)) rfl (by decide)]; decide) dX12_readPlayer_7 ?_
  refine lv_topi (fun f_1 ef_1 => ?_)
  replace hF := q_letX hF ef_1
  have if_1 : f_1.toInt = m_c X σ a 3722 := m_rd ef_1 (by decide)
  refine lv_istore_n (lv' := [(1, .int f_1), (0, .ref a)]) hx hb dX12_readPlayer_8 rfl hl (by decide) rfl (fun ls hl => ?_)
  refine lv_iload_n hx hb dX12_readPlayer_9 rfl (lv_at hl 0 rfl) ?_
  refine lv_bipush (v := 6) hx hb dX12_readPlayer_10 zkb_6 ?_
  have J_25_2 : ∀  (σ_2 : ST) (H : Heap) (locs : List Loc) (ls : Array Slot), (f_1.toInt ≤ 5 + (σ_2.1 a 12).toInt) → (q_ow [(12, 12), (12, 13), (12, 14), (12, 15), (12, 16), (12, 17), (12, 18), (34, 99)] [(12, 19), (37, 99)] X σ σ_2) → (m_N (m_c X σ_2 a)) → (∀ j, 0 ≤ j → j < 3720 → m_c X σ_2 a j = m_c X σ a j) → (m_c X σ_2 a 3720 = m_c X σ a 3720 ∧ m_c X σ_2 a 3721 = m_c X σ a 3721) → (1 ≤ m_c X σ_2 a 3724 + 10 * (σ_2.1 a 12).toInt) → (0 ≤ (σ_2.1 a 15).toInt ∧ (σ_2.1 a 15).toInt ≤ (σ_2.1 a 16).toInt ∧ (σ_2.1 a 16).toInt ≤ (σ_2.1 a 9).toInt ∧ (σ_2.1 a 9).toInt ≤ 900 ∧ 0 ≤ (σ_2.1 a 14).toInt ∧ (σ_2.1 a 14).toInt ≤ 4 ∧ (σ_2.1 a 14).toInt ≤ 4 * ((σ_2.1 a 16).toInt - (σ_2.1 a 15).toInt) ∧ (σ_2.1 a 14).toInt ≤ 4 * ((σ_2.1 a 9).toInt - (σ_2.1 a 15).toInt) ∧ 0 ≤ (σ_2.1 a 12).toInt ∧ (σ_2.1 a 9).toInt = (σ.1 a 9).toInt ∧ (σ.1 a 15).toInt ≤ (σ_2.1 a 15).toInt ∧ (σ.1 a 12).toInt ≤ (σ_2.1 a 12).toInt) → ((σ_2.1 a 16).toInt = (σ.1 a 16).toInt) → (m_c X σ_2 a 3722 = m_c X σ a 3722) → (F_X12_readPlayer_J25_1 X a f_1 σ_2 = out) → q_I X 1 σ s.heap locs σ_2 H → lv_has ls 2 [(0, .ref a), (1, .int f_1)] → W p l e (q_rm 5 107) s m ([.ref a] : List Value).toArray below meth c H locs 0 0 (MQ below (q_Qv X 1 σ (fun (σ' : ST) => (m_N (m_c X σ' a)) ∧ (∀ j, 0 ≤ j → j < 3720 → m_c X σ' a j = m_c X σ a j) ∧ (0 ≤ (σ'.1 a 15).toInt ∧ (σ'.1 a 15).toInt ≤ (σ'.1 a 16).toInt ∧ (σ'.1 a 16).toInt ≤ (σ'.1 a 9).toInt ∧ (σ'.1 a 9).toInt ≤ 900 ∧ 0 ≤ (σ'.1 a 14).toInt ∧ (σ'.1 a 14).toInt ≤ 4 ∧ (σ'.1 a 14).toInt ≤ 4 * ((σ'.1 a 16).toInt - (σ'.1 a 15).toInt) ∧ (σ'.1 a 14).toInt ≤ 4 * ((σ'.1 a 9).toInt - (σ'.1 a 15).toInt) ∧ 0 ≤ (σ'.1 a 12).toInt ∧ (σ'.1 a 9).toInt = (σ.1 a 9).toInt ∧ (σ.1 a 15).toInt ≤ (σ'.1 a 15).toInt ∧ (σ.1 a 12).toInt ≤ (σ'.1 a 12).toInt) ∧ ((σ.1 a 16).toInt ≤ (σ'.1 a 15).toInt + 1000 * (σ'.1 a 12).toInt) ∧ (m_c X σ' a 3720 = m_c X σ a 3720 ∧ m_c X σ' a 3721 = m_c X σ a 3721) ∧ (1 ≤ m_c X σ' a 3724 + 10 * (σ'.1 a 12).toInt) ∧ σ' = F_X12_readPlayer X σ a ∧ q_ow [(12, 12), (12, 13), (12, 14), (12, 15), (12, 16), (12, 17), (12, 18), (34, 99)] [(12, 19), (37, 99)] X σ σ')) ([.ref a] : List Value).toArray s 0 0 (q_reg X)) (F0 m 25 ls []) := by
    clear hF
    intro σ_2 H locs ls j25σ_2 fr_σ_2 nnσ_2 kpσ_2 k3σ_2 k4σ_2 smσ_2 beσ_2 kmσ_2 hF hI hl
    try clear nnσ; try clear kpσ; try clear smσ; try clear beσ; try clear kmσ; try clear fr_σ
    unfold F_X12_readPlayer_J25_1 at hF
    refine lv_aload_n hx hb dX12_readPlayer_25 rfl (lv_at hl 0 rfl) ?_
    refine gs_X12_187_12 E hI ha dX12_readPlayer_26 ?_
    refine lv_topi (fun f_3 ef_3 => ?_)
    replace hF := q_letX hF ef_3
    have if_3 : f_3.toInt = (σ_2.1 a 12).toInt := congrArg Int32.toInt ef_3
    refine q_if_le (A := f_3.toInt) E rfl (tgt := 33) dX12_readPlayer_29 (by decide) (fun c_4 => ?_) (fun c_4 => ?_)
    · skip
      replace hF := q_ifn hF (Int.not_lt.mpr c_4)
      refine lv_aload_n hx hb dX12_readPlayer_33 rfl (lv_at hl 0 rfl) ?_
      refine q_cv (q_rV11_0 (rest := []) E (hml.trans hl.1.symm) hI (c_X12_next l X σ_2 a ha (by first | (clear hz hk h4 k3σ k4σ if_1 j25σ_2 k3σ_2 k4σ_2 smσ_2 kmσ_2 if_3 c_4; omega) | omega) (by first | (clear hz hk h4 k3σ k4σ if_1 j25σ_2 k3σ_2 k4σ_2 kmσ_2 if_3 c_4; omega) | omega) (by first | (clear hz hk h4 k3σ k4σ if_1 j25σ_2 k3σ_2 k4σ_2 beσ_2 kmσ_2 if_3 c_4; omega) | omega)) kv_X12_197 ha ⟨Nat.le_of_ble_eq_true rfl, Nat.le_of_ble_eq_true rfl⟩ (Nat.le_of_ble_eq_true rfl) dX12_readPlayer_34) hI (Nat.le_of_ble_eq_true rfl) (fun σ_6 H locs hpσ_6 hkσ_6 hI => ?_)
      have ahpσ_6 := hpσ_6.1
      have bhpσ_6 := hpσ_6.2.1
      have chpσ_6 := hpσ_6.2.2.1
      have dhpσ_6 := hpσ_6.2.2.2.1
      have ehpσ_6 := hpσ_6.2.2.2.2
      clear hpσ_6
      have fr_σ_6 := fr_σ_2.call ehpσ_6 rfl rfl
      replace hF := q_letX hF dhpσ_6
      have mcσ_6 := m_cK hkσ_6 hI.1 ha (by decide)
      have nnσ_6 : m_N (m_c X σ_6 a) := m_N.ext mcσ_6 nnσ_2
      have kpσ_6 : ∀ j, 0 ≤ j → j < 3720 → m_c X σ_6 a j = m_c X σ a j := fun j h0 h1 => (mcσ_6 j).trans (kpσ_2 j h0 h1)
      have k3σ_6 : m_c X σ_6 a 3720 = m_c X σ a 3720 ∧ m_c X σ_6 a 3721 = m_c X σ a 3721 := ⟨(mcσ_6 3720).trans k3σ_2.1, (mcσ_6 3721).trans k3σ_2.2⟩
      have k4σ_6 : 1 ≤ m_c X σ_6 a 3724 + 10 * (σ_6.1 a 12).toInt := (by have := mcσ_6 3724; omega)
      have smσ_6 : 0 ≤ (σ_6.1 a 15).toInt ∧ (σ_6.1 a 15).toInt ≤ (σ_6.1 a 16).toInt ∧ (σ_6.1 a 16).toInt ≤ (σ_6.1 a 9).toInt ∧ (σ_6.1 a 9).toInt ≤ 900 ∧ 0 ≤ (σ_6.1 a 14).toInt ∧ (σ_6.1 a 14).toInt ≤ 4 ∧ (σ_6.1 a 14).toInt ≤ 4 * ((σ_6.1 a 16).toInt - (σ_6.1 a 15).toInt) ∧ (σ_6.1 a 14).toInt ≤ 4 * ((σ_6.1 a 9).toInt - (σ_6.1 a 15).toInt) ∧ 0 ≤ (σ_6.1 a 12).toInt ∧ (σ_6.1 a 9).toInt = (σ.1 a 9).toInt ∧ (σ.1 a 15).toInt ≤ (σ_6.1 a 15).toInt ∧ (σ.1 a 12).toInt ≤ (σ_6.1 a 12).toInt := (by first | exact sm_nx smσ_2 bhpσ_6 chpσ_6 | omega)
      have onσ_6 : (σ.1 a 16).toInt ≤ (σ_6.1 a 15).toInt := (by first | (clear hs hz hk h4 k3σ k4σ if_1 j25σ_2 k3σ_2 k4σ_2 smσ_2 kmσ_2 if_3 c_4 ahpσ_6 bhpσ_6 dhpσ_6 ehpσ_6 k3σ_6 k4σ_6 smσ_6; omega) | omega)
      have kmσ_6 : m_c X σ_6 a 3722 = m_c X σ a 3722 := (mcσ_6 3722).trans kmσ_2
      clear k4σ_2 smσ_2 kmσ_2 bhpσ_6 chpσ_6
      refine lv_aload_n hx hb dX12_readPlayer_37 rfl (lv_at hl 0 rfl) ?_
      refine q_ci (q_rV11_0 (rest := []) E (hml.trans hl.1.symm) hI (c_X12_isName l X σ_6 a ha (by first | (clear hs hz hk h4 k3σ k4σ if_1 j25σ_2 k3σ_2 beσ_2 if_3 c_4 ahpσ_6 dhpσ_6 ehpσ_6 k3σ_6 k4σ_6 onσ_6 kmσ_6; omega) | omega)) kv_X12_210 ha ⟨Nat.le_of_ble_eq_true rfl, Nat.le_of_ble_eq_true rfl⟩ (Nat.le_of_ble_eq_true rfl) dX12_readPlayer_38) hI (Nat.le_of_ble_eq_true rfl) (fun r_7 σ_8 H locs hpσ_8 hkσ_8 hI => ?_)
      have ahpσ_8 := hpσ_8.1
      have bhpσ_8 := hpσ_8.2.1
      have chpσ_8 := hpσ_8.2.2
      clear hpσ_8
      replace hI := q_Irw ahpσ_8 hI
      replace hF := q_letX hF chpσ_8
      have J_48_9 : ∀  (σ_9 : ST) (H : Heap) (locs : List Loc) (ls : Array Slot), (q_ow [(12, 12), (12, 13), (12, 14), (12, 15), (12, 16), (12, 17), (12, 18), (34, 99)] [(12, 19), (37, 99)] X σ σ_9) → (m_N (m_c X σ_9 a)) → (∀ j, 0 ≤ j → j < 3720 → m_c X σ_9 a j = m_c X σ a j) → (m_c X σ_9 a 3720 = m_c X σ a 3720 ∧ m_c X σ_9 a 3721 = m_c X σ a 3721) → (1 ≤ m_c X σ_9 a 3724 + 10 * (σ_9.1 a 12).toInt) → (0 ≤ (σ_9.1 a 15).toInt ∧ (σ_9.1 a 15).toInt ≤ (σ_9.1 a 16).toInt ∧ (σ_9.1 a 16).toInt ≤ (σ_9.1 a 9).toInt ∧ (σ_9.1 a 9).toInt ≤ 900 ∧ 0 ≤ (σ_9.1 a 14).toInt ∧ (σ_9.1 a 14).toInt ≤ 4 ∧ (σ_9.1 a 14).toInt ≤ 4 * ((σ_9.1 a 16).toInt - (σ_9.1 a 15).toInt) ∧ (σ_9.1 a 14).toInt ≤ 4 * ((σ_9.1 a 9).toInt - (σ_9.1 a 15).toInt) ∧ 0 ≤ (σ_9.1 a 12).toInt ∧ (σ_9.1 a 9).toInt = (σ.1 a 9).toInt ∧ (σ.1 a 15).toInt ≤ (σ_9.1 a 15).toInt ∧ (σ.1 a 12).toInt ≤ (σ_9.1 a 12).toInt) → ((σ.1 a 16).toInt ≤ (σ_9.1 a 15).toInt) → (m_c X σ_9 a 3722 = m_c X σ a 3722) → (F_X12_readPlayer_J48_2 X a f_1 σ_9 = out) → q_I X 1 σ s.heap locs σ_9 H → lv_has ls 2 [(0, .ref a), (1, .int f_1)] → W p l e (q_rm 5 107) s m ([.ref a] : List Value).toArray below meth c H locs 0 0 (MQ below (q_Qv X 1 σ (fun (σ' : ST) => (m_N (m_c X σ' a)) ∧ (∀ j, 0 ≤ j → j < 3720 → m_c X σ' a j = m_c X σ a j) ∧ (0 ≤ (σ'.1 a 15).toInt ∧ (σ'.1 a 15).toInt ≤ (σ'.1 a 16).toInt ∧ (σ'.1 a 16).toInt ≤ (σ'.1 a 9).toInt ∧ (σ'.1 a 9).toInt ≤ 900 ∧ 0 ≤ (σ'.1 a 14).toInt ∧ (σ'.1 a 14).toInt ≤ 4 ∧ (σ'.1 a 14).toInt ≤ 4 * ((σ'.1 a 16).toInt - (σ'.1 a 15).toInt) ∧ (σ'.1 a 14).toInt ≤ 4 * ((σ'.1 a 9).toInt - (σ'.1 a 15).toInt) ∧ 0 ≤ (σ'.1 a 12).toInt ∧ (σ'.1 a 9).toInt = (σ.1 a 9).toInt ∧ (σ.1 a 15).toInt ≤ (σ'.1 a 15).toInt ∧ (σ.1 a 12).toInt ≤ (σ'.1 a 12).toInt) ∧ ((σ.1 a 16).toInt ≤ (σ'.1 a 15).toInt + 1000 * (σ'.1 a 12).toInt) ∧ (m_c X σ' a 3720 = m_c X σ a 3720 ∧ m_c X σ' a 3721 = m_c X σ a 3721) ∧ (1 ≤ m_c X σ' a 3724 + 10 * (σ'.1 a 12).toInt) ∧ σ' = F_X12_readPlayer X σ a ∧ q_ow [(12, 12), (12, 13), (12, 14), (12, 15), (12, 16), (12, 17), (12, 18), (34, 99)] [(12, 19), (37, 99)] X σ σ')) ([.ref a] : List Value).toArray s 0 0 (q_reg X)) (F0 m 48 ls []) := by
        clear hF
        intro σ_9 H locs ls fr_σ_9 nnσ_9 kpσ_9 k3σ_9 k4σ_9 smσ_9 onσ_9 kmσ_9 hF hI hl
        try clear ahpσ_6; try clear fr_σ_6; try clear mcσ_6; try clear nnσ_6; try clear kpσ_6; try clear smσ_6; try clear onσ_6; try clear kmσ_6; try clear ahpσ_8
        unfold F_X12_readPlayer_J48_2 at hF
        refine lv_aload_n hx hb dX12_readPlayer_48 rfl (lv_at hl 0 rfl) ?_
        refine gs_X12_187_12 E hI ha dX12_readPlayer_49 ?_
        refine lv_topi (fun f_10 ef_10 => ?_)
        replace hF := q_letX hF ef_10
        have if_10 : f_10.toInt = (σ_9.1 a 12).toInt := congrArg Int32.toInt ef_10
        have J_72_11 : ∀  (σ_11 : ST) (H : Heap) (locs : List Loc) (ls : Array Slot), (q_ow [(12, 12), (12, 13), (12, 14), (12, 15), (12, 16), (12, 17), (12, 18), (34, 99)] [(12, 19), (37, 99)] X σ σ_11) → (m_N (m_c X σ_11 a)) → (∀ j, 0 ≤ j → j < 3720 → m_c X σ_11 a j = m_c X σ a j) → (m_c X σ_11 a 3720 = m_c X σ a 3720 ∧ m_c X σ_11 a 3721 = m_c X σ a 3721) → (1 ≤ m_c X σ_11 a 3724 + 10 * (σ_11.1 a 12).toInt) → (0 ≤ (σ_11.1 a 15).toInt ∧ (σ_11.1 a 15).toInt ≤ (σ_11.1 a 16).toInt ∧ (σ_11.1 a 16).toInt ≤ (σ_11.1 a 9).toInt ∧ (σ_11.1 a 9).toInt ≤ 900 ∧ 0 ≤ (σ_11.1 a 14).toInt ∧ (σ_11.1 a 14).toInt ≤ 4 ∧ (σ_11.1 a 14).toInt ≤ 4 * ((σ_11.1 a 16).toInt - (σ_11.1 a 15).toInt) ∧ (σ_11.1 a 14).toInt ≤ 4 * ((σ_11.1 a 9).toInt - (σ_11.1 a 15).toInt) ∧ 0 ≤ (σ_11.1 a 12).toInt ∧ (σ_11.1 a 9).toInt = (σ.1 a 9).toInt ∧ (σ.1 a 15).toInt ≤ (σ_11.1 a 15).toInt ∧ (σ.1 a 12).toInt ≤ (σ_11.1 a 12).toInt) → ((σ.1 a 16).toInt ≤ (σ_11.1 a 15).toInt) → (m_c X σ_11 a 3722 = m_c X σ a 3722) → (F_X12_readPlayer_J72_3 X a f_1 σ_11 = out) → q_I X 1 σ s.heap locs σ_11 H → lv_has ls 2 [(0, .ref a), (1, .int f_1)] → W p l e (q_rm 5 107) s m ([.ref a] : List Value).toArray below meth c H locs 0 0 (MQ below (q_Qv X 1 σ (fun (σ' : ST) => (m_N (m_c X σ' a)) ∧ (∀ j, 0 ≤ j → j < 3720 → m_c X σ' a j = m_c X σ a j) ∧ (0 ≤ (σ'.1 a 15).toInt ∧ (σ'.1 a 15).toInt ≤ (σ'.1 a 16).toInt ∧ (σ'.1 a 16).toInt ≤ (σ'.1 a 9).toInt ∧ (σ'.1 a 9).toInt ≤ 900 ∧ 0 ≤ (σ'.1 a 14).toInt ∧ (σ'.1 a 14).toInt ≤ 4 ∧ (σ'.1 a 14).toInt ≤ 4 * ((σ'.1 a 16).toInt - (σ'.1 a 15).toInt) ∧ (σ'.1 a 14).toInt ≤ 4 * ((σ'.1 a 9).toInt - (σ'.1 a 15).toInt) ∧ 0 ≤ (σ'.1 a 12).toInt ∧ (σ'.1 a 9).toInt = (σ.1 a 9).toInt ∧ (σ.1 a 15).toInt ≤ (σ'.1 a 15).toInt ∧ (σ.1 a 12).toInt ≤ (σ'.1 a 12).toInt) ∧ ((σ.1 a 16).toInt ≤ (σ'.1 a 15).toInt + 1000 * (σ'.1 a 12).toInt) ∧ (m_c X σ' a 3720 = m_c X σ a 3720 ∧ m_c X σ' a 3721 = m_c X σ a 3721) ∧ (1 ≤ m_c X σ' a 3724 + 10 * (σ'.1 a 12).toInt) ∧ σ' = F_X12_readPlayer X σ a ∧ q_ow [(12, 12), (12, 13), (12, 14), (12, 15), (12, 16), (12, 17), (12, 18), (34, 99)] [(12, 19), (37, 99)] X σ σ')) ([.ref a] : List Value).toArray s 0 0 (q_reg X)) (F0 m 72 ls []) := by
          clear hF
          intro σ_11 H locs ls fr_σ_11 nnσ_11 kpσ_11 k3σ_11 k4σ_11 smσ_11 onσ_11 kmσ_11 hF hI hl
          try clear fr_σ_9; try clear nnσ_9; try clear kpσ_9; try clear smσ_9; try clear onσ_9; try clear kmσ_9
          unfold F_X12_readPlayer_J72_3 at hF
          refine lv_aload_n hx hb dX12_readPlayer_72 rfl (lv_at hl 0 rfl) ?_
          refine gs_X12_187_12 E hI ha dX12_readPlayer_73 ?_
          refine lv_topi (fun f_12 ef_12 => ?_)
          replace hF := q_letX hF ef_12
          have if_12 : f_12.toInt = (σ_11.1 a 12).toInt := congrArg Int32.toInt ef_12
          refine q_if_le (A := f_12.toInt) E rfl (tgt := 80) dX12_readPlayer_76 (by decide) (fun c_13 => ?_) (fun c_13 => ?_)
          · skip
            replace hF := q_ifn hF (Int.not_lt.mpr c_13)
            refine lv_aload_n hx hb dX12_readPlayer_80 rfl (lv_at hl 0 rfl) ?_
            refine gs_X12_44_12 E hI ha dX12_readPlayer_81 ?_
            refine lv_bipush (v := 24) hx hb dX12_readPlayer_84 zkb_24 ?_
            refine lv_iload_n hx hb dX12_readPlayer_86 rfl (lv_at hl 1 rfl) ?_
            refine lv_iadd hx hb dX12_readPlayer_87 ?_
            refine lv_topi (fun z_14 ez_14 => ?_)
            replace hF := q_letX hF ez_14
            have iz_14 := q_addI (A := 24) (B := (m_c X σ a 3722)) ez_14 (by decide) if_1 (by first | (clear hs hz hk h4 k3σ k4σ j25σ_2 k3σ_2 beσ_2 if_3 c_4 dhpσ_6 ehpσ_6 k3σ_6 k4σ_6 bhpσ_8 chpσ_8 k3σ_9 k4σ_9 if_10 k3σ_11 k4σ_11 smσ_11 onσ_11 if_12 c_13; omega) | omega) (by first | (clear hs hz hk h4 k3σ k4σ j25σ_2 k3σ_2 beσ_2 if_3 c_4 dhpσ_6 ehpσ_6 k3σ_6 k4σ_6 bhpσ_8 chpσ_8 k3σ_9 k4σ_9 if_10 k3σ_11 k4σ_11 smσ_11 onσ_11 if_12 c_13; omega) | omega)
            refine lv_aload_n hx hb dX12_readPlayer_88 rfl (lv_at hl 0 rfl) ?_
            refine gs_X12_116_12 E hI ha dX12_readPlayer_89 ?_
            refine lv_topl (fun g_15 eg_15 => ?_)
            replace hF := q_letX hF eg_15
            refine q_lastN E hI (q_tk (k' := 37) hI ha rfl (Nat.succ_ne_zero _)) ⟨by decide, rfl⟩ (by first | (clear hs hz hk h4 k3σ k4σ j25σ_2 k3σ_2 beσ_2 if_3 c_4 dhpσ_6 ehpσ_6 k3σ_6 k4σ_6 bhpσ_8 chpσ_8 k3σ_9 k4σ_9 if_10 k3σ_11 k4σ_11 smσ_11 onσ_11 if_12 c_13; omega) | omega) (by rw [q_lnk (v := 30) hI (q_tk (k' := 37) hI ha rfl (Nat.succ_ne_zero _)) rfl (by decide)]; omega) dX12_readPlayer_92 (fun H locs σ_16 hσ_16 hI => ?_)
            replace hF := q_letX hF hσ_16
            have fr_σ_16 := fr_σ_11.sl hσ_16 (q_tk (k' := 37) hI ha rfl (Nat.succ_ne_zero _)) rfl
            have mv9_σ_16 : (σ_16.1 a 9).toInt = (σ_11.1 a 9).toInt := congrArg Int32.toInt ((fun b g _ => by rw [hσ_16]; rfl : q_K 8 X σ_11 σ_16) a 9 (by rw [ha]; decide))
            have mv12_σ_16 : (σ_16.1 a 12).toInt = (σ_11.1 a 12).toInt := congrArg Int32.toInt ((fun b g _ => by rw [hσ_16]; rfl : q_K 8 X σ_11 σ_16) a 12 (by rw [ha]; decide))
            have mv14_σ_16 : (σ_16.1 a 14).toInt = (σ_11.1 a 14).toInt := congrArg Int32.toInt ((fun b g _ => by rw [hσ_16]; rfl : q_K 8 X σ_11 σ_16) a 14 (by rw [ha]; decide))
            have mv15_σ_16 : (σ_16.1 a 15).toInt = (σ_11.1 a 15).toInt := congrArg Int32.toInt ((fun b g _ => by rw [hσ_16]; rfl : q_K 8 X σ_11 σ_16) a 15 (by rw [ha]; decide))
            have mv16_σ_16 : (σ_16.1 a 16).toInt = (σ_11.1 a 16).toInt := congrArg Int32.toInt ((fun b g _ => by rw [hσ_16]; rfl : q_K 8 X σ_11 σ_16) a 16 (by rw [ha]; decide))
            have mcσ_16 := m_wl (X := X) hσ_16 a
            have nnσ_16 : m_N (m_c X σ_16 a) := m_N.ext mcσ_16 nnσ_11
            have kpσ_16 : ∀ j, 0 ≤ j → j < 3720 → m_c X σ_16 a j = m_c X σ a j := fun j h0 h1 => (mcσ_16 j).trans (kpσ_11 j h0 h1)
            have k3σ_16 : m_c X σ_16 a 3720 = m_c X σ a 3720 ∧ m_c X σ_16 a 3721 = m_c X σ a 3721 := ⟨(mcσ_16 3720).trans k3σ_11.1, (mcσ_16 3721).trans k3σ_11.2⟩
            have k4σ_16 : 1 ≤ m_c X σ_16 a 3724 + 10 * (σ_16.1 a 12).toInt := (by have := mcσ_16 3724; omega)
            have smσ_16 : 0 ≤ (σ_16.1 a 15).toInt ∧ (σ_16.1 a 15).toInt ≤ (σ_16.1 a 16).toInt ∧ (σ_16.1 a 16).toInt ≤ (σ_16.1 a 9).toInt ∧ (σ_16.1 a 9).toInt ≤ 900 ∧ 0 ≤ (σ_16.1 a 14).toInt ∧ (σ_16.1 a 14).toInt ≤ 4 ∧ (σ_16.1 a 14).toInt ≤ 4 * ((σ_16.1 a 16).toInt - (σ_16.1 a 15).toInt) ∧ (σ_16.1 a 14).toInt ≤ 4 * ((σ_16.1 a 9).toInt - (σ_16.1 a 15).toInt) ∧ 0 ≤ (σ_16.1 a 12).toInt ∧ (σ_16.1 a 9).toInt = (σ.1 a 9).toInt ∧ (σ.1 a 15).toInt ≤ (σ_16.1 a 15).toInt ∧ (σ.1 a 12).toInt ≤ (σ_16.1 a 12).toInt := (by first | (rw [mv12_σ_16, mv14_σ_16, mv15_σ_16, mv16_σ_16, mv9_σ_16]; exact smσ_11) | omega)
            have onσ_16 : (σ.1 a 16).toInt ≤ (σ_16.1 a 15).toInt := (by first | (clear hs hz hk h4 k3σ k4σ if_1 j25σ_2 k3σ_2 if_3 c_4 dhpσ_6 ehpσ_6 k3σ_6 k4σ_6 bhpσ_8 chpσ_8 k3σ_9 k4σ_9 if_10 k3σ_11 k4σ_11 smσ_11 kmσ_11 if_12 c_13 iz_14 mv9_σ_16 mv12_σ_16 mv14_σ_16 mv16_σ_16 k3σ_16 k4σ_16 smσ_16; omega) | omega)
            have kmσ_16 : m_c X σ_16 a 3722 = m_c X σ a 3722 := (mcσ_16 3722).trans kmσ_11
            clear mv9_σ_16 mv12_σ_16 mv14_σ_16 mv15_σ_16 mv16_σ_16 k4σ_11 smσ_11 onσ_11 kmσ_11
            refine lv_aload_n hx hb dX12_readPlayer_93 rfl (lv_at hl 0 rfl) ?_
            refine q_cv (q_rV11_0 (rest := []) E (hml.trans hl.1.symm) hI (c_X12_next l X σ_16 a ha (by first | (clear hs hz hk h4 k3σ k4σ if_1 j25σ_2 k3σ_2 beσ_2 if_3 c_4 dhpσ_6 ehpσ_6 k3σ_6 k4σ_6 bhpσ_8 chpσ_8 k3σ_9 k4σ_9 if_10 k3σ_11 if_12 c_13 iz_14 k3σ_16 k4σ_16 onσ_16 kmσ_16; omega) | omega) (by first | (clear hs hz hk h4 k3σ k4σ if_1 j25σ_2 k3σ_2 beσ_2 if_3 c_4 dhpσ_6 ehpσ_6 k3σ_6 k4σ_6 bhpσ_8 chpσ_8 k3σ_9 k4σ_9 if_10 k3σ_11 if_12 c_13 iz_14 k3σ_16 k4σ_16 onσ_16 kmσ_16; omega) | omega) (by first | (clear hz hk h4 k3σ k4σ if_1 j25σ_2 k3σ_2 beσ_2 if_3 c_4 dhpσ_6 ehpσ_6 k3σ_6 k4σ_6 bhpσ_8 chpσ_8 k3σ_9 k4σ_9 if_10 k3σ_11 if_12 c_13 iz_14 k3σ_16 k4σ_16 onσ_16 kmσ_16; omega) | omega)) kv_X12_197 ha ⟨Nat.le_of_ble_eq_true rfl, Nat.le_of_ble_eq_true rfl⟩ (Nat.le_of_ble_eq_true rfl) dX12_readPlayer_94) hI (Nat.le_of_ble_eq_true rfl) (fun σ_18 H locs hpσ_18 hkσ_18 hI => ?_)
            have ahpσ_18 := hpσ_18.1
            have bhpσ_18 := hpσ_18.2.1
            have chpσ_18 := hpσ_18.2.2.1
            have dhpσ_18 := hpσ_18.2.2.2.1
            have ehpσ_18 := hpσ_18.2.2.2.2
            clear hpσ_18
            have fr_σ_18 := fr_σ_16.call ehpσ_18 rfl rfl
            replace hF := q_letX hF dhpσ_18
            have mcσ_18 := m_cK hkσ_18 hI.1 ha (by decide)
            have nnσ_18 : m_N (m_c X σ_18 a) := m_N.ext mcσ_18 nnσ_16
            have kpσ_18 : ∀ j, 0 ≤ j → j < 3720 → m_c X σ_18 a j = m_c X σ a j := fun j h0 h1 => (mcσ_18 j).trans (kpσ_16 j h0 h1)
            have k3σ_18 : m_c X σ_18 a 3720 = m_c X σ a 3720 ∧ m_c X σ_18 a 3721 = m_c X σ a 3721 := ⟨(mcσ_18 3720).trans k3σ_16.1, (mcσ_18 3721).trans k3σ_16.2⟩
            have k4σ_18 : 1 ≤ m_c X σ_18 a 3724 + 10 * (σ_18.1 a 12).toInt := (by have := mcσ_18 3724; omega)
            have smσ_18 : 0 ≤ (σ_18.1 a 15).toInt ∧ (σ_18.1 a 15).toInt ≤ (σ_18.1 a 16).toInt ∧ (σ_18.1 a 16).toInt ≤ (σ_18.1 a 9).toInt ∧ (σ_18.1 a 9).toInt ≤ 900 ∧ 0 ≤ (σ_18.1 a 14).toInt ∧ (σ_18.1 a 14).toInt ≤ 4 ∧ (σ_18.1 a 14).toInt ≤ 4 * ((σ_18.1 a 16).toInt - (σ_18.1 a 15).toInt) ∧ (σ_18.1 a 14).toInt ≤ 4 * ((σ_18.1 a 9).toInt - (σ_18.1 a 15).toInt) ∧ 0 ≤ (σ_18.1 a 12).toInt ∧ (σ_18.1 a 9).toInt = (σ.1 a 9).toInt ∧ (σ.1 a 15).toInt ≤ (σ_18.1 a 15).toInt ∧ (σ.1 a 12).toInt ≤ (σ_18.1 a 12).toInt := (by first | exact sm_nx smσ_16 bhpσ_18 chpσ_18 | omega)
            have onσ_18 : (σ.1 a 16).toInt ≤ (σ_18.1 a 15).toInt := (by first | (clear hs hz hk h4 k3σ k4σ if_1 j25σ_2 k3σ_2 if_3 c_4 dhpσ_6 ehpσ_6 k3σ_6 k4σ_6 bhpσ_8 chpσ_8 k3σ_9 k4σ_9 if_10 k3σ_11 if_12 c_13 iz_14 k3σ_16 k4σ_16 kmσ_16 ahpσ_18 bhpσ_18 dhpσ_18 ehpσ_18 k3σ_18 k4σ_18 smσ_18; omega) | omega)
            have kmσ_18 : m_c X σ_18 a 3722 = m_c X σ a 3722 := (mcσ_18 3722).trans kmσ_16
            clear k4σ_16 smσ_16 onσ_16 kmσ_16 bhpσ_18 chpσ_18
            refine lv_aload_n hx hb dX12_readPlayer_97 rfl (lv_at hl 0 rfl) ?_
            refine q_ci (q_rV11_0 (rest := []) E (hml.trans hl.1.symm) hI (c_X12_isLies l X σ_18 a ha) kv_X12_143 ha ⟨Nat.le_of_ble_eq_true rfl, Nat.le_of_ble_eq_true rfl⟩ (Nat.le_of_ble_eq_true rfl) dX12_readPlayer_98) hI (Nat.le_of_ble_eq_true rfl) (fun r_19 σ_20 H locs hpσ_20 hkσ_20 hI => ?_)
            have ahpσ_20 := hpσ_20.1
            have bhpσ_20 := hpσ_20.2.1
            have chpσ_20 := hpσ_20.2.2.1
            have dhpσ_20 := hpσ_20.2.2.2
            clear hpσ_20
            replace hI := q_Irw ahpσ_20 hI
            replace hF := q_letX hF dhpσ_20
            have J_125_21 : ∀  (σ_21 : ST) (H : Heap) (locs : List Loc) (ls : Array Slot), (q_ow [(12, 12), (12, 13), (12, 14), (12, 15), (12, 16), (12, 17), (12, 18), (34, 99)] [(12, 19), (37, 99)] X σ σ_21) → (m_N (m_c X σ_21 a)) → (∀ j, 0 ≤ j → j < 3720 → m_c X σ_21 a j = m_c X σ a j) → (m_c X σ_21 a 3720 = m_c X σ a 3720 ∧ m_c X σ_21 a 3721 = m_c X σ a 3721) → (1 ≤ m_c X σ_21 a 3724 + 10 * (σ_21.1 a 12).toInt) → (0 ≤ (σ_21.1 a 15).toInt ∧ (σ_21.1 a 15).toInt ≤ (σ_21.1 a 16).toInt ∧ (σ_21.1 a 16).toInt ≤ (σ_21.1 a 9).toInt ∧ (σ_21.1 a 9).toInt ≤ 900 ∧ 0 ≤ (σ_21.1 a 14).toInt ∧ (σ_21.1 a 14).toInt ≤ 4 ∧ (σ_21.1 a 14).toInt ≤ 4 * ((σ_21.1 a 16).toInt - (σ_21.1 a 15).toInt) ∧ (σ_21.1 a 14).toInt ≤ 4 * ((σ_21.1 a 9).toInt - (σ_21.1 a 15).toInt) ∧ 0 ≤ (σ_21.1 a 12).toInt ∧ (σ_21.1 a 9).toInt = (σ.1 a 9).toInt ∧ (σ.1 a 15).toInt ≤ (σ_21.1 a 15).toInt ∧ (σ.1 a 12).toInt ≤ (σ_21.1 a 12).toInt) → ((σ.1 a 16).toInt ≤ (σ_21.1 a 15).toInt) → (m_c X σ_21 a 3722 = m_c X σ a 3722) → (F_X12_readPlayer_J125_4 X a f_1 σ_21 = out) → q_I X 1 σ s.heap locs σ_21 H → lv_has ls 2 [(0, .ref a), (1, .int f_1)] → W p l e (q_rm 5 107) s m ([.ref a] : List Value).toArray below meth c H locs 0 0 (MQ below (q_Qv X 1 σ (fun (σ' : ST) => (m_N (m_c X σ' a)) ∧ (∀ j, 0 ≤ j → j < 3720 → m_c X σ' a j = m_c X σ a j) ∧ (0 ≤ (σ'.1 a 15).toInt ∧ (σ'.1 a 15).toInt ≤ (σ'.1 a 16).toInt ∧ (σ'.1 a 16).toInt ≤ (σ'.1 a 9).toInt ∧ (σ'.1 a 9).toInt ≤ 900 ∧ 0 ≤ (σ'.1 a 14).toInt ∧ (σ'.1 a 14).toInt ≤ 4 ∧ (σ'.1 a 14).toInt ≤ 4 * ((σ'.1 a 16).toInt - (σ'.1 a 15).toInt) ∧ (σ'.1 a 14).toInt ≤ 4 * ((σ'.1 a 9).toInt - (σ'.1 a 15).toInt) ∧ 0 ≤ (σ'.1 a 12).toInt ∧ (σ'.1 a 9).toInt = (σ.1 a 9).toInt ∧ (σ.1 a 15).toInt ≤ (σ'.1 a 15).toInt ∧ (σ.1 a 12).toInt ≤ (σ'.1 a 12).toInt) ∧ ((σ.1 a 16).toInt ≤ (σ'.1 a 15).toInt + 1000 * (σ'.1 a 12).toInt) ∧ (m_c X σ' a 3720 = m_c X σ a 3720 ∧ m_c X σ' a 3721 = m_c X σ a 3721) ∧ (1 ≤ m_c X σ' a 3724 + 10 * (σ'.1 a 12).toInt) ∧ σ' = F_X12_readPlayer X σ a ∧ q_ow [(12, 12), (12, 13), (12, 14), (12, 15), (12, 16), (12, 17), (12, 18), (34, 99)] [(12, 19), (37, 99)] X σ σ')) ([.ref a] : List Value).toArray s 0 0 (q_reg X)) (F0 m 125 ls []) := by
              clear hF
              intro σ_21 H locs ls fr_σ_21 nnσ_21 kpσ_21 k3σ_21 k4σ_21 smσ_21 onσ_21 kmσ_21 hF hI hl
              try clear fr_σ_16; try clear mcσ_16; try clear nnσ_16; try clear kpσ_16; try clear ahpσ_18; try clear fr_σ_18; try clear mcσ_18; try clear nnσ_18; try clear kpσ_18; try clear smσ_18; try clear onσ_18; try clear kmσ_18; try clear ahpσ_20
              unfold F_X12_readPlayer_J125_4 at hF
              refine lv_aload_n hx hb dX12_readPlayer_125 rfl (lv_at hl 0 rfl) ?_
              refine gs_X12_187_12 E hI ha dX12_readPlayer_126 ?_
              refine lv_topi (fun f_22 ef_22 => ?_)
              replace hF := q_letX hF ef_22
              have if_22 : f_22.toInt = (σ_21.1 a 12).toInt := congrArg Int32.toInt ef_22
              have J_160_23 : ∀  (σ_23 : ST) (H : Heap) (locs : List Loc) (ls : Array Slot), (q_ow [(12, 12), (12, 13), (12, 14), (12, 15), (12, 16), (12, 17), (12, 18), (34, 99)] [(12, 19), (37, 99)] X σ σ_23) → (m_N (m_c X σ_23 a)) → (∀ j, 0 ≤ j → j < 3720 → m_c X σ_23 a j = m_c X σ a j) → (m_c X σ_23 a 3720 = m_c X σ a 3720 ∧ m_c X σ_23 a 3721 = m_c X σ a 3721) → (1 ≤ m_c X σ_23 a 3724 + 10 * (σ_23.1 a 12).toInt) → (0 ≤ (σ_23.1 a 15).toInt ∧ (σ_23.1 a 15).toInt ≤ (σ_23.1 a 16).toInt ∧ (σ_23.1 a 16).toInt ≤ (σ_23.1 a 9).toInt ∧ (σ_23.1 a 9).toInt ≤ 900 ∧ 0 ≤ (σ_23.1 a 14).toInt ∧ (σ_23.1 a 14).toInt ≤ 4 ∧ (σ_23.1 a 14).toInt ≤ 4 * ((σ_23.1 a 16).toInt - (σ_23.1 a 15).toInt) ∧ (σ_23.1 a 14).toInt ≤ 4 * ((σ_23.1 a 9).toInt - (σ_23.1 a 15).toInt) ∧ 0 ≤ (σ_23.1 a 12).toInt ∧ (σ_23.1 a 9).toInt = (σ.1 a 9).toInt ∧ (σ.1 a 15).toInt ≤ (σ_23.1 a 15).toInt ∧ (σ.1 a 12).toInt ≤ (σ_23.1 a 12).toInt) → ((σ.1 a 16).toInt ≤ (σ_23.1 a 15).toInt) → (m_c X σ_23 a 3722 = m_c X σ a 3722) → (F_X12_readPlayer_J160_5 X a σ_23 = out) → q_I X 1 σ s.heap locs σ_23 H → lv_has ls 2 [(0, .ref a), (1, .int f_1)] → W p l e (q_rm 5 107) s m ([.ref a] : List Value).toArray below meth c H locs 0 0 (MQ below (q_Qv X 1 σ (fun (σ' : ST) => (m_N (m_c X σ' a)) ∧ (∀ j, 0 ≤ j → j < 3720 → m_c X σ' a j = m_c X σ a j) ∧ (0 ≤ (σ'.1 a 15).toInt ∧ (σ'.1 a 15).toInt ≤ (σ'.1 a 16).toInt ∧ (σ'.1 a 16).toInt ≤ (σ'.1 a 9).toInt ∧ (σ'.1 a 9).toInt ≤ 900 ∧ 0 ≤ (σ'.1 a 14).toInt ∧ (σ'.1 a 14).toInt ≤ 4 ∧ (σ'.1 a 14).toInt ≤ 4 * ((σ'.1 a 16).toInt - (σ'.1 a 15).toInt) ∧ (σ'.1 a 14).toInt ≤ 4 * ((σ'.1 a 9).toInt - (σ'.1 a 15).toInt) ∧ 0 ≤ (σ'.1 a 12).toInt ∧ (σ'.1 a 9).toInt = (σ.1 a 9).toInt ∧ (σ.1 a 15).toInt ≤ (σ'.1 a 15).toInt ∧ (σ.1 a 12).toInt ≤ (σ'.1 a 12).toInt) ∧ ((σ.1 a 16).toInt ≤ (σ'.1 a 15).toInt + 1000 * (σ'.1 a 12).toInt) ∧ (m_c X σ' a 3720 = m_c X σ a 3720 ∧ m_c X σ' a 3721 = m_c X σ a 3721) ∧ (1 ≤ m_c X σ' a 3724 + 10 * (σ'.1 a 12).toInt) ∧ σ' = F_X12_readPlayer X σ a ∧ q_ow [(12, 12), (12, 13), (12, 14), (12, 15), (12, 16), (12, 17), (12, 18), (34, 99)] [(12, 19), (37, 99)] X σ σ')) ([.ref a] : List Value).toArray s 0 0 (q_reg X)) (F0 m 160 ls []) := by
                clear hF
                intro σ_23 H locs ls fr_σ_23 nnσ_23 kpσ_23 k3σ_23 k4σ_23 smσ_23 onσ_23 kmσ_23 hF hI hl
                try clear fr_σ_21; try clear nnσ_21; try clear kpσ_21; try clear smσ_21; try clear onσ_21; try clear kmσ_21
                unfold F_X12_readPlayer_J160_5 at hF
                refine lv_aload_n hx hb dX12_readPlayer_160 rfl (lv_at hl 0 rfl) ?_
                refine gs_X12_187_12 E hI ha dX12_readPlayer_161 ?_
                refine lv_topi (fun f_24 ef_24 => ?_)
                replace hF := q_letX hF ef_24
                have if_24 : f_24.toInt = (σ_23.1 a 12).toInt := congrArg Int32.toInt ef_24
                refine q_if_ne (A := f_24.toInt) E rfl (tgt := 179) dX12_readPlayer_164 (by decide) (fun c_25 => ?_) (fun c_25 => ?_)
                · skip
                  replace hF := q_ifn hF c_25
                  exact q_retv E hr hlk hI ⟨nnσ_23, kpσ_23, (by first | exact smσ_23 | omega), (by first | exact smσ_23 | omega), k3σ_23, k4σ_23, (hF.trans hout), fr_σ_23⟩ dX12_readPlayer_179
                · skip
                  replace hF := q_ifp hF c_25
                  refine lv_aload_n hx hb dX12_readPlayer_167 rfl (lv_at hl 0 rfl) ?_
                  refine gs_X12_35_12 E hI ha dX12_readPlayer_168 ?_
                  refine lv_sipush (v := 3722) hx hb dX12_readPlayer_171 zks_3722 ?_
                  refine lv_dup2_11 hx hb dX12_readPlayer_174 rfl rfl ?_
                  refine q_iald E hI (q_tk (k' := 34) hI ha rfl (Nat.succ_ne_zero _)) ⟨by decide, rfl⟩ (by decide) (by rw [q_lnk (v := 4650) hI (q_tk (k' := 34) hI ha rfl (Nat.succ_ne_zero _)) rfl (by decide)]; decide) dX12_readPlayer_175 ?_
                  refine lv_topi (fun f_26 ef_26 => ?_)
                  replace hF := q_letX hF ef_26
                  have if_26 : f_26.toInt = m_c X σ_23 a 3722 := m_rd ef_26 (by decide)
                  refine lv_iconst (v := 1) hx hb dX12_readPlayer_176 zki_1 ?_
                  refine lv_iadd hx hb dX12_readPlayer_177 ?_
                  refine lv_topi (fun z_27 ez_27 => ?_)
                  replace hF := q_letX hF ez_27
                  have iz_27 := q_addI (A := (m_c X σ_23 a 3722)) (B := 1) ez_27 if_26 (by decide) (by first | (clear hs hz hk h4 k3σ k4σ j25σ_2 k3σ_2 beσ_2 if_3 c_4 dhpσ_6 ehpσ_6 k3σ_6 k4σ_6 bhpσ_8 chpσ_8 k3σ_9 k4σ_9 if_10 k3σ_11 if_12 c_13 k3σ_16 dhpσ_18 ehpσ_18 k3σ_18 k4σ_18 bhpσ_20 chpσ_20 dhpσ_20 k3σ_21 k4σ_21 if_22 k3σ_23 k4σ_23 smσ_23 onσ_23 if_24 c_25; omega) | omega) (by first | (clear hs hz hk h4 k3σ k4σ j25σ_2 k3σ_2 beσ_2 if_3 c_4 dhpσ_6 ehpσ_6 k3σ_6 k4σ_6 bhpσ_8 chpσ_8 k3σ_9 k4σ_9 if_10 k3σ_11 if_12 c_13 k3σ_16 dhpσ_18 ehpσ_18 k3σ_18 k4σ_18 bhpσ_20 chpσ_20 dhpσ_20 k3σ_21 k4σ_21 if_22 k3σ_23 k4σ_23 smσ_23 onσ_23 if_24 c_25; omega) | omega)
                  refine q_iastN E hI (q_tk (k' := 34) hI ha rfl (Nat.succ_ne_zero _)) ⟨by decide, rfl⟩ (by decide) (by rw [q_lnk (v := 4650) hI (q_tk (k' := 34) hI ha rfl (Nat.succ_ne_zero _)) rfl (by decide)]; decide) (show 1 < 2 by decide) (q_inU rfl) dX12_readPlayer_178 (fun H locs σ_28 hσ_28 hI => ?_)
                  replace hF := q_letX hF hσ_28
                  have fr_σ_28 := fr_σ_23.si hσ_28 (q_tk (k' := 34) hI ha rfl (Nat.succ_ne_zero _)) rfl
                  have mv9_σ_28 : (σ_28.1 a 9).toInt = (σ_23.1 a 9).toInt := congrArg Int32.toInt (q_rdn hσ_28 (Or.inl (m_ne ha (q_tk (k' := 34) hI ha rfl (Nat.succ_ne_zero _)) (by decide))))
                  have mv12_σ_28 : (σ_28.1 a 12).toInt = (σ_23.1 a 12).toInt := congrArg Int32.toInt (q_rdn hσ_28 (Or.inl (m_ne ha (q_tk (k' := 34) hI ha rfl (Nat.succ_ne_zero _)) (by decide))))
                  have mv14_σ_28 : (σ_28.1 a 14).toInt = (σ_23.1 a 14).toInt := congrArg Int32.toInt (q_rdn hσ_28 (Or.inl (m_ne ha (q_tk (k' := 34) hI ha rfl (Nat.succ_ne_zero _)) (by decide))))
                  have mv15_σ_28 : (σ_28.1 a 15).toInt = (σ_23.1 a 15).toInt := congrArg Int32.toInt (q_rdn hσ_28 (Or.inl (m_ne ha (q_tk (k' := 34) hI ha rfl (Nat.succ_ne_zero _)) (by decide))))
                  have mv16_σ_28 : (σ_28.1 a 16).toInt = (σ_23.1 a 16).toInt := congrArg Int32.toInt (q_rdn hσ_28 (Or.inl (m_ne ha (q_tk (k' := 34) hI ha rfl (Nat.succ_ne_zero _)) (by decide))))
                  have mcσ_28 := m_wr (v := z_27) (A := 3722) hσ_28 (by decide) (by decide)
                  have nnσ_28 : m_N (m_c X σ_28 a) := m_N.wr nnσ_23 mcσ_28 (by first | (clear hs hz hk h4 k3σ k4σ k3σ_2 beσ_2 dhpσ_6 ehpσ_6 k3σ_6 k4σ_6 bhpσ_8 chpσ_8 k3σ_9 k4σ_9 if_10 k3σ_11 if_12 c_13 k3σ_16 dhpσ_18 ehpσ_18 k3σ_18 k4σ_18 bhpσ_20 chpσ_20 dhpσ_20 k3σ_21 k4σ_21 if_22 k3σ_23 k4σ_23 smσ_23 onσ_23 if_24 c_25 mv9_σ_28 mv12_σ_28 mv14_σ_28 mv15_σ_28 mv16_σ_28; omega) | omega)
                  have kpσ_28 : ∀ j, 0 ≤ j → j < 3720 → m_c X σ_28 a j = m_c X σ a j := fun j h0 h1 => by rw [mcσ_28 j h0, if_neg (by first | (clear hs hz hk h4 k3σ k4σ if_1 j25σ_2 k3σ_2 beσ_2 if_3 c_4 dhpσ_6 ehpσ_6 k3σ_6 k4σ_6 bhpσ_8 chpσ_8 k3σ_9 k4σ_9 if_10 k3σ_11 if_12 c_13 iz_14 k3σ_16 dhpσ_18 ehpσ_18 k3σ_18 k4σ_18 bhpσ_20 chpσ_20 dhpσ_20 k3σ_21 k4σ_21 if_22 k3σ_23 k4σ_23 smσ_23 onσ_23 kmσ_23 if_24 c_25 if_26 iz_27 mv9_σ_28 mv12_σ_28 mv14_σ_28 mv15_σ_28 mv16_σ_28; omega) | omega)]; exact kpσ_23 j h0 h1
                  have k3σ_28 : m_c X σ_28 a 3720 = m_c X σ a 3720 ∧ m_c X σ_28 a 3721 = m_c X σ a 3721 := ⟨by rw [mcσ_28 3720 (by decide), if_neg (by first | (clear hs hz hk h4 k3σ k4σ if_1 j25σ_2 k3σ_2 beσ_2 if_3 c_4 dhpσ_6 ehpσ_6 k3σ_6 k4σ_6 bhpσ_8 chpσ_8 k3σ_9 k4σ_9 if_10 k3σ_11 if_12 c_13 iz_14 k3σ_16 dhpσ_18 ehpσ_18 k3σ_18 k4σ_18 bhpσ_20 chpσ_20 dhpσ_20 k3σ_21 k4σ_21 if_22 k3σ_23 k4σ_23 smσ_23 onσ_23 kmσ_23 if_24 c_25 if_26 iz_27 mv9_σ_28 mv12_σ_28 mv14_σ_28 mv15_σ_28 mv16_σ_28; omega) | omega)]; exact k3σ_23.1, by rw [mcσ_28 3721 (by decide), if_neg (by first | (clear hs hz hk h4 k3σ k4σ if_1 j25σ_2 k3σ_2 beσ_2 if_3 c_4 dhpσ_6 ehpσ_6 k3σ_6 k4σ_6 bhpσ_8 chpσ_8 k3σ_9 k4σ_9 if_10 k3σ_11 if_12 c_13 iz_14 k3σ_16 dhpσ_18 ehpσ_18 k3σ_18 k4σ_18 bhpσ_20 chpσ_20 dhpσ_20 k3σ_21 k4σ_21 if_22 k3σ_23 k4σ_23 smσ_23 onσ_23 kmσ_23 if_24 c_25 if_26 iz_27 mv9_σ_28 mv12_σ_28 mv14_σ_28 mv15_σ_28 mv16_σ_28; omega) | omega)]; exact k3σ_23.2⟩
                  have k4σ_28 : 1 ≤ m_c X σ_28 a 3724 + 10 * (σ_28.1 a 12).toInt := (by have := mcσ_28 3724 (by decide); rw [if_neg (by first | (clear hs hz hk h4 k3σ k4σ if_1 j25σ_2 k3σ_2 beσ_2 if_3 c_4 dhpσ_6 ehpσ_6 k3σ_6 k4σ_6 bhpσ_8 chpσ_8 k3σ_9 k4σ_9 if_10 k3σ_11 if_12 c_13 iz_14 k3σ_16 dhpσ_18 ehpσ_18 k3σ_18 k4σ_18 bhpσ_20 chpσ_20 dhpσ_20 k3σ_21 k4σ_21 if_22 k3σ_23 k4σ_23 smσ_23 onσ_23 kmσ_23 if_24 c_25 if_26 iz_27 mv9_σ_28 mv12_σ_28 mv14_σ_28 mv15_σ_28 mv16_σ_28 k3σ_28; omega) | omega)] at this; omega)
                  have smσ_28 : 0 ≤ (σ_28.1 a 15).toInt ∧ (σ_28.1 a 15).toInt ≤ (σ_28.1 a 16).toInt ∧ (σ_28.1 a 16).toInt ≤ (σ_28.1 a 9).toInt ∧ (σ_28.1 a 9).toInt ≤ 900 ∧ 0 ≤ (σ_28.1 a 14).toInt ∧ (σ_28.1 a 14).toInt ≤ 4 ∧ (σ_28.1 a 14).toInt ≤ 4 * ((σ_28.1 a 16).toInt - (σ_28.1 a 15).toInt) ∧ (σ_28.1 a 14).toInt ≤ 4 * ((σ_28.1 a 9).toInt - (σ_28.1 a 15).toInt) ∧ 0 ≤ (σ_28.1 a 12).toInt ∧ (σ_28.1 a 9).toInt = (σ.1 a 9).toInt ∧ (σ.1 a 15).toInt ≤ (σ_28.1 a 15).toInt ∧ (σ.1 a 12).toInt ≤ (σ_28.1 a 12).toInt := (by first | (rw [mv12_σ_28, mv14_σ_28, mv15_σ_28, mv16_σ_28, mv9_σ_28]; exact smσ_23) | omega)
                  have onσ_28 : (σ.1 a 16).toInt ≤ (σ_28.1 a 15).toInt := (by first | (clear hs hz hk h4 k3σ k4σ if_1 j25σ_2 k3σ_2 if_3 c_4 dhpσ_6 ehpσ_6 k3σ_6 k4σ_6 bhpσ_8 chpσ_8 k3σ_9 k4σ_9 if_10 k3σ_11 if_12 c_13 iz_14 k3σ_16 dhpσ_18 ehpσ_18 k3σ_18 k4σ_18 bhpσ_20 chpσ_20 dhpσ_20 k3σ_21 k4σ_21 if_22 k3σ_23 k4σ_23 smσ_23 kmσ_23 if_24 c_25 if_26 iz_27 mv9_σ_28 mv12_σ_28 mv14_σ_28 mv16_σ_28 k3σ_28 k4σ_28 smσ_28; omega) | omega)
                  clear mv9_σ_28 mv12_σ_28 mv14_σ_28 mv15_σ_28 mv16_σ_28 k4σ_23 smσ_23 onσ_23
                  exact q_retv E hr hlk hI ⟨nnσ_28, kpσ_28, (by first | exact smσ_28 | omega), (by first | exact smσ_28 | omega), k3σ_28, k4σ_28, (hF.trans hout), fr_σ_28⟩ dX12_readPlayer_179
              refine q_if_ne (A := f_22.toInt) E rfl (tgt := 160) dX12_readPlayer_129 (by decide) (fun c_29 => ?_) (fun c_29 => ?_)
              · skip
                replace hF := q_ifn hF c_29
                exact J_160_23 σ_21 _ _ ls fr_σ_21 nnσ_21 kpσ_21 k3σ_21 k4σ_21 smσ_21 onσ_21 kmσ_21 hF hI (lv_sub hl [0, 1] rfl)
              · skip
                replace hF := q_ifp hF c_29
                refine lv_aload_n hx hb dX12_readPlayer_132 rfl (lv_at hl 0 rfl) ?_
                refine q_ci (q_rV11_0 (rest := []) E (hml.trans hl.1.symm) hI (c_X12_isDoubts l X σ_21 a ha) kv_X12_147 ha ⟨Nat.le_of_ble_eq_true rfl, Nat.le_of_ble_eq_true rfl⟩ (Nat.le_of_ble_eq_true rfl) dX12_readPlayer_133) hI (Nat.le_of_ble_eq_true rfl) (fun r_30 σ_31 H locs hpσ_31 hkσ_31 hI => ?_)
                have ahpσ_31 := hpσ_31.1
                have bhpσ_31 := hpσ_31.2.1
                have chpσ_31 := hpσ_31.2.2.1
                have dhpσ_31 := hpσ_31.2.2.2
                clear hpσ_31
                replace hI := q_Irw ahpσ_31 hI
                replace hF := q_letX hF dhpσ_31
                refine q_if_eq (A := r_30.toInt) E rfl (tgt := 160) dX12_readPlayer_136 (by decide) (fun c_32 => ?_) (fun c_32 => ?_)
                · skip
                  replace hF := q_ifp hF c_32
                  clear chpσ_31
                  exact J_160_23 σ_21 _ _ ls fr_σ_21 nnσ_21 kpσ_21 k3σ_21 k4σ_21 smσ_21 onσ_21 kmσ_21 hF hI (lv_sub hl [0, 1] rfl)
                · skip
                  replace hF := q_ifn hF c_32
                  replace c_32 := q_ifOne bhpσ_31 c_32
                  replace chpσ_31 := chpσ_31 c_32
                  refine lv_aload_n hx hb dX12_readPlayer_139 rfl (lv_at hl 0 rfl) ?_
                  refine q_cv (q_rV11_0 (rest := []) E (hml.trans hl.1.symm) hI (c_X12_next l X σ_21 a ha (by first | (clear hs hz hk h4 k3σ k4σ if_1 j25σ_2 k3σ_2 beσ_2 if_3 c_4 dhpσ_6 ehpσ_6 k3σ_6 k4σ_6 bhpσ_8 chpσ_8 k3σ_9 k4σ_9 if_10 k3σ_11 if_12 c_13 iz_14 k3σ_16 dhpσ_18 ehpσ_18 k3σ_18 k4σ_18 bhpσ_20 chpσ_20 dhpσ_20 k3σ_21 k4σ_21 if_22 c_29 ahpσ_31 bhpσ_31 dhpσ_31 c_32 chpσ_31; omega) | omega) (by first | (clear hs hz hk h4 k3σ k4σ if_1 j25σ_2 k3σ_2 beσ_2 if_3 c_4 dhpσ_6 ehpσ_6 k3σ_6 k4σ_6 bhpσ_8 chpσ_8 k3σ_9 k4σ_9 if_10 k3σ_11 if_12 c_13 iz_14 k3σ_16 dhpσ_18 ehpσ_18 k3σ_18 k4σ_18 bhpσ_20 chpσ_20 dhpσ_20 k3σ_21 k4σ_21 if_22 c_29 ahpσ_31 bhpσ_31 dhpσ_31 c_32 chpσ_31; omega) | omega) (by first | (clear hs hz hk h4 k3σ k4σ if_1 j25σ_2 k3σ_2 beσ_2 if_3 c_4 dhpσ_6 ehpσ_6 k3σ_6 k4σ_6 bhpσ_8 chpσ_8 k3σ_9 k4σ_9 if_10 k3σ_11 if_12 c_13 iz_14 k3σ_16 dhpσ_18 ehpσ_18 k3σ_18 k4σ_18 bhpσ_20 chpσ_20 dhpσ_20 k3σ_21 k4σ_21 if_22 c_29 ahpσ_31 bhpσ_31 dhpσ_31 c_32 chpσ_31; omega) | omega)) kv_X12_197 ha ⟨Nat.le_of_ble_eq_true rfl, Nat.le_of_ble_eq_true rfl⟩ (Nat.le_of_ble_eq_true rfl) dX12_readPlayer_140) hI (Nat.le_of_ble_eq_true rfl) (fun σ_34 H locs hpσ_34 hkσ_34 hI => ?_)
                  have ahpσ_34 := hpσ_34.1
                  have bhpσ_34 := hpσ_34.2.1
                  have chpσ_34 := hpσ_34.2.2.1
                  have dhpσ_34 := hpσ_34.2.2.2.1
                  have ehpσ_34 := hpσ_34.2.2.2.2
                  clear hpσ_34
                  have fr_σ_34 := fr_σ_21.call ehpσ_34 rfl rfl
                  replace hF := q_letX hF dhpσ_34
                  have mcσ_34 := m_cK hkσ_34 hI.1 ha (by decide)
                  have nnσ_34 : m_N (m_c X σ_34 a) := m_N.ext mcσ_34 nnσ_21
                  have kpσ_34 : ∀ j, 0 ≤ j → j < 3720 → m_c X σ_34 a j = m_c X σ a j := fun j h0 h1 => (mcσ_34 j).trans (kpσ_21 j h0 h1)
                  have k3σ_34 : m_c X σ_34 a 3720 = m_c X σ a 3720 ∧ m_c X σ_34 a 3721 = m_c X σ a 3721 := ⟨(mcσ_34 3720).trans k3σ_21.1, (mcσ_34 3721).trans k3σ_21.2⟩
                  have k4σ_34 : 1 ≤ m_c X σ_34 a 3724 + 10 * (σ_34.1 a 12).toInt := (by have := mcσ_34 3724; omega)
                  have smσ_34 : 0 ≤ (σ_34.1 a 15).toInt ∧ (σ_34.1 a 15).toInt ≤ (σ_34.1 a 16).toInt ∧ (σ_34.1 a 16).toInt ≤ (σ_34.1 a 9).toInt ∧ (σ_34.1 a 9).toInt ≤ 900 ∧ 0 ≤ (σ_34.1 a 14).toInt ∧ (σ_34.1 a 14).toInt ≤ 4 ∧ (σ_34.1 a 14).toInt ≤ 4 * ((σ_34.1 a 16).toInt - (σ_34.1 a 15).toInt) ∧ (σ_34.1 a 14).toInt ≤ 4 * ((σ_34.1 a 9).toInt - (σ_34.1 a 15).toInt) ∧ 0 ≤ (σ_34.1 a 12).toInt ∧ (σ_34.1 a 9).toInt = (σ.1 a 9).toInt ∧ (σ.1 a 15).toInt ≤ (σ_34.1 a 15).toInt ∧ (σ.1 a 12).toInt ≤ (σ_34.1 a 12).toInt := (by first | exact sm_nx smσ_21 bhpσ_34 chpσ_34 | omega)
                  have onσ_34 : (σ.1 a 16).toInt ≤ (σ_34.1 a 15).toInt := (by first | (clear hs hz hk h4 k3σ k4σ if_1 j25σ_2 k3σ_2 if_3 c_4 dhpσ_6 ehpσ_6 k3σ_6 k4σ_6 bhpσ_8 chpσ_8 k3σ_9 k4σ_9 if_10 k3σ_11 if_12 c_13 iz_14 k3σ_16 dhpσ_18 ehpσ_18 k3σ_18 k4σ_18 bhpσ_20 chpσ_20 dhpσ_20 k3σ_21 k4σ_21 if_22 c_29 ahpσ_31 bhpσ_31 dhpσ_31 c_32 ahpσ_34 bhpσ_34 dhpσ_34 ehpσ_34 k3σ_34 k4σ_34 smσ_34; omega) | omega)
                  have kmσ_34 : m_c X σ_34 a 3722 = m_c X σ a 3722 := (mcσ_34 3722).trans kmσ_21
                  clear k4σ_21 smσ_21 onσ_21 kmσ_21 bhpσ_34 chpσ_34
                  refine lv_aload_n hx hb dX12_readPlayer_143 rfl (lv_at hl 0 rfl) ?_
                  refine gs_X12_35_12 E hI ha dX12_readPlayer_144 ?_
                  refine lv_sipush (v := 3736) hx hb dX12_readPlayer_147 zks_3736 ?_
                  refine lv_iload_n hx hb dX12_readPlayer_150 rfl (lv_at hl 1 rfl) ?_
                  refine lv_iadd hx hb dX12_readPlayer_151 ?_
                  refine lv_topi (fun z_35 ez_35 => ?_)
                  replace hF := q_letX hF ez_35
                  have iz_35 := q_addI (A := 3736) (B := (m_c X σ a 3722)) ez_35 (by decide) if_1 (by first | (clear hs hz hk h4 k3σ k4σ j25σ_2 k3σ_2 beσ_2 if_3 c_4 dhpσ_6 ehpσ_6 k3σ_6 k4σ_6 bhpσ_8 chpσ_8 k3σ_9 k4σ_9 if_10 k3σ_11 if_12 c_13 k3σ_16 dhpσ_18 ehpσ_18 k3σ_18 k4σ_18 bhpσ_20 chpσ_20 dhpσ_20 k3σ_21 if_22 c_29 ahpσ_31 bhpσ_31 dhpσ_31 c_32 chpσ_31 ahpσ_34 dhpσ_34 ehpσ_34 k3σ_34 k4σ_34 smσ_34 onσ_34; omega) | omega) (by first | (clear hs hz hk h4 k3σ k4σ j25σ_2 k3σ_2 beσ_2 if_3 c_4 dhpσ_6 ehpσ_6 k3σ_6 k4σ_6 bhpσ_8 chpσ_8 k3σ_9 k4σ_9 if_10 k3σ_11 if_12 c_13 k3σ_16 dhpσ_18 ehpσ_18 k3σ_18 k4σ_18 bhpσ_20 chpσ_20 dhpσ_20 k3σ_21 if_22 c_29 ahpσ_31 bhpσ_31 dhpσ_31 c_32 chpσ_31 ahpσ_34 dhpσ_34 ehpσ_34 k3σ_34 k4σ_34 smσ_34 onσ_34; omega) | omega)
                  refine lv_aload_n hx hb dX12_readPlayer_152 rfl (lv_at hl 0 rfl) ?_
                  refine lv_iconst (v := 0) hx hb dX12_readPlayer_153 zki_0 ?_
                  refine lv_bipush (v := 16) hx hb dX12_readPlayer_154 zkb_16 ?_
                  have kc_36 : (0 : Int32).toInt = 0 := zt_0
                  have kc_37 : (16 : Int32).toInt = 16 := zt_16
                  refine q_ci (q_rV11_2 (rest := [.int z_35, .ref (q_rf X a 20)]) E (hml.trans hl.1.symm) hI (c_X12_count l X σ_34 a (0 : Int32) (16 : Int32) ha (by first | exact sm_9 smσ_34 | exact hs | omega) (by first | (clear hs hz hk h4 k3σ k4σ if_1 j25σ_2 k3σ_2 beσ_2 if_3 c_4 dhpσ_6 ehpσ_6 k3σ_6 k4σ_6 bhpσ_8 chpσ_8 k3σ_9 k4σ_9 if_10 k3σ_11 if_12 c_13 iz_14 k3σ_16 dhpσ_18 ehpσ_18 k3σ_18 k4σ_18 bhpσ_20 chpσ_20 dhpσ_20 k3σ_21 if_22 c_29 ahpσ_31 bhpσ_31 dhpσ_31 c_32 chpσ_31 ahpσ_34 dhpσ_34 ehpσ_34 k3σ_34 k4σ_34 smσ_34 onσ_34 kmσ_34 iz_35; omega) | omega)) kv_X12_223 ha ⟨Nat.le_of_ble_eq_true rfl, Nat.le_of_ble_eq_true rfl⟩ (Nat.le_of_ble_eq_true rfl) dX12_readPlayer_156) hI (Nat.le_of_ble_eq_true rfl) (fun r_38 σ_39 H locs hpσ_39 hkσ_39 hI => ?_)
                  have ahpσ_39 := hpσ_39.1
                  have bhpσ_39 := hpσ_39.2.1
                  have chpσ_39 := hpσ_39.2.2.1
                  have dhpσ_39 := hpσ_39.2.2.2.1
                  have ehpσ_39 := hpσ_39.2.2.2.2
                  clear hpσ_39
                  have fr_σ_39 := fr_σ_34.call ehpσ_39 rfl rfl
                  replace hF := q_biX hF dhpσ_39
                  have mcσ_39 := m_cK hkσ_39 hI.1 ha (by decide)
                  have nnσ_39 : m_N (m_c X σ_39 a) := m_N.ext mcσ_39 nnσ_34
                  have kpσ_39 : ∀ j, 0 ≤ j → j < 3720 → m_c X σ_39 a j = m_c X σ a j := fun j h0 h1 => (mcσ_39 j).trans (kpσ_34 j h0 h1)
                  have k3σ_39 : m_c X σ_39 a 3720 = m_c X σ a 3720 ∧ m_c X σ_39 a 3721 = m_c X σ a 3721 := ⟨(mcσ_39 3720).trans k3σ_34.1, (mcσ_39 3721).trans k3σ_34.2⟩
                  have k4σ_39 : 1 ≤ m_c X σ_39 a 3724 + 10 * (σ_39.1 a 12).toInt := (by have := mcσ_39 3724; omega)
                  have smσ_39 : 0 ≤ (σ_39.1 a 15).toInt ∧ (σ_39.1 a 15).toInt ≤ (σ_39.1 a 16).toInt ∧ (σ_39.1 a 16).toInt ≤ (σ_39.1 a 9).toInt ∧ (σ_39.1 a 9).toInt ≤ 900 ∧ 0 ≤ (σ_39.1 a 14).toInt ∧ (σ_39.1 a 14).toInt ≤ 4 ∧ (σ_39.1 a 14).toInt ≤ 4 * ((σ_39.1 a 16).toInt - (σ_39.1 a 15).toInt) ∧ (σ_39.1 a 14).toInt ≤ 4 * ((σ_39.1 a 9).toInt - (σ_39.1 a 15).toInt) ∧ 0 ≤ (σ_39.1 a 12).toInt ∧ (σ_39.1 a 9).toInt = (σ.1 a 9).toInt ∧ (σ.1 a 15).toInt ≤ (σ_39.1 a 15).toInt ∧ (σ.1 a 12).toInt ≤ (σ_39.1 a 12).toInt := (by first | exact sm_tr smσ_34 bhpσ_39 | exact sm_tr smσ_34 chpσ_39 | omega)
                  have onσ_39 : (σ.1 a 16).toInt ≤ (σ_39.1 a 15).toInt := (by first | (clear hs hz hk h4 k3σ k4σ if_1 j25σ_2 k3σ_2 if_3 c_4 dhpσ_6 ehpσ_6 k3σ_6 k4σ_6 bhpσ_8 chpσ_8 k3σ_9 k4σ_9 if_10 k3σ_11 if_12 c_13 iz_14 k3σ_16 dhpσ_18 ehpσ_18 k3σ_18 k4σ_18 bhpσ_20 chpσ_20 dhpσ_20 k3σ_21 if_22 c_29 ahpσ_31 bhpσ_31 dhpσ_31 c_32 chpσ_31 ahpσ_34 dhpσ_34 ehpσ_34 k3σ_34 k4σ_34 smσ_34 kmσ_34 iz_35 kc_36 kc_37 ahpσ_39 chpσ_39 dhpσ_39 ehpσ_39 k3σ_39 k4σ_39 smσ_39; omega) | omega)
                  have kmσ_39 : m_c X σ_39 a 3722 = m_c X σ a 3722 := (mcσ_39 3722).trans kmσ_34
                  clear k4σ_34 smσ_34 onσ_34 kmσ_34 bhpσ_39
                  refine q_iastN E hI (q_tk (k' := 34) hI ha rfl (Nat.succ_ne_zero _)) ⟨by decide, rfl⟩ (by first | (clear hs hz hk h4 k3σ k4σ j25σ_2 k3σ_2 beσ_2 if_3 c_4 dhpσ_6 ehpσ_6 k3σ_6 k4σ_6 bhpσ_8 chpσ_8 k3σ_9 k4σ_9 if_10 k3σ_11 if_12 c_13 k3σ_16 dhpσ_18 ehpσ_18 k3σ_18 k4σ_18 bhpσ_20 chpσ_20 dhpσ_20 k3σ_21 if_22 c_29 ahpσ_31 bhpσ_31 dhpσ_31 c_32 chpσ_31 ahpσ_34 dhpσ_34 ehpσ_34 k3σ_34 kc_36 kc_37 ahpσ_39 chpσ_39 dhpσ_39 ehpσ_39 k3σ_39 k4σ_39 smσ_39 onσ_39; omega) | omega) (by rw [q_lnk (v := 4650) hI (q_tk (k' := 34) hI ha rfl (Nat.succ_ne_zero _)) rfl (by decide)]; omega) (show 1 < 2 by decide) (q_inU rfl) dX12_readPlayer_159 (fun H locs σ_40 hσ_40 hI => ?_)
                  replace hF := q_letX hF hσ_40
                  have fr_σ_40 := fr_σ_39.si hσ_40 (q_tk (k' := 34) hI ha rfl (Nat.succ_ne_zero _)) rfl
                  have mv9_σ_40 : (σ_40.1 a 9).toInt = (σ_39.1 a 9).toInt := congrArg Int32.toInt (q_rdn hσ_40 (Or.inl (m_ne ha (q_tk (k' := 34) hI ha rfl (Nat.succ_ne_zero _)) (by decide))))
                  have mv12_σ_40 : (σ_40.1 a 12).toInt = (σ_39.1 a 12).toInt := congrArg Int32.toInt (q_rdn hσ_40 (Or.inl (m_ne ha (q_tk (k' := 34) hI ha rfl (Nat.succ_ne_zero _)) (by decide))))
                  have mv14_σ_40 : (σ_40.1 a 14).toInt = (σ_39.1 a 14).toInt := congrArg Int32.toInt (q_rdn hσ_40 (Or.inl (m_ne ha (q_tk (k' := 34) hI ha rfl (Nat.succ_ne_zero _)) (by decide))))
                  have mv15_σ_40 : (σ_40.1 a 15).toInt = (σ_39.1 a 15).toInt := congrArg Int32.toInt (q_rdn hσ_40 (Or.inl (m_ne ha (q_tk (k' := 34) hI ha rfl (Nat.succ_ne_zero _)) (by decide))))
                  have mv16_σ_40 : (σ_40.1 a 16).toInt = (σ_39.1 a 16).toInt := congrArg Int32.toInt (q_rdn hσ_40 (Or.inl (m_ne ha (q_tk (k' := 34) hI ha rfl (Nat.succ_ne_zero _)) (by decide))))
                  have mcσ_40 := m_wr (v := r_38) (A := (3736 + (m_c X σ a 3722))) hσ_40 iz_35 (by first | (clear hs hz hk h4 k3σ k4σ j25σ_2 k3σ_2 beσ_2 if_3 c_4 dhpσ_6 ehpσ_6 k3σ_6 k4σ_6 bhpσ_8 chpσ_8 k3σ_9 k4σ_9 if_10 k3σ_11 if_12 c_13 k3σ_16 dhpσ_18 ehpσ_18 k3σ_18 k4σ_18 bhpσ_20 chpσ_20 dhpσ_20 k3σ_21 if_22 c_29 ahpσ_31 bhpσ_31 dhpσ_31 c_32 chpσ_31 ahpσ_34 dhpσ_34 ehpσ_34 k3σ_34 kc_36 kc_37 ahpσ_39 chpσ_39 dhpσ_39 ehpσ_39 k3σ_39 k4σ_39 smσ_39 onσ_39 mv9_σ_40 mv12_σ_40 mv14_σ_40 mv15_σ_40 mv16_σ_40; omega) | omega)
                  have nnσ_40 : m_N (m_c X σ_40 a) := m_N.wr nnσ_39 mcσ_40 (by first | (clear hs hz hk h4 k3σ k4σ k3σ_2 beσ_2 dhpσ_6 ehpσ_6 k3σ_6 k4σ_6 bhpσ_8 chpσ_8 k3σ_9 k4σ_9 if_10 k3σ_11 if_12 c_13 k3σ_16 dhpσ_18 ehpσ_18 k3σ_18 k4σ_18 bhpσ_20 chpσ_20 dhpσ_20 k3σ_21 if_22 c_29 ahpσ_31 bhpσ_31 dhpσ_31 c_32 chpσ_31 ahpσ_34 dhpσ_34 ehpσ_34 k3σ_34 kc_36 kc_37 ahpσ_39 chpσ_39 dhpσ_39 ehpσ_39 k3σ_39 k4σ_39 smσ_39 onσ_39 mv9_σ_40 mv12_σ_40 mv14_σ_40 mv15_σ_40 mv16_σ_40; omega) | omega)
                  have kpσ_40 : ∀ j, 0 ≤ j → j < 3720 → m_c X σ_40 a j = m_c X σ a j := fun j h0 h1 => by rw [mcσ_40 j h0, if_neg (by first | (clear hs hz hk h4 k3σ k4σ j25σ_2 k3σ_2 beσ_2 if_3 c_4 dhpσ_6 ehpσ_6 k3σ_6 k4σ_6 bhpσ_8 chpσ_8 k3σ_9 k4σ_9 if_10 k3σ_11 if_12 c_13 k3σ_16 dhpσ_18 ehpσ_18 k3σ_18 k4σ_18 bhpσ_20 chpσ_20 dhpσ_20 k3σ_21 if_22 c_29 ahpσ_31 bhpσ_31 dhpσ_31 c_32 chpσ_31 ahpσ_34 dhpσ_34 ehpσ_34 k3σ_34 kc_36 kc_37 ahpσ_39 chpσ_39 dhpσ_39 ehpσ_39 k3σ_39 k4σ_39 smσ_39 onσ_39 mv9_σ_40 mv12_σ_40 mv14_σ_40 mv15_σ_40 mv16_σ_40; omega) | omega)]; exact kpσ_39 j h0 h1
                  have k3σ_40 : m_c X σ_40 a 3720 = m_c X σ a 3720 ∧ m_c X σ_40 a 3721 = m_c X σ a 3721 := ⟨by rw [mcσ_40 3720 (by decide), if_neg (by first | (clear hs hz hk h4 k3σ k4σ j25σ_2 k3σ_2 beσ_2 if_3 c_4 dhpσ_6 ehpσ_6 k3σ_6 k4σ_6 bhpσ_8 chpσ_8 k3σ_9 k4σ_9 if_10 k3σ_11 if_12 c_13 k3σ_16 dhpσ_18 ehpσ_18 k3σ_18 k4σ_18 bhpσ_20 chpσ_20 dhpσ_20 k3σ_21 if_22 c_29 ahpσ_31 bhpσ_31 dhpσ_31 c_32 chpσ_31 ahpσ_34 dhpσ_34 ehpσ_34 k3σ_34 kc_36 kc_37 ahpσ_39 chpσ_39 dhpσ_39 ehpσ_39 k3σ_39 k4σ_39 smσ_39 onσ_39 mv9_σ_40 mv12_σ_40 mv14_σ_40 mv15_σ_40 mv16_σ_40; omega) | omega)]; exact k3σ_39.1, by rw [mcσ_40 3721 (by decide), if_neg (by first | (clear hs hz hk h4 k3σ k4σ j25σ_2 k3σ_2 beσ_2 if_3 c_4 dhpσ_6 ehpσ_6 k3σ_6 k4σ_6 bhpσ_8 chpσ_8 k3σ_9 k4σ_9 if_10 k3σ_11 if_12 c_13 k3σ_16 dhpσ_18 ehpσ_18 k3σ_18 k4σ_18 bhpσ_20 chpσ_20 dhpσ_20 k3σ_21 if_22 c_29 ahpσ_31 bhpσ_31 dhpσ_31 c_32 chpσ_31 ahpσ_34 dhpσ_34 ehpσ_34 k3σ_34 kc_36 kc_37 ahpσ_39 chpσ_39 dhpσ_39 ehpσ_39 k3σ_39 k4σ_39 smσ_39 onσ_39 mv9_σ_40 mv12_σ_40 mv14_σ_40 mv15_σ_40 mv16_σ_40; omega) | omega)]; exact k3σ_39.2⟩
                  have k4σ_40 : 1 ≤ m_c X σ_40 a 3724 + 10 * (σ_40.1 a 12).toInt := (by have := mcσ_40 3724 (by decide); rw [if_neg (by first | (clear hs hz hk h4 k3σ k4σ j25σ_2 k3σ_2 beσ_2 if_3 c_4 dhpσ_6 ehpσ_6 k3σ_6 k4σ_6 bhpσ_8 chpσ_8 k3σ_9 k4σ_9 if_10 k3σ_11 if_12 c_13 k3σ_16 dhpσ_18 ehpσ_18 k3σ_18 k4σ_18 bhpσ_20 chpσ_20 dhpσ_20 k3σ_21 if_22 c_29 ahpσ_31 bhpσ_31 dhpσ_31 c_32 chpσ_31 ahpσ_34 dhpσ_34 ehpσ_34 k3σ_34 kc_36 kc_37 ahpσ_39 chpσ_39 dhpσ_39 ehpσ_39 k3σ_39 k4σ_39 smσ_39 onσ_39 mv9_σ_40 mv12_σ_40 mv14_σ_40 mv15_σ_40 mv16_σ_40 k3σ_40; omega) | omega)] at this; omega)
                  have smσ_40 : 0 ≤ (σ_40.1 a 15).toInt ∧ (σ_40.1 a 15).toInt ≤ (σ_40.1 a 16).toInt ∧ (σ_40.1 a 16).toInt ≤ (σ_40.1 a 9).toInt ∧ (σ_40.1 a 9).toInt ≤ 900 ∧ 0 ≤ (σ_40.1 a 14).toInt ∧ (σ_40.1 a 14).toInt ≤ 4 ∧ (σ_40.1 a 14).toInt ≤ 4 * ((σ_40.1 a 16).toInt - (σ_40.1 a 15).toInt) ∧ (σ_40.1 a 14).toInt ≤ 4 * ((σ_40.1 a 9).toInt - (σ_40.1 a 15).toInt) ∧ 0 ≤ (σ_40.1 a 12).toInt ∧ (σ_40.1 a 9).toInt = (σ.1 a 9).toInt ∧ (σ.1 a 15).toInt ≤ (σ_40.1 a 15).toInt ∧ (σ.1 a 12).toInt ≤ (σ_40.1 a 12).toInt := (by first | (rw [mv12_σ_40, mv14_σ_40, mv15_σ_40, mv16_σ_40, mv9_σ_40]; exact smσ_39) | omega)
                  have onσ_40 : (σ.1 a 16).toInt ≤ (σ_40.1 a 15).toInt := (by first | (clear hs hz hk h4 k3σ k4σ if_1 j25σ_2 k3σ_2 if_3 c_4 dhpσ_6 ehpσ_6 k3σ_6 k4σ_6 bhpσ_8 chpσ_8 k3σ_9 k4σ_9 if_10 k3σ_11 if_12 c_13 iz_14 k3σ_16 dhpσ_18 ehpσ_18 k3σ_18 k4σ_18 bhpσ_20 chpσ_20 dhpσ_20 k3σ_21 if_22 c_29 ahpσ_31 bhpσ_31 dhpσ_31 c_32 chpσ_31 ahpσ_34 dhpσ_34 ehpσ_34 k3σ_34 iz_35 kc_36 kc_37 ahpσ_39 chpσ_39 dhpσ_39 ehpσ_39 k3σ_39 k4σ_39 smσ_39 kmσ_39 mv9_σ_40 mv12_σ_40 mv14_σ_40 mv16_σ_40 k3σ_40 k4σ_40 smσ_40; omega) | omega)
                  have kmσ_40 : m_c X σ_40 a 3722 = m_c X σ a 3722 := (by rw [mcσ_40 3722 (by decide), if_neg (by first | (clear hs hz hk h4 k3σ k4σ j25σ_2 k3σ_2 beσ_2 if_3 c_4 dhpσ_6 ehpσ_6 k3σ_6 k4σ_6 bhpσ_8 chpσ_8 k3σ_9 k4σ_9 if_10 k3σ_11 if_12 c_13 k3σ_16 dhpσ_18 ehpσ_18 k3σ_18 k4σ_18 bhpσ_20 chpσ_20 dhpσ_20 k3σ_21 if_22 c_29 ahpσ_31 bhpσ_31 dhpσ_31 c_32 chpσ_31 ahpσ_34 dhpσ_34 ehpσ_34 k3σ_34 kc_36 kc_37 ahpσ_39 chpσ_39 dhpσ_39 ehpσ_39 k3σ_39 k4σ_39 smσ_39 onσ_39 mv9_σ_40 mv12_σ_40 mv14_σ_40 mv15_σ_40 mv16_σ_40 k3σ_40 k4σ_40 smσ_40 onσ_40; omega) | omega)]; exact kmσ_39)
                  clear mv9_σ_40 mv12_σ_40 mv14_σ_40 mv15_σ_40 mv16_σ_40 k4σ_39 smσ_39 onσ_39 kmσ_39
                  exact J_160_23 σ_40 _ _ ls fr_σ_40 nnσ_40 kpσ_40 k3σ_40 k4σ_40 smσ_40 onσ_40 kmσ_40 hF hI (lv_sub hl [0, 1] rfl)
            refine q_if_eq (A := r_19.toInt) E rfl (tgt := 125) dX12_readPlayer_101 (by decide) (fun c_41 => ?_) (fun c_41 => ?_)
            · skip
              replace hF := q_ifp hF c_41
              clear chpσ_20
              exact J_125_21 σ_18 _ _ ls fr_σ_18 nnσ_18 kpσ_18 k3σ_18 k4σ_18 smσ_18 onσ_18 kmσ_18 hF hI (lv_sub hl [0, 1] rfl)
            · skip
              replace hF := q_ifn hF c_41
              replace c_41 := q_ifOne bhpσ_20 c_41
              replace chpσ_20 := chpσ_20 c_41
              refine lv_aload_n hx hb dX12_readPlayer_104 rfl (lv_at hl 0 rfl) ?_
              refine q_cv (q_rV11_0 (rest := []) E (hml.trans hl.1.symm) hI (c_X12_next l X σ_18 a ha (by first | (clear hs hz hk h4 k3σ k4σ if_1 j25σ_2 k3σ_2 beσ_2 if_3 c_4 dhpσ_6 ehpσ_6 k3σ_6 k4σ_6 bhpσ_8 chpσ_8 k3σ_9 k4σ_9 if_10 k3σ_11 if_12 c_13 iz_14 k3σ_16 dhpσ_18 ehpσ_18 k3σ_18 k4σ_18 bhpσ_20 dhpσ_20 c_41 chpσ_20; omega) | omega) (by first | (clear hs hz hk h4 k3σ k4σ if_1 j25σ_2 k3σ_2 beσ_2 if_3 c_4 dhpσ_6 ehpσ_6 k3σ_6 k4σ_6 bhpσ_8 chpσ_8 k3σ_9 k4σ_9 if_10 k3σ_11 if_12 c_13 iz_14 k3σ_16 dhpσ_18 ehpσ_18 k3σ_18 k4σ_18 bhpσ_20 dhpσ_20 c_41 chpσ_20; omega) | omega) (by first | (clear hz hk h4 k3σ k4σ if_1 j25σ_2 k3σ_2 beσ_2 if_3 c_4 dhpσ_6 ehpσ_6 k3σ_6 k4σ_6 bhpσ_8 chpσ_8 k3σ_9 k4σ_9 if_10 k3σ_11 if_12 c_13 iz_14 k3σ_16 dhpσ_18 ehpσ_18 k3σ_18 k4σ_18 bhpσ_20 dhpσ_20 c_41 chpσ_20; omega) | omega)) kv_X12_197 ha ⟨Nat.le_of_ble_eq_true rfl, Nat.le_of_ble_eq_true rfl⟩ (Nat.le_of_ble_eq_true rfl) dX12_readPlayer_105) hI (Nat.le_of_ble_eq_true rfl) (fun σ_43 H locs hpσ_43 hkσ_43 hI => ?_)
              have ahpσ_43 := hpσ_43.1
              have bhpσ_43 := hpσ_43.2.1
              have chpσ_43 := hpσ_43.2.2.1
              have dhpσ_43 := hpσ_43.2.2.2.1
              have ehpσ_43 := hpσ_43.2.2.2.2
              clear hpσ_43
              have fr_σ_43 := fr_σ_18.call ehpσ_43 rfl rfl
              replace hF := q_letX hF dhpσ_43
              have mcσ_43 := m_cK hkσ_43 hI.1 ha (by decide)
              have nnσ_43 : m_N (m_c X σ_43 a) := m_N.ext mcσ_43 nnσ_18
              have kpσ_43 : ∀ j, 0 ≤ j → j < 3720 → m_c X σ_43 a j = m_c X σ a j := fun j h0 h1 => (mcσ_43 j).trans (kpσ_18 j h0 h1)
              have k3σ_43 : m_c X σ_43 a 3720 = m_c X σ a 3720 ∧ m_c X σ_43 a 3721 = m_c X σ a 3721 := ⟨(mcσ_43 3720).trans k3σ_18.1, (mcσ_43 3721).trans k3σ_18.2⟩
              have k4σ_43 : 1 ≤ m_c X σ_43 a 3724 + 10 * (σ_43.1 a 12).toInt := (by have := mcσ_43 3724; omega)
              have smσ_43 : 0 ≤ (σ_43.1 a 15).toInt ∧ (σ_43.1 a 15).toInt ≤ (σ_43.1 a 16).toInt ∧ (σ_43.1 a 16).toInt ≤ (σ_43.1 a 9).toInt ∧ (σ_43.1 a 9).toInt ≤ 900 ∧ 0 ≤ (σ_43.1 a 14).toInt ∧ (σ_43.1 a 14).toInt ≤ 4 ∧ (σ_43.1 a 14).toInt ≤ 4 * ((σ_43.1 a 16).toInt - (σ_43.1 a 15).toInt) ∧ (σ_43.1 a 14).toInt ≤ 4 * ((σ_43.1 a 9).toInt - (σ_43.1 a 15).toInt) ∧ 0 ≤ (σ_43.1 a 12).toInt ∧ (σ_43.1 a 9).toInt = (σ.1 a 9).toInt ∧ (σ.1 a 15).toInt ≤ (σ_43.1 a 15).toInt ∧ (σ.1 a 12).toInt ≤ (σ_43.1 a 12).toInt := (by first | exact sm_nx smσ_18 bhpσ_43 chpσ_43 | omega)
              have onσ_43 : (σ.1 a 16).toInt ≤ (σ_43.1 a 15).toInt := (by first | (clear hs hz hk h4 k3σ k4σ if_1 j25σ_2 k3σ_2 if_3 c_4 dhpσ_6 ehpσ_6 k3σ_6 k4σ_6 bhpσ_8 chpσ_8 k3σ_9 k4σ_9 if_10 k3σ_11 if_12 c_13 iz_14 k3σ_16 dhpσ_18 ehpσ_18 k3σ_18 k4σ_18 bhpσ_20 dhpσ_20 c_41 ahpσ_43 bhpσ_43 dhpσ_43 ehpσ_43 k3σ_43 k4σ_43 smσ_43; omega) | omega)
              have kmσ_43 : m_c X σ_43 a 3722 = m_c X σ a 3722 := (mcσ_43 3722).trans kmσ_18
              clear k4σ_18 smσ_18 onσ_18 kmσ_18 bhpσ_43 chpσ_43
              refine lv_aload_n hx hb dX12_readPlayer_108 rfl (lv_at hl 0 rfl) ?_
              refine gs_X12_35_12 E hI ha dX12_readPlayer_109 ?_
              refine lv_sipush (v := 3730) hx hb dX12_readPlayer_112 zks_3730 ?_
              refine lv_iload_n hx hb dX12_readPlayer_115 rfl (lv_at hl 1 rfl) ?_
              refine lv_iadd hx hb dX12_readPlayer_116 ?_
              refine lv_topi (fun z_44 ez_44 => ?_)
              replace hF := q_letX hF ez_44
              have iz_44 := q_addI (A := 3730) (B := (m_c X σ a 3722)) ez_44 (by decide) if_1 (by first | (clear hs hz hk h4 k3σ k4σ j25σ_2 k3σ_2 beσ_2 if_3 c_4 dhpσ_6 ehpσ_6 k3σ_6 k4σ_6 bhpσ_8 chpσ_8 k3σ_9 k4σ_9 if_10 k3σ_11 if_12 c_13 k3σ_16 dhpσ_18 ehpσ_18 k3σ_18 bhpσ_20 dhpσ_20 c_41 chpσ_20 ahpσ_43 dhpσ_43 ehpσ_43 k3σ_43 k4σ_43 smσ_43 onσ_43; omega) | omega) (by first | (clear hs hz hk h4 k3σ k4σ j25σ_2 k3σ_2 beσ_2 if_3 c_4 dhpσ_6 ehpσ_6 k3σ_6 k4σ_6 bhpσ_8 chpσ_8 k3σ_9 k4σ_9 if_10 k3σ_11 if_12 c_13 k3σ_16 dhpσ_18 ehpσ_18 k3σ_18 bhpσ_20 dhpσ_20 c_41 chpσ_20 ahpσ_43 dhpσ_43 ehpσ_43 k3σ_43 k4σ_43 smσ_43 onσ_43; omega) | omega)
              refine lv_aload_n hx hb dX12_readPlayer_117 rfl (lv_at hl 0 rfl) ?_
              refine lv_iconst (v := 0) hx hb dX12_readPlayer_118 zki_0 ?_
              refine lv_bipush (v := 16) hx hb dX12_readPlayer_119 zkb_16 ?_
              have kc_45 : (0 : Int32).toInt = 0 := zt_0
              have kc_46 : (16 : Int32).toInt = 16 := zt_16
              refine q_ci (q_rV11_2 (rest := [.int z_44, .ref (q_rf X a 20)]) E (hml.trans hl.1.symm) hI (c_X12_count l X σ_43 a (0 : Int32) (16 : Int32) ha (by first | exact sm_9 smσ_43 | exact hs | omega) (by first | (clear hs hz hk h4 k3σ k4σ if_1 j25σ_2 k3σ_2 beσ_2 if_3 c_4 dhpσ_6 ehpσ_6 k3σ_6 k4σ_6 bhpσ_8 chpσ_8 k3σ_9 k4σ_9 if_10 k3σ_11 if_12 c_13 iz_14 k3σ_16 dhpσ_18 ehpσ_18 k3σ_18 bhpσ_20 dhpσ_20 c_41 chpσ_20 ahpσ_43 dhpσ_43 ehpσ_43 k3σ_43 k4σ_43 smσ_43 onσ_43 kmσ_43 iz_44; omega) | omega)) kv_X12_223 ha ⟨Nat.le_of_ble_eq_true rfl, Nat.le_of_ble_eq_true rfl⟩ (Nat.le_of_ble_eq_true rfl) dX12_readPlayer_121) hI (Nat.le_of_ble_eq_true rfl) (fun r_47 σ_48 H locs hpσ_48 hkσ_48 hI => ?_)
              have ahpσ_48 := hpσ_48.1
              have bhpσ_48 := hpσ_48.2.1
              have chpσ_48 := hpσ_48.2.2.1
              have dhpσ_48 := hpσ_48.2.2.2.1
              have ehpσ_48 := hpσ_48.2.2.2.2
              clear hpσ_48
              have fr_σ_48 := fr_σ_43.call ehpσ_48 rfl rfl
              replace hF := q_biX hF dhpσ_48
              have mcσ_48 := m_cK hkσ_48 hI.1 ha (by decide)
              have nnσ_48 : m_N (m_c X σ_48 a) := m_N.ext mcσ_48 nnσ_43
              have kpσ_48 : ∀ j, 0 ≤ j → j < 3720 → m_c X σ_48 a j = m_c X σ a j := fun j h0 h1 => (mcσ_48 j).trans (kpσ_43 j h0 h1)
              have k3σ_48 : m_c X σ_48 a 3720 = m_c X σ a 3720 ∧ m_c X σ_48 a 3721 = m_c X σ a 3721 := ⟨(mcσ_48 3720).trans k3σ_43.1, (mcσ_48 3721).trans k3σ_43.2⟩
              have k4σ_48 : 1 ≤ m_c X σ_48 a 3724 + 10 * (σ_48.1 a 12).toInt := (by have := mcσ_48 3724; omega)
              have smσ_48 : 0 ≤ (σ_48.1 a 15).toInt ∧ (σ_48.1 a 15).toInt ≤ (σ_48.1 a 16).toInt ∧ (σ_48.1 a 16).toInt ≤ (σ_48.1 a 9).toInt ∧ (σ_48.1 a 9).toInt ≤ 900 ∧ 0 ≤ (σ_48.1 a 14).toInt ∧ (σ_48.1 a 14).toInt ≤ 4 ∧ (σ_48.1 a 14).toInt ≤ 4 * ((σ_48.1 a 16).toInt - (σ_48.1 a 15).toInt) ∧ (σ_48.1 a 14).toInt ≤ 4 * ((σ_48.1 a 9).toInt - (σ_48.1 a 15).toInt) ∧ 0 ≤ (σ_48.1 a 12).toInt ∧ (σ_48.1 a 9).toInt = (σ.1 a 9).toInt ∧ (σ.1 a 15).toInt ≤ (σ_48.1 a 15).toInt ∧ (σ.1 a 12).toInt ≤ (σ_48.1 a 12).toInt := (by first | exact sm_tr smσ_43 bhpσ_48 | exact sm_tr smσ_43 chpσ_48 | omega)
              have onσ_48 : (σ.1 a 16).toInt ≤ (σ_48.1 a 15).toInt := (by first | (clear hs hz hk h4 k3σ k4σ if_1 j25σ_2 k3σ_2 if_3 c_4 dhpσ_6 ehpσ_6 k3σ_6 k4σ_6 bhpσ_8 chpσ_8 k3σ_9 k4σ_9 if_10 k3σ_11 if_12 c_13 iz_14 k3σ_16 dhpσ_18 ehpσ_18 k3σ_18 bhpσ_20 dhpσ_20 c_41 chpσ_20 ahpσ_43 dhpσ_43 ehpσ_43 k3σ_43 k4σ_43 smσ_43 kmσ_43 iz_44 kc_45 kc_46 ahpσ_48 chpσ_48 dhpσ_48 ehpσ_48 k3σ_48 k4σ_48 smσ_48; omega) | omega)
              have kmσ_48 : m_c X σ_48 a 3722 = m_c X σ a 3722 := (mcσ_48 3722).trans kmσ_43
              clear k4σ_43 smσ_43 onσ_43 kmσ_43 bhpσ_48
              refine q_iastN E hI (q_tk (k' := 34) hI ha rfl (Nat.succ_ne_zero _)) ⟨by decide, rfl⟩ (by first | (clear hs hz hk h4 k3σ k4σ j25σ_2 k3σ_2 beσ_2 if_3 c_4 dhpσ_6 ehpσ_6 k3σ_6 k4σ_6 bhpσ_8 chpσ_8 k3σ_9 k4σ_9 if_10 k3σ_11 if_12 c_13 k3σ_16 dhpσ_18 ehpσ_18 k3σ_18 bhpσ_20 dhpσ_20 c_41 chpσ_20 ahpσ_43 dhpσ_43 ehpσ_43 k3σ_43 kc_45 kc_46 ahpσ_48 chpσ_48 dhpσ_48 ehpσ_48 k3σ_48 k4σ_48 smσ_48 onσ_48; omega) | omega) (by rw [q_lnk (v := 4650) hI (q_tk (k' := 34) hI ha rfl (Nat.succ_ne_zero _)) rfl (by decide)]; omega) (show 1 < 2 by decide) (q_inU rfl) dX12_readPlayer_124 (fun H locs σ_49 hσ_49 hI => ?_)
              replace hF := q_letX hF hσ_49
              have fr_σ_49 := fr_σ_48.si hσ_49 (q_tk (k' := 34) hI ha rfl (Nat.succ_ne_zero _)) rfl
              have mv9_σ_49 : (σ_49.1 a 9).toInt = (σ_48.1 a 9).toInt := congrArg Int32.toInt (q_rdn hσ_49 (Or.inl (m_ne ha (q_tk (k' := 34) hI ha rfl (Nat.succ_ne_zero _)) (by decide))))
              have mv12_σ_49 : (σ_49.1 a 12).toInt = (σ_48.1 a 12).toInt := congrArg Int32.toInt (q_rdn hσ_49 (Or.inl (m_ne ha (q_tk (k' := 34) hI ha rfl (Nat.succ_ne_zero _)) (by decide))))
              have mv14_σ_49 : (σ_49.1 a 14).toInt = (σ_48.1 a 14).toInt := congrArg Int32.toInt (q_rdn hσ_49 (Or.inl (m_ne ha (q_tk (k' := 34) hI ha rfl (Nat.succ_ne_zero _)) (by decide))))
              have mv15_σ_49 : (σ_49.1 a 15).toInt = (σ_48.1 a 15).toInt := congrArg Int32.toInt (q_rdn hσ_49 (Or.inl (m_ne ha (q_tk (k' := 34) hI ha rfl (Nat.succ_ne_zero _)) (by decide))))
              have mv16_σ_49 : (σ_49.1 a 16).toInt = (σ_48.1 a 16).toInt := congrArg Int32.toInt (q_rdn hσ_49 (Or.inl (m_ne ha (q_tk (k' := 34) hI ha rfl (Nat.succ_ne_zero _)) (by decide))))
              have mcσ_49 := m_wr (v := r_47) (A := (3730 + (m_c X σ a 3722))) hσ_49 iz_44 (by first | (clear hs hz hk h4 k3σ k4σ j25σ_2 k3σ_2 beσ_2 if_3 c_4 dhpσ_6 ehpσ_6 k3σ_6 k4σ_6 bhpσ_8 chpσ_8 k3σ_9 k4σ_9 if_10 k3σ_11 if_12 c_13 k3σ_16 dhpσ_18 ehpσ_18 k3σ_18 bhpσ_20 dhpσ_20 c_41 chpσ_20 ahpσ_43 dhpσ_43 ehpσ_43 k3σ_43 kc_45 kc_46 ahpσ_48 chpσ_48 dhpσ_48 ehpσ_48 k3σ_48 k4σ_48 smσ_48 onσ_48 mv9_σ_49 mv12_σ_49 mv14_σ_49 mv15_σ_49 mv16_σ_49; omega) | omega)
              have nnσ_49 : m_N (m_c X σ_49 a) := m_N.wr nnσ_48 mcσ_49 (by first | (clear hs hz hk h4 k3σ k4σ j25σ_2 k3σ_2 beσ_2 if_3 c_4 dhpσ_6 ehpσ_6 k3σ_6 k4σ_6 bhpσ_8 chpσ_8 k3σ_9 k4σ_9 if_10 k3σ_11 if_12 c_13 k3σ_16 dhpσ_18 ehpσ_18 k3σ_18 bhpσ_20 dhpσ_20 c_41 chpσ_20 ahpσ_43 dhpσ_43 ehpσ_43 k3σ_43 kc_45 kc_46 ahpσ_48 chpσ_48 dhpσ_48 ehpσ_48 k3σ_48 k4σ_48 smσ_48 onσ_48 mv9_σ_49 mv12_σ_49 mv14_σ_49 mv15_σ_49 mv16_σ_49; omega) | omega)
              have kpσ_49 : ∀ j, 0 ≤ j → j < 3720 → m_c X σ_49 a j = m_c X σ a j := fun j h0 h1 => by rw [mcσ_49 j h0, if_neg (by first | (clear hs hz hk h4 k3σ k4σ j25σ_2 k3σ_2 beσ_2 if_3 c_4 dhpσ_6 ehpσ_6 k3σ_6 k4σ_6 bhpσ_8 chpσ_8 k3σ_9 k4σ_9 if_10 k3σ_11 if_12 c_13 k3σ_16 dhpσ_18 ehpσ_18 k3σ_18 bhpσ_20 dhpσ_20 c_41 chpσ_20 ahpσ_43 dhpσ_43 ehpσ_43 k3σ_43 kc_45 kc_46 ahpσ_48 chpσ_48 dhpσ_48 ehpσ_48 k3σ_48 k4σ_48 smσ_48 onσ_48 mv9_σ_49 mv12_σ_49 mv14_σ_49 mv15_σ_49 mv16_σ_49; omega) | omega)]; exact kpσ_48 j h0 h1
              have k3σ_49 : m_c X σ_49 a 3720 = m_c X σ a 3720 ∧ m_c X σ_49 a 3721 = m_c X σ a 3721 := ⟨by rw [mcσ_49 3720 (by decide), if_neg (by first | (clear hs hz hk h4 k3σ k4σ j25σ_2 k3σ_2 beσ_2 if_3 c_4 dhpσ_6 ehpσ_6 k3σ_6 k4σ_6 bhpσ_8 chpσ_8 k3σ_9 k4σ_9 if_10 k3σ_11 if_12 c_13 k3σ_16 dhpσ_18 ehpσ_18 k3σ_18 bhpσ_20 dhpσ_20 c_41 chpσ_20 ahpσ_43 dhpσ_43 ehpσ_43 k3σ_43 kc_45 kc_46 ahpσ_48 chpσ_48 dhpσ_48 ehpσ_48 k3σ_48 k4σ_48 smσ_48 onσ_48 mv9_σ_49 mv12_σ_49 mv14_σ_49 mv15_σ_49 mv16_σ_49; omega) | omega)]; exact k3σ_48.1, by rw [mcσ_49 3721 (by decide), if_neg (by first | (clear hs hz hk h4 k3σ k4σ j25σ_2 k3σ_2 beσ_2 if_3 c_4 dhpσ_6 ehpσ_6 k3σ_6 k4σ_6 bhpσ_8 chpσ_8 k3σ_9 k4σ_9 if_10 k3σ_11 if_12 c_13 k3σ_16 dhpσ_18 ehpσ_18 k3σ_18 bhpσ_20 dhpσ_20 c_41 chpσ_20 ahpσ_43 dhpσ_43 ehpσ_43 k3σ_43 kc_45 kc_46 ahpσ_48 chpσ_48 dhpσ_48 ehpσ_48 k3σ_48 k4σ_48 smσ_48 onσ_48 mv9_σ_49 mv12_σ_49 mv14_σ_49 mv15_σ_49 mv16_σ_49; omega) | omega)]; exact k3σ_48.2⟩
              have k4σ_49 : 1 ≤ m_c X σ_49 a 3724 + 10 * (σ_49.1 a 12).toInt := (by have := mcσ_49 3724 (by decide); rw [if_neg (by first | (clear hs hz hk h4 k3σ k4σ j25σ_2 k3σ_2 beσ_2 if_3 c_4 dhpσ_6 ehpσ_6 k3σ_6 k4σ_6 bhpσ_8 chpσ_8 k3σ_9 k4σ_9 if_10 k3σ_11 if_12 c_13 k3σ_16 dhpσ_18 ehpσ_18 k3σ_18 bhpσ_20 dhpσ_20 c_41 chpσ_20 ahpσ_43 dhpσ_43 ehpσ_43 k3σ_43 kc_45 kc_46 ahpσ_48 chpσ_48 dhpσ_48 ehpσ_48 k3σ_48 k4σ_48 smσ_48 onσ_48 mv9_σ_49 mv12_σ_49 mv14_σ_49 mv15_σ_49 mv16_σ_49 k3σ_49; omega) | omega)] at this; omega)
              have smσ_49 : 0 ≤ (σ_49.1 a 15).toInt ∧ (σ_49.1 a 15).toInt ≤ (σ_49.1 a 16).toInt ∧ (σ_49.1 a 16).toInt ≤ (σ_49.1 a 9).toInt ∧ (σ_49.1 a 9).toInt ≤ 900 ∧ 0 ≤ (σ_49.1 a 14).toInt ∧ (σ_49.1 a 14).toInt ≤ 4 ∧ (σ_49.1 a 14).toInt ≤ 4 * ((σ_49.1 a 16).toInt - (σ_49.1 a 15).toInt) ∧ (σ_49.1 a 14).toInt ≤ 4 * ((σ_49.1 a 9).toInt - (σ_49.1 a 15).toInt) ∧ 0 ≤ (σ_49.1 a 12).toInt ∧ (σ_49.1 a 9).toInt = (σ.1 a 9).toInt ∧ (σ.1 a 15).toInt ≤ (σ_49.1 a 15).toInt ∧ (σ.1 a 12).toInt ≤ (σ_49.1 a 12).toInt := (by first | (rw [mv12_σ_49, mv14_σ_49, mv15_σ_49, mv16_σ_49, mv9_σ_49]; exact smσ_48) | omega)
              have onσ_49 : (σ.1 a 16).toInt ≤ (σ_49.1 a 15).toInt := (by first | (clear hs hz hk h4 k3σ k4σ if_1 j25σ_2 k3σ_2 if_3 c_4 dhpσ_6 ehpσ_6 k3σ_6 k4σ_6 bhpσ_8 chpσ_8 k3σ_9 k4σ_9 if_10 k3σ_11 if_12 c_13 iz_14 k3σ_16 dhpσ_18 ehpσ_18 k3σ_18 bhpσ_20 dhpσ_20 c_41 chpσ_20 ahpσ_43 dhpσ_43 ehpσ_43 k3σ_43 iz_44 kc_45 kc_46 ahpσ_48 chpσ_48 dhpσ_48 ehpσ_48 k3σ_48 k4σ_48 smσ_48 kmσ_48 mv9_σ_49 mv12_σ_49 mv14_σ_49 mv16_σ_49 k3σ_49 k4σ_49 smσ_49; omega) | omega)
              have kmσ_49 : m_c X σ_49 a 3722 = m_c X σ a 3722 := (by rw [mcσ_49 3722 (by decide), if_neg (by first | (clear hs hz hk h4 k3σ k4σ j25σ_2 k3σ_2 beσ_2 if_3 c_4 dhpσ_6 ehpσ_6 k3σ_6 k4σ_6 bhpσ_8 chpσ_8 k3σ_9 k4σ_9 if_10 k3σ_11 if_12 c_13 k3σ_16 dhpσ_18 ehpσ_18 k3σ_18 bhpσ_20 dhpσ_20 c_41 chpσ_20 ahpσ_43 dhpσ_43 ehpσ_43 k3σ_43 kc_45 kc_46 ahpσ_48 chpσ_48 dhpσ_48 ehpσ_48 k3σ_48 k4σ_48 smσ_48 onσ_48 mv9_σ_49 mv12_σ_49 mv14_σ_49 mv15_σ_49 mv16_σ_49 k3σ_49 k4σ_49 smσ_49 onσ_49; omega) | omega)]; exact kmσ_48)
              clear mv9_σ_49 mv12_σ_49 mv14_σ_49 mv15_σ_49 mv16_σ_49 k4σ_48 smσ_48 onσ_48 kmσ_48
              exact J_125_21 σ_49 _ _ ls fr_σ_49 nnσ_49 kpσ_49 k3σ_49 k4σ_49 smσ_49 onσ_49 kmσ_49 hF hI (lv_sub hl [0, 1] rfl)
          · skip
            replace hF := q_ifp hF c_13
            exact q_retv E hr hlk hI ⟨nnσ_11, kpσ_11, (by first | exact smσ_11 | omega), (by first | exact smσ_11 | omega), k3σ_11, k4σ_11, (hF.trans hout), fr_σ_11⟩ dX12_readPlayer_79
        refine q_if_ne (A := f_10.toInt) E rfl (tgt := 72) dX12_readPlayer_52 (by decide) (fun c_50 => ?_) (fun c_50 => ?_)
        · skip
          replace hF := q_ifn hF c_50
          exact J_72_11 σ_9 _ _ ls fr_σ_9 nnσ_9 kpσ_9 k3σ_9 k4σ_9 smσ_9 onσ_9 kmσ_9 hF hI (lv_sub hl [0, 1] rfl)
        · skip
          replace hF := q_ifp hF c_50
          refine lv_aload_n hx hb dX12_readPlayer_55 rfl (lv_at hl 0 rfl) ?_
          refine lv_iconst (v := 4) hx hb dX12_readPlayer_56 zki_4 ?_
          have kc_51 : (4 : Int32).toInt = 4 := zt_4
          refine q_ci (q_rV11_1 (rest := []) E (hml.trans hl.1.symm) hI (c_X12_named l X σ_9 a (4 : Int32) ha (Or.inr rfl) (by show m_c X σ_9 a 3722 ≤ 6; have := nnσ_9.2.2.1; omega)) kv_X12_213 ha ⟨Nat.le_of_ble_eq_true rfl, Nat.le_of_ble_eq_true rfl⟩ (Nat.le_of_ble_eq_true rfl) dX12_readPlayer_57) hI (Nat.le_of_ble_eq_true rfl) (fun r_52 σ_53 H locs hpσ_53 hkσ_53 hI => ?_)
          have ahpσ_53 := hpσ_53.1
          have bhpσ_53 := hpσ_53.2.1
          have chpσ_53 := hpσ_53.2.2
          clear hpσ_53
          replace hI := q_Irw ahpσ_53 hI
          replace hF := q_letX hF chpσ_53
          refine q_if_lt (A := r_52.toInt) E rfl (tgt := 72) dX12_readPlayer_60 (by decide) (fun c_54 => ?_) (fun c_54 => ?_)
          · skip
            replace hF := q_ifp hF c_54
            exact J_72_11 σ_9 _ _ ls fr_σ_9 nnσ_9 kpσ_9 k3σ_9 k4σ_9 smσ_9 onσ_9 kmσ_9 hF hI (lv_sub hl [0, 1] rfl)
          · skip
            replace hF := q_ifn hF (Int.not_lt.mpr c_54)
            refine lv_aload_n hx hb dX12_readPlayer_63 rfl (lv_at hl 0 rfl) ?_
            refine lv_iconst (v := 3) hx hb dX12_readPlayer_64 zki_3 ?_
            refine lv_aload_n hx hb dX12_readPlayer_65 rfl (lv_at hl 0 rfl) ?_
            refine gs_X12_104_12 E hI ha dX12_readPlayer_66 ?_
            refine lv_topi (fun f_55 ef_55 => ?_)
            replace hF := q_letX hF ef_55
            have if_55 : f_55.toInt = (σ_9.1 a 15).toInt := congrArg Int32.toInt ef_55
            have kc_56 : (3 : Int32).toInt = 3 := zt_3
            refine q_cv (q_rV11_2 (rest := []) E (hml.trans hl.1.symm) hI (c_X12_fail l X σ_9 a (3 : Int32) f_55 ha (by first | (clear hs hz hk h4 k3σ k4σ if_1 j25σ_2 k3σ_2 beσ_2 if_3 c_4 dhpσ_6 ehpσ_6 k3σ_6 k4σ_6 bhpσ_8 chpσ_8 k3σ_9 k4σ_9 kc_51 ahpσ_53 bhpσ_53 chpσ_53 c_54 if_55 kc_56; omega) | omega) (by first | (clear hs hz hk h4 k3σ k4σ if_1 j25σ_2 k3σ_2 beσ_2 if_3 c_4 dhpσ_6 ehpσ_6 k3σ_6 k4σ_6 bhpσ_8 chpσ_8 k3σ_9 k4σ_9 if_10 c_50 kc_51 ahpσ_53 bhpσ_53 chpσ_53 c_54 if_55; omega) | omega)) kv_X12_193 ha ⟨Nat.le_of_ble_eq_true rfl, Nat.le_of_ble_eq_true rfl⟩ (Nat.le_of_ble_eq_true rfl) dX12_readPlayer_69) hI (Nat.le_of_ble_eq_true rfl) (fun σ_58 H locs hpσ_58 hkσ_58 hI => ?_)
            have ahpσ_58 := hpσ_58.1
            have bhpσ_58 := hpσ_58.2.1
            have chpσ_58 := hpσ_58.2.2.1
            have dhpσ_58 := hpσ_58.2.2.2.1
            have ehpσ_58 := hpσ_58.2.2.2.2
            clear hpσ_58
            have fr_σ_58 := fr_σ_9.call ehpσ_58 rfl rfl
            replace hF := q_letX hF dhpσ_58
            have mcσ_58 := m_cK hkσ_58 hI.1 ha (by decide)
            have nnσ_58 : m_N (m_c X σ_58 a) := m_N.ext mcσ_58 nnσ_9
            have kpσ_58 : ∀ j, 0 ≤ j → j < 3720 → m_c X σ_58 a j = m_c X σ a j := fun j h0 h1 => (mcσ_58 j).trans (kpσ_9 j h0 h1)
            have k3σ_58 : m_c X σ_58 a 3720 = m_c X σ a 3720 ∧ m_c X σ_58 a 3721 = m_c X σ a 3721 := ⟨(mcσ_58 3720).trans k3σ_9.1, (mcσ_58 3721).trans k3σ_9.2⟩
            have k4σ_58 : 1 ≤ m_c X σ_58 a 3724 + 10 * (σ_58.1 a 12).toInt := (by have := mcσ_58 3724; omega)
            have smσ_58 : 0 ≤ (σ_58.1 a 15).toInt ∧ (σ_58.1 a 15).toInt ≤ (σ_58.1 a 16).toInt ∧ (σ_58.1 a 16).toInt ≤ (σ_58.1 a 9).toInt ∧ (σ_58.1 a 9).toInt ≤ 900 ∧ 0 ≤ (σ_58.1 a 14).toInt ∧ (σ_58.1 a 14).toInt ≤ 4 ∧ (σ_58.1 a 14).toInt ≤ 4 * ((σ_58.1 a 16).toInt - (σ_58.1 a 15).toInt) ∧ (σ_58.1 a 14).toInt ≤ 4 * ((σ_58.1 a 9).toInt - (σ_58.1 a 15).toInt) ∧ 0 ≤ (σ_58.1 a 12).toInt ∧ (σ_58.1 a 9).toInt = (σ.1 a 9).toInt ∧ (σ.1 a 15).toInt ≤ (σ_58.1 a 15).toInt ∧ (σ.1 a 12).toInt ≤ (σ_58.1 a 12).toInt := (by first | exact sm_fl smσ_9 bhpσ_58 chpσ_58 | omega)
            have onσ_58 : (σ.1 a 16).toInt ≤ (σ_58.1 a 15).toInt := (by first | (clear hs hz hk h4 k3σ k4σ if_1 j25σ_2 k3σ_2 if_3 c_4 dhpσ_6 ehpσ_6 k3σ_6 k4σ_6 bhpσ_8 chpσ_8 k3σ_9 k4σ_9 if_10 c_50 kc_51 ahpσ_53 bhpσ_53 chpσ_53 c_54 kc_56 ahpσ_58 chpσ_58 dhpσ_58 ehpσ_58 k3σ_58 k4σ_58 smσ_58; omega) | omega)
            have kmσ_58 : m_c X σ_58 a 3722 = m_c X σ a 3722 := (mcσ_58 3722).trans kmσ_9
            clear k4σ_9 smσ_9 onσ_9 kmσ_9 bhpσ_58
            exact J_72_11 σ_58 _ _ ls fr_σ_58 nnσ_58 kpσ_58 k3σ_58 k4σ_58 smσ_58 onσ_58 kmσ_58 hF hI (lv_sub hl [0, 1] rfl)
      refine q_if_ne (A := r_7.toInt) E rfl (tgt := 48) dX12_readPlayer_41 (by decide) (fun c_59 => ?_) (fun c_59 => ?_)
      · skip
        replace hF := q_ifn hF c_59
        replace c_59 := q_ifOne bhpσ_8 c_59
        exact J_48_9 σ_6 _ _ ls fr_σ_6 nnσ_6 kpσ_6 k3σ_6 k4σ_6 smσ_6 onσ_6 kmσ_6 hF hI (lv_sub hl [0, 1] rfl)
      · skip
        replace hF := q_ifp hF c_59
        refine lv_aload_n hx hb dX12_readPlayer_44 rfl (lv_at hl 0 rfl) ?_
        refine q_cv (q_rV11_0 (rest := []) E (hml.trans hl.1.symm) hI (c_X12_wrong l X σ_6 a ha (by first | (clear hs hz hk h4 k3σ k4σ if_1 j25σ_2 k3σ_2 beσ_2 if_3 c_4 dhpσ_6 ehpσ_6 k3σ_6 k4σ_6 bhpσ_8 chpσ_8 c_59; omega) | omega)) kv_X12_200 ha ⟨Nat.le_of_ble_eq_true rfl, Nat.le_of_ble_eq_true rfl⟩ (Nat.le_of_ble_eq_true rfl) dX12_readPlayer_45) hI (Nat.le_of_ble_eq_true rfl) (fun σ_61 H locs hpσ_61 hkσ_61 hI => ?_)
        have ahpσ_61 := hpσ_61.1
        have bhpσ_61 := hpσ_61.2.1
        have chpσ_61 := hpσ_61.2.2.1
        have dhpσ_61 := hpσ_61.2.2.2.1
        have ehpσ_61 := hpσ_61.2.2.2.2
        clear hpσ_61
        have fr_σ_61 := fr_σ_6.call ehpσ_61 rfl rfl
        replace hF := q_letX hF dhpσ_61
        have mcσ_61 := m_cK hkσ_61 hI.1 ha (by decide)
        have nnσ_61 : m_N (m_c X σ_61 a) := m_N.ext mcσ_61 nnσ_6
        have kpσ_61 : ∀ j, 0 ≤ j → j < 3720 → m_c X σ_61 a j = m_c X σ a j := fun j h0 h1 => (mcσ_61 j).trans (kpσ_6 j h0 h1)
        have k3σ_61 : m_c X σ_61 a 3720 = m_c X σ a 3720 ∧ m_c X σ_61 a 3721 = m_c X σ a 3721 := ⟨(mcσ_61 3720).trans k3σ_6.1, (mcσ_61 3721).trans k3σ_6.2⟩
        have k4σ_61 : 1 ≤ m_c X σ_61 a 3724 + 10 * (σ_61.1 a 12).toInt := (by have := mcσ_61 3724; omega)
        have smσ_61 : 0 ≤ (σ_61.1 a 15).toInt ∧ (σ_61.1 a 15).toInt ≤ (σ_61.1 a 16).toInt ∧ (σ_61.1 a 16).toInt ≤ (σ_61.1 a 9).toInt ∧ (σ_61.1 a 9).toInt ≤ 900 ∧ 0 ≤ (σ_61.1 a 14).toInt ∧ (σ_61.1 a 14).toInt ≤ 4 ∧ (σ_61.1 a 14).toInt ≤ 4 * ((σ_61.1 a 16).toInt - (σ_61.1 a 15).toInt) ∧ (σ_61.1 a 14).toInt ≤ 4 * ((σ_61.1 a 9).toInt - (σ_61.1 a 15).toInt) ∧ 0 ≤ (σ_61.1 a 12).toInt ∧ (σ_61.1 a 9).toInt = (σ.1 a 9).toInt ∧ (σ.1 a 15).toInt ≤ (σ_61.1 a 15).toInt ∧ (σ.1 a 12).toInt ≤ (σ_61.1 a 12).toInt := (by first | exact sm_fl smσ_6 bhpσ_61 chpσ_61 | omega)
        have onσ_61 : (σ.1 a 16).toInt ≤ (σ_61.1 a 15).toInt := (by first | (clear hs hz hk h4 k3σ k4σ if_1 j25σ_2 k3σ_2 if_3 c_4 dhpσ_6 ehpσ_6 k3σ_6 k4σ_6 bhpσ_8 chpσ_8 c_59 ahpσ_61 chpσ_61 dhpσ_61 ehpσ_61 k3σ_61 k4σ_61 smσ_61; omega) | omega)
        have kmσ_61 : m_c X σ_61 a 3722 = m_c X σ a 3722 := (mcσ_61 3722).trans kmσ_6
        clear k4σ_6 smσ_6 onσ_6 kmσ_6 bhpσ_61
        exact J_48_9 σ_61 _ _ ls fr_σ_61 nnσ_61 kpσ_61 k3σ_61 k4σ_61 smσ_61 onσ_61 kmσ_61 hF hI (lv_sub hl [0, 1] rfl)
    · skip
      replace hF := q_ifp hF c_4
      exact q_retv E hr hlk hI ⟨nnσ_2, kpσ_2, (by first | exact smσ_2 | omega), (by first | exact smσ_2 | omega), k3σ_2, k4σ_2, (hF.trans hout), fr_σ_2⟩ dX12_readPlayer_32
  refine q_icmp_ne (A := f_1.toInt) (B := 6) E rfl (by decide) (tgt := 25) dX12_readPlayer_12 (by decide) (fun c_62 => ?_) (fun c_62 => ?_)
  · skip
    replace hF := q_ifn hF c_62
    exact J_25_2 σ _ _ ls (by first | (clear hs hk h4 k3σ k4σ; omega) | omega) fr_σ nnσ kpσ k3σ k4σ smσ beσ kmσ hF hI (lv_sub hl [1, 0] rfl)
  · skip
    replace hF := q_ifp hF c_62
    refine lv_aload_n hx hb dX12_readPlayer_15 rfl (lv_at hl 1 rfl) ?_
    refine lv_bipush (v := 6) hx hb dX12_readPlayer_16 zkb_6 ?_
    refine lv_aload_n hx hb dX12_readPlayer_18 rfl (lv_at hl 1 rfl) ?_
    refine gs_X12_104_12 E hI ha dX12_readPlayer_19 ?_
    refine lv_topi (fun f_63 ef_63 => ?_)
    replace hF := q_letX hF ef_63
    have if_63 : f_63.toInt = (σ.1 a 15).toInt := congrArg Int32.toInt ef_63
    have kc_64 : (6 : Int32).toInt = 6 := zt_6
    refine q_cv (q_rV11_2 (rest := []) E (hml.trans hl.1.symm) hI (c_X12_fail l X σ a (6 : Int32) f_63 ha (by omega) (by first | (clear hs hz hk h4 k3σ k4σ if_1 c_62 if_63; omega) | omega)) kv_X12_193 ha ⟨Nat.le_of_ble_eq_true rfl, Nat.le_of_ble_eq_true rfl⟩ (Nat.le_of_ble_eq_true rfl) dX12_readPlayer_22) hI (Nat.le_of_ble_eq_true rfl) (fun σ_66 H locs hpσ_66 hkσ_66 hI => ?_)
    have ahpσ_66 := hpσ_66.1
    have bhpσ_66 := hpσ_66.2.1
    have chpσ_66 := hpσ_66.2.2.1
    have dhpσ_66 := hpσ_66.2.2.2.1
    have ehpσ_66 := hpσ_66.2.2.2.2
    clear hpσ_66
    have fr_σ_66 := fr_σ.call ehpσ_66 rfl rfl
    replace hF := q_letX hF dhpσ_66
    have mcσ_66 := m_cK hkσ_66 hI.1 ha (by decide)
    have nnσ_66 : m_N (m_c X σ_66 a) := m_N.ext mcσ_66 nnσ
    have kpσ_66 : ∀ j, 0 ≤ j → j < 3720 → m_c X σ_66 a j = m_c X σ a j := fun j h0 h1 => (mcσ_66 j).trans (kpσ j h0 h1)
    have k3σ_66 : m_c X σ_66 a 3720 = m_c X σ a 3720 ∧ m_c X σ_66 a 3721 = m_c X σ a 3721 := ⟨(mcσ_66 3720).trans k3σ.1, (mcσ_66 3721).trans k3σ.2⟩
    have k4σ_66 : 1 ≤ m_c X σ_66 a 3724 + 10 * (σ_66.1 a 12).toInt := (by have := mcσ_66 3724; omega)
    have smσ_66 : 0 ≤ (σ_66.1 a 15).toInt ∧ (σ_66.1 a 15).toInt ≤ (σ_66.1 a 16).toInt ∧ (σ_66.1 a 16).toInt ≤ (σ_66.1 a 9).toInt ∧ (σ_66.1 a 9).toInt ≤ 900 ∧ 0 ≤ (σ_66.1 a 14).toInt ∧ (σ_66.1 a 14).toInt ≤ 4 ∧ (σ_66.1 a 14).toInt ≤ 4 * ((σ_66.1 a 16).toInt - (σ_66.1 a 15).toInt) ∧ (σ_66.1 a 14).toInt ≤ 4 * ((σ_66.1 a 9).toInt - (σ_66.1 a 15).toInt) ∧ 0 ≤ (σ_66.1 a 12).toInt ∧ (σ_66.1 a 9).toInt = (σ.1 a 9).toInt ∧ (σ.1 a 15).toInt ≤ (σ_66.1 a 15).toInt ∧ (σ.1 a 12).toInt ≤ (σ_66.1 a 12).toInt := (by first | exact sm_fl smσ bhpσ_66 chpσ_66 | omega)
    have beσ_66 : (σ_66.1 a 16).toInt = (σ.1 a 16).toInt := (by omega)
    have kmσ_66 : m_c X σ_66 a 3722 = m_c X σ a 3722 := (mcσ_66 3722).trans kmσ
    clear k4σ smσ beσ kmσ bhpσ_66
    exact J_25_2 σ_66 _ _ ls (by first | (clear hs hz hk h4 k3σ if_1 if_63 kc_64 ahpσ_66 dhpσ_66 ehpσ_66 k3σ_66 k4σ_66 smσ_66 beσ_66 kmσ_66; omega) | omega) fr_σ_66 nnσ_66 kpσ_66 k3σ_66 k4σ_66 smσ_66 beσ_66 kmσ_66 hF hI (lv_sub hl [1, 0] rfl)

set_option maxRecDepth 100000 in
set_option maxHeartbeats 4000000 in
theorem c_X12_readHand (l : Launch) (X : XW) (σ : ST) (a : Nat) (ha : q_kd X a = 12) (hs : 0 ≤ (σ.1 a 15).toInt ∧ (σ.1 a 15).toInt ≤ (σ.1 a 16).toInt ∧ (σ.1 a 16).toInt ≤ (σ.1 a 9).toInt ∧ (σ.1 a 9).toInt ≤ 900 ∧ 0 ≤ (σ.1 a 14).toInt ∧ (σ.1 a 14).toInt ≤ 4 ∧ (σ.1 a 14).toInt ≤ 4 * ((σ.1 a 16).toInt - (σ.1 a 15).toInt) ∧ (σ.1 a 14).toInt ≤ 4 * ((σ.1 a 9).toInt - (σ.1 a 15).toInt) ∧ 0 ≤ (σ.1 a 12).toInt) (hN : m_N (m_c X σ a)) (hz : (σ.1 a 12).toInt = 0) (hk : 2 ≤ m_c X σ a 3720) (h4 : 1 ≤ m_c X σ a 3724) : Met l yX12_readHand (q_ws yX12_readHand cX12_readHand 6 none) (q_rm 6 129) (q_P X σ [.ref a]) (q_Qv X 1 σ (fun (σ' : ST) => (m_N (m_c X σ' a)) ∧ (∀ j, 0 ≤ j → j < 3720 → m_c X σ' a j = m_c X σ a j) ∧ (0 ≤ (σ'.1 a 15).toInt ∧ (σ'.1 a 15).toInt ≤ (σ'.1 a 16).toInt ∧ (σ'.1 a 16).toInt ≤ (σ'.1 a 9).toInt ∧ (σ'.1 a 9).toInt ≤ 900 ∧ 0 ≤ (σ'.1 a 14).toInt ∧ (σ'.1 a 14).toInt ≤ 4 ∧ (σ'.1 a 14).toInt ≤ 4 * ((σ'.1 a 16).toInt - (σ'.1 a 15).toInt) ∧ (σ'.1 a 14).toInt ≤ 4 * ((σ'.1 a 9).toInt - (σ'.1 a 15).toInt) ∧ 0 ≤ (σ'.1 a 12).toInt ∧ (σ'.1 a 9).toInt = (σ.1 a 9).toInt ∧ (σ.1 a 15).toInt ≤ (σ'.1 a 15).toInt ∧ (σ.1 a 12).toInt ≤ (σ'.1 a 12).toInt) ∧ ((σ.1 a 16).toInt ≤ (σ'.1 a 15).toInt + 1000 * (σ'.1 a 12).toInt) ∧ (m_c X σ' a 3720 = m_c X σ a 3720 ∧ m_c X σ' a 3721 = m_c X σ a 3721) ∧ (1 ≤ m_c X σ' a 3724 + 10 * (σ'.1 a 12).toInt) ∧ σ' = F_X12_readHand X σ a ∧ q_ow [(12, 12), (12, 13), (12, 14), (12, 15), (12, 16), (12, 17), (12, 18), (34, 99), (36, 99)] [(12, 19)] X σ σ')) 0 0 (q_reg X) := by
  refine q_met 1 (by first | exact rfl | decide +kernel) rfl (Nat.le_of_ble_eq_true rfl) (fun p e s m below meth c E hml hr hlk hI ls hl => ?_)
  have hx := E.1
  have hb := E.2.1
  have hl : lv_has ls 6 [(0, .ref a)] := hl
  have nnσ : m_N (m_c X σ a) := hN
  have kpσ : ∀ j, 0 ≤ j → j < 3720 → m_c X σ a j = m_c X σ a j := fun _ _ _ => rfl
  have k3σ : m_c X σ a 3720 = m_c X σ a 3720 ∧ m_c X σ a 3721 = m_c X σ a 3721 := ⟨rfl, rfl⟩
  have k4σ : 1 ≤ m_c X σ a 3724 + 10 * (σ.1 a 12).toInt := (by omega)
  have smσ : 0 ≤ (σ.1 a 15).toInt ∧ (σ.1 a 15).toInt ≤ (σ.1 a 16).toInt ∧ (σ.1 a 16).toInt ≤ (σ.1 a 9).toInt ∧ (σ.1 a 9).toInt ≤ 900 ∧ 0 ≤ (σ.1 a 14).toInt ∧ (σ.1 a 14).toInt ≤ 4 ∧ (σ.1 a 14).toInt ≤ 4 * ((σ.1 a 16).toInt - (σ.1 a 15).toInt) ∧ (σ.1 a 14).toInt ≤ 4 * ((σ.1 a 9).toInt - (σ.1 a 15).toInt) ∧ 0 ≤ (σ.1 a 12).toInt ∧ (σ.1 a 9).toInt = (σ.1 a 9).toInt ∧ (σ.1 a 15).toInt ≤ (σ.1 a 15).toInt ∧ (σ.1 a 12).toInt ≤ (σ.1 a 12).toInt := (by omega)
  have fr_σ : q_ow [(12, 12), (12, 13), (12, 14), (12, 15), (12, 16), (12, 17), (12, 18), (34, 99), (36, 99)] [(12, 19)] X σ σ := q_ow.rf
  have n0 := hN.1
  have n1 := hN.2.1
  obtain ⟨out, hout⟩ : ∃ o, o = F_X12_readHand X σ a := ⟨_, rfl⟩
  have hF := hout.symm
  unfold F_X12_readHand at hF
  refine lv_aload_n hx hb dX12_readHand_0 rfl (lv_at hl 0 rfl) ?_
  refine q_cv (q_rV11_0 (rest := []) E (hml.trans hl.1.symm) hI (c_X12_next l X σ a ha (by first | (clear hz hk h4 k3σ k4σ smσ; omega) | omega) (by first | (clear hz hk h4 k3σ k4σ smσ; omega) | omega) (by first | (clear hz hk h4 k3σ k4σ smσ; omega) | omega)) kv_X12_197 ha ⟨Nat.le_of_ble_eq_true rfl, Nat.le_of_ble_eq_true rfl⟩ (Nat.le_of_ble_eq_true rfl) dX12_readHand_1) hI (Nat.le_of_ble_eq_true rfl) (fun σ_2 H locs hpσ_2 hkσ_2 hI => ?_)
  have ahpσ_2 := hpσ_2.1
  have bhpσ_2 := hpσ_2.2.1
  have chpσ_2 := hpσ_2.2.2.1
  have dhpσ_2 := hpσ_2.2.2.2.1
  have ehpσ_2 := hpσ_2.2.2.2.2
  clear hpσ_2
  have fr_σ_2 := fr_σ.call ehpσ_2 rfl rfl
  replace hF := q_letX hF dhpσ_2
  have mcσ_2 := m_cK hkσ_2 hI.1 ha (by decide)
  have nnσ_2 : m_N (m_c X σ_2 a) := m_N.ext mcσ_2 nnσ
  have kpσ_2 : ∀ j, 0 ≤ j → j < 3720 → m_c X σ_2 a j = m_c X σ a j := fun j h0 h1 => (mcσ_2 j).trans (kpσ j h0 h1)
  have k3σ_2 : m_c X σ_2 a 3720 = m_c X σ a 3720 ∧ m_c X σ_2 a 3721 = m_c X σ a 3721 := ⟨(mcσ_2 3720).trans k3σ.1, (mcσ_2 3721).trans k3σ.2⟩
  have k4σ_2 : 1 ≤ m_c X σ_2 a 3724 + 10 * (σ_2.1 a 12).toInt := (by have := mcσ_2 3724; omega)
  have smσ_2 : 0 ≤ (σ_2.1 a 15).toInt ∧ (σ_2.1 a 15).toInt ≤ (σ_2.1 a 16).toInt ∧ (σ_2.1 a 16).toInt ≤ (σ_2.1 a 9).toInt ∧ (σ_2.1 a 9).toInt ≤ 900 ∧ 0 ≤ (σ_2.1 a 14).toInt ∧ (σ_2.1 a 14).toInt ≤ 4 ∧ (σ_2.1 a 14).toInt ≤ 4 * ((σ_2.1 a 16).toInt - (σ_2.1 a 15).toInt) ∧ (σ_2.1 a 14).toInt ≤ 4 * ((σ_2.1 a 9).toInt - (σ_2.1 a 15).toInt) ∧ 0 ≤ (σ_2.1 a 12).toInt ∧ (σ_2.1 a 9).toInt = (σ.1 a 9).toInt ∧ (σ.1 a 15).toInt ≤ (σ_2.1 a 15).toInt ∧ (σ.1 a 12).toInt ≤ (σ_2.1 a 12).toInt := (by first | exact sm_nx smσ bhpσ_2 chpσ_2 | omega)
  have onσ_2 : (σ.1 a 16).toInt ≤ (σ_2.1 a 15).toInt := (by first | (clear hs hz hk h4 k3σ k4σ smσ ahpσ_2 bhpσ_2 dhpσ_2 ehpσ_2 k3σ_2 k4σ_2 smσ_2; omega) | omega)
  clear k4σ smσ bhpσ_2 chpσ_2
  refine lv_aload_n hx hb dX12_readHand_4 rfl (lv_at hl 0 rfl) ?_
  refine lv_iconst (v := 4) hx hb dX12_readHand_5 zki_4 ?_
  have kc_3 : (4 : Int32).toInt = 4 := zt_4
  refine q_ci (q_rV11_1 (rest := []) E (hml.trans hl.1.symm) hI (c_X12_readTold l X σ_2 a (4 : Int32) ha (by first | exact sm_9 smσ_2 | exact hs | omega) (Or.inr rfl) (by show m_c X σ_2 a 3722 ≤ 6; have := nnσ_2.2.2.1; omega)) kv_X12_226 ha ⟨Nat.le_of_ble_eq_true rfl, Nat.le_of_ble_eq_true rfl⟩ (Nat.le_of_ble_eq_true rfl) dX12_readHand_6) hI (Nat.le_of_ble_eq_true rfl) (fun r_4 σ_5 H locs hpσ_5 hkσ_5 hI => ?_)
  have ahpσ_5 := hpσ_5.1
  have bhpσ_5 := hpσ_5.2.1
  have chpσ_5 := hpσ_5.2.2.1
  have dhpσ_5 := hpσ_5.2.2.2.1
  have ehpσ_5 := hpσ_5.2.2.2.2
  clear hpσ_5
  have fr_σ_5 := fr_σ_2.call ehpσ_5 rfl rfl
  replace hF := q_biX hF dhpσ_5
  have mcσ_5 := m_cK hkσ_5 hI.1 ha (by decide)
  have nnσ_5 : m_N (m_c X σ_5 a) := m_N.ext mcσ_5 nnσ_2
  have kpσ_5 : ∀ j, 0 ≤ j → j < 3720 → m_c X σ_5 a j = m_c X σ a j := fun j h0 h1 => (mcσ_5 j).trans (kpσ_2 j h0 h1)
  have k3σ_5 : m_c X σ_5 a 3720 = m_c X σ a 3720 ∧ m_c X σ_5 a 3721 = m_c X σ a 3721 := ⟨(mcσ_5 3720).trans k3σ_2.1, (mcσ_5 3721).trans k3σ_2.2⟩
  have k4σ_5 : 1 ≤ m_c X σ_5 a 3724 + 10 * (σ_5.1 a 12).toInt := (by have := mcσ_5 3724; omega)
  have smσ_5 : 0 ≤ (σ_5.1 a 15).toInt ∧ (σ_5.1 a 15).toInt ≤ (σ_5.1 a 16).toInt ∧ (σ_5.1 a 16).toInt ≤ (σ_5.1 a 9).toInt ∧ (σ_5.1 a 9).toInt ≤ 900 ∧ 0 ≤ (σ_5.1 a 14).toInt ∧ (σ_5.1 a 14).toInt ≤ 4 ∧ (σ_5.1 a 14).toInt ≤ 4 * ((σ_5.1 a 16).toInt - (σ_5.1 a 15).toInt) ∧ (σ_5.1 a 14).toInt ≤ 4 * ((σ_5.1 a 9).toInt - (σ_5.1 a 15).toInt) ∧ 0 ≤ (σ_5.1 a 12).toInt ∧ (σ_5.1 a 9).toInt = (σ.1 a 9).toInt ∧ (σ.1 a 15).toInt ≤ (σ_5.1 a 15).toInt ∧ (σ.1 a 12).toInt ≤ (σ_5.1 a 12).toInt := (by first | exact sm_tr smσ_2 bhpσ_5 | exact sm_tr smσ_2 chpσ_5 | omega)
  have onσ_5 : (σ.1 a 16).toInt ≤ (σ_5.1 a 15).toInt := (by first | (clear hs hz hk h4 k3σ ahpσ_2 dhpσ_2 ehpσ_2 k3σ_2 k4σ_2 smσ_2 kc_3 ahpσ_5 chpσ_5 dhpσ_5 ehpσ_5 k3σ_5 k4σ_5 smσ_5; omega) | omega)
  clear k4σ_2 smσ_2 onσ_2 bhpσ_5
  refine lv_istore_n (lv' := [(1, .int r_4), (0, .ref a)]) hx hb dX12_readHand_9 rfl hl (by decide) rfl (fun ls hl => ?_)
  refine lv_aload_n hx hb dX12_readHand_10 rfl (lv_at hl 1 rfl) ?_
  refine lv_iconst (v := 0) hx hb dX12_readHand_11 zki_0 ?_
  refine lv_bipush (v := 8) hx hb dX12_readHand_12 zkb_8 ?_
  have kc_6 : (0 : Int32).toInt = 0 := zt_0
  have kc_7 : (8 : Int32).toInt = 8 := zt_8
  refine q_ci (q_rV11_2 (rest := []) E (hml.trans hl.1.symm) hI (c_X12_count l X σ_5 a (0 : Int32) (8 : Int32) ha (by first | exact sm_9 smσ_5 | exact hs | omega) (by first | (clear hs hz hk h4 k3σ ahpσ_2 dhpσ_2 ehpσ_2 k3σ_2 kc_3 ahpσ_5 chpσ_5 dhpσ_5 ehpσ_5 k3σ_5 k4σ_5 smσ_5 onσ_5; omega) | omega)) kv_X12_223 ha ⟨Nat.le_of_ble_eq_true rfl, Nat.le_of_ble_eq_true rfl⟩ (Nat.le_of_ble_eq_true rfl) dX12_readHand_14) hI (Nat.le_of_ble_eq_true rfl) (fun r_8 σ_9 H locs hpσ_9 hkσ_9 hI => ?_)
  have ahpσ_9 := hpσ_9.1
  have bhpσ_9 := hpσ_9.2.1
  have chpσ_9 := hpσ_9.2.2.1
  have dhpσ_9 := hpσ_9.2.2.2.1
  have ehpσ_9 := hpσ_9.2.2.2.2
  clear hpσ_9
  have fr_σ_9 := fr_σ_5.call ehpσ_9 rfl rfl
  replace hF := q_biX hF dhpσ_9
  have mcσ_9 := m_cK hkσ_9 hI.1 ha (by decide)
  have nnσ_9 : m_N (m_c X σ_9 a) := m_N.ext mcσ_9 nnσ_5
  have kpσ_9 : ∀ j, 0 ≤ j → j < 3720 → m_c X σ_9 a j = m_c X σ a j := fun j h0 h1 => (mcσ_9 j).trans (kpσ_5 j h0 h1)
  have k3σ_9 : m_c X σ_9 a 3720 = m_c X σ a 3720 ∧ m_c X σ_9 a 3721 = m_c X σ a 3721 := ⟨(mcσ_9 3720).trans k3σ_5.1, (mcσ_9 3721).trans k3σ_5.2⟩
  have k4σ_9 : 1 ≤ m_c X σ_9 a 3724 + 10 * (σ_9.1 a 12).toInt := (by have := mcσ_9 3724; omega)
  have smσ_9 : 0 ≤ (σ_9.1 a 15).toInt ∧ (σ_9.1 a 15).toInt ≤ (σ_9.1 a 16).toInt ∧ (σ_9.1 a 16).toInt ≤ (σ_9.1 a 9).toInt ∧ (σ_9.1 a 9).toInt ≤ 900 ∧ 0 ≤ (σ_9.1 a 14).toInt ∧ (σ_9.1 a 14).toInt ≤ 4 ∧ (σ_9.1 a 14).toInt ≤ 4 * ((σ_9.1 a 16).toInt - (σ_9.1 a 15).toInt) ∧ (σ_9.1 a 14).toInt ≤ 4 * ((σ_9.1 a 9).toInt - (σ_9.1 a 15).toInt) ∧ 0 ≤ (σ_9.1 a 12).toInt ∧ (σ_9.1 a 9).toInt = (σ.1 a 9).toInt ∧ (σ.1 a 15).toInt ≤ (σ_9.1 a 15).toInt ∧ (σ.1 a 12).toInt ≤ (σ_9.1 a 12).toInt := (by first | exact sm_tr smσ_5 bhpσ_9 | exact sm_tr smσ_5 chpσ_9 | omega)
  have onσ_9 : (σ.1 a 16).toInt ≤ (σ_9.1 a 15).toInt := (by first | (clear hs hz hk h4 k3σ ahpσ_2 dhpσ_2 ehpσ_2 k3σ_2 kc_3 ahpσ_5 chpσ_5 dhpσ_5 ehpσ_5 k3σ_5 k4σ_5 smσ_5 kc_6 kc_7 ahpσ_9 chpσ_9 dhpσ_9 ehpσ_9 k3σ_9 k4σ_9 smσ_9; omega) | omega)
  clear k4σ_5 smσ_5 onσ_5 bhpσ_9
  refine lv_istore_n (lv' := [(2, .int r_8), (1, .int r_4), (0, .ref a)]) hx hb dX12_readHand_17 rfl hl (by decide) rfl (fun ls hl => ?_)
  refine lv_aload_n hx hb dX12_readHand_18 rfl (lv_at hl 2 rfl) ?_
  refine lv_aload_n hx hb dX12_readHand_19 rfl (lv_at hl 2 rfl) ?_
  refine q_ci (q_rV11_0 (rest := [.ref a]) E (hml.trans hl.1.symm) hI (c_X12_isOf l X σ_9 a ha) kv_X12_168 ha ⟨Nat.le_of_ble_eq_true rfl, Nat.le_of_ble_eq_true rfl⟩ (Nat.le_of_ble_eq_true rfl) dX12_readHand_20) hI (Nat.le_of_ble_eq_true rfl) (fun r_10 σ_11 H locs hpσ_11 hkσ_11 hI => ?_)
  have ahpσ_11 := hpσ_11.1
  have bhpσ_11 := hpσ_11.2.1
  have chpσ_11 := hpσ_11.2.2
  clear hpσ_11
  replace hI := q_Irw ahpσ_11 hI
  replace hF := q_letX hF chpσ_11
  refine q_cv (q_rV11_1 (rest := []) E (hml.trans hl.1.symm) hI (c_X12_must l X σ_9 a r_10 ha (by first | exact sm_9 smσ_9 | exact hs | omega) (by first | (clear hs hz hk h4 k3σ ahpσ_2 dhpσ_2 ehpσ_2 k3σ_2 kc_3 ahpσ_5 chpσ_5 dhpσ_5 ehpσ_5 k3σ_5 kc_6 kc_7 ahpσ_9 chpσ_9 dhpσ_9 ehpσ_9 k3σ_9 k4σ_9 smσ_9 onσ_9 ahpσ_11 chpσ_11; omega) | omega)) kv_X12_216 ha ⟨Nat.le_of_ble_eq_true rfl, Nat.le_of_ble_eq_true rfl⟩ (Nat.le_of_ble_eq_true rfl) dX12_readHand_23) hI (Nat.le_of_ble_eq_true rfl) (fun σ_13 H locs hpσ_13 hkσ_13 hI => ?_)
  have ahpσ_13 := hpσ_13.1
  have bhpσ_13 := hpσ_13.2.1
  have chpσ_13 := hpσ_13.2.2.1
  have dhpσ_13 := hpσ_13.2.2.2.1
  have ehpσ_13 := hpσ_13.2.2.2.2
  clear hpσ_13
  have fr_σ_13 := fr_σ_9.call ehpσ_13 rfl rfl
  replace hF := q_letX hF dhpσ_13
  have mcσ_13 := m_cK hkσ_13 hI.1 ha (by decide)
  have nnσ_13 : m_N (m_c X σ_13 a) := m_N.ext mcσ_13 nnσ_9
  have kpσ_13 : ∀ j, 0 ≤ j → j < 3720 → m_c X σ_13 a j = m_c X σ a j := fun j h0 h1 => (mcσ_13 j).trans (kpσ_9 j h0 h1)
  have k3σ_13 : m_c X σ_13 a 3720 = m_c X σ a 3720 ∧ m_c X σ_13 a 3721 = m_c X σ a 3721 := ⟨(mcσ_13 3720).trans k3σ_9.1, (mcσ_13 3721).trans k3σ_9.2⟩
  have k4σ_13 : 1 ≤ m_c X σ_13 a 3724 + 10 * (σ_13.1 a 12).toInt := (by have := mcσ_13 3724; omega)
  have smσ_13 : 0 ≤ (σ_13.1 a 15).toInt ∧ (σ_13.1 a 15).toInt ≤ (σ_13.1 a 16).toInt ∧ (σ_13.1 a 16).toInt ≤ (σ_13.1 a 9).toInt ∧ (σ_13.1 a 9).toInt ≤ 900 ∧ 0 ≤ (σ_13.1 a 14).toInt ∧ (σ_13.1 a 14).toInt ≤ 4 ∧ (σ_13.1 a 14).toInt ≤ 4 * ((σ_13.1 a 16).toInt - (σ_13.1 a 15).toInt) ∧ (σ_13.1 a 14).toInt ≤ 4 * ((σ_13.1 a 9).toInt - (σ_13.1 a 15).toInt) ∧ 0 ≤ (σ_13.1 a 12).toInt ∧ (σ_13.1 a 9).toInt = (σ.1 a 9).toInt ∧ (σ.1 a 15).toInt ≤ (σ_13.1 a 15).toInt ∧ (σ.1 a 12).toInt ≤ (σ_13.1 a 12).toInt := (by first | exact sm_tr smσ_9 bhpσ_13 | exact sm_tr smσ_9 chpσ_13 | omega)
  have onσ_13 : (σ.1 a 16).toInt ≤ (σ_13.1 a 15).toInt := (by first | (clear hs hz hk h4 k3σ ahpσ_2 dhpσ_2 ehpσ_2 k3σ_2 kc_3 ahpσ_5 chpσ_5 dhpσ_5 ehpσ_5 k3σ_5 kc_6 kc_7 ahpσ_9 chpσ_9 dhpσ_9 ehpσ_9 k3σ_9 k4σ_9 smσ_9 ahpσ_11 bhpσ_11 chpσ_11 ahpσ_13 chpσ_13 dhpσ_13 ehpσ_13 k3σ_13 k4σ_13 smσ_13; omega) | omega)
  clear k4σ_9 smσ_9 onσ_9 bhpσ_13
  refine lv_aload_n hx hb dX12_readHand_26 rfl (lv_at hl 2 rfl) ?_
  refine gs_X12_104_12 E hI ha dX12_readHand_27 ?_
  refine lv_topi (fun f_14 ef_14 => ?_)
  replace hF := q_letX hF ef_14
  have if_14 : f_14.toInt = (σ_13.1 a 15).toInt := congrArg Int32.toInt ef_14
  refine lv_istore_n (lv' := [(3, .int f_14), (2, .int r_8), (1, .int r_4), (0, .ref a)]) hx hb dX12_readHand_30 rfl hl (by decide) rfl (fun ls hl => ?_)
  refine lv_aload_n hx hb dX12_readHand_31 rfl (lv_at hl 3 rfl) ?_
  refine lv_iconst (v := 0) hx hb dX12_readHand_32 zki_0 ?_
  refine lv_aload_n hx hb dX12_readHand_33 rfl (lv_at hl 3 rfl) ?_
  refine gs_X12_35_12 E hI ha dX12_readHand_34 ?_
  refine lv_sipush (v := 3720) hx hb dX12_readHand_37 zks_3720 ?_
  refine q_iald E hI (q_tk (k' := 34) hI ha rfl (Nat.succ_ne_zero _)) ⟨by decide, rfl⟩ (by decide) (by rw [q_lnk (v := 4650) hI (q_tk (k' := 34) hI ha rfl (Nat.succ_ne_zero _)) rfl (by decide)]; decide) dX12_readHand_40 ?_
  refine lv_topi (fun f_15 ef_15 => ?_)
  replace hF := q_letX hF ef_15
  have if_15 : f_15.toInt = m_c X σ_13 a 3720 := m_rd ef_15 (by decide)
  refine lv_iconst (v := 1) hx hb dX12_readHand_41 zki_1 ?_
  refine lv_isub hx hb dX12_readHand_42 ?_
  refine lv_topi (fun z_16 ez_16 => ?_)
  replace hF := q_letX hF ez_16
  have iz_16 := q_subI (A := (m_c X σ_13 a 3720)) (B := 1) ez_16 if_15 (by decide) (by first | (clear hs hz h4 k3σ ahpσ_2 dhpσ_2 ehpσ_2 kc_3 ahpσ_5 chpσ_5 dhpσ_5 ehpσ_5 kc_6 kc_7 ahpσ_9 chpσ_9 dhpσ_9 ehpσ_9 ahpσ_11 bhpσ_11 chpσ_11 ahpσ_13 chpσ_13 dhpσ_13 ehpσ_13 k4σ_13 smσ_13 onσ_13 if_14; omega) | omega) (by first | (clear hs hz h4 k3σ ahpσ_2 dhpσ_2 ehpσ_2 kc_3 ahpσ_5 chpσ_5 dhpσ_5 ehpσ_5 kc_6 kc_7 ahpσ_9 chpσ_9 dhpσ_9 ehpσ_9 ahpσ_11 bhpσ_11 chpσ_11 ahpσ_13 chpσ_13 dhpσ_13 ehpσ_13 k4σ_13 smσ_13 onσ_13 if_14; omega) | omega)
  have kc_17 : (0 : Int32).toInt = 0 := zt_0
  refine q_ci (q_rV11_2 (rest := []) E (hml.trans hl.1.symm) hI (c_X12_count l X σ_13 a (0 : Int32) z_16 ha (by first | exact sm_9 smσ_13 | exact hs | omega) (by first | (clear hs hz h4 k3σ ahpσ_2 dhpσ_2 ehpσ_2 kc_3 ahpσ_5 chpσ_5 dhpσ_5 ehpσ_5 kc_7 ahpσ_9 chpσ_9 dhpσ_9 ehpσ_9 ahpσ_11 bhpσ_11 chpσ_11 ahpσ_13 chpσ_13 dhpσ_13 ehpσ_13 k4σ_13 smσ_13 onσ_13 if_14 kc_17; omega) | omega)) kv_X12_223 ha ⟨Nat.le_of_ble_eq_true rfl, Nat.le_of_ble_eq_true rfl⟩ (Nat.le_of_ble_eq_true rfl) dX12_readHand_43) hI (Nat.le_of_ble_eq_true rfl) (fun r_18 σ_19 H locs hpσ_19 hkσ_19 hI => ?_)
  have ahpσ_19 := hpσ_19.1
  have bhpσ_19 := hpσ_19.2.1
  have chpσ_19 := hpσ_19.2.2.1
  have dhpσ_19 := hpσ_19.2.2.2.1
  have ehpσ_19 := hpσ_19.2.2.2.2
  clear hpσ_19
  have fr_σ_19 := fr_σ_13.call ehpσ_19 rfl rfl
  replace hF := q_biX hF dhpσ_19
  have mcσ_19 := m_cK hkσ_19 hI.1 ha (by decide)
  have nnσ_19 : m_N (m_c X σ_19 a) := m_N.ext mcσ_19 nnσ_13
  have kpσ_19 : ∀ j, 0 ≤ j → j < 3720 → m_c X σ_19 a j = m_c X σ a j := fun j h0 h1 => (mcσ_19 j).trans (kpσ_13 j h0 h1)
  have k3σ_19 : m_c X σ_19 a 3720 = m_c X σ a 3720 ∧ m_c X σ_19 a 3721 = m_c X σ a 3721 := ⟨(mcσ_19 3720).trans k3σ_13.1, (mcσ_19 3721).trans k3σ_13.2⟩
  have k4σ_19 : 1 ≤ m_c X σ_19 a 3724 + 10 * (σ_19.1 a 12).toInt := (by have := mcσ_19 3724; omega)
  have smσ_19 : 0 ≤ (σ_19.1 a 15).toInt ∧ (σ_19.1 a 15).toInt ≤ (σ_19.1 a 16).toInt ∧ (σ_19.1 a 16).toInt ≤ (σ_19.1 a 9).toInt ∧ (σ_19.1 a 9).toInt ≤ 900 ∧ 0 ≤ (σ_19.1 a 14).toInt ∧ (σ_19.1 a 14).toInt ≤ 4 ∧ (σ_19.1 a 14).toInt ≤ 4 * ((σ_19.1 a 16).toInt - (σ_19.1 a 15).toInt) ∧ (σ_19.1 a 14).toInt ≤ 4 * ((σ_19.1 a 9).toInt - (σ_19.1 a 15).toInt) ∧ 0 ≤ (σ_19.1 a 12).toInt ∧ (σ_19.1 a 9).toInt = (σ.1 a 9).toInt ∧ (σ.1 a 15).toInt ≤ (σ_19.1 a 15).toInt ∧ (σ.1 a 12).toInt ≤ (σ_19.1 a 12).toInt := (by first | exact sm_tr smσ_13 bhpσ_19 | exact sm_tr smσ_13 chpσ_19 | omega)
  have onσ_19 : (σ.1 a 16).toInt ≤ (σ_19.1 a 15).toInt := (by first | (clear hs hz hk h4 k3σ ahpσ_2 dhpσ_2 ehpσ_2 k3σ_2 kc_3 ahpσ_5 chpσ_5 dhpσ_5 ehpσ_5 k3σ_5 kc_6 kc_7 ahpσ_9 chpσ_9 dhpσ_9 ehpσ_9 k3σ_9 ahpσ_11 bhpσ_11 chpσ_11 ahpσ_13 chpσ_13 dhpσ_13 ehpσ_13 k3σ_13 k4σ_13 smσ_13 if_15 iz_16 kc_17 ahpσ_19 chpσ_19 dhpσ_19 ehpσ_19 k3σ_19 k4σ_19 smσ_19; omega) | omega)
  clear k4σ_13 smσ_13 onσ_13 bhpσ_19
  refine lv_istore (lv' := [(4, .int r_18), (3, .int f_14), (2, .int r_8), (1, .int r_4), (0, .ref a)]) hx hb dX12_readHand_46 hl (by decide) rfl (fun ls hl => ?_)
  refine lv_bipush (v := 10) hx hb dX12_readHand_48 zkb_10 ?_
  refine lv_iload_n hx hb dX12_readHand_50 rfl (lv_at hl 3 rfl) ?_
  refine lv_imul hx hb dX12_readHand_51 ?_
  refine lv_topi (fun z_20 ez_20 => ?_)
  replace hF := q_letX hF ez_20
  have iz_20 := q_mulI (A := 10) (B := r_4.toInt) ez_20 (by decide) rfl (by first | (clear hs hz hk h4 k3σ ahpσ_2 dhpσ_2 ehpσ_2 k3σ_2 kc_3 ahpσ_5 dhpσ_5 ehpσ_5 k3σ_5 kc_6 kc_7 ahpσ_9 chpσ_9 dhpσ_9 ehpσ_9 k3σ_9 ahpσ_11 bhpσ_11 chpσ_11 ahpσ_13 chpσ_13 dhpσ_13 ehpσ_13 k3σ_13 if_14 if_15 iz_16 kc_17 ahpσ_19 chpσ_19 dhpσ_19 ehpσ_19 k3σ_19 k4σ_19 smσ_19 onσ_19; omega) | omega) (by first | (clear hs hz hk h4 k3σ ahpσ_2 dhpσ_2 ehpσ_2 k3σ_2 kc_3 ahpσ_5 dhpσ_5 ehpσ_5 k3σ_5 kc_6 kc_7 ahpσ_9 chpσ_9 dhpσ_9 ehpσ_9 k3σ_9 ahpσ_11 bhpσ_11 chpσ_11 ahpσ_13 chpσ_13 dhpσ_13 ehpσ_13 k3σ_13 if_14 if_15 iz_16 kc_17 ahpσ_19 chpσ_19 dhpσ_19 ehpσ_19 k3σ_19 k4σ_19 smσ_19 onσ_19; omega) | omega)
  refine lv_iload hx hb dX12_readHand_52 (lv_at hl 0 rfl) ?_
  refine lv_iadd hx hb dX12_readHand_54 ?_
  refine lv_topi (fun z_21 ez_21 => ?_)
  replace hF := q_letX hF ez_21
  have iz_21 := q_addI (A := (10 * r_4.toInt)) (B := r_18.toInt) ez_21 iz_20 rfl (by first | (clear hs hz hk h4 k3σ ahpσ_2 dhpσ_2 ehpσ_2 k3σ_2 kc_3 ahpσ_5 dhpσ_5 ehpσ_5 k3σ_5 kc_6 kc_7 ahpσ_9 chpσ_9 dhpσ_9 ehpσ_9 k3σ_9 ahpσ_11 bhpσ_11 chpσ_11 ahpσ_13 chpσ_13 dhpσ_13 ehpσ_13 k3σ_13 if_14 if_15 iz_16 kc_17 ahpσ_19 dhpσ_19 ehpσ_19 k3σ_19 k4σ_19 smσ_19 onσ_19 iz_20; omega) | omega) (by first | (clear hs hz h4 k3σ ahpσ_2 dhpσ_2 ehpσ_2 kc_3 ahpσ_5 dhpσ_5 ehpσ_5 kc_6 kc_7 ahpσ_9 chpσ_9 dhpσ_9 ehpσ_9 ahpσ_11 bhpσ_11 chpσ_11 ahpσ_13 chpσ_13 dhpσ_13 ehpσ_13 if_14 kc_17 ahpσ_19 dhpσ_19 ehpσ_19 k4σ_19 smσ_19 onσ_19 iz_20; omega) | omega)
  refine lv_istore (lv' := [(5, .int z_21), (4, .int r_18), (3, .int f_14), (2, .int r_8), (1, .int r_4), (0, .ref a)]) hx hb dX12_readHand_55 hl (by decide) rfl (fun ls hl => ?_)
  refine lv_aload_n hx hb dX12_readHand_57 rfl (lv_at hl 5 rfl) ?_
  refine gs_X12_187_12 E hI ha dX12_readHand_58 ?_
  refine lv_topi (fun f_22 ef_22 => ?_)
  replace hF := q_letX hF ef_22
  have if_22 : f_22.toInt = (σ_19.1 a 12).toInt := congrArg Int32.toInt ef_22
  refine q_if_ne (A := f_22.toInt) E rfl (tgt := 100) dX12_readHand_61 (by decide) (fun c_23 => ?_) (fun c_23 => ?_)
  · skip
    replace hF := q_ifn hF c_23
    refine lv_aload_n hx hb dX12_readHand_100 rfl (lv_at hl 5 rfl) ?_
    refine gs_X12_187_12 E hI ha dX12_readHand_101 ?_
    refine lv_topi (fun f_24 ef_24 => ?_)
    replace hF := q_letX hF ef_24
    have if_24 : f_24.toInt = (σ_19.1 a 12).toInt := congrArg Int32.toInt ef_24
    refine q_if_le (A := f_24.toInt) E rfl (tgt := 108) dX12_readHand_104 (by decide) (fun c_25 => ?_) (fun c_25 => ?_)
    · skip
      replace hF := q_ifn hF (Int.not_lt.mpr c_25)
      refine lv_aload_n hx hb dX12_readHand_108 rfl (lv_at hl 5 rfl) ?_
      refine gs_X12_41_12 E hI ha dX12_readHand_109 ?_
      refine lv_iload hx hb dX12_readHand_112 (lv_at hl 0 rfl) ?_
      refine lv_iconst (v := 1) hx hb dX12_readHand_114 zki_1 ?_
      refine q_iastN E hI (q_tk (k' := 36) hI ha rfl (Nat.succ_ne_zero _)) ⟨by decide, rfl⟩ (by first | (clear hs hz h4 k3σ ahpσ_2 dhpσ_2 ehpσ_2 kc_3 ahpσ_5 dhpσ_5 ehpσ_5 kc_6 kc_7 ahpσ_9 chpσ_9 dhpσ_9 ehpσ_9 ahpσ_11 bhpσ_11 chpσ_11 ahpσ_13 chpσ_13 dhpσ_13 ehpσ_13 if_14 kc_17 ahpσ_19 dhpσ_19 ehpσ_19 k4σ_19 smσ_19 onσ_19 iz_20 if_22 c_23 if_24 c_25; omega) | omega) (by rw [q_lnk (v := 60) hI (q_tk (k' := 36) hI ha rfl (Nat.succ_ne_zero _)) rfl (by decide)]; omega) (show 1 < 9 by decide) (q_inU rfl) dX12_readHand_115 (fun H locs σ_26 hσ_26 hI => ?_)
      replace hF := q_letX hF hσ_26
      have fr_σ_26 := fr_σ_19.si hσ_26 (q_tk (k' := 36) hI ha rfl (Nat.succ_ne_zero _)) rfl
      have mv9_σ_26 : (σ_26.1 a 9).toInt = (σ_19.1 a 9).toInt := congrArg Int32.toInt ((hσ_26 ▸ (q_K.si (q_tk (k' := 36) hI ha rfl (Nat.succ_ne_zero _)) (show 8 < 9 by decide) : q_K 8 X σ_19 (q_si σ_19 (q_rf X a 22) (z_21 : Int32).toNatClampNeg _))) a 9 (by rw [ha]; decide))
      have mv12_σ_26 : (σ_26.1 a 12).toInt = (σ_19.1 a 12).toInt := congrArg Int32.toInt ((hσ_26 ▸ (q_K.si (q_tk (k' := 36) hI ha rfl (Nat.succ_ne_zero _)) (show 8 < 9 by decide) : q_K 8 X σ_19 (q_si σ_19 (q_rf X a 22) (z_21 : Int32).toNatClampNeg _))) a 12 (by rw [ha]; decide))
      have mv14_σ_26 : (σ_26.1 a 14).toInt = (σ_19.1 a 14).toInt := congrArg Int32.toInt ((hσ_26 ▸ (q_K.si (q_tk (k' := 36) hI ha rfl (Nat.succ_ne_zero _)) (show 8 < 9 by decide) : q_K 8 X σ_19 (q_si σ_19 (q_rf X a 22) (z_21 : Int32).toNatClampNeg _))) a 14 (by rw [ha]; decide))
      have mv15_σ_26 : (σ_26.1 a 15).toInt = (σ_19.1 a 15).toInt := congrArg Int32.toInt ((hσ_26 ▸ (q_K.si (q_tk (k' := 36) hI ha rfl (Nat.succ_ne_zero _)) (show 8 < 9 by decide) : q_K 8 X σ_19 (q_si σ_19 (q_rf X a 22) (z_21 : Int32).toNatClampNeg _))) a 15 (by rw [ha]; decide))
      have mv16_σ_26 : (σ_26.1 a 16).toInt = (σ_19.1 a 16).toInt := congrArg Int32.toInt ((hσ_26 ▸ (q_K.si (q_tk (k' := 36) hI ha rfl (Nat.succ_ne_zero _)) (show 8 < 9 by decide) : q_K 8 X σ_19 (q_si σ_19 (q_rf X a 22) (z_21 : Int32).toNatClampNeg _))) a 16 (by rw [ha]; decide))
      have mcσ_26 := m_wo hσ_26 (m_ne (q_tk (k' := 36) hI ha rfl (Nat.succ_ne_zero _)) (q_tk (f := 20) (k' := 34) hI ha rfl (by decide)) (by decide))
      have nnσ_26 : m_N (m_c X σ_26 a) := m_N.ext mcσ_26 nnσ_19
      have kpσ_26 : ∀ j, 0 ≤ j → j < 3720 → m_c X σ_26 a j = m_c X σ a j := fun j h0 h1 => (mcσ_26 j).trans (kpσ_19 j h0 h1)
      have k3σ_26 : m_c X σ_26 a 3720 = m_c X σ a 3720 ∧ m_c X σ_26 a 3721 = m_c X σ a 3721 := ⟨(mcσ_26 3720).trans k3σ_19.1, (mcσ_26 3721).trans k3σ_19.2⟩
      have k4σ_26 : 1 ≤ m_c X σ_26 a 3724 + 10 * (σ_26.1 a 12).toInt := (by have := mcσ_26 3724; omega)
      have smσ_26 : 0 ≤ (σ_26.1 a 15).toInt ∧ (σ_26.1 a 15).toInt ≤ (σ_26.1 a 16).toInt ∧ (σ_26.1 a 16).toInt ≤ (σ_26.1 a 9).toInt ∧ (σ_26.1 a 9).toInt ≤ 900 ∧ 0 ≤ (σ_26.1 a 14).toInt ∧ (σ_26.1 a 14).toInt ≤ 4 ∧ (σ_26.1 a 14).toInt ≤ 4 * ((σ_26.1 a 16).toInt - (σ_26.1 a 15).toInt) ∧ (σ_26.1 a 14).toInt ≤ 4 * ((σ_26.1 a 9).toInt - (σ_26.1 a 15).toInt) ∧ 0 ≤ (σ_26.1 a 12).toInt ∧ (σ_26.1 a 9).toInt = (σ.1 a 9).toInt ∧ (σ.1 a 15).toInt ≤ (σ_26.1 a 15).toInt ∧ (σ.1 a 12).toInt ≤ (σ_26.1 a 12).toInt := (by first | (rw [mv12_σ_26, mv14_σ_26, mv15_σ_26, mv16_σ_26, mv9_σ_26]; exact smσ_19) | omega)
      have onσ_26 : (σ.1 a 16).toInt ≤ (σ_26.1 a 15).toInt := (by first | (clear hs hz hk h4 k3σ ahpσ_2 dhpσ_2 ehpσ_2 k3σ_2 kc_3 ahpσ_5 chpσ_5 dhpσ_5 ehpσ_5 k3σ_5 kc_6 kc_7 ahpσ_9 chpσ_9 dhpσ_9 ehpσ_9 k3σ_9 ahpσ_11 bhpσ_11 chpσ_11 ahpσ_13 chpσ_13 dhpσ_13 ehpσ_13 k3σ_13 if_14 if_15 iz_16 kc_17 ahpσ_19 chpσ_19 dhpσ_19 ehpσ_19 k3σ_19 k4σ_19 smσ_19 iz_20 iz_21 if_22 c_23 if_24 c_25 mv9_σ_26 mv12_σ_26 mv14_σ_26 mv16_σ_26 k3σ_26 k4σ_26 smσ_26; omega) | omega)
      clear mv9_σ_26 mv12_σ_26 mv14_σ_26 mv15_σ_26 mv16_σ_26 k4σ_19 smσ_19 onσ_19
      refine lv_aload_n hx hb dX12_readHand_116 rfl (lv_at hl 5 rfl) ?_
      refine gs_X12_35_12 E hI ha dX12_readHand_117 ?_
      refine lv_sipush (v := 3754) hx hb dX12_readHand_120 zks_3754 ?_
      refine lv_iload hx hb dX12_readHand_123 (lv_at hl 0 rfl) ?_
      refine lv_iadd hx hb dX12_readHand_125 ?_
      refine lv_topi (fun z_27 ez_27 => ?_)
      replace hF := q_letX hF ez_27
      have iz_27 := q_addI (A := 3754) (B := ((10 * r_4.toInt) + r_18.toInt)) ez_27 (by decide) iz_21 (by first | (clear hs hz hk h4 k3σ ahpσ_2 dhpσ_2 ehpσ_2 k3σ_2 kc_3 ahpσ_5 dhpσ_5 ehpσ_5 k3σ_5 kc_7 ahpσ_9 chpσ_9 dhpσ_9 ehpσ_9 k3σ_9 ahpσ_11 bhpσ_11 chpσ_11 ahpσ_13 chpσ_13 dhpσ_13 ehpσ_13 k3σ_13 if_14 if_15 iz_16 kc_17 ahpσ_19 dhpσ_19 ehpσ_19 k3σ_19 iz_20 c_23 k3σ_26 k4σ_26 smσ_26 onσ_26; omega) | omega) (by first | (clear hs hz h4 k3σ ahpσ_2 dhpσ_2 ehpσ_2 kc_3 ahpσ_5 dhpσ_5 ehpσ_5 kc_6 kc_7 ahpσ_9 chpσ_9 dhpσ_9 ehpσ_9 ahpσ_11 bhpσ_11 chpσ_11 ahpσ_13 chpσ_13 dhpσ_13 ehpσ_13 if_14 kc_17 ahpσ_19 dhpσ_19 ehpσ_19 iz_20 if_22 c_23 if_24 c_25 k4σ_26 smσ_26 onσ_26; omega) | omega)
      refine lv_iload_n hx hb dX12_readHand_126 rfl (lv_at hl 3 rfl) ?_
      refine q_iastN E hI (q_tk (k' := 34) hI ha rfl (Nat.succ_ne_zero _)) ⟨by decide, rfl⟩ (by first | (clear hs hz h4 k3σ ahpσ_2 dhpσ_2 ehpσ_2 kc_3 ahpσ_5 dhpσ_5 ehpσ_5 kc_6 kc_7 ahpσ_9 chpσ_9 dhpσ_9 ehpσ_9 ahpσ_11 bhpσ_11 chpσ_11 ahpσ_13 chpσ_13 dhpσ_13 ehpσ_13 if_14 kc_17 ahpσ_19 dhpσ_19 ehpσ_19 iz_20 if_22 c_23 if_24 c_25 k4σ_26 smσ_26 onσ_26; omega) | omega) (by rw [q_lnk (v := 4650) hI (q_tk (k' := 34) hI ha rfl (Nat.succ_ne_zero _)) rfl (by decide)]; omega) (show 1 < 2 by decide) (q_inU rfl) dX12_readHand_127 (fun H locs σ_28 hσ_28 hI => ?_)
      replace hF := q_letX hF hσ_28
      have fr_σ_28 := fr_σ_26.si hσ_28 (q_tk (k' := 34) hI ha rfl (Nat.succ_ne_zero _)) rfl
      have mv9_σ_28 : (σ_28.1 a 9).toInt = (σ_26.1 a 9).toInt := congrArg Int32.toInt (q_rdn hσ_28 (Or.inl (m_ne ha (q_tk (k' := 34) hI ha rfl (Nat.succ_ne_zero _)) (by decide))))
      have mv12_σ_28 : (σ_28.1 a 12).toInt = (σ_26.1 a 12).toInt := congrArg Int32.toInt (q_rdn hσ_28 (Or.inl (m_ne ha (q_tk (k' := 34) hI ha rfl (Nat.succ_ne_zero _)) (by decide))))
      have mv14_σ_28 : (σ_28.1 a 14).toInt = (σ_26.1 a 14).toInt := congrArg Int32.toInt (q_rdn hσ_28 (Or.inl (m_ne ha (q_tk (k' := 34) hI ha rfl (Nat.succ_ne_zero _)) (by decide))))
      have mv15_σ_28 : (σ_28.1 a 15).toInt = (σ_26.1 a 15).toInt := congrArg Int32.toInt (q_rdn hσ_28 (Or.inl (m_ne ha (q_tk (k' := 34) hI ha rfl (Nat.succ_ne_zero _)) (by decide))))
      have mv16_σ_28 : (σ_28.1 a 16).toInt = (σ_26.1 a 16).toInt := congrArg Int32.toInt (q_rdn hσ_28 (Or.inl (m_ne ha (q_tk (k' := 34) hI ha rfl (Nat.succ_ne_zero _)) (by decide))))
      have mcσ_28 := m_wr (v := r_8) (A := (3754 + ((10 * r_4.toInt) + r_18.toInt))) hσ_28 iz_27 (by first | (clear hs hz h4 k3σ ahpσ_2 dhpσ_2 ehpσ_2 kc_3 ahpσ_5 dhpσ_5 ehpσ_5 kc_6 kc_7 ahpσ_9 chpσ_9 dhpσ_9 ehpσ_9 ahpσ_11 bhpσ_11 chpσ_11 ahpσ_13 chpσ_13 dhpσ_13 ehpσ_13 if_14 kc_17 ahpσ_19 dhpσ_19 ehpσ_19 iz_20 if_22 c_23 if_24 c_25 k4σ_26 smσ_26 onσ_26 mv9_σ_28 mv12_σ_28 mv14_σ_28 mv15_σ_28 mv16_σ_28; omega) | omega)
      have nnσ_28 : m_N (m_c X σ_28 a) := m_N.hand nnσ_26 (by first | (clear hs hz hk h4 k3σ ahpσ_2 dhpσ_2 ehpσ_2 k3σ_2 kc_3 ahpσ_5 dhpσ_5 ehpσ_5 k3σ_5 kc_6 kc_7 ahpσ_9 chpσ_9 dhpσ_9 ehpσ_9 k3σ_9 ahpσ_11 bhpσ_11 chpσ_11 ahpσ_13 chpσ_13 dhpσ_13 ehpσ_13 k3σ_13 if_14 if_15 iz_16 kc_17 ahpσ_19 chpσ_19 dhpσ_19 ehpσ_19 k3σ_19 iz_20 iz_21 if_22 c_23 if_24 c_25 k3σ_26 k4σ_26 smσ_26 onσ_26 iz_27 mv9_σ_28 mv12_σ_28 mv14_σ_28 mv15_σ_28 mv16_σ_28; omega) | omega) (by first | (clear hs hz h4 k3σ ahpσ_2 dhpσ_2 ehpσ_2 kc_3 ahpσ_5 chpσ_5 dhpσ_5 ehpσ_5 kc_6 kc_7 ahpσ_9 chpσ_9 dhpσ_9 ehpσ_9 ahpσ_11 bhpσ_11 chpσ_11 ahpσ_13 chpσ_13 dhpσ_13 ehpσ_13 if_14 kc_17 ahpσ_19 dhpσ_19 ehpσ_19 iz_20 if_22 c_23 if_24 c_25 k4σ_26 smσ_26 onσ_26 mv9_σ_28 mv12_σ_28 mv14_σ_28 mv15_σ_28 mv16_σ_28; omega) | omega) (by first | (clear hs hz hk h4 k3σ ahpσ_2 dhpσ_2 ehpσ_2 kc_3 ahpσ_5 chpσ_5 dhpσ_5 ehpσ_5 kc_6 kc_7 ahpσ_9 chpσ_9 dhpσ_9 ehpσ_9 ahpσ_11 bhpσ_11 chpσ_11 ahpσ_13 chpσ_13 dhpσ_13 ehpσ_13 if_14 kc_17 ahpσ_19 dhpσ_19 ehpσ_19 iz_20 if_22 c_23 if_24 c_25 k4σ_26 smσ_26 onσ_26 mv9_σ_28 mv12_σ_28 mv14_σ_28 mv15_σ_28 mv16_σ_28; omega) | omega) mcσ_28 (by first | (clear hs hz hk h4 k3σ ahpσ_2 dhpσ_2 ehpσ_2 k3σ_2 kc_3 ahpσ_5 chpσ_5 dhpσ_5 ehpσ_5 k3σ_5 kc_6 ahpσ_9 dhpσ_9 ehpσ_9 k3σ_9 ahpσ_11 bhpσ_11 chpσ_11 ahpσ_13 chpσ_13 dhpσ_13 ehpσ_13 k3σ_13 if_14 if_15 iz_16 kc_17 ahpσ_19 chpσ_19 dhpσ_19 ehpσ_19 k3σ_19 iz_20 iz_21 if_22 c_23 if_24 c_25 k3σ_26 k4σ_26 smσ_26 onσ_26 iz_27 mv9_σ_28 mv12_σ_28 mv14_σ_28 mv15_σ_28 mv16_σ_28; omega) | omega) (by rw [funext mcσ_26]; omega)
      have kpσ_28 : ∀ j, 0 ≤ j → j < 3720 → m_c X σ_28 a j = m_c X σ a j := fun j h0 h1 => by rw [mcσ_28 j h0, if_neg (by first | (clear hs hz h4 k3σ ahpσ_2 dhpσ_2 ehpσ_2 kc_3 ahpσ_5 dhpσ_5 ehpσ_5 kc_6 kc_7 ahpσ_9 chpσ_9 dhpσ_9 ehpσ_9 ahpσ_11 bhpσ_11 chpσ_11 ahpσ_13 chpσ_13 dhpσ_13 ehpσ_13 if_14 kc_17 ahpσ_19 dhpσ_19 ehpσ_19 iz_20 if_22 c_23 if_24 c_25 k4σ_26 smσ_26 onσ_26 mv9_σ_28 mv12_σ_28 mv14_σ_28 mv15_σ_28 mv16_σ_28; omega) | omega)]; exact kpσ_26 j h0 h1
      have k3σ_28 : m_c X σ_28 a 3720 = m_c X σ a 3720 ∧ m_c X σ_28 a 3721 = m_c X σ a 3721 := ⟨by rw [mcσ_28 3720 (by decide), if_neg (by first | (clear hs hz h4 k3σ ahpσ_2 dhpσ_2 ehpσ_2 kc_3 ahpσ_5 dhpσ_5 ehpσ_5 kc_6 kc_7 ahpσ_9 chpσ_9 dhpσ_9 ehpσ_9 ahpσ_11 bhpσ_11 chpσ_11 ahpσ_13 chpσ_13 dhpσ_13 ehpσ_13 if_14 kc_17 ahpσ_19 dhpσ_19 ehpσ_19 iz_20 if_22 c_23 if_24 c_25 k4σ_26 smσ_26 onσ_26 mv9_σ_28 mv12_σ_28 mv14_σ_28 mv15_σ_28 mv16_σ_28; omega) | omega)]; exact k3σ_26.1, by rw [mcσ_28 3721 (by decide), if_neg (by first | (clear hs hz h4 k3σ ahpσ_2 dhpσ_2 ehpσ_2 kc_3 ahpσ_5 dhpσ_5 ehpσ_5 kc_6 kc_7 ahpσ_9 chpσ_9 dhpσ_9 ehpσ_9 ahpσ_11 bhpσ_11 chpσ_11 ahpσ_13 chpσ_13 dhpσ_13 ehpσ_13 if_14 kc_17 ahpσ_19 dhpσ_19 ehpσ_19 iz_20 if_22 c_23 if_24 c_25 k4σ_26 smσ_26 onσ_26 mv9_σ_28 mv12_σ_28 mv14_σ_28 mv15_σ_28 mv16_σ_28; omega) | omega)]; exact k3σ_26.2⟩
      have k4σ_28 : 1 ≤ m_c X σ_28 a 3724 + 10 * (σ_28.1 a 12).toInt := (by have := mcσ_28 3724 (by decide); rw [if_neg (by first | (clear hs hz hk h4 k3σ ahpσ_2 dhpσ_2 ehpσ_2 k3σ_2 kc_3 ahpσ_5 dhpσ_5 ehpσ_5 k3σ_5 kc_6 kc_7 ahpσ_9 chpσ_9 dhpσ_9 ehpσ_9 k3σ_9 ahpσ_11 bhpσ_11 chpσ_11 ahpσ_13 chpσ_13 dhpσ_13 ehpσ_13 k3σ_13 if_14 if_15 iz_16 kc_17 ahpσ_19 dhpσ_19 ehpσ_19 k3σ_19 iz_20 if_22 c_23 if_24 c_25 k3σ_26 k4σ_26 smσ_26 onσ_26 mv9_σ_28 mv12_σ_28 mv14_σ_28 mv15_σ_28 mv16_σ_28 k3σ_28; omega) | omega)] at this; omega)
      have smσ_28 : 0 ≤ (σ_28.1 a 15).toInt ∧ (σ_28.1 a 15).toInt ≤ (σ_28.1 a 16).toInt ∧ (σ_28.1 a 16).toInt ≤ (σ_28.1 a 9).toInt ∧ (σ_28.1 a 9).toInt ≤ 900 ∧ 0 ≤ (σ_28.1 a 14).toInt ∧ (σ_28.1 a 14).toInt ≤ 4 ∧ (σ_28.1 a 14).toInt ≤ 4 * ((σ_28.1 a 16).toInt - (σ_28.1 a 15).toInt) ∧ (σ_28.1 a 14).toInt ≤ 4 * ((σ_28.1 a 9).toInt - (σ_28.1 a 15).toInt) ∧ 0 ≤ (σ_28.1 a 12).toInt ∧ (σ_28.1 a 9).toInt = (σ.1 a 9).toInt ∧ (σ.1 a 15).toInt ≤ (σ_28.1 a 15).toInt ∧ (σ.1 a 12).toInt ≤ (σ_28.1 a 12).toInt := (by first | (rw [mv12_σ_28, mv14_σ_28, mv15_σ_28, mv16_σ_28, mv9_σ_28]; exact smσ_26) | omega)
      have onσ_28 : (σ.1 a 16).toInt ≤ (σ_28.1 a 15).toInt := (by first | (clear hs hz hk h4 k3σ ahpσ_2 dhpσ_2 ehpσ_2 k3σ_2 kc_3 ahpσ_5 chpσ_5 dhpσ_5 ehpσ_5 k3σ_5 kc_6 kc_7 ahpσ_9 chpσ_9 dhpσ_9 ehpσ_9 k3σ_9 ahpσ_11 bhpσ_11 chpσ_11 ahpσ_13 chpσ_13 dhpσ_13 ehpσ_13 k3σ_13 if_14 if_15 iz_16 kc_17 ahpσ_19 chpσ_19 dhpσ_19 ehpσ_19 k3σ_19 iz_20 iz_21 if_22 c_23 if_24 c_25 k3σ_26 k4σ_26 smσ_26 iz_27 mv9_σ_28 mv12_σ_28 mv14_σ_28 mv16_σ_28 k3σ_28 k4σ_28 smσ_28; omega) | omega)
      clear mv9_σ_28 mv12_σ_28 mv14_σ_28 mv15_σ_28 mv16_σ_28 k4σ_26 smσ_26 onσ_26
      exact q_retv E hr hlk hI ⟨nnσ_28, kpσ_28, (by first | exact smσ_28 | omega), (by first | exact smσ_28 | omega), k3σ_28, k4σ_28, (hF.trans hout), fr_σ_28⟩ dX12_readHand_128
    · skip
      replace hF := q_ifp hF c_25
      exact q_retv E hr hlk hI ⟨nnσ_19, kpσ_19, (by first | exact smσ_19 | omega), (by first | exact smσ_19 | omega), k3σ_19, k4σ_19, (hF.trans hout), fr_σ_19⟩ dX12_readHand_107
  · skip
    replace hF := q_ifp hF c_23
    refine lv_aload_n hx hb dX12_readHand_64 rfl (lv_at hl 5 rfl) ?_
    refine gs_X12_41_12 E hI ha dX12_readHand_65 ?_
    refine lv_iload hx hb dX12_readHand_68 (lv_at hl 0 rfl) ?_
    refine q_iald E hI (q_tk (k' := 36) hI ha rfl (Nat.succ_ne_zero _)) ⟨by decide, rfl⟩ (by first | (clear hs hz hk h4 k3σ ahpσ_2 dhpσ_2 ehpσ_2 k3σ_2 kc_3 ahpσ_5 dhpσ_5 ehpσ_5 k3σ_5 kc_7 ahpσ_9 chpσ_9 dhpσ_9 ehpσ_9 k3σ_9 ahpσ_11 bhpσ_11 chpσ_11 ahpσ_13 chpσ_13 dhpσ_13 ehpσ_13 k3σ_13 if_14 if_15 iz_16 kc_17 ahpσ_19 dhpσ_19 ehpσ_19 k3σ_19 iz_20; omega) | omega) (by rw [q_lnk (v := 60) hI (q_tk (k' := 36) hI ha rfl (Nat.succ_ne_zero _)) rfl (by decide)]; omega) dX12_readHand_70 ?_
    refine lv_topi (fun f_29 ef_29 => ?_)
    replace hF := q_letX hF ef_29
    refine lv_iconst (v := 1) hx hb dX12_readHand_71 zki_1 ?_
    refine q_icmp_eq (A := f_29.toInt) (B := 1) E rfl (by decide) (tgt := 94) dX12_readHand_72 (by decide) (fun c_30 => ?_) (fun c_30 => ?_)
    · skip
      replace hF := q_ifp hF c_30
      refine lv_aload_n hx hb dX12_readHand_94 rfl (lv_at hl 5 rfl) ?_
      refine lv_iconst (v := 5) hx hb dX12_readHand_95 zki_5 ?_
      refine lv_iload_n hx hb dX12_readHand_96 rfl (lv_at hl 2 rfl) ?_
      have kc_31 : (5 : Int32).toInt = 5 := zt_5
      refine q_cv (q_rV11_2 (rest := []) E (hml.trans hl.1.symm) hI (c_X12_fail l X σ_19 a (5 : Int32) f_14 ha (by first | (clear hs hz hk h4 k3σ ahpσ_2 dhpσ_2 ehpσ_2 k3σ_2 kc_3 ahpσ_5 chpσ_5 dhpσ_5 ehpσ_5 k3σ_5 kc_6 kc_7 ahpσ_9 chpσ_9 dhpσ_9 ehpσ_9 k3σ_9 ahpσ_11 bhpσ_11 chpσ_11 ahpσ_13 chpσ_13 dhpσ_13 ehpσ_13 k3σ_13 if_14 if_15 iz_16 kc_17 ahpσ_19 chpσ_19 dhpσ_19 ehpσ_19 k3σ_19 iz_20 iz_21 c_30 kc_31; omega) | omega) (by first | (clear hs hz hk h4 k3σ ahpσ_2 dhpσ_2 ehpσ_2 k3σ_2 kc_3 ahpσ_5 chpσ_5 dhpσ_5 ehpσ_5 k3σ_5 kc_6 kc_7 ahpσ_9 chpσ_9 dhpσ_9 ehpσ_9 k3σ_9 ahpσ_11 bhpσ_11 chpσ_11 ahpσ_13 chpσ_13 dhpσ_13 ehpσ_13 k3σ_13 if_14 if_15 iz_16 kc_17 ahpσ_19 chpσ_19 dhpσ_19 ehpσ_19 k3σ_19 iz_20 iz_21 if_22 c_23 c_30; omega) | omega)) kv_X12_193 ha ⟨Nat.le_of_ble_eq_true rfl, Nat.le_of_ble_eq_true rfl⟩ (Nat.le_of_ble_eq_true rfl) dX12_readHand_97) hI (Nat.le_of_ble_eq_true rfl) (fun σ_33 H locs hpσ_33 hkσ_33 hI => ?_)
      have ahpσ_33 := hpσ_33.1
      have bhpσ_33 := hpσ_33.2.1
      have chpσ_33 := hpσ_33.2.2.1
      have dhpσ_33 := hpσ_33.2.2.2.1
      have ehpσ_33 := hpσ_33.2.2.2.2
      clear hpσ_33
      have fr_σ_33 := fr_σ_19.call ehpσ_33 rfl rfl
      replace hF := q_letX hF dhpσ_33
      have mcσ_33 := m_cK hkσ_33 hI.1 ha (by decide)
      have nnσ_33 : m_N (m_c X σ_33 a) := m_N.ext mcσ_33 nnσ_19
      have kpσ_33 : ∀ j, 0 ≤ j → j < 3720 → m_c X σ_33 a j = m_c X σ a j := fun j h0 h1 => (mcσ_33 j).trans (kpσ_19 j h0 h1)
      have k3σ_33 : m_c X σ_33 a 3720 = m_c X σ a 3720 ∧ m_c X σ_33 a 3721 = m_c X σ a 3721 := ⟨(mcσ_33 3720).trans k3σ_19.1, (mcσ_33 3721).trans k3σ_19.2⟩
      have k4σ_33 : 1 ≤ m_c X σ_33 a 3724 + 10 * (σ_33.1 a 12).toInt := (by have := mcσ_33 3724; omega)
      have smσ_33 : 0 ≤ (σ_33.1 a 15).toInt ∧ (σ_33.1 a 15).toInt ≤ (σ_33.1 a 16).toInt ∧ (σ_33.1 a 16).toInt ≤ (σ_33.1 a 9).toInt ∧ (σ_33.1 a 9).toInt ≤ 900 ∧ 0 ≤ (σ_33.1 a 14).toInt ∧ (σ_33.1 a 14).toInt ≤ 4 ∧ (σ_33.1 a 14).toInt ≤ 4 * ((σ_33.1 a 16).toInt - (σ_33.1 a 15).toInt) ∧ (σ_33.1 a 14).toInt ≤ 4 * ((σ_33.1 a 9).toInt - (σ_33.1 a 15).toInt) ∧ 0 ≤ (σ_33.1 a 12).toInt ∧ (σ_33.1 a 9).toInt = (σ.1 a 9).toInt ∧ (σ.1 a 15).toInt ≤ (σ_33.1 a 15).toInt ∧ (σ.1 a 12).toInt ≤ (σ_33.1 a 12).toInt := (by first | exact sm_fl smσ_19 bhpσ_33 chpσ_33 | omega)
      have onσ_33 : (σ.1 a 16).toInt ≤ (σ_33.1 a 15).toInt := (by first | (clear hs hz hk h4 k3σ ahpσ_2 dhpσ_2 ehpσ_2 k3σ_2 kc_3 ahpσ_5 chpσ_5 dhpσ_5 ehpσ_5 k3σ_5 kc_6 kc_7 ahpσ_9 chpσ_9 dhpσ_9 ehpσ_9 k3σ_9 ahpσ_11 bhpσ_11 chpσ_11 ahpσ_13 chpσ_13 dhpσ_13 ehpσ_13 k3σ_13 if_14 if_15 iz_16 kc_17 ahpσ_19 chpσ_19 dhpσ_19 ehpσ_19 k3σ_19 iz_20 iz_21 if_22 c_23 c_30 kc_31 ahpσ_33 chpσ_33 dhpσ_33 ehpσ_33 k3σ_33 k4σ_33 smσ_33; omega) | omega)
      clear k4σ_19 smσ_19 onσ_19 bhpσ_33
      refine lv_aload_n hx hb dX12_readHand_100 rfl (lv_at hl 5 rfl) ?_
      refine gs_X12_187_12 E hI ha dX12_readHand_101 ?_
      refine lv_topi (fun f_34 ef_34 => ?_)
      replace hF := q_letX hF ef_34
      have if_34 : f_34.toInt = (σ_33.1 a 12).toInt := congrArg Int32.toInt ef_34
      refine q_if_le (A := f_34.toInt) E rfl (tgt := 108) dX12_readHand_104 (by decide) (fun c_35 => ?_) (fun c_35 => ?_)
      · skip
        replace hF := q_ifn hF (Int.not_lt.mpr c_35)
        refine lv_aload_n hx hb dX12_readHand_108 rfl (lv_at hl 5 rfl) ?_
        refine gs_X12_41_12 E hI ha dX12_readHand_109 ?_
        refine lv_iload hx hb dX12_readHand_112 (lv_at hl 0 rfl) ?_
        refine lv_iconst (v := 1) hx hb dX12_readHand_114 zki_1 ?_
        refine q_iastN E hI (q_tk (k' := 36) hI ha rfl (Nat.succ_ne_zero _)) ⟨by decide, rfl⟩ (by first | (clear hs hz hk h4 k3σ ahpσ_2 dhpσ_2 ehpσ_2 k3σ_2 kc_3 ahpσ_5 chpσ_5 dhpσ_5 ehpσ_5 k3σ_5 kc_6 kc_7 ahpσ_9 chpσ_9 dhpσ_9 ehpσ_9 k3σ_9 ahpσ_11 bhpσ_11 chpσ_11 ahpσ_13 chpσ_13 dhpσ_13 ehpσ_13 k3σ_13 if_14 if_15 iz_16 kc_17 ahpσ_19 chpσ_19 dhpσ_19 ehpσ_19 k3σ_19 iz_20 iz_21 if_22 c_23 c_30 kc_31 ahpσ_33 dhpσ_33 ehpσ_33 k3σ_33 k4σ_33 smσ_33 onσ_33; omega) | omega) (by rw [q_lnk (v := 60) hI (q_tk (k' := 36) hI ha rfl (Nat.succ_ne_zero _)) rfl (by decide)]; omega) (show 1 < 9 by decide) (q_inU rfl) dX12_readHand_115 (fun H locs σ_36 hσ_36 hI => ?_)
        replace hF := q_letX hF hσ_36
        have fr_σ_36 := fr_σ_33.si hσ_36 (q_tk (k' := 36) hI ha rfl (Nat.succ_ne_zero _)) rfl
        have mv9_σ_36 : (σ_36.1 a 9).toInt = (σ_33.1 a 9).toInt := congrArg Int32.toInt ((hσ_36 ▸ (q_K.si (q_tk (k' := 36) hI ha rfl (Nat.succ_ne_zero _)) (show 8 < 9 by decide) : q_K 8 X σ_33 (q_si σ_33 (q_rf X a 22) (z_21 : Int32).toNatClampNeg _))) a 9 (by rw [ha]; decide))
        have mv12_σ_36 : (σ_36.1 a 12).toInt = (σ_33.1 a 12).toInt := congrArg Int32.toInt ((hσ_36 ▸ (q_K.si (q_tk (k' := 36) hI ha rfl (Nat.succ_ne_zero _)) (show 8 < 9 by decide) : q_K 8 X σ_33 (q_si σ_33 (q_rf X a 22) (z_21 : Int32).toNatClampNeg _))) a 12 (by rw [ha]; decide))
        have mv14_σ_36 : (σ_36.1 a 14).toInt = (σ_33.1 a 14).toInt := congrArg Int32.toInt ((hσ_36 ▸ (q_K.si (q_tk (k' := 36) hI ha rfl (Nat.succ_ne_zero _)) (show 8 < 9 by decide) : q_K 8 X σ_33 (q_si σ_33 (q_rf X a 22) (z_21 : Int32).toNatClampNeg _))) a 14 (by rw [ha]; decide))
        have mv15_σ_36 : (σ_36.1 a 15).toInt = (σ_33.1 a 15).toInt := congrArg Int32.toInt ((hσ_36 ▸ (q_K.si (q_tk (k' := 36) hI ha rfl (Nat.succ_ne_zero _)) (show 8 < 9 by decide) : q_K 8 X σ_33 (q_si σ_33 (q_rf X a 22) (z_21 : Int32).toNatClampNeg _))) a 15 (by rw [ha]; decide))
        have mv16_σ_36 : (σ_36.1 a 16).toInt = (σ_33.1 a 16).toInt := congrArg Int32.toInt ((hσ_36 ▸ (q_K.si (q_tk (k' := 36) hI ha rfl (Nat.succ_ne_zero _)) (show 8 < 9 by decide) : q_K 8 X σ_33 (q_si σ_33 (q_rf X a 22) (z_21 : Int32).toNatClampNeg _))) a 16 (by rw [ha]; decide))
        have mcσ_36 := m_wo hσ_36 (m_ne (q_tk (k' := 36) hI ha rfl (Nat.succ_ne_zero _)) (q_tk (f := 20) (k' := 34) hI ha rfl (by decide)) (by decide))
        have nnσ_36 : m_N (m_c X σ_36 a) := m_N.ext mcσ_36 nnσ_33
        have kpσ_36 : ∀ j, 0 ≤ j → j < 3720 → m_c X σ_36 a j = m_c X σ a j := fun j h0 h1 => (mcσ_36 j).trans (kpσ_33 j h0 h1)
        have k3σ_36 : m_c X σ_36 a 3720 = m_c X σ a 3720 ∧ m_c X σ_36 a 3721 = m_c X σ a 3721 := ⟨(mcσ_36 3720).trans k3σ_33.1, (mcσ_36 3721).trans k3σ_33.2⟩
        have k4σ_36 : 1 ≤ m_c X σ_36 a 3724 + 10 * (σ_36.1 a 12).toInt := (by have := mcσ_36 3724; omega)
        have smσ_36 : 0 ≤ (σ_36.1 a 15).toInt ∧ (σ_36.1 a 15).toInt ≤ (σ_36.1 a 16).toInt ∧ (σ_36.1 a 16).toInt ≤ (σ_36.1 a 9).toInt ∧ (σ_36.1 a 9).toInt ≤ 900 ∧ 0 ≤ (σ_36.1 a 14).toInt ∧ (σ_36.1 a 14).toInt ≤ 4 ∧ (σ_36.1 a 14).toInt ≤ 4 * ((σ_36.1 a 16).toInt - (σ_36.1 a 15).toInt) ∧ (σ_36.1 a 14).toInt ≤ 4 * ((σ_36.1 a 9).toInt - (σ_36.1 a 15).toInt) ∧ 0 ≤ (σ_36.1 a 12).toInt ∧ (σ_36.1 a 9).toInt = (σ.1 a 9).toInt ∧ (σ.1 a 15).toInt ≤ (σ_36.1 a 15).toInt ∧ (σ.1 a 12).toInt ≤ (σ_36.1 a 12).toInt := (by first | (rw [mv12_σ_36, mv14_σ_36, mv15_σ_36, mv16_σ_36, mv9_σ_36]; exact smσ_33) | omega)
        have onσ_36 : (σ.1 a 16).toInt ≤ (σ_36.1 a 15).toInt := (by first | (clear hs hz hk h4 k3σ ahpσ_2 dhpσ_2 ehpσ_2 k3σ_2 kc_3 ahpσ_5 chpσ_5 dhpσ_5 ehpσ_5 k3σ_5 kc_6 kc_7 ahpσ_9 chpσ_9 dhpσ_9 ehpσ_9 k3σ_9 ahpσ_11 bhpσ_11 chpσ_11 ahpσ_13 chpσ_13 dhpσ_13 ehpσ_13 k3σ_13 if_14 if_15 iz_16 kc_17 ahpσ_19 chpσ_19 dhpσ_19 ehpσ_19 k3σ_19 iz_20 iz_21 if_22 c_23 c_30 kc_31 ahpσ_33 dhpσ_33 ehpσ_33 k3σ_33 k4σ_33 smσ_33 onσ_33 mv9_σ_36 mv12_σ_36 mv14_σ_36 mv15_σ_36 mv16_σ_36 k3σ_36 k4σ_36 smσ_36; omega) | omega)
        clear mv9_σ_36 mv12_σ_36 mv14_σ_36 mv15_σ_36 mv16_σ_36 k4σ_33 smσ_33 onσ_33
        refine lv_aload_n hx hb dX12_readHand_116 rfl (lv_at hl 5 rfl) ?_
        refine gs_X12_35_12 E hI ha dX12_readHand_117 ?_
        refine lv_sipush (v := 3754) hx hb dX12_readHand_120 zks_3754 ?_
        refine lv_iload hx hb dX12_readHand_123 (lv_at hl 0 rfl) ?_
        refine lv_iadd hx hb dX12_readHand_125 ?_
        refine lv_topi (fun z_37 ez_37 => ?_)
        replace hF := q_letX hF ez_37
        have iz_37 := q_addI (A := 3754) (B := ((10 * r_4.toInt) + r_18.toInt)) ez_37 (by decide) iz_21 (by first | (clear hs hz hk h4 k3σ ahpσ_2 dhpσ_2 ehpσ_2 k3σ_2 kc_3 ahpσ_5 chpσ_5 dhpσ_5 ehpσ_5 k3σ_5 kc_6 kc_7 ahpσ_9 chpσ_9 dhpσ_9 ehpσ_9 k3σ_9 ahpσ_11 bhpσ_11 chpσ_11 ahpσ_13 chpσ_13 dhpσ_13 ehpσ_13 k3σ_13 if_14 if_15 iz_16 kc_17 ahpσ_19 chpσ_19 dhpσ_19 ehpσ_19 k3σ_19 iz_20 iz_21 if_22 c_23 c_30 kc_31 ahpσ_33 dhpσ_33 ehpσ_33 k3σ_33 k3σ_36 k4σ_36 smσ_36 onσ_36; omega) | omega) (by first | (clear hs hz hk h4 k3σ ahpσ_2 dhpσ_2 ehpσ_2 k3σ_2 kc_3 ahpσ_5 chpσ_5 dhpσ_5 ehpσ_5 k3σ_5 kc_6 kc_7 ahpσ_9 chpσ_9 dhpσ_9 ehpσ_9 k3σ_9 ahpσ_11 bhpσ_11 chpσ_11 ahpσ_13 chpσ_13 dhpσ_13 ehpσ_13 k3σ_13 if_14 if_15 iz_16 kc_17 ahpσ_19 chpσ_19 dhpσ_19 ehpσ_19 k3σ_19 iz_20 iz_21 if_22 c_23 c_30 kc_31 ahpσ_33 dhpσ_33 ehpσ_33 k3σ_33 k3σ_36 k4σ_36 smσ_36 onσ_36; omega) | omega)
        refine lv_iload_n hx hb dX12_readHand_126 rfl (lv_at hl 3 rfl) ?_
        refine q_iastN E hI (q_tk (k' := 34) hI ha rfl (Nat.succ_ne_zero _)) ⟨by decide, rfl⟩ (by first | (clear hs hz hk h4 k3σ ahpσ_2 dhpσ_2 ehpσ_2 k3σ_2 kc_3 ahpσ_5 chpσ_5 dhpσ_5 ehpσ_5 k3σ_5 kc_6 kc_7 ahpσ_9 chpσ_9 dhpσ_9 ehpσ_9 k3σ_9 ahpσ_11 bhpσ_11 chpσ_11 ahpσ_13 chpσ_13 dhpσ_13 ehpσ_13 k3σ_13 if_14 if_15 iz_16 kc_17 ahpσ_19 chpσ_19 dhpσ_19 ehpσ_19 k3σ_19 iz_20 iz_21 if_22 c_23 c_30 kc_31 ahpσ_33 dhpσ_33 ehpσ_33 k3σ_33 k3σ_36 k4σ_36 smσ_36 onσ_36 iz_37; omega) | omega) (by rw [q_lnk (v := 4650) hI (q_tk (k' := 34) hI ha rfl (Nat.succ_ne_zero _)) rfl (by decide)]; omega) (show 1 < 2 by decide) (q_inU rfl) dX12_readHand_127 (fun H locs σ_38 hσ_38 hI => ?_)
        replace hF := q_letX hF hσ_38
        have fr_σ_38 := fr_σ_36.si hσ_38 (q_tk (k' := 34) hI ha rfl (Nat.succ_ne_zero _)) rfl
        have mv9_σ_38 : (σ_38.1 a 9).toInt = (σ_36.1 a 9).toInt := congrArg Int32.toInt (q_rdn hσ_38 (Or.inl (m_ne ha (q_tk (k' := 34) hI ha rfl (Nat.succ_ne_zero _)) (by decide))))
        have mv12_σ_38 : (σ_38.1 a 12).toInt = (σ_36.1 a 12).toInt := congrArg Int32.toInt (q_rdn hσ_38 (Or.inl (m_ne ha (q_tk (k' := 34) hI ha rfl (Nat.succ_ne_zero _)) (by decide))))
        have mv14_σ_38 : (σ_38.1 a 14).toInt = (σ_36.1 a 14).toInt := congrArg Int32.toInt (q_rdn hσ_38 (Or.inl (m_ne ha (q_tk (k' := 34) hI ha rfl (Nat.succ_ne_zero _)) (by decide))))
        have mv15_σ_38 : (σ_38.1 a 15).toInt = (σ_36.1 a 15).toInt := congrArg Int32.toInt (q_rdn hσ_38 (Or.inl (m_ne ha (q_tk (k' := 34) hI ha rfl (Nat.succ_ne_zero _)) (by decide))))
        have mv16_σ_38 : (σ_38.1 a 16).toInt = (σ_36.1 a 16).toInt := congrArg Int32.toInt (q_rdn hσ_38 (Or.inl (m_ne ha (q_tk (k' := 34) hI ha rfl (Nat.succ_ne_zero _)) (by decide))))
        have mcσ_38 := m_wr (v := r_8) (A := (3754 + ((10 * r_4.toInt) + r_18.toInt))) hσ_38 iz_37 (by first | (clear hs hz hk h4 k3σ ahpσ_2 dhpσ_2 ehpσ_2 k3σ_2 kc_3 ahpσ_5 chpσ_5 dhpσ_5 ehpσ_5 k3σ_5 kc_6 kc_7 ahpσ_9 chpσ_9 dhpσ_9 ehpσ_9 k3σ_9 ahpσ_11 bhpσ_11 chpσ_11 ahpσ_13 chpσ_13 dhpσ_13 ehpσ_13 k3σ_13 if_14 if_15 iz_16 kc_17 ahpσ_19 chpσ_19 dhpσ_19 ehpσ_19 k3σ_19 iz_20 iz_21 if_22 c_23 c_30 kc_31 ahpσ_33 dhpσ_33 ehpσ_33 k3σ_33 k3σ_36 k4σ_36 smσ_36 onσ_36 iz_37 mv9_σ_38 mv12_σ_38 mv14_σ_38 mv15_σ_38 mv16_σ_38; omega) | omega)
        have nnσ_38 : m_N (m_c X σ_38 a) := m_N.hand nnσ_36 (by first | (clear hs hz hk h4 k3σ ahpσ_2 dhpσ_2 ehpσ_2 k3σ_2 kc_3 ahpσ_5 chpσ_5 dhpσ_5 ehpσ_5 k3σ_5 kc_6 kc_7 ahpσ_9 chpσ_9 dhpσ_9 ehpσ_9 k3σ_9 ahpσ_11 bhpσ_11 chpσ_11 ahpσ_13 chpσ_13 dhpσ_13 ehpσ_13 k3σ_13 if_14 if_15 iz_16 kc_17 ahpσ_19 chpσ_19 dhpσ_19 ehpσ_19 k3σ_19 iz_20 iz_21 if_22 c_23 c_30 kc_31 ahpσ_33 dhpσ_33 ehpσ_33 k3σ_33 k3σ_36 k4σ_36 smσ_36 onσ_36 iz_37 mv9_σ_38 mv12_σ_38 mv14_σ_38 mv15_σ_38 mv16_σ_38; omega) | omega) (by first | (clear hs hz hk h4 k3σ ahpσ_2 dhpσ_2 ehpσ_2 k3σ_2 kc_3 ahpσ_5 chpσ_5 dhpσ_5 ehpσ_5 k3σ_5 kc_6 kc_7 ahpσ_9 chpσ_9 dhpσ_9 ehpσ_9 k3σ_9 ahpσ_11 bhpσ_11 chpσ_11 ahpσ_13 chpσ_13 dhpσ_13 ehpσ_13 k3σ_13 if_14 if_15 iz_16 kc_17 ahpσ_19 chpσ_19 dhpσ_19 ehpσ_19 k3σ_19 iz_20 iz_21 if_22 c_23 c_30 kc_31 ahpσ_33 dhpσ_33 ehpσ_33 k3σ_33 k3σ_36 k4σ_36 smσ_36 onσ_36 iz_37 mv9_σ_38 mv12_σ_38 mv14_σ_38 mv15_σ_38 mv16_σ_38; omega) | omega) (by first | (clear hs hz hk h4 k3σ ahpσ_2 dhpσ_2 ehpσ_2 k3σ_2 kc_3 ahpσ_5 chpσ_5 dhpσ_5 ehpσ_5 k3σ_5 kc_6 kc_7 ahpσ_9 chpσ_9 dhpσ_9 ehpσ_9 k3σ_9 ahpσ_11 bhpσ_11 chpσ_11 ahpσ_13 chpσ_13 dhpσ_13 ehpσ_13 k3σ_13 if_14 if_15 iz_16 kc_17 ahpσ_19 chpσ_19 dhpσ_19 ehpσ_19 k3σ_19 iz_20 iz_21 if_22 c_23 c_30 kc_31 ahpσ_33 dhpσ_33 ehpσ_33 k3σ_33 k3σ_36 k4σ_36 smσ_36 onσ_36 iz_37 mv9_σ_38 mv12_σ_38 mv14_σ_38 mv15_σ_38 mv16_σ_38; omega) | omega) mcσ_38 (by first | (clear hs hz hk h4 k3σ ahpσ_2 dhpσ_2 ehpσ_2 k3σ_2 kc_3 ahpσ_5 chpσ_5 dhpσ_5 ehpσ_5 k3σ_5 kc_6 kc_7 ahpσ_9 chpσ_9 dhpσ_9 ehpσ_9 k3σ_9 ahpσ_11 bhpσ_11 chpσ_11 ahpσ_13 chpσ_13 dhpσ_13 ehpσ_13 k3σ_13 if_14 if_15 iz_16 kc_17 ahpσ_19 chpσ_19 dhpσ_19 ehpσ_19 k3σ_19 iz_20 iz_21 if_22 c_23 c_30 kc_31 ahpσ_33 dhpσ_33 ehpσ_33 k3σ_33 k3σ_36 k4σ_36 smσ_36 onσ_36 iz_37 mv9_σ_38 mv12_σ_38 mv14_σ_38 mv15_σ_38 mv16_σ_38; omega) | omega) (by rw [funext mcσ_36]; omega)
        have kpσ_38 : ∀ j, 0 ≤ j → j < 3720 → m_c X σ_38 a j = m_c X σ a j := fun j h0 h1 => by rw [mcσ_38 j h0, if_neg (by first | (clear hs hz hk h4 k3σ ahpσ_2 dhpσ_2 ehpσ_2 k3σ_2 kc_3 ahpσ_5 chpσ_5 dhpσ_5 ehpσ_5 k3σ_5 kc_6 kc_7 ahpσ_9 chpσ_9 dhpσ_9 ehpσ_9 k3σ_9 ahpσ_11 bhpσ_11 chpσ_11 ahpσ_13 chpσ_13 dhpσ_13 ehpσ_13 k3σ_13 if_14 if_15 iz_16 kc_17 ahpσ_19 chpσ_19 dhpσ_19 ehpσ_19 k3σ_19 iz_20 iz_21 if_22 c_23 c_30 kc_31 ahpσ_33 dhpσ_33 ehpσ_33 k3σ_33 k3σ_36 k4σ_36 smσ_36 onσ_36 iz_37 mv9_σ_38 mv12_σ_38 mv14_σ_38 mv15_σ_38 mv16_σ_38; omega) | omega)]; exact kpσ_36 j h0 h1
        have k3σ_38 : m_c X σ_38 a 3720 = m_c X σ a 3720 ∧ m_c X σ_38 a 3721 = m_c X σ a 3721 := ⟨by rw [mcσ_38 3720 (by decide), if_neg (by first | (clear hs hz hk h4 k3σ ahpσ_2 dhpσ_2 ehpσ_2 k3σ_2 kc_3 ahpσ_5 chpσ_5 dhpσ_5 ehpσ_5 k3σ_5 kc_6 kc_7 ahpσ_9 chpσ_9 dhpσ_9 ehpσ_9 k3σ_9 ahpσ_11 bhpσ_11 chpσ_11 ahpσ_13 chpσ_13 dhpσ_13 ehpσ_13 k3σ_13 if_14 if_15 iz_16 kc_17 ahpσ_19 chpσ_19 dhpσ_19 ehpσ_19 k3σ_19 iz_20 iz_21 if_22 c_23 c_30 kc_31 ahpσ_33 dhpσ_33 ehpσ_33 k3σ_33 k3σ_36 k4σ_36 smσ_36 onσ_36 iz_37 mv9_σ_38 mv12_σ_38 mv14_σ_38 mv15_σ_38 mv16_σ_38; omega) | omega)]; exact k3σ_36.1, by rw [mcσ_38 3721 (by decide), if_neg (by first | (clear hs hz hk h4 k3σ ahpσ_2 dhpσ_2 ehpσ_2 k3σ_2 kc_3 ahpσ_5 chpσ_5 dhpσ_5 ehpσ_5 k3σ_5 kc_6 kc_7 ahpσ_9 chpσ_9 dhpσ_9 ehpσ_9 k3σ_9 ahpσ_11 bhpσ_11 chpσ_11 ahpσ_13 chpσ_13 dhpσ_13 ehpσ_13 k3σ_13 if_14 if_15 iz_16 kc_17 ahpσ_19 chpσ_19 dhpσ_19 ehpσ_19 k3σ_19 iz_20 iz_21 if_22 c_23 c_30 kc_31 ahpσ_33 dhpσ_33 ehpσ_33 k3σ_33 k3σ_36 k4σ_36 smσ_36 onσ_36 iz_37 mv9_σ_38 mv12_σ_38 mv14_σ_38 mv15_σ_38 mv16_σ_38; omega) | omega)]; exact k3σ_36.2⟩
        have k4σ_38 : 1 ≤ m_c X σ_38 a 3724 + 10 * (σ_38.1 a 12).toInt := (by have := mcσ_38 3724 (by decide); rw [if_neg (by first | (clear hs hz hk h4 k3σ ahpσ_2 dhpσ_2 ehpσ_2 k3σ_2 kc_3 ahpσ_5 chpσ_5 dhpσ_5 ehpσ_5 k3σ_5 kc_6 kc_7 ahpσ_9 chpσ_9 dhpσ_9 ehpσ_9 k3σ_9 ahpσ_11 bhpσ_11 chpσ_11 ahpσ_13 chpσ_13 dhpσ_13 ehpσ_13 k3σ_13 if_14 if_15 iz_16 kc_17 ahpσ_19 chpσ_19 dhpσ_19 ehpσ_19 k3σ_19 iz_20 iz_21 if_22 c_23 c_30 kc_31 ahpσ_33 dhpσ_33 ehpσ_33 k3σ_33 k3σ_36 k4σ_36 smσ_36 onσ_36 iz_37 mv9_σ_38 mv12_σ_38 mv14_σ_38 mv15_σ_38 mv16_σ_38 k3σ_38; omega) | omega)] at this; omega)
        have smσ_38 : 0 ≤ (σ_38.1 a 15).toInt ∧ (σ_38.1 a 15).toInt ≤ (σ_38.1 a 16).toInt ∧ (σ_38.1 a 16).toInt ≤ (σ_38.1 a 9).toInt ∧ (σ_38.1 a 9).toInt ≤ 900 ∧ 0 ≤ (σ_38.1 a 14).toInt ∧ (σ_38.1 a 14).toInt ≤ 4 ∧ (σ_38.1 a 14).toInt ≤ 4 * ((σ_38.1 a 16).toInt - (σ_38.1 a 15).toInt) ∧ (σ_38.1 a 14).toInt ≤ 4 * ((σ_38.1 a 9).toInt - (σ_38.1 a 15).toInt) ∧ 0 ≤ (σ_38.1 a 12).toInt ∧ (σ_38.1 a 9).toInt = (σ.1 a 9).toInt ∧ (σ.1 a 15).toInt ≤ (σ_38.1 a 15).toInt ∧ (σ.1 a 12).toInt ≤ (σ_38.1 a 12).toInt := (by first | (rw [mv12_σ_38, mv14_σ_38, mv15_σ_38, mv16_σ_38, mv9_σ_38]; exact smσ_36) | omega)
        have onσ_38 : (σ.1 a 16).toInt ≤ (σ_38.1 a 15).toInt := (by first | (clear hs hz hk h4 k3σ ahpσ_2 dhpσ_2 ehpσ_2 k3σ_2 kc_3 ahpσ_5 chpσ_5 dhpσ_5 ehpσ_5 k3σ_5 kc_6 kc_7 ahpσ_9 chpσ_9 dhpσ_9 ehpσ_9 k3σ_9 ahpσ_11 bhpσ_11 chpσ_11 ahpσ_13 chpσ_13 dhpσ_13 ehpσ_13 k3σ_13 if_14 if_15 iz_16 kc_17 ahpσ_19 chpσ_19 dhpσ_19 ehpσ_19 k3σ_19 iz_20 iz_21 if_22 c_23 c_30 kc_31 ahpσ_33 dhpσ_33 ehpσ_33 k3σ_33 k3σ_36 k4σ_36 smσ_36 onσ_36 iz_37 mv9_σ_38 mv12_σ_38 mv14_σ_38 mv15_σ_38 mv16_σ_38 k3σ_38 k4σ_38 smσ_38; omega) | omega)
        clear mv9_σ_38 mv12_σ_38 mv14_σ_38 mv15_σ_38 mv16_σ_38 k4σ_36 smσ_36 onσ_36
        exact q_retv E hr hlk hI ⟨nnσ_38, kpσ_38, (by first | exact smσ_38 | omega), (by first | exact smσ_38 | omega), k3σ_38, k4σ_38, (hF.trans hout), fr_σ_38⟩ dX12_readHand_128
      · skip
        replace hF := q_ifp hF c_35
        exact q_retv E hr hlk hI ⟨nnσ_33, kpσ_33, (by first | exact smσ_33 | omega), (by first | exact smσ_33 | omega), k3σ_33, k4σ_33, (hF.trans hout), fr_σ_33⟩ dX12_readHand_107
    · skip
      replace hF := q_ifn hF c_30
      refine lv_aload_n hx hb dX12_readHand_75 rfl (lv_at hl 5 rfl) ?_
      refine lv_iload hx hb dX12_readHand_76 (lv_at hl 1 rfl) ?_
      refine q_ci (q_rV11_1 (rest := []) E (hml.trans hl.1.symm) hI (c_X12_toldOf l X σ_19 a r_18 ha (by first | (clear hs hz hk h4 k3σ ahpσ_2 dhpσ_2 ehpσ_2 k3σ_2 kc_3 ahpσ_5 chpσ_5 dhpσ_5 ehpσ_5 k3σ_5 kc_6 kc_7 ahpσ_9 chpσ_9 dhpσ_9 ehpσ_9 k3σ_9 ahpσ_11 bhpσ_11 chpσ_11 ahpσ_13 chpσ_13 dhpσ_13 ehpσ_13 k3σ_13 if_14 if_15 iz_16 kc_17 ahpσ_19 dhpσ_19 ehpσ_19 k3σ_19 iz_20 if_22 c_23 c_30; omega) | omega) (by first | (clear hs hz h4 k3σ ahpσ_2 dhpσ_2 ehpσ_2 kc_3 ahpσ_5 chpσ_5 dhpσ_5 ehpσ_5 kc_6 kc_7 ahpσ_9 chpσ_9 dhpσ_9 ehpσ_9 ahpσ_11 bhpσ_11 chpσ_11 ahpσ_13 chpσ_13 dhpσ_13 ehpσ_13 if_14 kc_17 ahpσ_19 dhpσ_19 ehpσ_19 iz_20 if_22 c_23 c_30; omega) | omega) nnσ_19) kv_X12_229 ha ⟨Nat.le_of_ble_eq_true rfl, Nat.le_of_ble_eq_true rfl⟩ (Nat.le_of_ble_eq_true rfl) dX12_readHand_78) hI (Nat.le_of_ble_eq_true rfl) (fun r_39 σ_40 H locs hpσ_40 hkσ_40 hI => ?_)
      have ahpσ_40 := hpσ_40.1
      have bhpσ_40 := hpσ_40.2.1
      have chpσ_40 := hpσ_40.2.2
      clear hpσ_40
      replace hI := q_Irw ahpσ_40 hI
      replace hF := q_letX hF chpσ_40
      have ts := m_ps_bd nnσ_19 ⟨(by omega : 0 ≤ r_18.toInt), (by first | (clear hs hz h4 k3σ ahpσ_2 dhpσ_2 ehpσ_2 kc_3 ahpσ_5 chpσ_5 dhpσ_5 ehpσ_5 kc_6 kc_7 ahpσ_9 chpσ_9 dhpσ_9 ehpσ_9 ahpσ_11 bhpσ_11 chpσ_11 ahpσ_13 chpσ_13 dhpσ_13 ehpσ_13 if_14 kc_17 ahpσ_19 dhpσ_19 ehpσ_19 iz_20 if_22 c_23 c_30 ahpσ_40 bhpσ_40 chpσ_40; omega) | omega)⟩ 6 (by decide)
      rw [m_ps_6] at ts
      refine lv_iload_n hx hb dX12_readHand_81 rfl (lv_at hl 3 rfl) ?_
      refine lv_iadd hx hb dX12_readHand_82 ?_
      refine lv_topi (fun z_41 ez_41 => ?_)
      replace hF := q_letX hF ez_41
      have iz_41 := q_addI (A := r_39.toInt) (B := r_8.toInt) ez_41 rfl rfl (by first | (clear hs hz hk h4 k3σ ahpσ_2 dhpσ_2 ehpσ_2 k3σ_2 kc_3 ahpσ_5 chpσ_5 dhpσ_5 ehpσ_5 k3σ_5 kc_6 ahpσ_9 dhpσ_9 ehpσ_9 k3σ_9 ahpσ_11 bhpσ_11 chpσ_11 ahpσ_13 chpσ_13 dhpσ_13 ehpσ_13 k3σ_13 if_14 if_15 iz_16 kc_17 ahpσ_19 chpσ_19 dhpσ_19 ehpσ_19 k3σ_19 iz_20 iz_21 if_22 c_23 c_30 ahpσ_40 chpσ_40; omega) | omega) (by first | (clear hs hz hk h4 k3σ ahpσ_2 dhpσ_2 ehpσ_2 k3σ_2 kc_3 ahpσ_5 chpσ_5 dhpσ_5 ehpσ_5 k3σ_5 kc_6 ahpσ_9 dhpσ_9 ehpσ_9 k3σ_9 ahpσ_11 bhpσ_11 chpσ_11 ahpσ_13 chpσ_13 dhpσ_13 ehpσ_13 k3σ_13 if_14 if_15 iz_16 kc_17 ahpσ_19 chpσ_19 dhpσ_19 ehpσ_19 k3σ_19 iz_20 iz_21 if_22 c_23 c_30 ahpσ_40 chpσ_40; omega) | omega)
      refine lv_aload_n hx hb dX12_readHand_83 rfl (lv_at hl 5 rfl) ?_
      refine gs_X12_35_12 E hI ha dX12_readHand_84 ?_
      refine lv_sipush (v := 3721) hx hb dX12_readHand_87 zks_3721 ?_
      refine q_iald E hI (q_tk (k' := 34) hI ha rfl (Nat.succ_ne_zero _)) ⟨by decide, rfl⟩ (by decide) (by rw [q_lnk (v := 4650) hI (q_tk (k' := 34) hI ha rfl (Nat.succ_ne_zero _)) rfl (by decide)]; decide) dX12_readHand_90 ?_
      refine lv_topi (fun f_42 ef_42 => ?_)
      replace hF := q_letX hF ef_42
      have if_42 : f_42.toInt = m_c X σ_19 a 3721 := m_rd ef_42 (by decide)
      refine q_icmp_le (A := z_41.toInt) (B := f_42.toInt) E rfl rfl (tgt := 100) dX12_readHand_91 (by decide) (fun c_43 => ?_) (fun c_43 => ?_)
      · skip
        replace hF := q_ifn hF (Int.not_lt.mpr c_43)
        refine lv_aload_n hx hb dX12_readHand_100 rfl (lv_at hl 5 rfl) ?_
        refine gs_X12_187_12 E hI ha dX12_readHand_101 ?_
        refine lv_topi (fun f_44 ef_44 => ?_)
        replace hF := q_letX hF ef_44
        have if_44 : f_44.toInt = (σ_19.1 a 12).toInt := congrArg Int32.toInt ef_44
        refine q_if_le (A := f_44.toInt) E rfl (tgt := 108) dX12_readHand_104 (by decide) (fun c_45 => ?_) (fun c_45 => ?_)
        · skip
          replace hF := q_ifn hF (Int.not_lt.mpr c_45)
          refine lv_aload_n hx hb dX12_readHand_108 rfl (lv_at hl 5 rfl) ?_
          refine gs_X12_41_12 E hI ha dX12_readHand_109 ?_
          refine lv_iload hx hb dX12_readHand_112 (lv_at hl 0 rfl) ?_
          refine lv_iconst (v := 1) hx hb dX12_readHand_114 zki_1 ?_
          refine q_iastN E hI (q_tk (k' := 36) hI ha rfl (Nat.succ_ne_zero _)) ⟨by decide, rfl⟩ (by first | (clear hs hz hk h4 k3σ ahpσ_2 dhpσ_2 ehpσ_2 k3σ_2 kc_3 ahpσ_5 dhpσ_5 ehpσ_5 k3σ_5 kc_7 ahpσ_9 chpσ_9 dhpσ_9 ehpσ_9 k3σ_9 ahpσ_11 bhpσ_11 chpσ_11 ahpσ_13 chpσ_13 dhpσ_13 ehpσ_13 k3σ_13 if_14 if_15 iz_16 kc_17 ahpσ_19 dhpσ_19 ehpσ_19 k3σ_19 iz_20 c_30 ahpσ_40 bhpσ_40 chpσ_40 ts iz_41 if_42 c_43 if_44 c_45; omega) | omega) (by rw [q_lnk (v := 60) hI (q_tk (k' := 36) hI ha rfl (Nat.succ_ne_zero _)) rfl (by decide)]; omega) (show 1 < 9 by decide) (q_inU rfl) dX12_readHand_115 (fun H locs σ_46 hσ_46 hI => ?_)
          replace hF := q_letX hF hσ_46
          have fr_σ_46 := fr_σ_19.si hσ_46 (q_tk (k' := 36) hI ha rfl (Nat.succ_ne_zero _)) rfl
          have mv9_σ_46 : (σ_46.1 a 9).toInt = (σ_19.1 a 9).toInt := congrArg Int32.toInt ((hσ_46 ▸ (q_K.si (q_tk (k' := 36) hI ha rfl (Nat.succ_ne_zero _)) (show 8 < 9 by decide) : q_K 8 X σ_19 (q_si σ_19 (q_rf X a 22) (z_21 : Int32).toNatClampNeg _))) a 9 (by rw [ha]; decide))
          have mv12_σ_46 : (σ_46.1 a 12).toInt = (σ_19.1 a 12).toInt := congrArg Int32.toInt ((hσ_46 ▸ (q_K.si (q_tk (k' := 36) hI ha rfl (Nat.succ_ne_zero _)) (show 8 < 9 by decide) : q_K 8 X σ_19 (q_si σ_19 (q_rf X a 22) (z_21 : Int32).toNatClampNeg _))) a 12 (by rw [ha]; decide))
          have mv14_σ_46 : (σ_46.1 a 14).toInt = (σ_19.1 a 14).toInt := congrArg Int32.toInt ((hσ_46 ▸ (q_K.si (q_tk (k' := 36) hI ha rfl (Nat.succ_ne_zero _)) (show 8 < 9 by decide) : q_K 8 X σ_19 (q_si σ_19 (q_rf X a 22) (z_21 : Int32).toNatClampNeg _))) a 14 (by rw [ha]; decide))
          have mv15_σ_46 : (σ_46.1 a 15).toInt = (σ_19.1 a 15).toInt := congrArg Int32.toInt ((hσ_46 ▸ (q_K.si (q_tk (k' := 36) hI ha rfl (Nat.succ_ne_zero _)) (show 8 < 9 by decide) : q_K 8 X σ_19 (q_si σ_19 (q_rf X a 22) (z_21 : Int32).toNatClampNeg _))) a 15 (by rw [ha]; decide))
          have mv16_σ_46 : (σ_46.1 a 16).toInt = (σ_19.1 a 16).toInt := congrArg Int32.toInt ((hσ_46 ▸ (q_K.si (q_tk (k' := 36) hI ha rfl (Nat.succ_ne_zero _)) (show 8 < 9 by decide) : q_K 8 X σ_19 (q_si σ_19 (q_rf X a 22) (z_21 : Int32).toNatClampNeg _))) a 16 (by rw [ha]; decide))
          have mcσ_46 := m_wo hσ_46 (m_ne (q_tk (k' := 36) hI ha rfl (Nat.succ_ne_zero _)) (q_tk (f := 20) (k' := 34) hI ha rfl (by decide)) (by decide))
          have nnσ_46 : m_N (m_c X σ_46 a) := m_N.ext mcσ_46 nnσ_19
          have kpσ_46 : ∀ j, 0 ≤ j → j < 3720 → m_c X σ_46 a j = m_c X σ a j := fun j h0 h1 => (mcσ_46 j).trans (kpσ_19 j h0 h1)
          have k3σ_46 : m_c X σ_46 a 3720 = m_c X σ a 3720 ∧ m_c X σ_46 a 3721 = m_c X σ a 3721 := ⟨(mcσ_46 3720).trans k3σ_19.1, (mcσ_46 3721).trans k3σ_19.2⟩
          have k4σ_46 : 1 ≤ m_c X σ_46 a 3724 + 10 * (σ_46.1 a 12).toInt := (by have := mcσ_46 3724; omega)
          have smσ_46 : 0 ≤ (σ_46.1 a 15).toInt ∧ (σ_46.1 a 15).toInt ≤ (σ_46.1 a 16).toInt ∧ (σ_46.1 a 16).toInt ≤ (σ_46.1 a 9).toInt ∧ (σ_46.1 a 9).toInt ≤ 900 ∧ 0 ≤ (σ_46.1 a 14).toInt ∧ (σ_46.1 a 14).toInt ≤ 4 ∧ (σ_46.1 a 14).toInt ≤ 4 * ((σ_46.1 a 16).toInt - (σ_46.1 a 15).toInt) ∧ (σ_46.1 a 14).toInt ≤ 4 * ((σ_46.1 a 9).toInt - (σ_46.1 a 15).toInt) ∧ 0 ≤ (σ_46.1 a 12).toInt ∧ (σ_46.1 a 9).toInt = (σ.1 a 9).toInt ∧ (σ.1 a 15).toInt ≤ (σ_46.1 a 15).toInt ∧ (σ.1 a 12).toInt ≤ (σ_46.1 a 12).toInt := (by first | (rw [mv12_σ_46, mv14_σ_46, mv15_σ_46, mv16_σ_46, mv9_σ_46]; exact smσ_19) | omega)
          have onσ_46 : (σ.1 a 16).toInt ≤ (σ_46.1 a 15).toInt := (by first | (clear hs hz hk h4 k3σ ahpσ_2 dhpσ_2 ehpσ_2 k3σ_2 kc_3 ahpσ_5 chpσ_5 dhpσ_5 ehpσ_5 k3σ_5 kc_6 kc_7 ahpσ_9 chpσ_9 dhpσ_9 ehpσ_9 k3σ_9 ahpσ_11 bhpσ_11 chpσ_11 ahpσ_13 chpσ_13 dhpσ_13 ehpσ_13 k3σ_13 if_14 if_15 iz_16 kc_17 ahpσ_19 chpσ_19 dhpσ_19 ehpσ_19 k3σ_19 iz_20 iz_21 if_22 c_23 c_30 ahpσ_40 bhpσ_40 chpσ_40 ts iz_41 if_42 c_43 if_44 c_45 mv9_σ_46 mv12_σ_46 mv14_σ_46 mv16_σ_46 k3σ_46 k4σ_46 smσ_46; omega) | omega)
          clear mv9_σ_46 mv12_σ_46 mv14_σ_46 mv15_σ_46 mv16_σ_46 k4σ_19 smσ_19 onσ_19
          refine lv_aload_n hx hb dX12_readHand_116 rfl (lv_at hl 5 rfl) ?_
          refine gs_X12_35_12 E hI ha dX12_readHand_117 ?_
          refine lv_sipush (v := 3754) hx hb dX12_readHand_120 zks_3754 ?_
          refine lv_iload hx hb dX12_readHand_123 (lv_at hl 0 rfl) ?_
          refine lv_iadd hx hb dX12_readHand_125 ?_
          refine lv_topi (fun z_47 ez_47 => ?_)
          replace hF := q_letX hF ez_47
          have iz_47 := q_addI (A := 3754) (B := ((10 * r_4.toInt) + r_18.toInt)) ez_47 (by decide) iz_21 (by first | (clear hs hz hk h4 k3σ ahpσ_2 dhpσ_2 ehpσ_2 k3σ_2 kc_3 ahpσ_5 dhpσ_5 ehpσ_5 k3σ_5 kc_6 kc_7 ahpσ_9 chpσ_9 dhpσ_9 ehpσ_9 k3σ_9 ahpσ_11 bhpσ_11 chpσ_11 ahpσ_13 chpσ_13 dhpσ_13 ehpσ_13 k3σ_13 if_14 if_15 iz_16 kc_17 ahpσ_19 dhpσ_19 ehpσ_19 k3σ_19 iz_20 if_22 c_23 c_30 ahpσ_40 bhpσ_40 chpσ_40 ts iz_41 if_42 c_43 if_44 c_45 k3σ_46 k4σ_46 smσ_46 onσ_46; omega) | omega) (by first | (clear hs hz h4 k3σ ahpσ_2 dhpσ_2 ehpσ_2 kc_3 ahpσ_5 dhpσ_5 ehpσ_5 kc_6 kc_7 ahpσ_9 chpσ_9 dhpσ_9 ehpσ_9 ahpσ_11 bhpσ_11 chpσ_11 ahpσ_13 chpσ_13 dhpσ_13 ehpσ_13 if_14 kc_17 ahpσ_19 dhpσ_19 ehpσ_19 iz_20 if_22 c_23 c_30 ahpσ_40 bhpσ_40 chpσ_40 ts iz_41 if_42 c_43 if_44 c_45 k4σ_46 smσ_46 onσ_46; omega) | omega)
          refine lv_iload_n hx hb dX12_readHand_126 rfl (lv_at hl 3 rfl) ?_
          refine q_iastN E hI (q_tk (k' := 34) hI ha rfl (Nat.succ_ne_zero _)) ⟨by decide, rfl⟩ (by first | (clear hs hz h4 k3σ ahpσ_2 dhpσ_2 ehpσ_2 kc_3 ahpσ_5 dhpσ_5 ehpσ_5 kc_7 ahpσ_9 chpσ_9 dhpσ_9 ehpσ_9 ahpσ_11 bhpσ_11 chpσ_11 ahpσ_13 chpσ_13 dhpσ_13 ehpσ_13 if_14 kc_17 ahpσ_19 dhpσ_19 ehpσ_19 iz_20 c_30 ahpσ_40 bhpσ_40 chpσ_40 ts iz_41 if_42 c_43 if_44 c_45 k4σ_46 smσ_46 onσ_46; omega) | omega) (by rw [q_lnk (v := 4650) hI (q_tk (k' := 34) hI ha rfl (Nat.succ_ne_zero _)) rfl (by decide)]; omega) (show 1 < 2 by decide) (q_inU rfl) dX12_readHand_127 (fun H locs σ_48 hσ_48 hI => ?_)
          replace hF := q_letX hF hσ_48
          have fr_σ_48 := fr_σ_46.si hσ_48 (q_tk (k' := 34) hI ha rfl (Nat.succ_ne_zero _)) rfl
          have mv9_σ_48 : (σ_48.1 a 9).toInt = (σ_46.1 a 9).toInt := congrArg Int32.toInt (q_rdn hσ_48 (Or.inl (m_ne ha (q_tk (k' := 34) hI ha rfl (Nat.succ_ne_zero _)) (by decide))))
          have mv12_σ_48 : (σ_48.1 a 12).toInt = (σ_46.1 a 12).toInt := congrArg Int32.toInt (q_rdn hσ_48 (Or.inl (m_ne ha (q_tk (k' := 34) hI ha rfl (Nat.succ_ne_zero _)) (by decide))))
          have mv14_σ_48 : (σ_48.1 a 14).toInt = (σ_46.1 a 14).toInt := congrArg Int32.toInt (q_rdn hσ_48 (Or.inl (m_ne ha (q_tk (k' := 34) hI ha rfl (Nat.succ_ne_zero _)) (by decide))))
          have mv15_σ_48 : (σ_48.1 a 15).toInt = (σ_46.1 a 15).toInt := congrArg Int32.toInt (q_rdn hσ_48 (Or.inl (m_ne ha (q_tk (k' := 34) hI ha rfl (Nat.succ_ne_zero _)) (by decide))))
          have mv16_σ_48 : (σ_48.1 a 16).toInt = (σ_46.1 a 16).toInt := congrArg Int32.toInt (q_rdn hσ_48 (Or.inl (m_ne ha (q_tk (k' := 34) hI ha rfl (Nat.succ_ne_zero _)) (by decide))))
          have mcσ_48 := m_wr (v := r_8) (A := (3754 + ((10 * r_4.toInt) + r_18.toInt))) hσ_48 iz_47 (by first | (clear hs hz h4 k3σ ahpσ_2 dhpσ_2 ehpσ_2 kc_3 ahpσ_5 dhpσ_5 ehpσ_5 kc_7 ahpσ_9 chpσ_9 dhpσ_9 ehpσ_9 ahpσ_11 bhpσ_11 chpσ_11 ahpσ_13 chpσ_13 dhpσ_13 ehpσ_13 if_14 kc_17 ahpσ_19 dhpσ_19 ehpσ_19 iz_20 c_30 ahpσ_40 bhpσ_40 chpσ_40 ts iz_41 if_42 c_43 if_44 c_45 k4σ_46 smσ_46 onσ_46 mv9_σ_48 mv12_σ_48 mv14_σ_48 mv15_σ_48 mv16_σ_48; omega) | omega)
          have nnσ_48 : m_N (m_c X σ_48 a) := m_N.hand nnσ_46 (by first | (clear hs hz hk h4 k3σ ahpσ_2 dhpσ_2 ehpσ_2 k3σ_2 kc_3 ahpσ_5 dhpσ_5 ehpσ_5 k3σ_5 kc_6 kc_7 ahpσ_9 chpσ_9 dhpσ_9 ehpσ_9 k3σ_9 ahpσ_11 bhpσ_11 chpσ_11 ahpσ_13 chpσ_13 dhpσ_13 ehpσ_13 k3σ_13 if_14 if_15 iz_16 kc_17 ahpσ_19 chpσ_19 dhpσ_19 ehpσ_19 k3σ_19 iz_20 iz_21 if_22 c_23 c_30 ahpσ_40 bhpσ_40 chpσ_40 ts iz_41 if_42 c_43 if_44 c_45 k3σ_46 k4σ_46 smσ_46 onσ_46 iz_47 mv9_σ_48 mv12_σ_48 mv14_σ_48 mv15_σ_48 mv16_σ_48; omega) | omega) (by first | (clear hs hz h4 k3σ ahpσ_2 dhpσ_2 ehpσ_2 kc_3 ahpσ_5 chpσ_5 dhpσ_5 ehpσ_5 kc_7 ahpσ_9 chpσ_9 dhpσ_9 ehpσ_9 ahpσ_11 bhpσ_11 chpσ_11 ahpσ_13 chpσ_13 dhpσ_13 ehpσ_13 if_14 kc_17 ahpσ_19 dhpσ_19 ehpσ_19 iz_20 c_30 ahpσ_40 bhpσ_40 chpσ_40 ts iz_41 if_42 c_43 if_44 c_45 k4σ_46 smσ_46 onσ_46 mv9_σ_48 mv12_σ_48 mv14_σ_48 mv15_σ_48 mv16_σ_48; omega) | omega) (by first | (clear hs hz hk h4 k3σ ahpσ_2 dhpσ_2 ehpσ_2 kc_3 ahpσ_5 chpσ_5 dhpσ_5 ehpσ_5 kc_6 kc_7 ahpσ_9 chpσ_9 dhpσ_9 ehpσ_9 ahpσ_11 bhpσ_11 chpσ_11 ahpσ_13 chpσ_13 dhpσ_13 ehpσ_13 if_14 kc_17 ahpσ_19 dhpσ_19 ehpσ_19 iz_20 if_22 c_23 c_30 ahpσ_40 bhpσ_40 chpσ_40 ts iz_41 if_42 c_43 if_44 c_45 k4σ_46 smσ_46 onσ_46 mv9_σ_48 mv12_σ_48 mv14_σ_48 mv15_σ_48 mv16_σ_48; omega) | omega) mcσ_48 (by first | (clear hs hz hk h4 k3σ ahpσ_2 dhpσ_2 ehpσ_2 k3σ_2 kc_3 ahpσ_5 chpσ_5 dhpσ_5 ehpσ_5 k3σ_5 kc_6 ahpσ_9 dhpσ_9 ehpσ_9 k3σ_9 ahpσ_11 bhpσ_11 chpσ_11 ahpσ_13 chpσ_13 dhpσ_13 ehpσ_13 k3σ_13 if_14 if_15 iz_16 kc_17 ahpσ_19 chpσ_19 dhpσ_19 ehpσ_19 k3σ_19 iz_20 iz_21 if_22 c_23 c_30 ahpσ_40 chpσ_40 ts if_42 c_43 if_44 c_45 k3σ_46 k4σ_46 smσ_46 onσ_46 iz_47 mv9_σ_48 mv12_σ_48 mv14_σ_48 mv15_σ_48 mv16_σ_48; omega) | omega) (by rw [funext mcσ_46]; omega)
          have kpσ_48 : ∀ j, 0 ≤ j → j < 3720 → m_c X σ_48 a j = m_c X σ a j := fun j h0 h1 => by rw [mcσ_48 j h0, if_neg (by first | (clear hs hz h4 k3σ ahpσ_2 dhpσ_2 ehpσ_2 kc_3 ahpσ_5 dhpσ_5 ehpσ_5 kc_7 ahpσ_9 chpσ_9 dhpσ_9 ehpσ_9 ahpσ_11 bhpσ_11 chpσ_11 ahpσ_13 chpσ_13 dhpσ_13 ehpσ_13 if_14 kc_17 ahpσ_19 dhpσ_19 ehpσ_19 iz_20 c_30 ahpσ_40 bhpσ_40 chpσ_40 ts iz_41 if_42 c_43 if_44 c_45 k4σ_46 smσ_46 onσ_46 mv9_σ_48 mv12_σ_48 mv14_σ_48 mv15_σ_48 mv16_σ_48; omega) | omega)]; exact kpσ_46 j h0 h1
          have k3σ_48 : m_c X σ_48 a 3720 = m_c X σ a 3720 ∧ m_c X σ_48 a 3721 = m_c X σ a 3721 := ⟨by rw [mcσ_48 3720 (by decide), if_neg (by first | (clear hs hz h4 k3σ ahpσ_2 dhpσ_2 ehpσ_2 kc_3 ahpσ_5 dhpσ_5 ehpσ_5 kc_7 ahpσ_9 chpσ_9 dhpσ_9 ehpσ_9 ahpσ_11 bhpσ_11 chpσ_11 ahpσ_13 chpσ_13 dhpσ_13 ehpσ_13 if_14 kc_17 ahpσ_19 dhpσ_19 ehpσ_19 iz_20 c_30 ahpσ_40 bhpσ_40 chpσ_40 ts iz_41 if_42 c_43 if_44 c_45 k4σ_46 smσ_46 onσ_46 mv9_σ_48 mv12_σ_48 mv14_σ_48 mv15_σ_48 mv16_σ_48; omega) | omega)]; exact k3σ_46.1, by rw [mcσ_48 3721 (by decide), if_neg (by first | (clear hs hz h4 k3σ ahpσ_2 dhpσ_2 ehpσ_2 kc_3 ahpσ_5 dhpσ_5 ehpσ_5 kc_7 ahpσ_9 chpσ_9 dhpσ_9 ehpσ_9 ahpσ_11 bhpσ_11 chpσ_11 ahpσ_13 chpσ_13 dhpσ_13 ehpσ_13 if_14 kc_17 ahpσ_19 dhpσ_19 ehpσ_19 iz_20 c_30 ahpσ_40 bhpσ_40 chpσ_40 ts iz_41 if_42 c_43 if_44 c_45 k4σ_46 smσ_46 onσ_46 mv9_σ_48 mv12_σ_48 mv14_σ_48 mv15_σ_48 mv16_σ_48; omega) | omega)]; exact k3σ_46.2⟩
          have k4σ_48 : 1 ≤ m_c X σ_48 a 3724 + 10 * (σ_48.1 a 12).toInt := (by have := mcσ_48 3724 (by decide); rw [if_neg (by first | (clear hs hz hk h4 k3σ ahpσ_2 dhpσ_2 ehpσ_2 k3σ_2 kc_3 ahpσ_5 dhpσ_5 ehpσ_5 k3σ_5 kc_7 ahpσ_9 chpσ_9 dhpσ_9 ehpσ_9 k3σ_9 ahpσ_11 bhpσ_11 chpσ_11 ahpσ_13 chpσ_13 dhpσ_13 ehpσ_13 k3σ_13 if_14 if_15 iz_16 kc_17 ahpσ_19 dhpσ_19 ehpσ_19 k3σ_19 iz_20 c_30 ahpσ_40 bhpσ_40 chpσ_40 ts iz_41 if_42 c_43 if_44 c_45 k3σ_46 k4σ_46 smσ_46 onσ_46 mv9_σ_48 mv12_σ_48 mv14_σ_48 mv15_σ_48 mv16_σ_48 k3σ_48; omega) | omega)] at this; omega)
          have smσ_48 : 0 ≤ (σ_48.1 a 15).toInt ∧ (σ_48.1 a 15).toInt ≤ (σ_48.1 a 16).toInt ∧ (σ_48.1 a 16).toInt ≤ (σ_48.1 a 9).toInt ∧ (σ_48.1 a 9).toInt ≤ 900 ∧ 0 ≤ (σ_48.1 a 14).toInt ∧ (σ_48.1 a 14).toInt ≤ 4 ∧ (σ_48.1 a 14).toInt ≤ 4 * ((σ_48.1 a 16).toInt - (σ_48.1 a 15).toInt) ∧ (σ_48.1 a 14).toInt ≤ 4 * ((σ_48.1 a 9).toInt - (σ_48.1 a 15).toInt) ∧ 0 ≤ (σ_48.1 a 12).toInt ∧ (σ_48.1 a 9).toInt = (σ.1 a 9).toInt ∧ (σ.1 a 15).toInt ≤ (σ_48.1 a 15).toInt ∧ (σ.1 a 12).toInt ≤ (σ_48.1 a 12).toInt := (by first | (rw [mv12_σ_48, mv14_σ_48, mv15_σ_48, mv16_σ_48, mv9_σ_48]; exact smσ_46) | omega)
          have onσ_48 : (σ.1 a 16).toInt ≤ (σ_48.1 a 15).toInt := (by first | (clear hs hz hk h4 k3σ ahpσ_2 dhpσ_2 ehpσ_2 k3σ_2 kc_3 ahpσ_5 chpσ_5 dhpσ_5 ehpσ_5 k3σ_5 kc_6 kc_7 ahpσ_9 chpσ_9 dhpσ_9 ehpσ_9 k3σ_9 ahpσ_11 bhpσ_11 chpσ_11 ahpσ_13 chpσ_13 dhpσ_13 ehpσ_13 k3σ_13 if_14 if_15 iz_16 kc_17 ahpσ_19 chpσ_19 dhpσ_19 ehpσ_19 k3σ_19 iz_20 iz_21 if_22 c_23 c_30 ahpσ_40 bhpσ_40 chpσ_40 ts iz_41 if_42 c_43 if_44 c_45 k3σ_46 k4σ_46 smσ_46 iz_47 mv9_σ_48 mv12_σ_48 mv14_σ_48 mv16_σ_48 k3σ_48 k4σ_48 smσ_48; omega) | omega)
          clear mv9_σ_48 mv12_σ_48 mv14_σ_48 mv15_σ_48 mv16_σ_48 k4σ_46 smσ_46 onσ_46
          exact q_retv E hr hlk hI ⟨nnσ_48, kpσ_48, (by first | exact smσ_48 | omega), (by first | exact smσ_48 | omega), k3σ_48, k4σ_48, (hF.trans hout), fr_σ_48⟩ dX12_readHand_128
        · skip
          replace hF := q_ifp hF c_45
          exact q_retv E hr hlk hI ⟨nnσ_19, kpσ_19, (by first | exact smσ_19 | omega), (by first | exact smσ_19 | omega), k3σ_19, k4σ_19, (hF.trans hout), fr_σ_19⟩ dX12_readHand_107
      · skip
        replace hF := q_ifp hF c_43
        refine lv_aload_n hx hb dX12_readHand_94 rfl (lv_at hl 5 rfl) ?_
        refine lv_iconst (v := 5) hx hb dX12_readHand_95 zki_5 ?_
        refine lv_iload_n hx hb dX12_readHand_96 rfl (lv_at hl 2 rfl) ?_
        have kc_49 : (5 : Int32).toInt = 5 := zt_5
        refine q_cv (q_rV11_2 (rest := []) E (hml.trans hl.1.symm) hI (c_X12_fail l X σ_19 a (5 : Int32) f_14 ha (by first | (clear hs hz hk h4 k3σ ahpσ_2 dhpσ_2 ehpσ_2 k3σ_2 kc_3 ahpσ_5 chpσ_5 dhpσ_5 ehpσ_5 k3σ_5 kc_6 kc_7 ahpσ_9 chpσ_9 dhpσ_9 ehpσ_9 k3σ_9 ahpσ_11 bhpσ_11 chpσ_11 ahpσ_13 chpσ_13 dhpσ_13 ehpσ_13 k3σ_13 if_14 if_15 iz_16 kc_17 ahpσ_19 chpσ_19 dhpσ_19 ehpσ_19 k3σ_19 iz_20 iz_21 c_30 ahpσ_40 bhpσ_40 chpσ_40 ts iz_41 if_42 c_43 kc_49; omega) | omega) (by first | (clear hs hz hk h4 k3σ ahpσ_2 dhpσ_2 ehpσ_2 k3σ_2 kc_3 ahpσ_5 chpσ_5 dhpσ_5 ehpσ_5 k3σ_5 kc_6 kc_7 ahpσ_9 chpσ_9 dhpσ_9 ehpσ_9 k3σ_9 ahpσ_11 bhpσ_11 chpσ_11 ahpσ_13 chpσ_13 dhpσ_13 ehpσ_13 k3σ_13 if_14 if_15 iz_16 kc_17 ahpσ_19 chpσ_19 dhpσ_19 ehpσ_19 k3σ_19 iz_20 iz_21 if_22 c_23 c_30 ahpσ_40 bhpσ_40 chpσ_40 ts iz_41 if_42 c_43; omega) | omega)) kv_X12_193 ha ⟨Nat.le_of_ble_eq_true rfl, Nat.le_of_ble_eq_true rfl⟩ (Nat.le_of_ble_eq_true rfl) dX12_readHand_97) hI (Nat.le_of_ble_eq_true rfl) (fun σ_51 H locs hpσ_51 hkσ_51 hI => ?_)
        have ahpσ_51 := hpσ_51.1
        have bhpσ_51 := hpσ_51.2.1
        have chpσ_51 := hpσ_51.2.2.1
        have dhpσ_51 := hpσ_51.2.2.2.1
        have ehpσ_51 := hpσ_51.2.2.2.2
        clear hpσ_51
        have fr_σ_51 := fr_σ_19.call ehpσ_51 rfl rfl
        replace hF := q_letX hF dhpσ_51
        have mcσ_51 := m_cK hkσ_51 hI.1 ha (by decide)
        have nnσ_51 : m_N (m_c X σ_51 a) := m_N.ext mcσ_51 nnσ_19
        have kpσ_51 : ∀ j, 0 ≤ j → j < 3720 → m_c X σ_51 a j = m_c X σ a j := fun j h0 h1 => (mcσ_51 j).trans (kpσ_19 j h0 h1)
        have k3σ_51 : m_c X σ_51 a 3720 = m_c X σ a 3720 ∧ m_c X σ_51 a 3721 = m_c X σ a 3721 := ⟨(mcσ_51 3720).trans k3σ_19.1, (mcσ_51 3721).trans k3σ_19.2⟩
        have k4σ_51 : 1 ≤ m_c X σ_51 a 3724 + 10 * (σ_51.1 a 12).toInt := (by have := mcσ_51 3724; omega)
        have smσ_51 : 0 ≤ (σ_51.1 a 15).toInt ∧ (σ_51.1 a 15).toInt ≤ (σ_51.1 a 16).toInt ∧ (σ_51.1 a 16).toInt ≤ (σ_51.1 a 9).toInt ∧ (σ_51.1 a 9).toInt ≤ 900 ∧ 0 ≤ (σ_51.1 a 14).toInt ∧ (σ_51.1 a 14).toInt ≤ 4 ∧ (σ_51.1 a 14).toInt ≤ 4 * ((σ_51.1 a 16).toInt - (σ_51.1 a 15).toInt) ∧ (σ_51.1 a 14).toInt ≤ 4 * ((σ_51.1 a 9).toInt - (σ_51.1 a 15).toInt) ∧ 0 ≤ (σ_51.1 a 12).toInt ∧ (σ_51.1 a 9).toInt = (σ.1 a 9).toInt ∧ (σ.1 a 15).toInt ≤ (σ_51.1 a 15).toInt ∧ (σ.1 a 12).toInt ≤ (σ_51.1 a 12).toInt := (by first | exact sm_fl smσ_19 bhpσ_51 chpσ_51 | omega)
        have onσ_51 : (σ.1 a 16).toInt ≤ (σ_51.1 a 15).toInt := (by first | (clear hs hz hk h4 k3σ ahpσ_2 dhpσ_2 ehpσ_2 k3σ_2 kc_3 ahpσ_5 chpσ_5 dhpσ_5 ehpσ_5 k3σ_5 kc_6 kc_7 ahpσ_9 chpσ_9 dhpσ_9 ehpσ_9 k3σ_9 ahpσ_11 bhpσ_11 chpσ_11 ahpσ_13 chpσ_13 dhpσ_13 ehpσ_13 k3σ_13 if_14 if_15 iz_16 kc_17 ahpσ_19 chpσ_19 dhpσ_19 ehpσ_19 k3σ_19 iz_20 iz_21 if_22 c_23 c_30 ahpσ_40 bhpσ_40 chpσ_40 ts iz_41 if_42 c_43 kc_49 ahpσ_51 chpσ_51 dhpσ_51 ehpσ_51 k3σ_51 k4σ_51 smσ_51; omega) | omega)
        clear k4σ_19 smσ_19 onσ_19 bhpσ_51
        refine lv_aload_n hx hb dX12_readHand_100 rfl (lv_at hl 5 rfl) ?_
        refine gs_X12_187_12 E hI ha dX12_readHand_101 ?_
        refine lv_topi (fun f_52 ef_52 => ?_)
        replace hF := q_letX hF ef_52
        have if_52 : f_52.toInt = (σ_51.1 a 12).toInt := congrArg Int32.toInt ef_52
        refine q_if_le (A := f_52.toInt) E rfl (tgt := 108) dX12_readHand_104 (by decide) (fun c_53 => ?_) (fun c_53 => ?_)
        · skip
          replace hF := q_ifn hF (Int.not_lt.mpr c_53)
          refine lv_aload_n hx hb dX12_readHand_108 rfl (lv_at hl 5 rfl) ?_
          refine gs_X12_41_12 E hI ha dX12_readHand_109 ?_
          refine lv_iload hx hb dX12_readHand_112 (lv_at hl 0 rfl) ?_
          refine lv_iconst (v := 1) hx hb dX12_readHand_114 zki_1 ?_
          refine q_iastN E hI (q_tk (k' := 36) hI ha rfl (Nat.succ_ne_zero _)) ⟨by decide, rfl⟩ (by first | (clear hs hz hk h4 k3σ ahpσ_2 dhpσ_2 ehpσ_2 k3σ_2 kc_3 ahpσ_5 chpσ_5 dhpσ_5 ehpσ_5 k3σ_5 kc_6 kc_7 ahpσ_9 chpσ_9 dhpσ_9 ehpσ_9 k3σ_9 ahpσ_11 bhpσ_11 chpσ_11 ahpσ_13 chpσ_13 dhpσ_13 ehpσ_13 k3σ_13 if_14 if_15 iz_16 kc_17 ahpσ_19 chpσ_19 dhpσ_19 ehpσ_19 k3σ_19 iz_20 iz_21 if_22 c_23 c_30 ahpσ_40 bhpσ_40 chpσ_40 ts iz_41 if_42 c_43 kc_49 ahpσ_51 dhpσ_51 ehpσ_51 k3σ_51 k4σ_51 smσ_51 onσ_51; omega) | omega) (by rw [q_lnk (v := 60) hI (q_tk (k' := 36) hI ha rfl (Nat.succ_ne_zero _)) rfl (by decide)]; omega) (show 1 < 9 by decide) (q_inU rfl) dX12_readHand_115 (fun H locs σ_54 hσ_54 hI => ?_)
          replace hF := q_letX hF hσ_54
          have fr_σ_54 := fr_σ_51.si hσ_54 (q_tk (k' := 36) hI ha rfl (Nat.succ_ne_zero _)) rfl
          have mv9_σ_54 : (σ_54.1 a 9).toInt = (σ_51.1 a 9).toInt := congrArg Int32.toInt ((hσ_54 ▸ (q_K.si (q_tk (k' := 36) hI ha rfl (Nat.succ_ne_zero _)) (show 8 < 9 by decide) : q_K 8 X σ_51 (q_si σ_51 (q_rf X a 22) (z_21 : Int32).toNatClampNeg _))) a 9 (by rw [ha]; decide))
          have mv12_σ_54 : (σ_54.1 a 12).toInt = (σ_51.1 a 12).toInt := congrArg Int32.toInt ((hσ_54 ▸ (q_K.si (q_tk (k' := 36) hI ha rfl (Nat.succ_ne_zero _)) (show 8 < 9 by decide) : q_K 8 X σ_51 (q_si σ_51 (q_rf X a 22) (z_21 : Int32).toNatClampNeg _))) a 12 (by rw [ha]; decide))
          have mv14_σ_54 : (σ_54.1 a 14).toInt = (σ_51.1 a 14).toInt := congrArg Int32.toInt ((hσ_54 ▸ (q_K.si (q_tk (k' := 36) hI ha rfl (Nat.succ_ne_zero _)) (show 8 < 9 by decide) : q_K 8 X σ_51 (q_si σ_51 (q_rf X a 22) (z_21 : Int32).toNatClampNeg _))) a 14 (by rw [ha]; decide))
          have mv15_σ_54 : (σ_54.1 a 15).toInt = (σ_51.1 a 15).toInt := congrArg Int32.toInt ((hσ_54 ▸ (q_K.si (q_tk (k' := 36) hI ha rfl (Nat.succ_ne_zero _)) (show 8 < 9 by decide) : q_K 8 X σ_51 (q_si σ_51 (q_rf X a 22) (z_21 : Int32).toNatClampNeg _))) a 15 (by rw [ha]; decide))
          have mv16_σ_54 : (σ_54.1 a 16).toInt = (σ_51.1 a 16).toInt := congrArg Int32.toInt ((hσ_54 ▸ (q_K.si (q_tk (k' := 36) hI ha rfl (Nat.succ_ne_zero _)) (show 8 < 9 by decide) : q_K 8 X σ_51 (q_si σ_51 (q_rf X a 22) (z_21 : Int32).toNatClampNeg _))) a 16 (by rw [ha]; decide))
          have mcσ_54 := m_wo hσ_54 (m_ne (q_tk (k' := 36) hI ha rfl (Nat.succ_ne_zero _)) (q_tk (f := 20) (k' := 34) hI ha rfl (by decide)) (by decide))
          have nnσ_54 : m_N (m_c X σ_54 a) := m_N.ext mcσ_54 nnσ_51
          have kpσ_54 : ∀ j, 0 ≤ j → j < 3720 → m_c X σ_54 a j = m_c X σ a j := fun j h0 h1 => (mcσ_54 j).trans (kpσ_51 j h0 h1)
          have k3σ_54 : m_c X σ_54 a 3720 = m_c X σ a 3720 ∧ m_c X σ_54 a 3721 = m_c X σ a 3721 := ⟨(mcσ_54 3720).trans k3σ_51.1, (mcσ_54 3721).trans k3σ_51.2⟩
          have k4σ_54 : 1 ≤ m_c X σ_54 a 3724 + 10 * (σ_54.1 a 12).toInt := (by have := mcσ_54 3724; omega)
          have smσ_54 : 0 ≤ (σ_54.1 a 15).toInt ∧ (σ_54.1 a 15).toInt ≤ (σ_54.1 a 16).toInt ∧ (σ_54.1 a 16).toInt ≤ (σ_54.1 a 9).toInt ∧ (σ_54.1 a 9).toInt ≤ 900 ∧ 0 ≤ (σ_54.1 a 14).toInt ∧ (σ_54.1 a 14).toInt ≤ 4 ∧ (σ_54.1 a 14).toInt ≤ 4 * ((σ_54.1 a 16).toInt - (σ_54.1 a 15).toInt) ∧ (σ_54.1 a 14).toInt ≤ 4 * ((σ_54.1 a 9).toInt - (σ_54.1 a 15).toInt) ∧ 0 ≤ (σ_54.1 a 12).toInt ∧ (σ_54.1 a 9).toInt = (σ.1 a 9).toInt ∧ (σ.1 a 15).toInt ≤ (σ_54.1 a 15).toInt ∧ (σ.1 a 12).toInt ≤ (σ_54.1 a 12).toInt := (by first | (rw [mv12_σ_54, mv14_σ_54, mv15_σ_54, mv16_σ_54, mv9_σ_54]; exact smσ_51) | omega)
          have onσ_54 : (σ.1 a 16).toInt ≤ (σ_54.1 a 15).toInt := (by first | (clear hs hz hk h4 k3σ ahpσ_2 dhpσ_2 ehpσ_2 k3σ_2 kc_3 ahpσ_5 chpσ_5 dhpσ_5 ehpσ_5 k3σ_5 kc_6 kc_7 ahpσ_9 chpσ_9 dhpσ_9 ehpσ_9 k3σ_9 ahpσ_11 bhpσ_11 chpσ_11 ahpσ_13 chpσ_13 dhpσ_13 ehpσ_13 k3σ_13 if_14 if_15 iz_16 kc_17 ahpσ_19 chpσ_19 dhpσ_19 ehpσ_19 k3σ_19 iz_20 iz_21 if_22 c_23 c_30 ahpσ_40 bhpσ_40 chpσ_40 ts iz_41 if_42 c_43 kc_49 ahpσ_51 dhpσ_51 ehpσ_51 k3σ_51 k4σ_51 smσ_51 onσ_51 mv9_σ_54 mv12_σ_54 mv14_σ_54 mv15_σ_54 mv16_σ_54 k3σ_54 k4σ_54 smσ_54; omega) | omega)
          clear mv9_σ_54 mv12_σ_54 mv14_σ_54 mv15_σ_54 mv16_σ_54 k4σ_51 smσ_51 onσ_51
          refine lv_aload_n hx hb dX12_readHand_116 rfl (lv_at hl 5 rfl) ?_
          refine gs_X12_35_12 E hI ha dX12_readHand_117 ?_
          refine lv_sipush (v := 3754) hx hb dX12_readHand_120 zks_3754 ?_
          refine lv_iload hx hb dX12_readHand_123 (lv_at hl 0 rfl) ?_
          refine lv_iadd hx hb dX12_readHand_125 ?_
          refine lv_topi (fun z_55 ez_55 => ?_)
          replace hF := q_letX hF ez_55
          have iz_55 := q_addI (A := 3754) (B := ((10 * r_4.toInt) + r_18.toInt)) ez_55 (by decide) iz_21 (by first | (clear hs hz hk h4 k3σ ahpσ_2 dhpσ_2 ehpσ_2 k3σ_2 kc_3 ahpσ_5 chpσ_5 dhpσ_5 ehpσ_5 k3σ_5 kc_6 kc_7 ahpσ_9 chpσ_9 dhpσ_9 ehpσ_9 k3σ_9 ahpσ_11 bhpσ_11 chpσ_11 ahpσ_13 chpσ_13 dhpσ_13 ehpσ_13 k3σ_13 if_14 if_15 iz_16 kc_17 ahpσ_19 chpσ_19 dhpσ_19 ehpσ_19 k3σ_19 iz_20 iz_21 if_22 c_23 c_30 ahpσ_40 bhpσ_40 chpσ_40 ts iz_41 if_42 c_43 kc_49 ahpσ_51 dhpσ_51 ehpσ_51 k3σ_51 k3σ_54 k4σ_54 smσ_54 onσ_54; omega) | omega) (by first | (clear hs hz hk h4 k3σ ahpσ_2 dhpσ_2 ehpσ_2 k3σ_2 kc_3 ahpσ_5 chpσ_5 dhpσ_5 ehpσ_5 k3σ_5 kc_6 kc_7 ahpσ_9 chpσ_9 dhpσ_9 ehpσ_9 k3σ_9 ahpσ_11 bhpσ_11 chpσ_11 ahpσ_13 chpσ_13 dhpσ_13 ehpσ_13 k3σ_13 if_14 if_15 iz_16 kc_17 ahpσ_19 chpσ_19 dhpσ_19 ehpσ_19 k3σ_19 iz_20 iz_21 if_22 c_23 c_30 ahpσ_40 bhpσ_40 chpσ_40 ts iz_41 if_42 c_43 kc_49 ahpσ_51 dhpσ_51 ehpσ_51 k3σ_51 k3σ_54 k4σ_54 smσ_54 onσ_54; omega) | omega)
          refine lv_iload_n hx hb dX12_readHand_126 rfl (lv_at hl 3 rfl) ?_
          refine q_iastN E hI (q_tk (k' := 34) hI ha rfl (Nat.succ_ne_zero _)) ⟨by decide, rfl⟩ (by first | (clear hs hz hk h4 k3σ ahpσ_2 dhpσ_2 ehpσ_2 k3σ_2 kc_3 ahpσ_5 chpσ_5 dhpσ_5 ehpσ_5 k3σ_5 kc_6 kc_7 ahpσ_9 chpσ_9 dhpσ_9 ehpσ_9 k3σ_9 ahpσ_11 bhpσ_11 chpσ_11 ahpσ_13 chpσ_13 dhpσ_13 ehpσ_13 k3σ_13 if_14 if_15 iz_16 kc_17 ahpσ_19 chpσ_19 dhpσ_19 ehpσ_19 k3σ_19 iz_20 iz_21 if_22 c_23 c_30 ahpσ_40 bhpσ_40 chpσ_40 ts iz_41 if_42 c_43 kc_49 ahpσ_51 dhpσ_51 ehpσ_51 k3σ_51 k3σ_54 k4σ_54 smσ_54 onσ_54 iz_55; omega) | omega) (by rw [q_lnk (v := 4650) hI (q_tk (k' := 34) hI ha rfl (Nat.succ_ne_zero _)) rfl (by decide)]; omega) (show 1 < 2 by decide) (q_inU rfl) dX12_readHand_127 (fun H locs σ_56 hσ_56 hI => ?_)
          replace hF := q_letX hF hσ_56
          have fr_σ_56 := fr_σ_54.si hσ_56 (q_tk (k' := 34) hI ha rfl (Nat.succ_ne_zero _)) rfl
          have mv9_σ_56 : (σ_56.1 a 9).toInt = (σ_54.1 a 9).toInt := congrArg Int32.toInt (q_rdn hσ_56 (Or.inl (m_ne ha (q_tk (k' := 34) hI ha rfl (Nat.succ_ne_zero _)) (by decide))))
          have mv12_σ_56 : (σ_56.1 a 12).toInt = (σ_54.1 a 12).toInt := congrArg Int32.toInt (q_rdn hσ_56 (Or.inl (m_ne ha (q_tk (k' := 34) hI ha rfl (Nat.succ_ne_zero _)) (by decide))))
          have mv14_σ_56 : (σ_56.1 a 14).toInt = (σ_54.1 a 14).toInt := congrArg Int32.toInt (q_rdn hσ_56 (Or.inl (m_ne ha (q_tk (k' := 34) hI ha rfl (Nat.succ_ne_zero _)) (by decide))))
          have mv15_σ_56 : (σ_56.1 a 15).toInt = (σ_54.1 a 15).toInt := congrArg Int32.toInt (q_rdn hσ_56 (Or.inl (m_ne ha (q_tk (k' := 34) hI ha rfl (Nat.succ_ne_zero _)) (by decide))))
          have mv16_σ_56 : (σ_56.1 a 16).toInt = (σ_54.1 a 16).toInt := congrArg Int32.toInt (q_rdn hσ_56 (Or.inl (m_ne ha (q_tk (k' := 34) hI ha rfl (Nat.succ_ne_zero _)) (by decide))))
          have mcσ_56 := m_wr (v := r_8) (A := (3754 + ((10 * r_4.toInt) + r_18.toInt))) hσ_56 iz_55 (by first | (clear hs hz hk h4 k3σ ahpσ_2 dhpσ_2 ehpσ_2 k3σ_2 kc_3 ahpσ_5 chpσ_5 dhpσ_5 ehpσ_5 k3σ_5 kc_6 kc_7 ahpσ_9 chpσ_9 dhpσ_9 ehpσ_9 k3σ_9 ahpσ_11 bhpσ_11 chpσ_11 ahpσ_13 chpσ_13 dhpσ_13 ehpσ_13 k3σ_13 if_14 if_15 iz_16 kc_17 ahpσ_19 chpσ_19 dhpσ_19 ehpσ_19 k3σ_19 iz_20 iz_21 if_22 c_23 c_30 ahpσ_40 bhpσ_40 chpσ_40 ts iz_41 if_42 c_43 kc_49 ahpσ_51 dhpσ_51 ehpσ_51 k3σ_51 k3σ_54 k4σ_54 smσ_54 onσ_54 iz_55 mv9_σ_56 mv12_σ_56 mv14_σ_56 mv15_σ_56 mv16_σ_56; omega) | omega)
          have nnσ_56 : m_N (m_c X σ_56 a) := m_N.hand nnσ_54 (by first | (clear hs hz hk h4 k3σ ahpσ_2 dhpσ_2 ehpσ_2 k3σ_2 kc_3 ahpσ_5 chpσ_5 dhpσ_5 ehpσ_5 k3σ_5 kc_6 kc_7 ahpσ_9 chpσ_9 dhpσ_9 ehpσ_9 k3σ_9 ahpσ_11 bhpσ_11 chpσ_11 ahpσ_13 chpσ_13 dhpσ_13 ehpσ_13 k3σ_13 if_14 if_15 iz_16 kc_17 ahpσ_19 chpσ_19 dhpσ_19 ehpσ_19 k3σ_19 iz_20 iz_21 if_22 c_23 c_30 ahpσ_40 bhpσ_40 chpσ_40 ts iz_41 if_42 c_43 kc_49 ahpσ_51 dhpσ_51 ehpσ_51 k3σ_51 k3σ_54 k4σ_54 smσ_54 onσ_54 iz_55 mv9_σ_56 mv12_σ_56 mv14_σ_56 mv15_σ_56 mv16_σ_56; omega) | omega) (by first | (clear hs hz hk h4 k3σ ahpσ_2 dhpσ_2 ehpσ_2 k3σ_2 kc_3 ahpσ_5 chpσ_5 dhpσ_5 ehpσ_5 k3σ_5 kc_6 kc_7 ahpσ_9 chpσ_9 dhpσ_9 ehpσ_9 k3σ_9 ahpσ_11 bhpσ_11 chpσ_11 ahpσ_13 chpσ_13 dhpσ_13 ehpσ_13 k3σ_13 if_14 if_15 iz_16 kc_17 ahpσ_19 chpσ_19 dhpσ_19 ehpσ_19 k3σ_19 iz_20 iz_21 if_22 c_23 c_30 ahpσ_40 bhpσ_40 chpσ_40 ts iz_41 if_42 c_43 kc_49 ahpσ_51 dhpσ_51 ehpσ_51 k3σ_51 k3σ_54 k4σ_54 smσ_54 onσ_54 iz_55 mv9_σ_56 mv12_σ_56 mv14_σ_56 mv15_σ_56 mv16_σ_56; omega) | omega) (by first | (clear hs hz hk h4 k3σ ahpσ_2 dhpσ_2 ehpσ_2 k3σ_2 kc_3 ahpσ_5 chpσ_5 dhpσ_5 ehpσ_5 k3σ_5 kc_6 kc_7 ahpσ_9 chpσ_9 dhpσ_9 ehpσ_9 k3σ_9 ahpσ_11 bhpσ_11 chpσ_11 ahpσ_13 chpσ_13 dhpσ_13 ehpσ_13 k3σ_13 if_14 if_15 iz_16 kc_17 ahpσ_19 chpσ_19 dhpσ_19 ehpσ_19 k3σ_19 iz_20 iz_21 if_22 c_23 c_30 ahpσ_40 bhpσ_40 chpσ_40 ts iz_41 if_42 c_43 kc_49 ahpσ_51 dhpσ_51 ehpσ_51 k3σ_51 k3σ_54 k4σ_54 smσ_54 onσ_54 iz_55 mv9_σ_56 mv12_σ_56 mv14_σ_56 mv15_σ_56 mv16_σ_56; omega) | omega) mcσ_56 (by first | (clear hs hz hk h4 k3σ ahpσ_2 dhpσ_2 ehpσ_2 k3σ_2 kc_3 ahpσ_5 chpσ_5 dhpσ_5 ehpσ_5 k3σ_5 kc_6 kc_7 ahpσ_9 chpσ_9 dhpσ_9 ehpσ_9 k3σ_9 ahpσ_11 bhpσ_11 chpσ_11 ahpσ_13 chpσ_13 dhpσ_13 ehpσ_13 k3σ_13 if_14 if_15 iz_16 kc_17 ahpσ_19 chpσ_19 dhpσ_19 ehpσ_19 k3σ_19 iz_20 iz_21 if_22 c_23 c_30 ahpσ_40 bhpσ_40 chpσ_40 ts iz_41 if_42 c_43 kc_49 ahpσ_51 dhpσ_51 ehpσ_51 k3σ_51 k3σ_54 k4σ_54 smσ_54 onσ_54 iz_55 mv9_σ_56 mv12_σ_56 mv14_σ_56 mv15_σ_56 mv16_σ_56; omega) | omega) (by rw [funext mcσ_54]; omega)
          have kpσ_56 : ∀ j, 0 ≤ j → j < 3720 → m_c X σ_56 a j = m_c X σ a j := fun j h0 h1 => by rw [mcσ_56 j h0, if_neg (by first | (clear hs hz hk h4 k3σ ahpσ_2 dhpσ_2 ehpσ_2 k3σ_2 kc_3 ahpσ_5 chpσ_5 dhpσ_5 ehpσ_5 k3σ_5 kc_6 kc_7 ahpσ_9 chpσ_9 dhpσ_9 ehpσ_9 k3σ_9 ahpσ_11 bhpσ_11 chpσ_11 ahpσ_13 chpσ_13 dhpσ_13 ehpσ_13 k3σ_13 if_14 if_15 iz_16 kc_17 ahpσ_19 chpσ_19 dhpσ_19 ehpσ_19 k3σ_19 iz_20 iz_21 if_22 c_23 c_30 ahpσ_40 bhpσ_40 chpσ_40 ts iz_41 if_42 c_43 kc_49 ahpσ_51 dhpσ_51 ehpσ_51 k3σ_51 k3σ_54 k4σ_54 smσ_54 onσ_54 iz_55 mv9_σ_56 mv12_σ_56 mv14_σ_56 mv15_σ_56 mv16_σ_56; omega) | omega)]; exact kpσ_54 j h0 h1
          have k3σ_56 : m_c X σ_56 a 3720 = m_c X σ a 3720 ∧ m_c X σ_56 a 3721 = m_c X σ a 3721 := ⟨by rw [mcσ_56 3720 (by decide), if_neg (by first | (clear hs hz hk h4 k3σ ahpσ_2 dhpσ_2 ehpσ_2 k3σ_2 kc_3 ahpσ_5 chpσ_5 dhpσ_5 ehpσ_5 k3σ_5 kc_6 kc_7 ahpσ_9 chpσ_9 dhpσ_9 ehpσ_9 k3σ_9 ahpσ_11 bhpσ_11 chpσ_11 ahpσ_13 chpσ_13 dhpσ_13 ehpσ_13 k3σ_13 if_14 if_15 iz_16 kc_17 ahpσ_19 chpσ_19 dhpσ_19 ehpσ_19 k3σ_19 iz_20 iz_21 if_22 c_23 c_30 ahpσ_40 bhpσ_40 chpσ_40 ts iz_41 if_42 c_43 kc_49 ahpσ_51 dhpσ_51 ehpσ_51 k3σ_51 k3σ_54 k4σ_54 smσ_54 onσ_54 iz_55 mv9_σ_56 mv12_σ_56 mv14_σ_56 mv15_σ_56 mv16_σ_56; omega) | omega)]; exact k3σ_54.1, by rw [mcσ_56 3721 (by decide), if_neg (by first | (clear hs hz hk h4 k3σ ahpσ_2 dhpσ_2 ehpσ_2 k3σ_2 kc_3 ahpσ_5 chpσ_5 dhpσ_5 ehpσ_5 k3σ_5 kc_6 kc_7 ahpσ_9 chpσ_9 dhpσ_9 ehpσ_9 k3σ_9 ahpσ_11 bhpσ_11 chpσ_11 ahpσ_13 chpσ_13 dhpσ_13 ehpσ_13 k3σ_13 if_14 if_15 iz_16 kc_17 ahpσ_19 chpσ_19 dhpσ_19 ehpσ_19 k3σ_19 iz_20 iz_21 if_22 c_23 c_30 ahpσ_40 bhpσ_40 chpσ_40 ts iz_41 if_42 c_43 kc_49 ahpσ_51 dhpσ_51 ehpσ_51 k3σ_51 k3σ_54 k4σ_54 smσ_54 onσ_54 iz_55 mv9_σ_56 mv12_σ_56 mv14_σ_56 mv15_σ_56 mv16_σ_56; omega) | omega)]; exact k3σ_54.2⟩
          have k4σ_56 : 1 ≤ m_c X σ_56 a 3724 + 10 * (σ_56.1 a 12).toInt := (by have := mcσ_56 3724 (by decide); rw [if_neg (by first | (clear hs hz hk h4 k3σ ahpσ_2 dhpσ_2 ehpσ_2 k3σ_2 kc_3 ahpσ_5 chpσ_5 dhpσ_5 ehpσ_5 k3σ_5 kc_6 kc_7 ahpσ_9 chpσ_9 dhpσ_9 ehpσ_9 k3σ_9 ahpσ_11 bhpσ_11 chpσ_11 ahpσ_13 chpσ_13 dhpσ_13 ehpσ_13 k3σ_13 if_14 if_15 iz_16 kc_17 ahpσ_19 chpσ_19 dhpσ_19 ehpσ_19 k3σ_19 iz_20 iz_21 if_22 c_23 c_30 ahpσ_40 bhpσ_40 chpσ_40 ts iz_41 if_42 c_43 kc_49 ahpσ_51 dhpσ_51 ehpσ_51 k3σ_51 k3σ_54 k4σ_54 smσ_54 onσ_54 iz_55 mv9_σ_56 mv12_σ_56 mv14_σ_56 mv15_σ_56 mv16_σ_56 k3σ_56; omega) | omega)] at this; omega)
          have smσ_56 : 0 ≤ (σ_56.1 a 15).toInt ∧ (σ_56.1 a 15).toInt ≤ (σ_56.1 a 16).toInt ∧ (σ_56.1 a 16).toInt ≤ (σ_56.1 a 9).toInt ∧ (σ_56.1 a 9).toInt ≤ 900 ∧ 0 ≤ (σ_56.1 a 14).toInt ∧ (σ_56.1 a 14).toInt ≤ 4 ∧ (σ_56.1 a 14).toInt ≤ 4 * ((σ_56.1 a 16).toInt - (σ_56.1 a 15).toInt) ∧ (σ_56.1 a 14).toInt ≤ 4 * ((σ_56.1 a 9).toInt - (σ_56.1 a 15).toInt) ∧ 0 ≤ (σ_56.1 a 12).toInt ∧ (σ_56.1 a 9).toInt = (σ.1 a 9).toInt ∧ (σ.1 a 15).toInt ≤ (σ_56.1 a 15).toInt ∧ (σ.1 a 12).toInt ≤ (σ_56.1 a 12).toInt := (by first | (rw [mv12_σ_56, mv14_σ_56, mv15_σ_56, mv16_σ_56, mv9_σ_56]; exact smσ_54) | omega)
          have onσ_56 : (σ.1 a 16).toInt ≤ (σ_56.1 a 15).toInt := (by first | (clear hs hz hk h4 k3σ ahpσ_2 dhpσ_2 ehpσ_2 k3σ_2 kc_3 ahpσ_5 chpσ_5 dhpσ_5 ehpσ_5 k3σ_5 kc_6 kc_7 ahpσ_9 chpσ_9 dhpσ_9 ehpσ_9 k3σ_9 ahpσ_11 bhpσ_11 chpσ_11 ahpσ_13 chpσ_13 dhpσ_13 ehpσ_13 k3σ_13 if_14 if_15 iz_16 kc_17 ahpσ_19 chpσ_19 dhpσ_19 ehpσ_19 k3σ_19 iz_20 iz_21 if_22 c_23 c_30 ahpσ_40 bhpσ_40 chpσ_40 ts iz_41 if_42 c_43 kc_49 ahpσ_51 dhpσ_51 ehpσ_51 k3σ_51 k3σ_54 k4σ_54 smσ_54 onσ_54 iz_55 mv9_σ_56 mv12_σ_56 mv14_σ_56 mv15_σ_56 mv16_σ_56 k3σ_56 k4σ_56 smσ_56; omega) | omega)
          clear mv9_σ_56 mv12_σ_56 mv14_σ_56 mv15_σ_56 mv16_σ_56 k4σ_54 smσ_54 onσ_54
          exact q_retv E hr hlk hI ⟨nnσ_56, kpσ_56, (by first | exact smσ_56 | omega), (by first | exact smσ_56 | omega), k3σ_56, k4σ_56, (hF.trans hout), fr_σ_56⟩ dX12_readHand_128
        · skip
          replace hF := q_ifp hF c_53
          exact q_retv E hr hlk hI ⟨nnσ_51, kpσ_51, (by first | exact smσ_51 | omega), (by first | exact smσ_51 | omega), k3σ_51, k4σ_51, (hF.trans hout), fr_σ_51⟩ dX12_readHand_107
end
/-! FROM 36z.cpy.lean.txt -/
section
theorem m_cpy_n {c c0 : Int → Int} {B D k n : Int} (h : ∀ j : Int, 0 ≤ j → c j = if D ≤ j ∧ j < D + k then c0 (B + (j - D)) else c0 j) (e : k = n) : ∀ j : Int, 0 ≤ j → c j = if D ≤ j ∧ j < D + n then c0 (B + (j - D)) else c0 j := by
  subst e
  exact h
theorem m_cpy40 {c c' : Int → Int} {z w : Int} (hz : z = 0) (hw : w = 4) (h : ∀ j : Int, 0 ≤ j → c' j = if 930 * z ≤ j ∧ j < 930 * z + 930 then c (930 * w + (j - 930 * z)) else c j) : (∀ j : Int, 0 ≤ j → j < 930 → c' j = c (3720 + j)) ∧ ∀ j : Int, 930 ≤ j → c' j = c j := by
  subst hz
  subst hw
  refine ⟨fun j a b => ?_, fun j a => ?_⟩
  · rw [h j a, if_pos (by omega)]
    have e : (930 : Int) * 4 + (j - 930 * 0) = 3720 + j := by omega
    rw [e]
  · rw [h j (by omega), if_neg (by omega)]
theorem m_zs {c c' : Int → Int} {b k v : Int} (h : ∀ j, b ≤ j → j < b + k → c j = 0) (e : ∀ j : Int, 0 ≤ j → c' j = if j = b + k then v else c j) (hv : v = 0) (hb : 0 ≤ b) : ∀ j, b ≤ j → j < b + (k + 1) → c' j = 0 := by
  intro j h0 h1
  rw [e j (by omega)]
  split
  · exact hv
  · exact h j h0 (by omega)
end
