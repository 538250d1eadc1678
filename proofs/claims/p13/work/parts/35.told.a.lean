/-! FROM 35.told.a.lean.txt -/
section
section QS
variable {p : Program} {l : Launch} {e : Env} {R : Room} {s : State} {m : MethodId} {args : Array Value} {below : List Frame} {meth : Method} {c : Code} {H : Heap} {locs : List Loc} {cells slots : Nat} {Q : State → Prop} {cc : ByteArray} {X : XW} {n : Nat} {σ0 σ : ST} {H0 : Heap} {pc : Nat} {ls : Array Slot} {rest : List Value} {a : Nat}
theorem gs_X12_35_12 (E : q_E p c cc s m args RX12 X) (hI : q_I X n σ0 H0 locs σ H) (ha : q_kd X a = 12) (hdg : decode cc pc = .ok (.getfield 35, 3)) (kk : W p l e R s m args below meth c H locs cells slots Q (F0 m (pc + 3) ls (.ref (q_rf X a 20) :: rest))) : W p l e R s m args below meth c H locs cells slots Q (F0 m pc ls (.ref a :: rest)) :=
  q_getf (ref := "CheatHeapModel") E hI ha ⟨rfl, by decide⟩ (show vwCl[11]? = some (RX12, TX12, 46) from rfl) q_inX12 (f := 20) (by decide) (q_in_t (i := 1445) (by decide +kernel) rfl) (Or.inl rfl) rfl hdg kk
theorem gs_X12_44_12 (E : q_E p c cc s m args RX12 X) (hI : q_I X n σ0 H0 locs σ H) (ha : q_kd X a = 12) (hdg : decode cc pc = .ok (.getfield 44, 3)) (kk : W p l e R s m args below meth c H locs cells slots Q (F0 m (pc + 3) ls (.ref (q_rf X a 23) :: rest))) : W p l e R s m args below meth c H locs cells slots Q (F0 m pc ls (.ref a :: rest)) :=
  q_getf (ref := "CheatHeapModel") E hI ha ⟨rfl, by decide⟩ (show vwCl[11]? = some (RX12, TX12, 46) from rfl) q_inX12 (f := 23) (by decide) (q_in_t (i := 1448) (by decide +kernel) rfl) (Or.inl rfl) rfl hdg kk
theorem kv_X12_216 : q_okV RX12 216 RX12 yX12_must cX12_must 2 none 1 := ⟨(q_in_t (i := 1659) (by decide +kernel) rfl), (q_in_t (i := 1661) (by decide +kernel) rfl), (q_in_p (i := 47) (by decide +kernel) rfl), (q_in_t (i := 14) (by decide +kernel) rfl), (q_in_t (i := 1662) (by decide +kernel) rfl), ⟨rfl, by decide, by decide, rfl⟩⟩
theorem ks_X12_220 : q_okS RX12 220 yJ9_max_7cf53 cJ9_max_7cf53 2 (some .int) 2 := ⟨(q_in_t (i := 1698) (by decide +kernel) rfl), (q_in_t (i := 49) (by decide +kernel) rfl), (q_in_t (i := 5) (by decide +kernel) rfl), (q_in_t (i := 50) (by decide +kernel) rfl), ⟨by decide, by decide, rfl⟩⟩
theorem kv_X12_213 : q_okV RX12 213 RX12 yX12_named cX12_named 3 (some .int) 1 := ⟨(q_in_t (i := 1751) (by decide +kernel) rfl), (q_in_t (i := 1753) (by decide +kernel) rfl), (q_in_p (i := 69) (by decide +kernel) rfl), (q_in_t (i := 14) (by decide +kernel) rfl), (q_in_t (i := 1754) (by decide +kernel) rfl), ⟨rfl, by decide, by decide, rfl⟩⟩
theorem kv_X12_210 : q_okV RX12 210 RX12 yX12_isName cX12_isName 1 (some .boolean) 0 := ⟨(q_in_t (i := 1715) (by decide +kernel) rfl), (q_in_t (i := 1717) (by decide +kernel) rfl), (q_in_p (i := 60) (by decide +kernel) rfl), (q_in_t (i := 14) (by decide +kernel) rfl), (q_in_t (i := 1718) (by decide +kernel) rfl), ⟨rfl, by decide, by decide, rfl⟩⟩
end QS
end
/-! FROM 35.told.b00.lean.txt -/
section
set_option maxRecDepth 100000 in
set_option maxHeartbeats 4000000 in
theorem c_X12_named (l : Launch) (X : XW) (σ : ST) (a : Nat) (v1 : Int32) (ha : q_kd X a = 12) (hq : v1.toInt = 0 ∨ v1.toInt = 4) (hm : m_c X σ a (930 * v1.toInt + 2) ≤ 6) : Met l yX12_named (q_ws yX12_named cX12_named 3 (some .int)) (q_rm 0 0) (q_P X σ [.ref a, .int v1]) (q_Qi X 9 σ (fun (r : Int32) (σ' : ST) => σ' = σ ∧ (-1 ≤ r.toInt ∧ r.toInt ≤ 5) ∧ r = F_X12_named X σ a v1)) 0 0 (q_reg X) := by
  refine q_met 9 (by decide +kernel) rfl (Nat.le_of_ble_eq_true rfl) (fun p e s m below meth c E hml hr hlk hI ls hl => ?_)
  have hx := E.1
  have hb := E.2.1
  have hl : lv_has ls 3 [(0, .ref a), (1, .int v1)] := hl
  obtain ⟨out, hout⟩ : ∃ o, o = F_X12_named X σ a v1 := ⟨_, rfl⟩
  have hF := hout.symm
  unfold F_X12_named at hF
  refine lv_iconst (v := 0) hx hb dX12_named_0 (by decide) ?_
  refine lv_istore_n (lv' := [(2, .int 0), (0, .ref a), (1, .int v1)]) hx hb dX12_named_1 rfl hl (by decide) rfl (fun ls hl => ?_)
  have L_2_2 : ∀ (k_2 : Nat) (x_1 : Int32) (H : Heap) (locs : List Loc) (ls : Array Slot), (2147483647 - x_1.toInt).toNat < k_2 → (0 ≤ x_1.toInt) → (F_X12_named_L2_1 X v1 σ a k_2 x_1 = out) → q_I X 9 σ s.heap locs σ H → lv_has ls 3 [(0, .ref a), (1, .int v1), (2, .int x_1)] → W p l e (q_rm 0 0) s m ([.ref a, .int v1] : List Value).toArray below meth c H locs 0 0 (MQ below (q_Qi X 9 σ (fun (r : Int32) (σ' : ST) => σ' = σ ∧ (-1 ≤ r.toInt ∧ r.toInt ≤ 5) ∧ r = F_X12_named X σ a v1)) ([.ref a, .int v1] : List Value).toArray s 0 0 (q_reg X)) (F0 m 2 ls []) := by
    clear hF
    intro k_2
    induction k_2 with
    | zero =>
      intro x_1 H locs ls hms
      exact absurd hms (Nat.not_lt_zero _)
    | succ k_2 ih2 =>
      intro x_1 H locs ls hm2 hge2 hF hI hl
      replace hF := (F_X12_named_L2_1_s).symm.trans hF
      unfold F_X12_named_B2_1 at hF
      refine lv_iload_n hx hb dX12_named_2 rfl (lv_at hl 2 rfl) ?_
      refine lv_aload_n hx hb dX12_named_3 rfl (lv_at hl 0 rfl) ?_
      refine gs_X12_35_12 E hI ha dX12_named_4 ?_
      refine lv_sipush (v := 930) hx hb dX12_named_7 (by decide) ?_
      refine lv_iload_n hx hb dX12_named_10 rfl (lv_at hl 1 rfl) ?_
      refine lv_imul hx hb dX12_named_11 ?_
      refine lv_topi (fun z_3 ez_3 => ?_)
      replace hF := q_letX hF ez_3
      have iz_3 := q_mulI (A := 930) (B := v1.toInt) ez_3 (by decide) rfl (by omega) (by omega)
      refine lv_iconst (v := 2) hx hb dX12_named_12 (by decide) ?_
      refine lv_iadd hx hb dX12_named_13 ?_
      refine lv_topi (fun z_4 ez_4 => ?_)
      replace hF := q_letX hF ez_4
      have iz_4 := q_addI (A := (930 * v1.toInt)) (B := 2) ez_4 iz_3 (by decide) (by omega) (by omega)
      refine q_iald E hI (q_tk (k' := 34) hI ha rfl (by decide)) ⟨by decide, rfl⟩ (by omega) (by rw [q_lnk (v := 4650) hI (q_tk (k' := 34) hI ha rfl (by decide)) rfl (by decide)]; omega) dX12_named_14 ?_
      refine lv_topi (fun f_5 ef_5 => ?_)
      replace hF := q_letX hF ef_5
      have if_5 : f_5.toInt = m_c X σ a ((930 * v1.toInt) + 2) := m_rd ef_5 iz_4
      have gc_6_x_1 := q_rng x_1
      have gc_6_f_5 := q_rng f_5
      refine q_icmp_ge (A := x_1.toInt) (B := f_5.toInt) E rfl rfl (tgt := 45) dX12_named_15 (by decide) (fun c_6 => ?_) (fun c_6 => ?_)
      · skip
        replace hF := q_ifn hF (Int.not_lt.mpr c_6)
        skip
        refine lv_iconst (v := (-1)) hx hb dX12_named_45 (by decide) ?_
        have hrv : ((-1) : Int32).toInt = (-1) := rfl
        exact q_reti E hr hlk hI ⟨rfl, (by omega), (hF.trans hout)⟩ dX12_named_46
      · skip
        replace hF := q_ifp hF c_6
        refine lv_aload_n hx hb dX12_named_18 rfl (lv_at hl 0 rfl) ?_
        refine gs_X12_44_12 E hI ha dX12_named_19 ?_
        refine lv_bipush (v := 6) hx hb dX12_named_22 (by decide) ?_
        refine lv_iload_n hx hb dX12_named_24 rfl (lv_at hl 1 rfl) ?_
        refine lv_imul hx hb dX12_named_25 ?_
        refine lv_topi (fun z_7 ez_7 => ?_)
        replace hF := q_letX hF ez_7
        have iz_7 := q_mulI (A := 6) (B := v1.toInt) ez_7 (by decide) rfl (by omega) (by omega)
        refine lv_iload_n hx hb dX12_named_26 rfl (lv_at hl 2 rfl) ?_
        refine lv_iadd hx hb dX12_named_27 ?_
        refine lv_topi (fun z_8 ez_8 => ?_)
        replace hF := q_letX hF ez_8
        have iz_8 := q_addI (A := (6 * v1.toInt)) (B := x_1.toInt) ez_8 iz_7 rfl (by omega) (by omega)
        refine q_lald E hI (q_tk (k' := 37) hI ha rfl (by decide)) ⟨by decide, rfl⟩ (by omega) (by rw [q_lnk (v := 30) hI (q_tk (k' := 37) hI ha rfl (by decide)) rfl (by decide)]; omega) dX12_named_28 ?_
        refine lv_topl (fun g_9 eg_9 => ?_)
        replace hF := q_letX hF eg_9
        refine lv_aload_n hx hb dX12_named_29 rfl (lv_at hl 0 rfl) ?_
        refine gs_X12_116_12 E hI ha dX12_named_30 ?_
        refine lv_topl (fun g_10 eg_10 => ?_)
        replace hF := q_letX hF eg_10
        refine q_lcmpX E dX12_named_33 (fun z_11 ez_11 hz_11 => ?_)
        replace hF := q_letX hF ez_11
        refine q_if_ne (A := z_11.toInt) E rfl (tgt := 39) dX12_named_34 (by decide) (fun c_12 => ?_) (fun c_12 => ?_)
        · skip
          replace hF := q_ifn hF c_12
          obtain ⟨z_13, ez_13⟩ : ∃ y : Int32, y = x_1 + 1 := ⟨_, rfl⟩
          replace hF := q_letX hF ez_13
          refine lv_iinc (v := z_13) (lv' := [(2, .int z_13), (0, .ref a), (1, .int v1)]) hx hb dX12_named_39 hl (k := 2) rfl (by rw [ez_13]; rfl) (by decide) rfl (fun ls hl => ?_)
          have iz_13 : z_13.toInt = x_1.toInt + 1 := q_inc ez_13 (by omega)
          refine lv_goto (tgt := 2) hx hb dX12_named_42 (by decide) ?_
          exact ih2 z_13 _ _ ls (by omega) (by omega) hF hI (lv_sub hl [1, 2, 0] rfl)
        · skip
          replace hF := q_ifp hF c_12
          skip
          refine lv_iload_n hx hb dX12_named_37 rfl (lv_at hl 2 rfl) ?_
          exact q_reti E hr hlk hI ⟨rfl, (by omega), (hF.trans hout)⟩ dX12_named_38
  exact L_2_2 ((2147483647 - (0 : Int32).toInt).toNat + 1) 0 _ _ ls (Nat.lt_succ_self _) (by decide) hF hI (lv_sub hl [1, 2, 0] rfl)

set_option maxRecDepth 100000 in
set_option maxHeartbeats 4000000 in
theorem c_X12_readTold (l : Launch) (X : XW) (σ : ST) (a : Nat) (v1 : Int32) (ha : q_kd X a = 12) (hs : 0 ≤ (σ.1 a 15).toInt ∧ (σ.1 a 15).toInt ≤ (σ.1 a 16).toInt ∧ (σ.1 a 16).toInt ≤ (σ.1 a 9).toInt ∧ (σ.1 a 9).toInt ≤ 900 ∧ 0 ≤ (σ.1 a 14).toInt ∧ (σ.1 a 14).toInt ≤ 4 ∧ (σ.1 a 14).toInt ≤ 4 * ((σ.1 a 16).toInt - (σ.1 a 15).toInt) ∧ (σ.1 a 14).toInt ≤ 4 * ((σ.1 a 9).toInt - (σ.1 a 15).toInt) ∧ 0 ≤ (σ.1 a 12).toInt) (hq : v1.toInt = 0 ∨ v1.toInt = 4) (hm : m_c X σ a (930 * v1.toInt + 2) ≤ 6) : Met l yX12_readTold (q_ws yX12_readTold cX12_readTold 3 (some .int)) (q_rm 5 107) (q_P X σ [.ref a, .int v1]) (q_Qi X 2 σ (fun (r : Int32) (σ' : ST) => (q_KS (fun b g => b = a ∧ 12 ≤ g ∧ g ≤ 18) 9 X σ σ') ∧ (0 ≤ (σ'.1 a 15).toInt ∧ (σ'.1 a 15).toInt ≤ (σ'.1 a 16).toInt ∧ (σ'.1 a 16).toInt ≤ (σ'.1 a 9).toInt ∧ (σ'.1 a 9).toInt ≤ 900 ∧ 0 ≤ (σ'.1 a 14).toInt ∧ (σ'.1 a 14).toInt ≤ 4 ∧ (σ'.1 a 14).toInt ≤ 4 * ((σ'.1 a 16).toInt - (σ'.1 a 15).toInt) ∧ (σ'.1 a 14).toInt ≤ 4 * ((σ'.1 a 9).toInt - (σ'.1 a 15).toInt) ∧ 0 ≤ (σ'.1 a 12).toInt ∧ (σ'.1 a 9).toInt = (σ.1 a 9).toInt ∧ (σ.1 a 15).toInt ≤ (σ'.1 a 15).toInt ∧ (σ.1 a 12).toInt ≤ (σ'.1 a 12).toInt) ∧ ((σ.1 a 16).toInt ≤ (σ'.1 a 15).toInt + 1000 * (σ'.1 a 12).toInt ∧ 0 ≤ r.toInt ∧ r.toInt ≤ 5) ∧ (r, σ') = F_X12_readTold X σ a v1 ∧ q_ow [(12, 12), (12, 13), (12, 14), (12, 15), (12, 16), (12, 17), (12, 18)] [(12, 19)] X σ σ')) 0 0 (q_reg X) := by
  refine q_met 2 (by decide +kernel) rfl (Nat.le_of_ble_eq_true rfl) (fun p e s m below meth c E hml hr hlk hI ls hl => ?_)
  have hx := E.1
  have hb := E.2.1
  have hl : lv_has ls 3 [(0, .ref a), (1, .int v1)] := hl
  have ks_σ : q_KS (fun b g => b = a ∧ 12 ≤ g ∧ g ≤ 18) 9 X σ σ := q_KS.rf
  have fr_σ : q_ow [(12, 12), (12, 13), (12, 14), (12, 15), (12, 16), (12, 17), (12, 18)] [(12, 19)] X σ σ := q_ow.rf
  obtain ⟨out, hout⟩ : ∃ o, o = F_X12_readTold X σ a v1 := ⟨_, rfl⟩
  have hF := hout.symm
  unfold F_X12_readTold at hF
  refine lv_aload_n hx hb dX12_readTold_0 rfl (lv_at hl 0 rfl) ?_
  refine gs_X12_187_12 E hI ha dX12_readTold_1 ?_
  refine lv_topi (fun f_1 ef_1 => ?_)
  replace hF := q_letX hF ef_1
  have if_1 : f_1.toInt = (σ.1 a 12).toInt := congrArg Int32.toInt ef_1
  have J_18_2 : ∀  (σ_2 : ST) (H : Heap) (locs : List Loc) (ls : Array Slot), (0 ≤ (σ_2.1 a 15).toInt ∧ (σ_2.1 a 15).toInt ≤ (σ_2.1 a 16).toInt ∧ (σ_2.1 a 16).toInt ≤ (σ_2.1 a 9).toInt ∧ (σ_2.1 a 9).toInt ≤ 900 ∧ 0 ≤ (σ_2.1 a 14).toInt ∧ (σ_2.1 a 14).toInt ≤ 4 ∧ (σ_2.1 a 14).toInt ≤ 4 * ((σ_2.1 a 16).toInt - (σ_2.1 a 15).toInt) ∧ (σ_2.1 a 14).toInt ≤ 4 * ((σ_2.1 a 9).toInt - (σ_2.1 a 15).toInt) ∧ 0 ≤ (σ_2.1 a 12).toInt ∧ (σ_2.1 a 9).toInt = (σ.1 a 9).toInt ∧ (σ_2.1 a 15).toInt = (σ.1 a 15).toInt ∧ (σ_2.1 a 16).toInt = (σ.1 a 16).toInt ∧ (σ.1 a 12).toInt ≤ (σ_2.1 a 12).toInt) → (q_KS (fun b g => b = a ∧ 12 ≤ g ∧ g ≤ 18) 9 X σ σ_2) → (q_ow [(12, 12), (12, 13), (12, 14), (12, 15), (12, 16), (12, 17), (12, 18)] [(12, 19)] X σ σ_2) → (F_X12_readTold_J18_1 X a v1 σ_2 = out) → q_I X 2 σ s.heap locs σ_2 H → lv_has ls 3 [(0, .ref a), (1, .int v1)] → W p l e (q_rm 5 107) s m ([.ref a, .int v1] : List Value).toArray below meth c H locs 0 0 (MQ below (q_Qi X 2 σ (fun (r : Int32) (σ' : ST) => (q_KS (fun b g => b = a ∧ 12 ≤ g ∧ g ≤ 18) 9 X σ σ') ∧ (0 ≤ (σ'.1 a 15).toInt ∧ (σ'.1 a 15).toInt ≤ (σ'.1 a 16).toInt ∧ (σ'.1 a 16).toInt ≤ (σ'.1 a 9).toInt ∧ (σ'.1 a 9).toInt ≤ 900 ∧ 0 ≤ (σ'.1 a 14).toInt ∧ (σ'.1 a 14).toInt ≤ 4 ∧ (σ'.1 a 14).toInt ≤ 4 * ((σ'.1 a 16).toInt - (σ'.1 a 15).toInt) ∧ (σ'.1 a 14).toInt ≤ 4 * ((σ'.1 a 9).toInt - (σ'.1 a 15).toInt) ∧ 0 ≤ (σ'.1 a 12).toInt ∧ (σ'.1 a 9).toInt = (σ.1 a 9).toInt ∧ (σ.1 a 15).toInt ≤ (σ'.1 a 15).toInt ∧ (σ.1 a 12).toInt ≤ (σ'.1 a 12).toInt) ∧ ((σ.1 a 16).toInt ≤ (σ'.1 a 15).toInt + 1000 * (σ'.1 a 12).toInt ∧ 0 ≤ r.toInt ∧ r.toInt ≤ 5) ∧ (r, σ') = F_X12_readTold X σ a v1 ∧ q_ow [(12, 12), (12, 13), (12, 14), (12, 15), (12, 16), (12, 17), (12, 18)] [(12, 19)] X σ σ')) ([.ref a, .int v1] : List Value).toArray s 0 0 (q_reg X)) (F0 m 18 ls []) := by
    clear hF
    intro σ_2 H locs ls j18σ_2 ks_σ_2 fr_σ_2 hF hI hl
    unfold F_X12_readTold_J18_1 at hF
    refine lv_aload_n hx hb dX12_readTold_18 rfl (lv_at hl 0 rfl) ?_
    refine gs_X12_187_12 E hI ha dX12_readTold_19 ?_
    refine lv_topi (fun f_3 ef_3 => ?_)
    replace hF := q_letX hF ef_3
    have if_3 : f_3.toInt = (σ_2.1 a 12).toInt := congrArg Int32.toInt ef_3
    refine q_if_ne (A := f_3.toInt) E rfl (tgt := 33) dX12_readTold_22 (by decide) (fun c_4 => ?_) (fun c_4 => ?_)
    · skip
      replace hF := q_ifn hF c_4
      refine lv_iconst (v := 0) hx hb dX12_readTold_33 (by decide) ?_
      refine lv_istore_n (lv' := [(2, .int 0), (0, .ref a), (1, .int v1)]) hx hb dX12_readTold_34 rfl hl (by decide) rfl (fun ls hl => ?_)
      refine lv_aload_n hx hb dX12_readTold_35 rfl (lv_at hl 1 rfl) ?_
      refine gs_X12_187_12 E hI ha dX12_readTold_36 ?_
      refine lv_topi (fun f_5 ef_5 => ?_)
      replace hF := q_letX hF ef_5
      have if_5 : f_5.toInt = (σ_2.1 a 12).toInt := congrArg Int32.toInt ef_5
      refine q_if_ne (A := f_5.toInt) E rfl (tgt := 55) dX12_readTold_39 (by decide) (fun c_6 => ?_) (fun c_6 => ?_)
      · skip
        replace hF := q_ifn hF c_6
        refine lv_aload_n hx hb dX12_readTold_55 rfl (lv_at hl 1 rfl) ?_
        refine lv_iconst (v := 1) hx hb dX12_readTold_56 (by decide) ?_
        have kc_7 : (1 : Int32).toInt = 1 := rfl
        refine q_cv (q_runV (As := [.int 1]) (rest := []) E (hml.trans hl.1.symm) hI (c_X12_must l X σ_2 a (1 : Int32) ha (by omega) (by omega)) kv_X12_216 ha ⟨rfl, by decide⟩ (show vwCl[11]? = some (RX12, TX12, 46) from rfl) rfl ⟨Nat.le_of_ble_eq_true rfl, Nat.le_of_ble_eq_true rfl⟩ ⟨Nat.le_refl _, Nat.le_refl _⟩ rfl (Nat.le_of_ble_eq_true rfl) dX12_readTold_57) hI (by decide) (fun σ_9 H locs hpσ_9 hkσ_9 hI => ?_)
        obtain ⟨ahpσ_9, bhpσ_9, chpσ_9, dhpσ_9, ehpσ_9⟩ := hpσ_9
        have fr_σ_9 := fr_σ_2.call ehpσ_9 rfl rfl
        replace hF := q_letX hF dhpσ_9
        have ks_σ_9 : q_KS (fun b g => b = a ∧ 12 ≤ g ∧ g ≤ 18) 9 X σ σ_9 := ks_σ_2.KS ahpσ_9 (by decide) (fun _ _ h => h)
        refine lv_iconst (v := 0) hx hb dX12_readTold_60 (by decide) ?_
        refine lv_iload_n hx hb dX12_readTold_61 rfl (lv_at hl 0 rfl) ?_
        have kc_10 : (0 : Int32).toInt = 0 := rfl
        have kc_11 : (0 : Int32).toInt = 0 := rfl
        refine q_ci (q_runS (As := [.int 0, .int 0]) (rest := []) E (hml.trans hl.1.symm) hI (c_J9_max_7cf53 l X σ_9 (0 : Int32) (0 : Int32)) ks_X12_220 rfl ⟨Nat.le_of_ble_eq_true rfl, Nat.le_of_ble_eq_true rfl⟩ ⟨Nat.le_refl _, Nat.le_refl _⟩ rfl (Nat.le_of_ble_eq_true rfl) dX12_readTold_62) hI (by decide) (fun r_12 σ_13 H locs hpσ_13 hkσ_13 hI => ?_)
        obtain ⟨ahpσ_13, bhpσ_13, chpσ_13⟩ := hpσ_13
        rw [ahpσ_13] at hI
        replace hF := q_letX hF chpσ_13
        exact q_reti E hr hlk hI ⟨ks_σ_9, (by omega), (by omega), (hF.trans hout), fr_σ_9⟩ dX12_readTold_65
      · skip
        replace hF := q_ifp hF c_6
        refine lv_iload_n hx hb dX12_readTold_42 rfl (lv_at hl 0 rfl) ?_
        refine q_if_ge (A := 0) E (by decide) (tgt := 55) dX12_readTold_43 (by decide) (fun c_14 => ?_) (fun c_14 => ?_)
        · skip
          replace hF := q_ifn hF (Int.not_lt.mpr c_14)
          refine lv_aload_n hx hb dX12_readTold_55 rfl (lv_at hl 1 rfl) ?_
          refine lv_iconst (v := 1) hx hb dX12_readTold_56 (by decide) ?_
          have kc_15 : (1 : Int32).toInt = 1 := rfl
          refine q_cv (q_runV (As := [.int 1]) (rest := []) E (hml.trans hl.1.symm) hI (c_X12_must l X σ_2 a (1 : Int32) ha (by omega) (by omega)) kv_X12_216 ha ⟨rfl, by decide⟩ (show vwCl[11]? = some (RX12, TX12, 46) from rfl) rfl ⟨Nat.le_of_ble_eq_true rfl, Nat.le_of_ble_eq_true rfl⟩ ⟨Nat.le_refl _, Nat.le_refl _⟩ rfl (Nat.le_of_ble_eq_true rfl) dX12_readTold_57) hI (by decide) (fun σ_17 H locs hpσ_17 hkσ_17 hI => ?_)
          obtain ⟨ahpσ_17, bhpσ_17, chpσ_17, dhpσ_17, ehpσ_17⟩ := hpσ_17
          have fr_σ_17 := fr_σ_2.call ehpσ_17 rfl rfl
          replace hF := q_letX hF dhpσ_17
          have ks_σ_17 : q_KS (fun b g => b = a ∧ 12 ≤ g ∧ g ≤ 18) 9 X σ σ_17 := ks_σ_2.KS ahpσ_17 (by decide) (fun _ _ h => h)
          refine lv_iconst (v := 0) hx hb dX12_readTold_60 (by decide) ?_
          refine lv_iload_n hx hb dX12_readTold_61 rfl (lv_at hl 0 rfl) ?_
          have kc_18 : (0 : Int32).toInt = 0 := rfl
          have kc_19 : (0 : Int32).toInt = 0 := rfl
          refine q_ci (q_runS (As := [.int 0, .int 0]) (rest := []) E (hml.trans hl.1.symm) hI (c_J9_max_7cf53 l X σ_17 (0 : Int32) (0 : Int32)) ks_X12_220 rfl ⟨Nat.le_of_ble_eq_true rfl, Nat.le_of_ble_eq_true rfl⟩ ⟨Nat.le_refl _, Nat.le_refl _⟩ rfl (Nat.le_of_ble_eq_true rfl) dX12_readTold_62) hI (by decide) (fun r_20 σ_21 H locs hpσ_21 hkσ_21 hI => ?_)
          obtain ⟨ahpσ_21, bhpσ_21, chpσ_21⟩ := hpσ_21
          rw [ahpσ_21] at hI
          replace hF := q_letX hF chpσ_21
          exact q_reti E hr hlk hI ⟨ks_σ_17, (by omega), (by omega), (hF.trans hout), fr_σ_17⟩ dX12_readTold_65
        · skip
          replace hF := q_ifp hF c_14
          refine lv_aload_n hx hb dX12_readTold_46 rfl (lv_at hl 1 rfl) ?_
          refine lv_iconst (v := 3) hx hb dX12_readTold_47 (by decide) ?_
          refine lv_aload_n hx hb dX12_readTold_48 rfl (lv_at hl 1 rfl) ?_
          refine gs_X12_104_12 E hI ha dX12_readTold_49 ?_
          refine lv_topi (fun f_22 ef_22 => ?_)
          replace hF := q_letX hF ef_22
          have if_22 : f_22.toInt = (σ_2.1 a 15).toInt := congrArg Int32.toInt ef_22
          have kc_23 : (3 : Int32).toInt = 3 := rfl
          refine q_cv (q_runV (As := [.int 3, .int f_22]) (rest := []) E (hml.trans hl.1.symm) hI (c_X12_fail l X σ_2 a (3 : Int32) f_22 ha (by omega) (by omega)) kv_X12_193 ha ⟨rfl, by decide⟩ (show vwCl[11]? = some (RX12, TX12, 46) from rfl) rfl ⟨Nat.le_of_ble_eq_true rfl, Nat.le_of_ble_eq_true rfl⟩ ⟨Nat.le_refl _, Nat.le_refl _⟩ rfl (Nat.le_of_ble_eq_true rfl) dX12_readTold_52) hI (by decide) (fun σ_25 H locs hpσ_25 hkσ_25 hI => ?_)
          obtain ⟨ahpσ_25, bhpσ_25, chpσ_25, dhpσ_25, ehpσ_25⟩ := hpσ_25
          have fr_σ_25 := fr_σ_2.call ehpσ_25 rfl rfl
          replace hF := q_letX hF dhpσ_25
          have ks_σ_25 : q_KS (fun b g => b = a ∧ 12 ≤ g ∧ g ≤ 18) 9 X σ σ_25 := ks_σ_2.KS ahpσ_25 (by decide) (fun _ _ h => h)
          refine lv_aload_n hx hb dX12_readTold_55 rfl (lv_at hl 1 rfl) ?_
          refine lv_iconst (v := 1) hx hb dX12_readTold_56 (by decide) ?_
          have kc_26 : (1 : Int32).toInt = 1 := rfl
          refine q_cv (q_runV (As := [.int 1]) (rest := []) E (hml.trans hl.1.symm) hI (c_X12_must l X σ_25 a (1 : Int32) ha (by omega) (by omega)) kv_X12_216 ha ⟨rfl, by decide⟩ (show vwCl[11]? = some (RX12, TX12, 46) from rfl) rfl ⟨Nat.le_of_ble_eq_true rfl, Nat.le_of_ble_eq_true rfl⟩ ⟨Nat.le_refl _, Nat.le_refl _⟩ rfl (Nat.le_of_ble_eq_true rfl) dX12_readTold_57) hI (by decide) (fun σ_28 H locs hpσ_28 hkσ_28 hI => ?_)
          obtain ⟨ahpσ_28, bhpσ_28, chpσ_28, dhpσ_28, ehpσ_28⟩ := hpσ_28
          have fr_σ_28 := fr_σ_25.call ehpσ_28 rfl rfl
          replace hF := q_letX hF dhpσ_28
          have ks_σ_28 : q_KS (fun b g => b = a ∧ 12 ≤ g ∧ g ≤ 18) 9 X σ σ_28 := ks_σ_25.KS ahpσ_28 (by decide) (fun _ _ h => h)
          refine lv_iconst (v := 0) hx hb dX12_readTold_60 (by decide) ?_
          refine lv_iload_n hx hb dX12_readTold_61 rfl (lv_at hl 0 rfl) ?_
          have kc_29 : (0 : Int32).toInt = 0 := rfl
          have kc_30 : (0 : Int32).toInt = 0 := rfl
          refine q_ci (q_runS (As := [.int 0, .int 0]) (rest := []) E (hml.trans hl.1.symm) hI (c_J9_max_7cf53 l X σ_28 (0 : Int32) (0 : Int32)) ks_X12_220 rfl ⟨Nat.le_of_ble_eq_true rfl, Nat.le_of_ble_eq_true rfl⟩ ⟨Nat.le_refl _, Nat.le_refl _⟩ rfl (Nat.le_of_ble_eq_true rfl) dX12_readTold_62) hI (by decide) (fun r_31 σ_32 H locs hpσ_32 hkσ_32 hI => ?_)
          obtain ⟨ahpσ_32, bhpσ_32, chpσ_32⟩ := hpσ_32
          rw [ahpσ_32] at hI
          replace hF := q_letX hF chpσ_32
          exact q_reti E hr hlk hI ⟨ks_σ_28, (by omega), (by omega), (hF.trans hout), fr_σ_28⟩ dX12_readTold_65
    · skip
      replace hF := q_ifp hF c_4
      refine lv_aload_n hx hb dX12_readTold_25 rfl (lv_at hl 0 rfl) ?_
      refine lv_iload_n hx hb dX12_readTold_26 rfl (lv_at hl 1 rfl) ?_
      refine q_ci (q_runV (As := [.int v1]) (rest := []) E (hml.trans hl.1.symm) hI (c_X12_named l X σ_2 a v1 ha hq (by rw [m_cK hI.2.2.2.2.2 hI.1 ha (by decide)]; exact hm)) kv_X12_213 ha ⟨rfl, by decide⟩ (show vwCl[11]? = some (RX12, TX12, 46) from rfl) rfl ⟨Nat.le_of_ble_eq_true rfl, Nat.le_of_ble_eq_true rfl⟩ ⟨Nat.le_refl _, Nat.le_refl _⟩ rfl (Nat.le_of_ble_eq_true rfl) dX12_readTold_27) hI (by decide) (fun r_33 σ_34 H locs hpσ_34 hkσ_34 hI => ?_)
      obtain ⟨ahpσ_34, bhpσ_34, chpσ_34⟩ := hpσ_34
      rw [ahpσ_34] at hI
      replace hF := q_letX hF chpσ_34
      refine lv_goto (tgt := 34) hx hb dX12_readTold_30 (by decide) ?_
      refine lv_istore_n (lv' := [(2, .int r_33), (0, .ref a), (1, .int v1)]) hx hb dX12_readTold_34 rfl hl (by decide) rfl (fun ls hl => ?_)
      refine lv_aload_n hx hb dX12_readTold_35 rfl (lv_at hl 1 rfl) ?_
      refine gs_X12_187_12 E hI ha dX12_readTold_36 ?_
      refine lv_topi (fun f_35 ef_35 => ?_)
      replace hF := q_letX hF ef_35
      have if_35 : f_35.toInt = (σ_2.1 a 12).toInt := congrArg Int32.toInt ef_35
      refine q_if_ne (A := f_35.toInt) E rfl (tgt := 55) dX12_readTold_39 (by decide) (fun c_36 => ?_) (fun c_36 => ?_)
      · skip
        replace hF := q_ifn hF c_36
        refine lv_aload_n hx hb dX12_readTold_55 rfl (lv_at hl 1 rfl) ?_
        refine lv_iconst (v := 1) hx hb dX12_readTold_56 (by decide) ?_
        have kc_37 : (1 : Int32).toInt = 1 := rfl
        refine q_cv (q_runV (As := [.int 1]) (rest := []) E (hml.trans hl.1.symm) hI (c_X12_must l X σ_2 a (1 : Int32) ha (by omega) (by omega)) kv_X12_216 ha ⟨rfl, by decide⟩ (show vwCl[11]? = some (RX12, TX12, 46) from rfl) rfl ⟨Nat.le_of_ble_eq_true rfl, Nat.le_of_ble_eq_true rfl⟩ ⟨Nat.le_refl _, Nat.le_refl _⟩ rfl (Nat.le_of_ble_eq_true rfl) dX12_readTold_57) hI (by decide) (fun σ_39 H locs hpσ_39 hkσ_39 hI => ?_)
        obtain ⟨ahpσ_39, bhpσ_39, chpσ_39, dhpσ_39, ehpσ_39⟩ := hpσ_39
        have fr_σ_39 := fr_σ_2.call ehpσ_39 rfl rfl
        replace hF := q_letX hF dhpσ_39
        have ks_σ_39 : q_KS (fun b g => b = a ∧ 12 ≤ g ∧ g ≤ 18) 9 X σ σ_39 := ks_σ_2.KS ahpσ_39 (by decide) (fun _ _ h => h)
        refine lv_iconst (v := 0) hx hb dX12_readTold_60 (by decide) ?_
        refine lv_iload_n hx hb dX12_readTold_61 rfl (lv_at hl 0 rfl) ?_
        have kc_40 : (0 : Int32).toInt = 0 := rfl
        refine q_ci (q_runS (As := [.int 0, .int r_33]) (rest := []) E (hml.trans hl.1.symm) hI (c_J9_max_7cf53 l X σ_39 (0 : Int32) r_33) ks_X12_220 rfl ⟨Nat.le_of_ble_eq_true rfl, Nat.le_of_ble_eq_true rfl⟩ ⟨Nat.le_refl _, Nat.le_refl _⟩ rfl (Nat.le_of_ble_eq_true rfl) dX12_readTold_62) hI (by decide) (fun r_41 σ_42 H locs hpσ_42 hkσ_42 hI => ?_)
        obtain ⟨ahpσ_42, bhpσ_42, chpσ_42⟩ := hpσ_42
        rw [ahpσ_42] at hI
        replace hF := q_letX hF chpσ_42
        exact q_reti E hr hlk hI ⟨ks_σ_39, (by omega), (by omega), (hF.trans hout), fr_σ_39⟩ dX12_readTold_65
      · skip
        replace hF := q_ifp hF c_36
        refine lv_iload_n hx hb dX12_readTold_42 rfl (lv_at hl 0 rfl) ?_
        refine q_if_ge (A := r_33.toInt) E rfl (tgt := 55) dX12_readTold_43 (by decide) (fun c_43 => ?_) (fun c_43 => ?_)
        · skip
          replace hF := q_ifn hF (Int.not_lt.mpr c_43)
          refine lv_aload_n hx hb dX12_readTold_55 rfl (lv_at hl 1 rfl) ?_
          refine lv_iconst (v := 1) hx hb dX12_readTold_56 (by decide) ?_
          have kc_44 : (1 : Int32).toInt = 1 := rfl
          refine q_cv (q_runV (As := [.int 1]) (rest := []) E (hml.trans hl.1.symm) hI (c_X12_must l X σ_2 a (1 : Int32) ha (by omega) (by omega)) kv_X12_216 ha ⟨rfl, by decide⟩ (show vwCl[11]? = some (RX12, TX12, 46) from rfl) rfl ⟨Nat.le_of_ble_eq_true rfl, Nat.le_of_ble_eq_true rfl⟩ ⟨Nat.le_refl _, Nat.le_refl _⟩ rfl (Nat.le_of_ble_eq_true rfl) dX12_readTold_57) hI (by decide) (fun σ_46 H locs hpσ_46 hkσ_46 hI => ?_)
          obtain ⟨ahpσ_46, bhpσ_46, chpσ_46, dhpσ_46, ehpσ_46⟩ := hpσ_46
          have fr_σ_46 := fr_σ_2.call ehpσ_46 rfl rfl
          replace hF := q_letX hF dhpσ_46
          have ks_σ_46 : q_KS (fun b g => b = a ∧ 12 ≤ g ∧ g ≤ 18) 9 X σ σ_46 := ks_σ_2.KS ahpσ_46 (by decide) (fun _ _ h => h)
          refine lv_iconst (v := 0) hx hb dX12_readTold_60 (by decide) ?_
          refine lv_iload_n hx hb dX12_readTold_61 rfl (lv_at hl 0 rfl) ?_
          have kc_47 : (0 : Int32).toInt = 0 := rfl
          refine q_ci (q_runS (As := [.int 0, .int r_33]) (rest := []) E (hml.trans hl.1.symm) hI (c_J9_max_7cf53 l X σ_46 (0 : Int32) r_33) ks_X12_220 rfl ⟨Nat.le_of_ble_eq_true rfl, Nat.le_of_ble_eq_true rfl⟩ ⟨Nat.le_refl _, Nat.le_refl _⟩ rfl (Nat.le_of_ble_eq_true rfl) dX12_readTold_62) hI (by decide) (fun r_48 σ_49 H locs hpσ_49 hkσ_49 hI => ?_)
          obtain ⟨ahpσ_49, bhpσ_49, chpσ_49⟩ := hpσ_49
          rw [ahpσ_49] at hI
          replace hF := q_letX hF chpσ_49
          exact q_reti E hr hlk hI ⟨ks_σ_46, (by omega), (by omega), (hF.trans hout), fr_σ_46⟩ dX12_readTold_65
        · skip
          replace hF := q_ifp hF c_43
          refine lv_aload_n hx hb dX12_readTold_46 rfl (lv_at hl 1 rfl) ?_
          refine lv_iconst (v := 3) hx hb dX12_readTold_47 (by decide) ?_
          refine lv_aload_n hx hb dX12_readTold_48 rfl (lv_at hl 1 rfl) ?_
          refine gs_X12_104_12 E hI ha dX12_readTold_49 ?_
          refine lv_topi (fun f_50 ef_50 => ?_)
          replace hF := q_letX hF ef_50
          have if_50 : f_50.toInt = (σ_2.1 a 15).toInt := congrArg Int32.toInt ef_50
          have kc_51 : (3 : Int32).toInt = 3 := rfl
          refine q_cv (q_runV (As := [.int 3, .int f_50]) (rest := []) E (hml.trans hl.1.symm) hI (c_X12_fail l X σ_2 a (3 : Int32) f_50 ha (by omega) (by omega)) kv_X12_193 ha ⟨rfl, by decide⟩ (show vwCl[11]? = some (RX12, TX12, 46) from rfl) rfl ⟨Nat.le_of_ble_eq_true rfl, Nat.le_of_ble_eq_true rfl⟩ ⟨Nat.le_refl _, Nat.le_refl _⟩ rfl (Nat.le_of_ble_eq_true rfl) dX12_readTold_52) hI (by decide) (fun σ_53 H locs hpσ_53 hkσ_53 hI => ?_)
          obtain ⟨ahpσ_53, bhpσ_53, chpσ_53, dhpσ_53, ehpσ_53⟩ := hpσ_53
          have fr_σ_53 := fr_σ_2.call ehpσ_53 rfl rfl
          replace hF := q_letX hF dhpσ_53
          have ks_σ_53 : q_KS (fun b g => b = a ∧ 12 ≤ g ∧ g ≤ 18) 9 X σ σ_53 := ks_σ_2.KS ahpσ_53 (by decide) (fun _ _ h => h)
          refine lv_aload_n hx hb dX12_readTold_55 rfl (lv_at hl 1 rfl) ?_
          refine lv_iconst (v := 1) hx hb dX12_readTold_56 (by decide) ?_
          have kc_54 : (1 : Int32).toInt = 1 := rfl
          refine q_cv (q_runV (As := [.int 1]) (rest := []) E (hml.trans hl.1.symm) hI (c_X12_must l X σ_53 a (1 : Int32) ha (by omega) (by omega)) kv_X12_216 ha ⟨rfl, by decide⟩ (show vwCl[11]? = some (RX12, TX12, 46) from rfl) rfl ⟨Nat.le_of_ble_eq_true rfl, Nat.le_of_ble_eq_true rfl⟩ ⟨Nat.le_refl _, Nat.le_refl _⟩ rfl (Nat.le_of_ble_eq_true rfl) dX12_readTold_57) hI (by decide) (fun σ_56 H locs hpσ_56 hkσ_56 hI => ?_)
          obtain ⟨ahpσ_56, bhpσ_56, chpσ_56, dhpσ_56, ehpσ_56⟩ := hpσ_56
          have fr_σ_56 := fr_σ_53.call ehpσ_56 rfl rfl
          replace hF := q_letX hF dhpσ_56
          have ks_σ_56 : q_KS (fun b g => b = a ∧ 12 ≤ g ∧ g ≤ 18) 9 X σ σ_56 := ks_σ_53.KS ahpσ_56 (by decide) (fun _ _ h => h)
          refine lv_iconst (v := 0) hx hb dX12_readTold_60 (by decide) ?_
          refine lv_iload_n hx hb dX12_readTold_61 rfl (lv_at hl 0 rfl) ?_
          have kc_57 : (0 : Int32).toInt = 0 := rfl
          refine q_ci (q_runS (As := [.int 0, .int r_33]) (rest := []) E (hml.trans hl.1.symm) hI (c_J9_max_7cf53 l X σ_56 (0 : Int32) r_33) ks_X12_220 rfl ⟨Nat.le_of_ble_eq_true rfl, Nat.le_of_ble_eq_true rfl⟩ ⟨Nat.le_refl _, Nat.le_refl _⟩ rfl (Nat.le_of_ble_eq_true rfl) dX12_readTold_62) hI (by decide) (fun r_58 σ_59 H locs hpσ_59 hkσ_59 hI => ?_)
          obtain ⟨ahpσ_59, bhpσ_59, chpσ_59⟩ := hpσ_59
          rw [ahpσ_59] at hI
          replace hF := q_letX hF chpσ_59
          exact q_reti E hr hlk hI ⟨ks_σ_56, (by omega), (by omega), (hF.trans hout), fr_σ_56⟩ dX12_readTold_65
  refine q_if_ne (A := f_1.toInt) E rfl (tgt := 18) dX12_readTold_4 (by decide) (fun c_60 => ?_) (fun c_60 => ?_)
  · skip
    replace hF := q_ifn hF c_60
    exact J_18_2 σ _ _ ls (by omega) ks_σ fr_σ hF hI (lv_sub hl [0, 1] rfl)
  · skip
    replace hF := q_ifp hF c_60
    refine lv_aload_n hx hb dX12_readTold_7 rfl (lv_at hl 0 rfl) ?_
    refine q_ci (q_runV (As := []) (rest := []) E (hml.trans hl.1.symm) hI (c_X12_isName l X σ a ha (by omega)) kv_X12_210 ha ⟨rfl, by decide⟩ (show vwCl[11]? = some (RX12, TX12, 46) from rfl) rfl ⟨Nat.le_of_ble_eq_true rfl, Nat.le_of_ble_eq_true rfl⟩ ⟨Nat.le_refl _, Nat.le_refl _⟩ rfl (Nat.le_of_ble_eq_true rfl) dX12_readTold_8) hI (by decide) (fun r_61 σ_62 H locs hpσ_62 hkσ_62 hI => ?_)
    obtain ⟨ahpσ_62, bhpσ_62, chpσ_62⟩ := hpσ_62
    rw [ahpσ_62] at hI
    replace hF := q_letX hF chpσ_62
    refine q_if_ne (A := r_61.toInt) E rfl (tgt := 18) dX12_readTold_11 (by decide) (fun c_63 => ?_) (fun c_63 => ?_)
    · skip
      replace hF := q_ifn hF c_63
      exact J_18_2 σ _ _ ls (by omega) ks_σ fr_σ hF hI (lv_sub hl [0, 1] rfl)
    · skip
      replace hF := q_ifp hF c_63
      refine lv_aload_n hx hb dX12_readTold_14 rfl (lv_at hl 0 rfl) ?_
      refine q_cv (q_runV (As := []) (rest := []) E (hml.trans hl.1.symm) hI (c_X12_wrong l X σ a ha (by omega)) kv_X12_200 ha ⟨rfl, by decide⟩ (show vwCl[11]? = some (RX12, TX12, 46) from rfl) rfl ⟨Nat.le_of_ble_eq_true rfl, Nat.le_of_ble_eq_true rfl⟩ ⟨Nat.le_refl _, Nat.le_refl _⟩ rfl (Nat.le_of_ble_eq_true rfl) dX12_readTold_15) hI (by decide) (fun σ_65 H locs hpσ_65 hkσ_65 hI => ?_)
      obtain ⟨ahpσ_65, bhpσ_65, chpσ_65, dhpσ_65, ehpσ_65⟩ := hpσ_65
      have fr_σ_65 := fr_σ.call ehpσ_65 rfl rfl
      replace hF := q_letX hF dhpσ_65
      have ks_σ_65 : q_KS (fun b g => b = a ∧ 12 ≤ g ∧ g ≤ 18) 9 X σ σ_65 := ks_σ.KS ahpσ_65 (by decide) (fun _ _ h => h)
      exact J_18_2 σ_65 _ _ ls (by omega) ks_σ_65 fr_σ_65 hF hI (lv_sub hl [0, 1] rfl)
end
/-! FROM 36.read.a.lean.txt -/
section
section QS
variable {p : Program} {l : Launch} {e : Env} {R : Room} {s : State} {m : MethodId} {args : Array Value} {below : List Frame} {meth : Method} {c : Code} {H : Heap} {locs : List Loc} {cells slots : Nat} {Q : State → Prop} {cc : ByteArray} {X : XW} {n : Nat} {σ0 σ : ST} {H0 : Heap} {pc : Nat} {ls : Array Slot} {rest : List Value} {a : Nat}
theorem gs_X12_232_12 (E : q_E p c cc s m args RX12 X) (hI : q_I X n σ0 H0 locs σ H) (ha : q_kd X a = 12) (hdg : decode cc pc = .ok (.getfield 232, 3)) (kk : W p l e R s m args below meth c H locs cells slots Q (F0 m (pc + 3) ls (.int (σ.1 a 25) :: rest))) : W p l e R s m args below meth c H locs cells slots Q (F0 m pc ls (.ref a :: rest)) :=
  q_getf (ref := "CheatHeapModel") E hI ha ⟨rfl, by decide⟩ (show vwCl[11]? = some (RX12, TX12, 46) from rfl) q_inX12 (f := 25) (by decide) (q_in_t (i := 1450) (by decide +kernel) rfl) (Or.inl rfl) rfl hdg kk
theorem ps_X12_232_12 (E : q_E p c cc s m args RX12 X) (hI : q_I X n σ0 H0 locs σ H) (ha : q_kd X a = 12) {v : Int32} (hcl : n < 3) (h1 : 0 ≤ v.toInt) (h2 : v.toInt ≤ 1) (hdg : decode cc pc = .ok (.putfield 232, 3)) (kk : ∀ (H1 : Heap) (locs1 : List Loc) (σ1 : ST), σ1 = q_si σ a 25 v → q_I X n σ0 H0 locs1 σ1 H1 → W p l e R s m args below meth c H1 locs1 cells slots Q (F0 m (pc + 3) ls rest)) : W p l e R s m args below meth c H locs cells slots Q (F0 m pc ls (.int v :: .ref a :: rest)) :=
  q_puti (ref := "CheatHeapModel") E hI ha ⟨rfl, by decide⟩ (show vwCl[11]? = some (RX12, TX12, 46) from rfl) q_inX12 tyX12_ok nmX12 (f := 25) (by decide) (q_in_t (i := 1450) (by decide +kernel) rfl) (Or.inl rfl) rfl rfl hcl hdg (q_inB rfl h1 h2) (Or.inr ⟨rfl, h1, h2⟩) (fun H1 l1 h => kk H1 l1 _ rfl h)
theorem gs_X12_236_12 (E : q_E p c cc s m args RX12 X) (hI : q_I X n σ0 H0 locs σ H) (ha : q_kd X a = 12) (hdg : decode cc pc = .ok (.getfield 236, 3)) (kk : W p l e R s m args below meth c H locs cells slots Q (F0 m (pc + 3) ls (.int (σ.1 a 26) :: rest))) : W p l e R s m args below meth c H locs cells slots Q (F0 m pc ls (.ref a :: rest)) :=
  q_getf (ref := "CheatHeapModel") E hI ha ⟨rfl, by decide⟩ (show vwCl[11]? = some (RX12, TX12, 46) from rfl) q_inX12 (f := 26) (by decide) (q_in_t (i := 1451) (by decide +kernel) rfl) (Or.inl rfl) rfl hdg kk
theorem ps_X12_236_12 (E : q_E p c cc s m args RX12 X) (hI : q_I X n σ0 H0 locs σ H) (ha : q_kd X a = 12) {v : Int32} (hcl : n < 3) (h1 : 0 ≤ v.toInt) (h2 : v.toInt ≤ 1) (hdg : decode cc pc = .ok (.putfield 236, 3)) (kk : ∀ (H1 : Heap) (locs1 : List Loc) (σ1 : ST), σ1 = q_si σ a 26 v → q_I X n σ0 H0 locs1 σ1 H1 → W p l e R s m args below meth c H1 locs1 cells slots Q (F0 m (pc + 3) ls rest)) : W p l e R s m args below meth c H locs cells slots Q (F0 m pc ls (.int v :: .ref a :: rest)) :=
  q_puti (ref := "CheatHeapModel") E hI ha ⟨rfl, by decide⟩ (show vwCl[11]? = some (RX12, TX12, 46) from rfl) q_inX12 tyX12_ok nmX12 (f := 26) (by decide) (q_in_t (i := 1451) (by decide +kernel) rfl) (Or.inl rfl) rfl rfl hcl hdg (q_inB rfl h1 h2) (Or.inr ⟨rfl, h1, h2⟩) (fun H1 l1 h => kk H1 l1 _ rfl h)
theorem kv_X12_223 : q_okV RX12 223 RX12 yX12_count cX12_count 4 (some .int) 2 := ⟨(q_in_t (i := 1671) (by decide +kernel) rfl), (q_in_t (i := 1673) (by decide +kernel) rfl), (q_in_p (i := 50) (by decide +kernel) rfl), (q_in_t (i := 14) (by decide +kernel) rfl), (q_in_t (i := 1674) (by decide +kernel) rfl), ⟨rfl, by decide, by decide, rfl⟩⟩
theorem kv_X12_226 : q_okV RX12 226 RX12 yX12_readTold cX12_readTold 3 (some .int) 1 := ⟨(q_in_t (i := 1759) (by decide +kernel) rfl), (q_in_t (i := 1761) (by decide +kernel) rfl), (q_in_p (i := 71) (by decide +kernel) rfl), (q_in_t (i := 14) (by decide +kernel) rfl), (q_in_t (i := 1762) (by decide +kernel) rfl), ⟨rfl, by decide, by decide, rfl⟩⟩
theorem gs_X12_41_12 (E : q_E p c cc s m args RX12 X) (hI : q_I X n σ0 H0 locs σ H) (ha : q_kd X a = 12) (hdg : decode cc pc = .ok (.getfield 41, 3)) (kk : W p l e R s m args below meth c H locs cells slots Q (F0 m (pc + 3) ls (.ref (q_rf X a 22) :: rest))) : W p l e R s m args below meth c H locs cells slots Q (F0 m pc ls (.ref a :: rest)) :=
  q_getf (ref := "CheatHeapModel") E hI ha ⟨rfl, by decide⟩ (show vwCl[11]? = some (RX12, TX12, 46) from rfl) q_inX12 (f := 22) (by decide) (q_in_t (i := 1447) (by decide +kernel) rfl) (Or.inl rfl) rfl hdg kk
theorem kv_X12_229 : q_okV RX12 229 RX12 yX12_toldOf cX12_toldOf 4 (some .int) 1 := ⟨(q_in_t (i := 1763) (by decide +kernel) rfl), (q_in_t (i := 1765) (by decide +kernel) rfl), (q_in_p (i := 72) (by decide +kernel) rfl), (q_in_t (i := 14) (by decide +kernel) rfl), (q_in_t (i := 1766) (by decide +kernel) rfl), ⟨rfl, by decide, by decide, rfl⟩⟩
end QS
end
