/-! FROM 36z.cpy.lean.txt -/
section
theorem m_cpy_n {c c0 : Int → Int} {B D k n : Int} (h : ∀ j : Int, 0 ≤ j → c j = if D ≤ j ∧ j < D + k then c0 (B + (j - D)) else c0 j) (e : k = n) : ∀ j : Int, 0 ≤ j → c j = if D ≤ j ∧ j < D + n then c0 (B + (j - D)) else c0 j := by
  subst e
  exact h
theorem m_cpy40 {c c' : Int → Int} {z w : Int} (hz : z = 0) (hw : w = 4) (h : ∀ j : Int, 0 ≤ j → c' j = if 930 * z ≤ j ∧ j < 930 * z + 930 then c (930 * w + (j - 930 * z)) else c j) : (∀ j : Int, 0 ≤ j → j < 930 → c' j = c (3720 + j)) ∧ ∀ j : Int, 930 ≤ j → c' j = c j := by
  subst hz
  subst hw
  refine ⟨fun j a b => ?_, fun j a => ?_⟩
  · rw [h j a, if_pos (by omega)]
    have e : (930 : Int) * 4 + (j - 930 * 0) = 3720 + j := by omega
    rw [e]
  · rw [h j (by omega), if_neg (by omega)]
theorem m_zs {c c' : Int → Int} {b k v : Int} (h : ∀ j, b ≤ j → j < b + k → c j = 0) (e : ∀ j : Int, 0 ≤ j → c' j = if j = b + k then v else c j) (hv : v = 0) (hb : 0 ≤ b) : ∀ j, b ≤ j → j < b + (k + 1) → c' j = 0 := by
  intro j h0 h1
  rw [e j (by omega)]
  split
  · exact hv
  · exact h j h0 (by omega)
end
/-! FROM 37.table.a.lean.txt -/
section
section QS
variable {p : Program} {l : Launch} {e : Env} {R : Room} {s : State} {m : MethodId} {args : Array Value} {below : List Frame} {meth : Method} {c : Code} {H : Heap} {locs : List Loc} {cells slots : Nat} {Q : State → Prop} {cc : ByteArray} {X : XW} {n : Nat} {σ0 σ : ST} {H0 : Heap} {pc : Nat} {ls : Array Slot} {rest : List Value} {a : Nat}
theorem ps_X12_98_12 (E : q_E p c cc s m args RX12 X) (hI : q_I X n σ0 H0 locs σ H) (ha : q_kd X a = 12) {v : Int32} (hcl : n < 3) (hdg : decode cc pc = .ok (.putfield 98, 3)) (kk : ∀ (H1 : Heap) (locs1 : List Loc) (σ1 : ST), σ1 = q_si σ a 9 v → q_I X n σ0 H0 locs1 σ1 H1 → W p l e R s m args below meth c H1 locs1 cells slots Q (F0 m (pc + 3) ls rest)) : W p l e R s m args below meth c H locs cells slots Q (F0 m pc ls (.int v :: .ref a :: rest)) :=
  q_puti (ref := "CheatHeapModel") E hI ha ⟨rfl, by decide⟩ (show vwCl[11]? = some (RX12, TX12, 46) from rfl) q_inX12 tyX12_ok nmX12 (f := 9) (by decide) (q_in_t6 (i := 234) (by first | rfl | decide +kernel) rfl) (Or.inl rfl) rfl rfl hcl hdg (q_inU rfl) (Or.inl rfl) (fun H1 l1 h => kk H1 l1 _ rfl h)
theorem ps_X12_28_12 (E : q_E p c cc s m args RX12 X) (hI : q_I X n σ0 H0 locs σ H) (ha : q_kd X a = 12) {v : Int32} (hcl : n < 9) (hdg : decode cc pc = .ok (.putfield 28, 3)) (kk : ∀ (H1 : Heap) (locs1 : List Loc) (σ1 : ST), σ1 = q_si σ a 10 v → q_I X n σ0 H0 locs1 σ1 H1 → W p l e R s m args below meth c H1 locs1 cells slots Q (F0 m (pc + 3) ls rest)) : W p l e R s m args below meth c H locs cells slots Q (F0 m pc ls (.int v :: .ref a :: rest)) :=
  q_puti (ref := "CheatHeapModel") E hI ha ⟨rfl, by decide⟩ (show vwCl[11]? = some (RX12, TX12, 46) from rfl) q_inX12 tyX12_ok nmX12 (f := 10) (by decide) (q_in_t6 (i := 235) (by first | rfl | decide +kernel) rfl) (Or.inl rfl) rfl rfl hcl hdg (q_inU rfl) (Or.inl rfl) (fun H1 l1 h => kk H1 l1 _ rfl h)
theorem gs_X12_190_12 (E : q_E p c cc s m args RX12 X) (hI : q_I X n σ0 H0 locs σ H) (ha : q_kd X a = 12) (hdg : decode cc pc = .ok (.getfield 190, 3)) (kk : W p l e R s m args below meth c H locs cells slots Q (F0 m (pc + 3) ls (.int (σ.1 a 13) :: rest))) : W p l e R s m args below meth c H locs cells slots Q (F0 m pc ls (.ref a :: rest)) :=
  q_getf (ref := "CheatHeapModel") E hI ha ⟨rfl, by decide⟩ (show vwCl[11]? = some (RX12, TX12, 46) from rfl) q_inX12 (f := 13) (by decide) (q_in_t6 (i := 238) (by first | rfl | decide +kernel) rfl) (Or.inl rfl) rfl hdg kk
theorem ps_X12_32_12 (E : q_E p c cc s m args RX12 X) (hI : q_I X n σ0 H0 locs σ H) (ha : q_kd X a = 12) {v : Int32} (hcl : n < 9) (hdg : decode cc pc = .ok (.putfield 32, 3)) (kk : ∀ (H1 : Heap) (locs1 : List Loc) (σ1 : ST), σ1 = q_si σ a 11 v → q_I X n σ0 H0 locs1 σ1 H1 → W p l e R s m args below meth c H1 locs1 cells slots Q (F0 m (pc + 3) ls rest)) : W p l e R s m args below meth c H locs cells slots Q (F0 m pc ls (.int v :: .ref a :: rest)) :=
  q_puti (ref := "CheatHeapModel") E hI ha ⟨rfl, by decide⟩ (show vwCl[11]? = some (RX12, TX12, 46) from rfl) q_inX12 tyX12_ok nmX12 (f := 11) (by decide) (q_in_t6 (i := 236) (by first | rfl | decide +kernel) rfl) (Or.inl rfl) rfl rfl hcl hdg (q_inU rfl) (Or.inl rfl) (fun H1 l1 h => kk H1 l1 _ rfl h)
theorem kv_X12_239 : q_okV RX12 239 RX12 yX12_opens cX12_opens 3 (some .boolean) 2 := ⟨(q_in_t7 (i := 184) (by first | rfl | decide +kernel) rfl), (q_in_t7 (i := 186) (by first | rfl | decide +kernel) rfl), (q_in_p (i := 41) (by decide +kernel) rfl), (q_in_t1 (i := 14) (by first | rfl | decide +kernel) rfl), (q_in_t7 (i := 187) (by first | rfl | decide +kernel) rfl), ⟨rfl, by decide, by decide, rfl⟩⟩
theorem kv_X12_243 : q_okV RX12 243 RX12 yX12_isSign cX12_isSign 2 (some .boolean) 1 := ⟨(q_in_t8 (i := 2) (by first | rfl | decide +kernel) rfl), (q_in_t8 (i := 4) (by first | rfl | decide +kernel) rfl), (q_in_p (i := 52) (by decide +kernel) rfl), (q_in_t1 (i := 14) (by first | rfl | decide +kernel) rfl), (q_in_t8 (i := 5) (by first | rfl | decide +kernel) rfl), ⟨rfl, by decide, by decide, rfl⟩⟩
theorem kv_X12_258 : q_okV RX12 258 RX12 yX12_isWell cX12_isWell 1 (some .boolean) 0 := ⟨(q_in_t8 (i := 87) (by first | rfl | decide +kernel) rfl), (q_in_t8 (i := 89) (by first | rfl | decide +kernel) rfl), (q_in_p (i := 73) (by decide +kernel) rfl), (q_in_t1 (i := 14) (by first | rfl | decide +kernel) rfl), (q_in_t8 (i := 90) (by first | rfl | decide +kernel) rfl), ⟨rfl, by decide, by decide, rfl⟩⟩
theorem kv_X12_261 : q_okV RX12 261 RX12 yX12_copy cX12_copy 4 none 2 := ⟨(q_in_t8 (i := 91) (by first | rfl | decide +kernel) rfl), (q_in_t8 (i := 93) (by first | rfl | decide +kernel) rfl), (q_in_p (i := 74) (by decide +kernel) rfl), (q_in_t1 (i := 14) (by first | rfl | decide +kernel) rfl), (q_in_t8 (i := 94) (by first | rfl | decide +kernel) rfl), ⟨rfl, by decide, by decide, rfl⟩⟩
theorem kv_X12_255 : q_okV RX12 255 RX12 yX12_readHand cX12_readHand 6 none 0 := ⟨(q_in_t8 (i := 75) (by first | rfl | decide +kernel) rfl), (q_in_t8 (i := 77) (by first | rfl | decide +kernel) rfl), (q_in_p (i := 70) (by decide +kernel) rfl), (q_in_t1 (i := 14) (by first | rfl | decide +kernel) rfl), (q_in_t8 (i := 78) (by first | rfl | decide +kernel) rfl), ⟨rfl, by decide, by decide, rfl⟩⟩
theorem kv_X12_252 : q_okV RX12 252 RX12 yX12_readPlayer cX12_readPlayer 2 none 0 := ⟨(q_in_t8 (i := 31) (by first | rfl | decide +kernel) rfl), (q_in_t8 (i := 33) (by first | rfl | decide +kernel) rfl), (q_in_p (i := 59) (by decide +kernel) rfl), (q_in_t1 (i := 14) (by first | rfl | decide +kernel) rfl), (q_in_t8 (i := 34) (by first | rfl | decide +kernel) rfl), ⟨rfl, by decide, by decide, rfl⟩⟩
theorem kv_X12_249 : q_okV RX12 249 RX12 yX12_readMost cX12_readMost 1 none 0 := ⟨(q_in_t8 (i := 23) (by first | rfl | decide +kernel) rfl), (q_in_t8 (i := 25) (by first | rfl | decide +kernel) rfl), (q_in_p (i := 57) (by decide +kernel) rfl), (q_in_t1 (i := 14) (by first | rfl | decide +kernel) rfl), (q_in_t8 (i := 26) (by first | rfl | decide +kernel) rfl), ⟨rfl, by decide, by decide, rfl⟩⟩
theorem kv_X12_246 : q_okV RX12 246 RX12 yX12_readLaw cX12_readLaw 1 none 0 := ⟨(q_in_t8 (i := 10) (by first | rfl | decide +kernel) rfl), (q_in_t8 (i := 12) (by first | rfl | decide +kernel) rfl), (q_in_p (i := 54) (by decide +kernel) rfl), (q_in_t1 (i := 14) (by first | rfl | decide +kernel) rfl), (q_in_t8 (i := 13) (by first | rfl | decide +kernel) rfl), ⟨rfl, by decide, by decide, rfl⟩⟩
end QS
end
/-! FROM 37.table.b00.lean.txt -/
section
set_option maxRecDepth 100000 in
set_option maxHeartbeats 4000000 in
theorem c_X12_opens (l : Launch) (X : XW) (σ : ST) (a : Nat) (v1 : Int32) (v2 : Int32) (ha : q_kd X a = 12) (h0 : v2.toInt ≤ 900) : Met l yX12_opens (q_ws yX12_opens cX12_opens 3 (some .boolean)) (q_rm 2 42) (q_P X σ [.ref a, .int v1, .int v2]) (q_Qi X 0 σ (fun (r : Int32) (σ' : ST) => (0 ≤ r.toInt ∧ r.toInt ≤ 1) ∧ (q_KS (fun b g => b = a ∧ 8 ≤ g ∧ g ≤ 18) 8 X σ σ') ∧ (r.toInt = 1 → (0 ≤ (σ'.1 a 15).toInt ∧ (σ'.1 a 15).toInt ≤ (σ'.1 a 16).toInt ∧ (σ'.1 a 16).toInt ≤ (σ'.1 a 9).toInt ∧ (σ'.1 a 9).toInt ≤ 900 ∧ 0 ≤ (σ'.1 a 14).toInt ∧ (σ'.1 a 14).toInt ≤ 4 ∧ (σ'.1 a 14).toInt ≤ 4 * ((σ'.1 a 16).toInt - (σ'.1 a 15).toInt) ∧ (σ'.1 a 14).toInt ≤ 4 * ((σ'.1 a 9).toInt - (σ'.1 a 15).toInt) ∧ 0 ≤ (σ'.1 a 12).toInt ∧ (σ'.1 a 12).toInt = 0 ∧ (σ'.1 a 8).toInt = 0 ∧ 0 ≤ v1.toInt ∧ v1.toInt ≤ (σ.1 a 8).toInt ∧ v1.toInt ≤ v2.toInt)) ∧ (r.toInt = 0 → ((σ'.1 a 8).toInt = (σ.1 a 8).toInt ∧ (v1.toInt < 0 ∨ (σ.1 a 8).toInt < v1.toInt ∨ v2.toInt < v1.toInt))) ∧ (∀ j, m_c X σ' a j = m_c X σ a j) ∧ (r, σ') = F_X12_opens X σ a v1 v2 ∧ q_ow [(12, 0), (12, 8), (12, 9), (12, 12), (12, 14), (12, 15), (12, 16), (12, 17), (12, 18)] [(12, 19)] X σ σ')) 0 0 (q_reg X) := by
  refine q_met 0 (by first | exact rfl | decide +kernel) rfl (Nat.le_of_ble_eq_true rfl) (fun p e s m below meth c E hml hr hlk hI ls hl => ?_)
  have hx := E.1
  have hb := E.2.1
  have hl : lv_has ls 3 [(0, .ref a), (1, .int v1), (2, .int v2)] := hl
  have ks_σ : q_KS (fun b g => b = a ∧ 8 ≤ g ∧ g ≤ 18) 8 X σ σ := q_KS.rf
  have kcσ : ∀ j, m_c X σ a j = m_c X σ a j := fun _ => rfl
  have fr_σ : q_ow [(12, 0), (12, 8), (12, 9), (12, 12), (12, 14), (12, 15), (12, 16), (12, 17), (12, 18)] [(12, 19)] X σ σ := q_ow.rf
  obtain ⟨out, hout⟩ : ∃ o, o = F_X12_opens X σ a v1 v2 := ⟨_, rfl⟩
  have hF := hout.symm
  unfold F_X12_opens at hF
  refine lv_iload_n hx hb dX12_opens_0 rfl (lv_at hl 1 rfl) ?_
  refine q_if_lt (A := v1.toInt) E rfl (tgt := 17) dX12_opens_1 (by decide) (fun c_1 => ?_) (fun c_1 => ?_)
  · skip
    replace hF := q_ifp hF c_1
    refine lv_aload_n hx hb dX12_opens_17 rfl (lv_at hl 0 rfl) ?_
    refine lv_iconst (v := 5) hx hb dX12_opens_18 zki_5 ?_
    have kc_2 : (5 : Int32).toInt = 5 := zt_5
    refine q_ci (q_rV11_1 (rest := []) E (hml.trans hl.1.symm) hI (c_X12_no l X σ a (5 : Int32) ha) kv_X12_74 ha ⟨Nat.le_of_ble_eq_true rfl, Nat.le_of_ble_eq_true rfl⟩ (Nat.le_of_ble_eq_true rfl) dX12_opens_19) hI (Nat.le_of_ble_eq_true rfl) (fun r_3 σ_4 H locs hpσ_4 hkσ_4 hI => ?_)
    have ahpσ_4 := hpσ_4.1
    have bhpσ_4 := hpσ_4.2.1
    have chpσ_4 := hpσ_4.2.2.1
    have dhpσ_4 := hpσ_4.2.2.2
    clear hpσ_4
    have fr_σ_4 := fr_σ.call dhpσ_4 rfl rfl
    replace hF := q_biX hF chpσ_4
    have mv9_σ_4 : (σ_4.1 a 9).toInt = (σ.1 a 9).toInt := congrArg Int32.toInt ((q_K.le hkσ_4 (by decide) : q_K 8 X σ σ_4) a 9 (by rw [ha]; decide))
    have mv12_σ_4 : (σ_4.1 a 12).toInt = (σ.1 a 12).toInt := congrArg Int32.toInt ((q_K.le hkσ_4 (by decide) : q_K 8 X σ σ_4) a 12 (by rw [ha]; decide))
    have mv14_σ_4 : (σ_4.1 a 14).toInt = (σ.1 a 14).toInt := congrArg Int32.toInt ((q_K.le hkσ_4 (by decide) : q_K 8 X σ σ_4) a 14 (by rw [ha]; decide))
    have mv15_σ_4 : (σ_4.1 a 15).toInt = (σ.1 a 15).toInt := congrArg Int32.toInt ((q_K.le hkσ_4 (by decide) : q_K 8 X σ σ_4) a 15 (by rw [ha]; decide))
    have mv16_σ_4 : (σ_4.1 a 16).toInt = (σ.1 a 16).toInt := congrArg Int32.toInt ((q_K.le hkσ_4 (by decide) : q_K 8 X σ σ_4) a 16 (by rw [ha]; decide))
    have mv17_σ_4 : (σ_4.1 a 17).toInt = (σ.1 a 17).toInt := congrArg Int32.toInt ((q_K.le hkσ_4 (by decide) : q_K 8 X σ σ_4) a 17 (by rw [ha]; decide))
    have mv8_σ_4 : (σ_4.1 a 8).toInt = (σ.1 a 8).toInt := congrArg Int32.toInt ((q_K.le hkσ_4 (by decide) : q_K 8 X σ σ_4) a 8 (by rw [ha]; decide))
    have mcσ_4 := m_cK hkσ_4 hI.1 ha (by decide)
    have kcσ_4 : ∀ j, m_c X σ_4 a j = m_c X σ a j := fun j => (mcσ_4 j).trans (kcσ j)
    have ks_σ_4 : q_KS (fun b g => b = a ∧ 8 ≤ g ∧ g ≤ 18) 8 X σ σ_4 := ks_σ.K hkσ_4 (by decide)
    exact q_retz E hr hlk hI ⟨by omega, by omega⟩ ⟨⟨by omega, by omega⟩, ks_σ_4, (by first | (clear h0 kcσ c_1 kc_2 ahpσ_4 chpσ_4 dhpσ_4 mv9_σ_4 mv12_σ_4 mv14_σ_4 mv15_σ_4 mv16_σ_4 mv17_σ_4 mv8_σ_4 kcσ_4; omega) | omega), (by first | (clear h0 kcσ kc_2 ahpσ_4 bhpσ_4 chpσ_4 dhpσ_4 mv9_σ_4 mv12_σ_4 mv14_σ_4 mv15_σ_4 mv16_σ_4 mv17_σ_4 kcσ_4; omega) | omega), kcσ_4, (hF.trans hout), fr_σ_4⟩ dX12_opens_22
  · skip
    replace hF := q_ifn hF (Int.not_lt.mpr c_1)
    refine lv_iload_n hx hb dX12_opens_4 rfl (lv_at hl 1 rfl) ?_
    refine lv_aload_n hx hb dX12_opens_5 rfl (lv_at hl 0 rfl) ?_
    refine gs_X12_203_12 E hI ha dX12_opens_6 ?_
    refine lv_topi (fun f_5 ef_5 => ?_)
    replace hF := q_letX hF ef_5
    have if_5 : f_5.toInt = (σ.1 a 8).toInt := congrArg Int32.toInt ef_5
    have bf_5 : 0 ≤ f_5.toInt ∧ f_5.toInt ≤ 900 := by rw [ef_5]; exact q_bd hI ha rfl
    refine q_icmp_gt (A := v1.toInt) (B := f_5.toInt) E rfl rfl (tgt := 17) dX12_opens_9 (by decide) (fun c_6 => ?_) (fun c_6 => ?_)
    · skip
      replace hF := q_ifp hF c_6
      refine lv_aload_n hx hb dX12_opens_17 rfl (lv_at hl 0 rfl) ?_
      refine lv_iconst (v := 5) hx hb dX12_opens_18 zki_5 ?_
      have kc_7 : (5 : Int32).toInt = 5 := zt_5
      refine q_ci (q_rV11_1 (rest := []) E (hml.trans hl.1.symm) hI (c_X12_no l X σ a (5 : Int32) ha) kv_X12_74 ha ⟨Nat.le_of_ble_eq_true rfl, Nat.le_of_ble_eq_true rfl⟩ (Nat.le_of_ble_eq_true rfl) dX12_opens_19) hI (Nat.le_of_ble_eq_true rfl) (fun r_8 σ_9 H locs hpσ_9 hkσ_9 hI => ?_)
      have ahpσ_9 := hpσ_9.1
      have bhpσ_9 := hpσ_9.2.1
      have chpσ_9 := hpσ_9.2.2.1
      have dhpσ_9 := hpσ_9.2.2.2
      clear hpσ_9
      have fr_σ_9 := fr_σ.call dhpσ_9 rfl rfl
      replace hF := q_biX hF chpσ_9
      have mv9_σ_9 : (σ_9.1 a 9).toInt = (σ.1 a 9).toInt := congrArg Int32.toInt ((q_K.le hkσ_9 (by decide) : q_K 8 X σ σ_9) a 9 (by rw [ha]; decide))
      have mv12_σ_9 : (σ_9.1 a 12).toInt = (σ.1 a 12).toInt := congrArg Int32.toInt ((q_K.le hkσ_9 (by decide) : q_K 8 X σ σ_9) a 12 (by rw [ha]; decide))
      have mv14_σ_9 : (σ_9.1 a 14).toInt = (σ.1 a 14).toInt := congrArg Int32.toInt ((q_K.le hkσ_9 (by decide) : q_K 8 X σ σ_9) a 14 (by rw [ha]; decide))
      have mv15_σ_9 : (σ_9.1 a 15).toInt = (σ.1 a 15).toInt := congrArg Int32.toInt ((q_K.le hkσ_9 (by decide) : q_K 8 X σ σ_9) a 15 (by rw [ha]; decide))
      have mv16_σ_9 : (σ_9.1 a 16).toInt = (σ.1 a 16).toInt := congrArg Int32.toInt ((q_K.le hkσ_9 (by decide) : q_K 8 X σ σ_9) a 16 (by rw [ha]; decide))
      have mv17_σ_9 : (σ_9.1 a 17).toInt = (σ.1 a 17).toInt := congrArg Int32.toInt ((q_K.le hkσ_9 (by decide) : q_K 8 X σ σ_9) a 17 (by rw [ha]; decide))
      have mv8_σ_9 : (σ_9.1 a 8).toInt = (σ.1 a 8).toInt := congrArg Int32.toInt ((q_K.le hkσ_9 (by decide) : q_K 8 X σ σ_9) a 8 (by rw [ha]; decide))
      have mcσ_9 := m_cK hkσ_9 hI.1 ha (by decide)
      have kcσ_9 : ∀ j, m_c X σ_9 a j = m_c X σ a j := fun j => (mcσ_9 j).trans (kcσ j)
      have ks_σ_9 : q_KS (fun b g => b = a ∧ 8 ≤ g ∧ g ≤ 18) 8 X σ σ_9 := ks_σ.K hkσ_9 (by decide)
      exact q_retz E hr hlk hI ⟨by omega, by omega⟩ ⟨⟨by omega, by omega⟩, ks_σ_9, (by first | (clear h0 kcσ c_1 if_5 bf_5 c_6 kc_7 ahpσ_9 chpσ_9 dhpσ_9 mv9_σ_9 mv12_σ_9 mv14_σ_9 mv15_σ_9 mv16_σ_9 mv17_σ_9 mv8_σ_9 kcσ_9; omega) | omega), (by first | (clear h0 kcσ c_1 bf_5 kc_7 ahpσ_9 bhpσ_9 chpσ_9 dhpσ_9 mv9_σ_9 mv12_σ_9 mv14_σ_9 mv15_σ_9 mv16_σ_9 mv17_σ_9 kcσ_9; omega) | omega), kcσ_9, (hF.trans hout), fr_σ_9⟩ dX12_opens_22
    · skip
      replace hF := q_ifn hF (Int.not_lt.mpr c_6)
      refine lv_iload_n hx hb dX12_opens_12 rfl (lv_at hl 1 rfl) ?_
      refine lv_iload_n hx hb dX12_opens_13 rfl (lv_at hl 2 rfl) ?_
      refine q_icmp_le (A := v1.toInt) (B := v2.toInt) E rfl rfl (tgt := 23) dX12_opens_14 (by decide) (fun c_10 => ?_) (fun c_10 => ?_)
      · skip
        replace hF := q_ifn hF (Int.not_lt.mpr c_10)
        refine lv_aload_n hx hb dX12_opens_23 rfl (lv_at hl 0 rfl) ?_
        refine lv_iload_n hx hb dX12_opens_24 rfl (lv_at hl 1 rfl) ?_
        refine ps_X12_98_12 E hI ha (by decide) dX12_opens_25 (fun H locs σ_11 hσ_11 hI => ?_)
        replace hF := q_letX hF hσ_11
        have fr_σ_11 := fr_σ.si hσ_11 ha rfl
        have ks_σ_11 : q_KS (fun b g => b = a ∧ 8 ≤ g ∧ g ≤ 18) 8 X σ σ_11 := ks_σ.siS hσ_11 ⟨rfl, by decide, by decide⟩
        have mv9_σ_11 : (σ_11.1 a 9).toInt = v1.toInt := congrArg Int32.toInt (q_rd hσ_11)
        have mv12_σ_11 : (σ_11.1 a 12).toInt = (σ.1 a 12).toInt := congrArg Int32.toInt (q_rdn hσ_11 (Or.inr (by decide)))
        have mv14_σ_11 : (σ_11.1 a 14).toInt = (σ.1 a 14).toInt := congrArg Int32.toInt (q_rdn hσ_11 (Or.inr (by decide)))
        have mv15_σ_11 : (σ_11.1 a 15).toInt = (σ.1 a 15).toInt := congrArg Int32.toInt (q_rdn hσ_11 (Or.inr (by decide)))
        have mv16_σ_11 : (σ_11.1 a 16).toInt = (σ.1 a 16).toInt := congrArg Int32.toInt (q_rdn hσ_11 (Or.inr (by decide)))
        have mv17_σ_11 : (σ_11.1 a 17).toInt = (σ.1 a 17).toInt := congrArg Int32.toInt (q_rdn hσ_11 (Or.inr (by decide)))
        have mv8_σ_11 : (σ_11.1 a 8).toInt = (σ.1 a 8).toInt := congrArg Int32.toInt (q_rdn hσ_11 (Or.inr (by decide)))
        have mcσ_11 := m_wo hσ_11 (m_ne ha (q_tk (f := 20) (k' := 34) hI ha rfl (by decide)) (by decide))
        have kcσ_11 : ∀ j, m_c X σ_11 a j = m_c X σ a j := fun j => (mcσ_11 j).trans (kcσ j)
        refine lv_aload_n hx hb dX12_opens_28 rfl (lv_at hl 0 rfl) ?_
        refine lv_iconst (v := 0) hx hb dX12_opens_29 zki_0 ?_
        refine ps_X12_203_12 E hI ha (by decide) (by decide) (by decide) dX12_opens_30 (fun H locs σ_12 hσ_12 hI => ?_)
        replace hF := q_letX hF hσ_12
        have fr_σ_12 := fr_σ_11.si hσ_12 ha rfl
        have ks_σ_12 : q_KS (fun b g => b = a ∧ 8 ≤ g ∧ g ≤ 18) 8 X σ σ_12 := ks_σ_11.siS hσ_12 ⟨rfl, by decide, by decide⟩
        have mv9_σ_12 : (σ_12.1 a 9).toInt = (σ_11.1 a 9).toInt := congrArg Int32.toInt (q_rdn hσ_12 (Or.inr (by decide)))
        have mv12_σ_12 : (σ_12.1 a 12).toInt = (σ_11.1 a 12).toInt := congrArg Int32.toInt (q_rdn hσ_12 (Or.inr (by decide)))
        have mv14_σ_12 : (σ_12.1 a 14).toInt = (σ_11.1 a 14).toInt := congrArg Int32.toInt (q_rdn hσ_12 (Or.inr (by decide)))
        have mv15_σ_12 : (σ_12.1 a 15).toInt = (σ_11.1 a 15).toInt := congrArg Int32.toInt (q_rdn hσ_12 (Or.inr (by decide)))
        have mv16_σ_12 : (σ_12.1 a 16).toInt = (σ_11.1 a 16).toInt := congrArg Int32.toInt (q_rdn hσ_12 (Or.inr (by decide)))
        have mv17_σ_12 : (σ_12.1 a 17).toInt = (σ_11.1 a 17).toInt := congrArg Int32.toInt (q_rdn hσ_12 (Or.inr (by decide)))
        have mv8_σ_12 : (σ_12.1 a 8).toInt = 0 := by rw [q_rd hσ_12]; rfl
        have mcσ_12 := m_wo hσ_12 (m_ne ha (q_tk (f := 20) (k' := 34) hI ha rfl (by decide)) (by decide))
        have kcσ_12 : ∀ j, m_c X σ_12 a j = m_c X σ a j := fun j => (mcσ_12 j).trans (kcσ_11 j)
        refine lv_aload_n hx hb dX12_opens_33 rfl (lv_at hl 0 rfl) ?_
        refine lv_iconst (v := 0) hx hb dX12_opens_34 zki_0 ?_
        refine ps_X12_101_12 E hI ha (by decide) dX12_opens_35 (fun H locs σ_13 hσ_13 hI => ?_)
        replace hF := q_letX hF hσ_13
        have fr_σ_13 := fr_σ_12.si hσ_13 ha rfl
        have ks_σ_13 : q_KS (fun b g => b = a ∧ 8 ≤ g ∧ g ≤ 18) 8 X σ σ_13 := ks_σ_12.siS hσ_13 ⟨rfl, by decide, by decide⟩
        have mv9_σ_13 : (σ_13.1 a 9).toInt = (σ_12.1 a 9).toInt := congrArg Int32.toInt (q_rdn hσ_13 (Or.inr (by decide)))
        have mv12_σ_13 : (σ_13.1 a 12).toInt = (σ_12.1 a 12).toInt := congrArg Int32.toInt (q_rdn hσ_13 (Or.inr (by decide)))
        have mv14_σ_13 : (σ_13.1 a 14).toInt = (σ_12.1 a 14).toInt := congrArg Int32.toInt (q_rdn hσ_13 (Or.inr (by decide)))
        have mv15_σ_13 : (σ_13.1 a 15).toInt = (σ_12.1 a 15).toInt := congrArg Int32.toInt (q_rdn hσ_13 (Or.inr (by decide)))
        have mv16_σ_13 : (σ_13.1 a 16).toInt = 0 := by rw [q_rd hσ_13]; rfl
        have mv17_σ_13 : (σ_13.1 a 17).toInt = (σ_12.1 a 17).toInt := congrArg Int32.toInt (q_rdn hσ_13 (Or.inr (by decide)))
        have mv8_σ_13 : (σ_13.1 a 8).toInt = (σ_12.1 a 8).toInt := congrArg Int32.toInt (q_rdn hσ_13 (Or.inr (by decide)))
        have mcσ_13 := m_wo hσ_13 (m_ne ha (q_tk (f := 20) (k' := 34) hI ha rfl (by decide)) (by decide))
        have kcσ_13 : ∀ j, m_c X σ_13 a j = m_c X σ a j := fun j => (mcσ_13 j).trans (kcσ_12 j)
        refine lv_aload_n hx hb dX12_opens_38 rfl (lv_at hl 0 rfl) ?_
        refine lv_iconst (v := 0) hx hb dX12_opens_39 zki_0 ?_
        refine ps_X12_187_12 E hI ha (by decide) dX12_opens_40 (fun H locs σ_14 hσ_14 hI => ?_)
        replace hF := q_letX hF hσ_14
        have fr_σ_14 := fr_σ_13.si hσ_14 ha rfl
        have ks_σ_14 : q_KS (fun b g => b = a ∧ 8 ≤ g ∧ g ≤ 18) 8 X σ σ_14 := ks_σ_13.siS hσ_14 ⟨rfl, by decide, by decide⟩
        have mv9_σ_14 : (σ_14.1 a 9).toInt = (σ_13.1 a 9).toInt := congrArg Int32.toInt (q_rdn hσ_14 (Or.inr (by decide)))
        have mv12_σ_14 : (σ_14.1 a 12).toInt = 0 := by rw [q_rd hσ_14]; rfl
        have mv14_σ_14 : (σ_14.1 a 14).toInt = (σ_13.1 a 14).toInt := congrArg Int32.toInt (q_rdn hσ_14 (Or.inr (by decide)))
        have mv15_σ_14 : (σ_14.1 a 15).toInt = (σ_13.1 a 15).toInt := congrArg Int32.toInt (q_rdn hσ_14 (Or.inr (by decide)))
        have mv16_σ_14 : (σ_14.1 a 16).toInt = (σ_13.1 a 16).toInt := congrArg Int32.toInt (q_rdn hσ_14 (Or.inr (by decide)))
        have mv17_σ_14 : (σ_14.1 a 17).toInt = (σ_13.1 a 17).toInt := congrArg Int32.toInt (q_rdn hσ_14 (Or.inr (by decide)))
        have mv8_σ_14 : (σ_14.1 a 8).toInt = (σ_13.1 a 8).toInt := congrArg Int32.toInt (q_rdn hσ_14 (Or.inr (by decide)))
        have mcσ_14 := m_wo hσ_14 (m_ne ha (q_tk (f := 20) (k' := 34) hI ha rfl (by decide)) (by decide))
        have kcσ_14 : ∀ j, m_c X σ_14 a j = m_c X σ a j := fun j => (mcσ_14 j).trans (kcσ_13 j)
        refine lv_aload_n hx hb dX12_opens_43 rfl (lv_at hl 0 rfl) ?_
        refine q_cv (q_rV11_0 (rest := []) E (hml.trans hl.1.symm) hI (c_X12_next l X σ_14 a ha (by first | (clear h0 kcσ c_1 if_5 bf_5 c_6 c_10 mv9_σ_11 mv12_σ_11 mv14_σ_11 mv15_σ_11 mv16_σ_11 mv17_σ_11 mv8_σ_11 kcσ_11 mv9_σ_12 mv12_σ_12 mv14_σ_12 mv15_σ_12 mv16_σ_12 mv17_σ_12 mv8_σ_12 kcσ_12 mv9_σ_13 mv12_σ_13 mv14_σ_13 mv15_σ_13 mv17_σ_13 mv8_σ_13 kcσ_13 mv9_σ_14 mv12_σ_14 mv14_σ_14 mv15_σ_14 mv17_σ_14 mv8_σ_14 kcσ_14; omega) | omega) (by first | (clear h0 kcσ if_5 bf_5 c_6 mv12_σ_11 mv14_σ_11 mv15_σ_11 mv16_σ_11 mv17_σ_11 mv8_σ_11 kcσ_11 mv12_σ_12 mv14_σ_12 mv15_σ_12 mv16_σ_12 mv17_σ_12 mv8_σ_12 kcσ_12 mv12_σ_13 mv14_σ_13 mv15_σ_13 mv17_σ_13 mv8_σ_13 kcσ_13 mv12_σ_14 mv14_σ_14 mv15_σ_14 mv17_σ_14 mv8_σ_14 kcσ_14; omega) | omega) (by first | (clear h0 kcσ c_1 if_5 bf_5 c_6 mv12_σ_11 mv14_σ_11 mv15_σ_11 mv16_σ_11 mv17_σ_11 mv8_σ_11 kcσ_11 mv12_σ_12 mv14_σ_12 mv15_σ_12 mv16_σ_12 mv17_σ_12 mv8_σ_12 kcσ_12 mv12_σ_13 mv14_σ_13 mv15_σ_13 mv16_σ_13 mv17_σ_13 mv8_σ_13 kcσ_13 mv12_σ_14 mv14_σ_14 mv15_σ_14 mv16_σ_14 mv17_σ_14 mv8_σ_14 kcσ_14; omega) | omega)) kv_X12_197 ha ⟨Nat.le_of_ble_eq_true rfl, Nat.le_of_ble_eq_true rfl⟩ (Nat.le_of_ble_eq_true rfl) dX12_opens_44) hI (Nat.le_of_ble_eq_true rfl) (fun σ_16 H locs hpσ_16 hkσ_16 hI => ?_)
        have ahpσ_16 := hpσ_16.1
        have bhpσ_16 := hpσ_16.2.1
        have chpσ_16 := hpσ_16.2.2.1
        have dhpσ_16 := hpσ_16.2.2.2.1
        have ehpσ_16 := hpσ_16.2.2.2.2
        clear hpσ_16
        have fr_σ_16 := fr_σ_14.call ehpσ_16 rfl rfl
        replace hF := q_letX hF dhpσ_16
        have mv8_σ_16 : (σ_16.1 a 8).toInt = (σ_14.1 a 8).toInt := congrArg Int32.toInt (hkσ_16 a 8 (by rw [ha]; decide))
        have mcσ_16 := m_cK hkσ_16 hI.1 ha (by decide)
        have kcσ_16 : ∀ j, m_c X σ_16 a j = m_c X σ a j := fun j => (mcσ_16 j).trans (kcσ_14 j)
        have ks_σ_16 : q_KS (fun b g => b = a ∧ 8 ≤ g ∧ g ≤ 18) 8 X σ σ_16 := ks_σ_14.KS ahpσ_16 (by decide) (fun b g h => ⟨h.1, by have := h.2; omega⟩)
        refine lv_iconst (v := 1) hx hb dX12_opens_47 zki_1 ?_
        have hrv : (1 : Int32).toInt = 1 := zt_1
        exact q_retz E hr hlk hI ⟨by decide, by decide⟩ ⟨⟨by decide, by decide⟩, ks_σ_16, (by first | (clear h0 kcσ bf_5 mv12_σ_11 mv14_σ_11 mv15_σ_11 mv16_σ_11 mv17_σ_11 kcσ_11 mv12_σ_12 mv14_σ_12 mv15_σ_12 mv16_σ_12 mv17_σ_12 kcσ_12 mv12_σ_13 mv14_σ_13 mv15_σ_13 mv16_σ_13 mv17_σ_13 kcσ_13 mv14_σ_14 mv15_σ_14 mv16_σ_14 mv17_σ_14 kcσ_14 ahpσ_16 dhpσ_16 ehpσ_16 kcσ_16 hrv; omega) | omega), (by first | (clear h0 kcσ c_1 if_5 bf_5 c_6 c_10 mv9_σ_11 mv12_σ_11 mv14_σ_11 mv15_σ_11 mv16_σ_11 mv17_σ_11 mv8_σ_11 kcσ_11 mv9_σ_12 mv12_σ_12 mv14_σ_12 mv15_σ_12 mv16_σ_12 mv17_σ_12 mv8_σ_12 kcσ_12 mv9_σ_13 mv12_σ_13 mv14_σ_13 mv15_σ_13 mv16_σ_13 mv17_σ_13 mv8_σ_13 kcσ_13 mv9_σ_14 mv12_σ_14 mv14_σ_14 mv15_σ_14 mv16_σ_14 mv17_σ_14 mv8_σ_14 kcσ_14 ahpσ_16 bhpσ_16 chpσ_16 dhpσ_16 ehpσ_16 mv8_σ_16 kcσ_16; omega) | omega), kcσ_16, (hF.trans hout), fr_σ_16⟩ dX12_opens_48
      · skip
        replace hF := q_ifp hF c_10
        refine lv_aload_n hx hb dX12_opens_17 rfl (lv_at hl 0 rfl) ?_
        refine lv_iconst (v := 5) hx hb dX12_opens_18 zki_5 ?_
        have kc_17 : (5 : Int32).toInt = 5 := zt_5
        refine q_ci (q_rV11_1 (rest := []) E (hml.trans hl.1.symm) hI (c_X12_no l X σ a (5 : Int32) ha) kv_X12_74 ha ⟨Nat.le_of_ble_eq_true rfl, Nat.le_of_ble_eq_true rfl⟩ (Nat.le_of_ble_eq_true rfl) dX12_opens_19) hI (Nat.le_of_ble_eq_true rfl) (fun r_18 σ_19 H locs hpσ_19 hkσ_19 hI => ?_)
        have ahpσ_19 := hpσ_19.1
        have bhpσ_19 := hpσ_19.2.1
        have chpσ_19 := hpσ_19.2.2.1
        have dhpσ_19 := hpσ_19.2.2.2
        clear hpσ_19
        have fr_σ_19 := fr_σ.call dhpσ_19 rfl rfl
        replace hF := q_biX hF chpσ_19
        have mv9_σ_19 : (σ_19.1 a 9).toInt = (σ.1 a 9).toInt := congrArg Int32.toInt ((q_K.le hkσ_19 (by decide) : q_K 8 X σ σ_19) a 9 (by rw [ha]; decide))
        have mv12_σ_19 : (σ_19.1 a 12).toInt = (σ.1 a 12).toInt := congrArg Int32.toInt ((q_K.le hkσ_19 (by decide) : q_K 8 X σ σ_19) a 12 (by rw [ha]; decide))
        have mv14_σ_19 : (σ_19.1 a 14).toInt = (σ.1 a 14).toInt := congrArg Int32.toInt ((q_K.le hkσ_19 (by decide) : q_K 8 X σ σ_19) a 14 (by rw [ha]; decide))
        have mv15_σ_19 : (σ_19.1 a 15).toInt = (σ.1 a 15).toInt := congrArg Int32.toInt ((q_K.le hkσ_19 (by decide) : q_K 8 X σ σ_19) a 15 (by rw [ha]; decide))
        have mv16_σ_19 : (σ_19.1 a 16).toInt = (σ.1 a 16).toInt := congrArg Int32.toInt ((q_K.le hkσ_19 (by decide) : q_K 8 X σ σ_19) a 16 (by rw [ha]; decide))
        have mv17_σ_19 : (σ_19.1 a 17).toInt = (σ.1 a 17).toInt := congrArg Int32.toInt ((q_K.le hkσ_19 (by decide) : q_K 8 X σ σ_19) a 17 (by rw [ha]; decide))
        have mv8_σ_19 : (σ_19.1 a 8).toInt = (σ.1 a 8).toInt := congrArg Int32.toInt ((q_K.le hkσ_19 (by decide) : q_K 8 X σ σ_19) a 8 (by rw [ha]; decide))
        have mcσ_19 := m_cK hkσ_19 hI.1 ha (by decide)
        have kcσ_19 : ∀ j, m_c X σ_19 a j = m_c X σ a j := fun j => (mcσ_19 j).trans (kcσ j)
        have ks_σ_19 : q_KS (fun b g => b = a ∧ 8 ≤ g ∧ g ≤ 18) 8 X σ σ_19 := ks_σ.K hkσ_19 (by decide)
        exact q_retz E hr hlk hI ⟨by omega, by omega⟩ ⟨⟨by omega, by omega⟩, ks_σ_19, (by first | (clear h0 kcσ c_1 if_5 bf_5 c_6 c_10 kc_17 ahpσ_19 chpσ_19 dhpσ_19 mv9_σ_19 mv12_σ_19 mv14_σ_19 mv15_σ_19 mv16_σ_19 mv17_σ_19 mv8_σ_19 kcσ_19; omega) | omega), (by first | (clear h0 kcσ c_1 if_5 bf_5 c_6 kc_17 ahpσ_19 bhpσ_19 chpσ_19 dhpσ_19 mv9_σ_19 mv12_σ_19 mv14_σ_19 mv15_σ_19 mv16_σ_19 mv17_σ_19 kcσ_19; omega) | omega), kcσ_19, (hF.trans hout), fr_σ_19⟩ dX12_opens_22

set_option maxRecDepth 100000 in
set_option maxHeartbeats 4000000 in
theorem c_X12_isWell (l : Launch) (X : XW) (σ : ST) (a : Nat) (ha : q_kd X a = 12) : Met l yX12_isWell (q_ws yX12_isWell cX12_isWell 1 (some .boolean)) (q_rm 1 21) (q_P X σ [.ref a]) (q_Qi X 8 σ (fun (r : Int32) (σ' : ST) => (0 ≤ r.toInt ∧ r.toInt ≤ 1) ∧ (r.toInt = 1 → (σ.1 a 12).toInt = 0) ∧ (r, σ') = F_X12_isWell X σ a ∧ q_ow [(12, 0), (12, 10), (12, 11)] [] X σ σ')) 0 0 (q_reg X) := by
  refine q_met 8 (by first | exact rfl | decide +kernel) rfl (Nat.le_of_ble_eq_true rfl) (fun p e s m below meth c E hml hr hlk hI ls hl => ?_)
  have hx := E.1
  have hb := E.2.1
  have hl : lv_has ls 1 [(0, .ref a)] := hl
  have fr_σ : q_ow [(12, 0), (12, 10), (12, 11)] [] X σ σ := q_ow.rf
  obtain ⟨out, hout⟩ : ∃ o, o = F_X12_isWell X σ a := ⟨_, rfl⟩
  have hF := hout.symm
  unfold F_X12_isWell at hF
  refine lv_aload_n hx hb dX12_isWell_0 rfl (lv_at hl 0 rfl) ?_
  refine lv_aload_n hx hb dX12_isWell_1 rfl (lv_at hl 0 rfl) ?_
  refine gs_X12_187_12 E hI ha dX12_isWell_2 ?_
  refine lv_topi (fun f_1 ef_1 => ?_)
  replace hF := q_letX hF ef_1
  have if_1 : f_1.toInt = (σ.1 a 12).toInt := congrArg Int32.toInt ef_1
  refine ps_X12_28_12 E hI ha (by decide) dX12_isWell_5 (fun H locs σ_2 hσ_2 hI => ?_)
  replace hF := q_letX hF hσ_2
  have fr_σ_2 := fr_σ.si hσ_2 ha rfl
  have mv12_σ_2 : (σ_2.1 a 12).toInt = (σ.1 a 12).toInt := congrArg Int32.toInt (q_rdn hσ_2 (Or.inr (by decide)))
  refine lv_aload_n hx hb dX12_isWell_8 rfl (lv_at hl 0 rfl) ?_
  refine lv_aload_n hx hb dX12_isWell_9 rfl (lv_at hl 0 rfl) ?_
  refine gs_X12_187_12 E hI ha dX12_isWell_10 ?_
  refine lv_topi (fun f_3 ef_3 => ?_)
  replace hF := q_letX hF ef_3
  have if_3 : f_3.toInt = (σ_2.1 a 12).toInt := congrArg Int32.toInt ef_3
  refine q_if_ne (A := f_3.toInt) E rfl (tgt := 20) dX12_isWell_13 (by decide) (fun c_4 => ?_) (fun c_4 => ?_)
  · skip
    replace hF := q_ifn hF c_4
    refine lv_aload_n hx hb dX12_isWell_20 rfl (lv_at hl 0 rfl) ?_
    refine gs_X12_190_12 E hI ha dX12_isWell_21 ?_
    refine lv_topi (fun f_5 ef_5 => ?_)
    replace hF := q_letX hF ef_5
    have if_5 : f_5.toInt = (σ_2.1 a 13).toInt := congrArg Int32.toInt ef_5
    refine ps_X12_32_12 E hI ha (by decide) dX12_isWell_24 (fun H locs σ_6 hσ_6 hI => ?_)
    replace hF := q_letX hF hσ_6
    have fr_σ_6 := fr_σ_2.si hσ_6 ha rfl
    have mv12_σ_6 : (σ_6.1 a 12).toInt = (σ_2.1 a 12).toInt := congrArg Int32.toInt (q_rdn hσ_6 (Or.inr (by decide)))
    refine lv_aload_n hx hb dX12_isWell_27 rfl (lv_at hl 0 rfl) ?_
    refine gs_X12_187_12 E hI ha dX12_isWell_28 ?_
    refine lv_topi (fun f_7 ef_7 => ?_)
    replace hF := q_letX hF ef_7
    have if_7 : f_7.toInt = (σ_6.1 a 12).toInt := congrArg Int32.toInt ef_7
    refine q_if_eq (A := f_7.toInt) E rfl (tgt := 43) dX12_isWell_31 (by decide) (fun c_8 => ?_) (fun c_8 => ?_)
    · skip
      replace hF := q_ifp hF c_8
      refine lv_iconst (v := 1) hx hb dX12_isWell_43 zki_1 ?_
      refine lv_goto (tgt := 48) hx hb dX12_isWell_44 (by decide) ?_
      have hrv : (1 : Int32).toInt = 1 := zt_1
      exact q_retz E hr hlk hI ⟨by decide, by decide⟩ ⟨⟨by decide, by decide⟩, (by first | (clear if_1 c_4 if_5 hrv; omega) | omega), (hF.trans hout), fr_σ_6⟩ dX12_isWell_48
    · skip
      replace hF := q_ifn hF c_8
      refine lv_aload_n hx hb dX12_isWell_34 rfl (lv_at hl 0 rfl) ?_
      refine lv_bipush (v := 10) hx hb dX12_isWell_35 zkb_10 ?_
      have kc_9 : (10 : Int32).toInt = 10 := zt_10
      refine q_ci (q_rV11_1 (rest := []) E (hml.trans hl.1.symm) hI (c_X12_no l X σ_6 a (10 : Int32) ha) kv_X12_74 ha ⟨Nat.le_of_ble_eq_true rfl, Nat.le_of_ble_eq_true rfl⟩ (Nat.le_of_ble_eq_true rfl) dX12_isWell_37) hI (Nat.le_of_ble_eq_true rfl) (fun r_10 σ_11 H locs hpσ_11 hkσ_11 hI => ?_)
      have ahpσ_11 := hpσ_11.1
      have bhpσ_11 := hpσ_11.2.1
      have chpσ_11 := hpσ_11.2.2.1
      have dhpσ_11 := hpσ_11.2.2.2
      clear hpσ_11
      have fr_σ_11 := fr_σ_6.call dhpσ_11 rfl rfl
      replace hF := q_biX hF chpσ_11
      have mv12_σ_11 : (σ_11.1 a 12).toInt = (σ_6.1 a 12).toInt := congrArg Int32.toInt ((q_K.le hkσ_11 (by decide) : q_K 8 X σ_6 σ_11) a 12 (by rw [ha]; decide))
      refine q_if_eq (A := r_10.toInt) E rfl (tgt := 47) dX12_isWell_40 (by decide) (fun c_12 => ?_) (fun c_12 => ?_)
      · skip
        replace hF := q_ifp hF c_12
        refine lv_iconst (v := 0) hx hb dX12_isWell_47 zki_0 ?_
        have hrv : (0 : Int32).toInt = 0 := zt_0
        exact q_retz E hr hlk hI ⟨by decide, by decide⟩ ⟨⟨by decide, by decide⟩, (by first | (clear if_1 mv12_σ_2 if_3 c_4 if_5 mv12_σ_6 if_7 c_8 kc_9 ahpσ_11 bhpσ_11 chpσ_11 dhpσ_11 mv12_σ_11 c_12; omega) | omega), (hF.trans hout), fr_σ_11⟩ dX12_isWell_48
      · skip
        replace hF := q_ifn hF c_12
        replace c_12 := q_ifOne ahpσ_11 c_12
        refine lv_iconst (v := 1) hx hb dX12_isWell_43 zki_1 ?_
        refine lv_goto (tgt := 48) hx hb dX12_isWell_44 (by decide) ?_
        have hrv : (1 : Int32).toInt = 1 := zt_1
        exact q_retz E hr hlk hI ⟨by decide, by decide⟩ ⟨⟨by decide, by decide⟩, (by first | (clear if_1 mv12_σ_2 if_3 c_4 if_5 mv12_σ_6 if_7 c_8 kc_9 ahpσ_11 chpσ_11 dhpσ_11 mv12_σ_11 hrv; omega) | omega), (hF.trans hout), fr_σ_11⟩ dX12_isWell_48
  · skip
    replace hF := q_ifp hF c_4
    refine lv_iconst (v := (-1)) hx hb dX12_isWell_16 zki_m1 ?_
    refine lv_goto (tgt := 24) hx hb dX12_isWell_17 (by decide) ?_
    refine ps_X12_32_12 E hI ha (by decide) dX12_isWell_24 (fun H locs σ_13 hσ_13 hI => ?_)
    replace hF := q_letX hF hσ_13
    have fr_σ_13 := fr_σ_2.si hσ_13 ha rfl
    have mv12_σ_13 : (σ_13.1 a 12).toInt = (σ_2.1 a 12).toInt := congrArg Int32.toInt (q_rdn hσ_13 (Or.inr (by decide)))
    refine lv_aload_n hx hb dX12_isWell_27 rfl (lv_at hl 0 rfl) ?_
    refine gs_X12_187_12 E hI ha dX12_isWell_28 ?_
    refine lv_topi (fun f_14 ef_14 => ?_)
    replace hF := q_letX hF ef_14
    have if_14 : f_14.toInt = (σ_13.1 a 12).toInt := congrArg Int32.toInt ef_14
    refine q_if_eq (A := f_14.toInt) E rfl (tgt := 43) dX12_isWell_31 (by decide) (fun c_15 => ?_) (fun c_15 => ?_)
    · skip
      replace hF := q_ifp hF c_15
      refine lv_iconst (v := 1) hx hb dX12_isWell_43 zki_1 ?_
      refine lv_goto (tgt := 48) hx hb dX12_isWell_44 (by decide) ?_
      have hrv : (1 : Int32).toInt = 1 := zt_1
      exact q_retz E hr hlk hI ⟨by decide, by decide⟩ ⟨⟨by decide, by decide⟩, (by first | (clear if_1 mv12_σ_13 if_14 c_15 hrv; omega) | omega), (hF.trans hout), fr_σ_13⟩ dX12_isWell_48
    · skip
      replace hF := q_ifn hF c_15
      refine lv_aload_n hx hb dX12_isWell_34 rfl (lv_at hl 0 rfl) ?_
      refine lv_bipush (v := 10) hx hb dX12_isWell_35 zkb_10 ?_
      have kc_16 : (10 : Int32).toInt = 10 := zt_10
      refine q_ci (q_rV11_1 (rest := []) E (hml.trans hl.1.symm) hI (c_X12_no l X σ_13 a (10 : Int32) ha) kv_X12_74 ha ⟨Nat.le_of_ble_eq_true rfl, Nat.le_of_ble_eq_true rfl⟩ (Nat.le_of_ble_eq_true rfl) dX12_isWell_37) hI (Nat.le_of_ble_eq_true rfl) (fun r_17 σ_18 H locs hpσ_18 hkσ_18 hI => ?_)
      have ahpσ_18 := hpσ_18.1
      have bhpσ_18 := hpσ_18.2.1
      have chpσ_18 := hpσ_18.2.2.1
      have dhpσ_18 := hpσ_18.2.2.2
      clear hpσ_18
      have fr_σ_18 := fr_σ_13.call dhpσ_18 rfl rfl
      replace hF := q_biX hF chpσ_18
      have mv12_σ_18 : (σ_18.1 a 12).toInt = (σ_13.1 a 12).toInt := congrArg Int32.toInt ((q_K.le hkσ_18 (by decide) : q_K 8 X σ_13 σ_18) a 12 (by rw [ha]; decide))
      refine q_if_eq (A := r_17.toInt) E rfl (tgt := 47) dX12_isWell_40 (by decide) (fun c_19 => ?_) (fun c_19 => ?_)
      · skip
        replace hF := q_ifp hF c_19
        refine lv_iconst (v := 0) hx hb dX12_isWell_47 zki_0 ?_
        have hrv : (0 : Int32).toInt = 0 := zt_0
        exact q_retz E hr hlk hI ⟨by decide, by decide⟩ ⟨⟨by decide, by decide⟩, (by first | (clear if_1 mv12_σ_2 if_3 c_4 mv12_σ_13 if_14 c_15 kc_16 ahpσ_18 bhpσ_18 chpσ_18 dhpσ_18 mv12_σ_18 c_19; omega) | omega), (hF.trans hout), fr_σ_18⟩ dX12_isWell_48
      · skip
        replace hF := q_ifn hF c_19
        replace c_19 := q_ifOne ahpσ_18 c_19
        refine lv_iconst (v := 1) hx hb dX12_isWell_43 zki_1 ?_
        refine lv_goto (tgt := 48) hx hb dX12_isWell_44 (by decide) ?_
        have hrv : (1 : Int32).toInt = 1 := zt_1
        exact q_retz E hr hlk hI ⟨by decide, by decide⟩ ⟨⟨by decide, by decide⟩, (by first | (clear if_1 mv12_σ_2 if_3 c_4 mv12_σ_13 if_14 c_15 kc_16 ahpσ_18 chpσ_18 dhpσ_18 mv12_σ_18 hrv; omega) | omega), (hF.trans hout), fr_σ_18⟩ dX12_isWell_48

set_option maxRecDepth 100000 in
set_option maxHeartbeats 4000000 in
theorem c_X12_copy (l : Launch) (X : XW) (σ : ST) (a : Nat) (v1 : Int32) (v2 : Int32) (ha : q_kd X a = 12) (h0 : 0 ≤ v1.toInt ∧ v1.toInt ≤ 4) (h1 : 0 ≤ v2.toInt ∧ v2.toInt ≤ 3) (h2 : v1.toInt ≠ v2.toInt) : Met l yX12_copy (q_ws yX12_copy cX12_copy 4 none) (q_rm 0 0) (q_P X σ [.ref a, .int v1, .int v2]) (q_Qv X 1 σ (fun (σ' : ST) => (∀ j : Int, 0 ≤ j → m_c X σ' a j = if 930 * v2.toInt ≤ j ∧ j < 930 * v2.toInt + 930 then m_c X σ a (930 * v1.toInt + (j - 930 * v2.toInt)) else m_c X σ a j) ∧ σ' = F_X12_copy X σ a v1 v2 ∧ q_ow [(34, 99)] [(37, 99)] X σ σ')) 0 0 (q_reg X) := by
  refine q_met 1 (by first | exact rfl | decide +kernel) rfl (Nat.le_of_ble_eq_true rfl) (fun p e s m below meth c E hml hr hlk hI ls hl => ?_)
  have hx := E.1
  have hb := E.2.1
  have hl : lv_has ls 4 [(0, .ref a), (1, .int v1), (2, .int v2)] := hl
  have fr_σ : q_ow [(34, 99)] [(37, 99)] X σ σ := q_ow.rf
  obtain ⟨out, hout⟩ : ∃ o, o = F_X12_copy X σ a v1 v2 := ⟨_, rfl⟩
  have hF := hout.symm
  unfold F_X12_copy at hF
  refine lv_iconst (v := 0) hx hb dX12_copy_0 zki_0 ?_
  refine lv_istore_n (lv' := [(3, .int 0), (0, .ref a), (1, .int v1), (2, .int v2)]) hx hb dX12_copy_1 rfl hl (by decide) rfl (fun ls hl => ?_)
  have L_2_3 : ∀ (k_3 : Nat) (x_1 : Int32) (σ_2 : ST) (H : Heap) (locs : List Loc) (ls : Array Slot), (2147483647 - x_1.toInt).toNat < k_3 → (0 ≤ x_1.toInt ∧ x_1.toInt ≤ 930) → (∀ j : Int, 0 ≤ j → m_c X σ_2 a j = if 930 * v2.toInt ≤ j ∧ j < 930 * v2.toInt + x_1.toInt then m_c X σ a (930 * v1.toInt + (j - 930 * v2.toInt)) else m_c X σ a j) → (q_ow [(34, 99)] [(37, 99)] X σ σ_2) → (F_X12_copy_L2_1 X v2 v1 a k_3 x_1 σ_2 = out) → q_I X 1 σ s.heap locs σ_2 H → lv_has ls 4 [(0, .ref a), (1, .int v1), (2, .int v2), (3, .int x_1)] → W p l e (q_rm 0 0) s m ([.ref a, .int v1, .int v2] : List Value).toArray below meth c H locs 0 0 (MQ below (q_Qv X 1 σ (fun (σ' : ST) => (∀ j : Int, 0 ≤ j → m_c X σ' a j = if 930 * v2.toInt ≤ j ∧ j < 930 * v2.toInt + 930 then m_c X σ a (930 * v1.toInt + (j - 930 * v2.toInt)) else m_c X σ a j) ∧ σ' = F_X12_copy X σ a v1 v2 ∧ q_ow [(34, 99)] [(37, 99)] X σ σ')) ([.ref a, .int v1, .int v2] : List Value).toArray s 0 0 (q_reg X)) (F0 m 2 ls []) := by
    clear hF
    intro k_3
    induction k_3 with
    | zero =>
      intro x_1 σ_2 H locs ls hms
      try clear fr_σ
      exact absurd hms (Nat.not_lt_zero _)
    | succ k_3 ih2 =>
      intro x_1 σ_2 H locs ls hm2 hge2 cpσ_2 fr_σ_2 hF hI hl
      replace hF := (F_X12_copy_L2_1_s).symm.trans hF
      unfold F_X12_copy_B2_1 at hF
      refine lv_iload_n hx hb dX12_copy_2 rfl (lv_at hl 3 rfl) ?_
      refine lv_sipush (v := 930) hx hb dX12_copy_3 zks_930 ?_
      have gc_4_x_1 := q_rng x_1
      refine q_icmp_ge (A := x_1.toInt) (B := 930) E rfl (by decide) (tgt := 39) dX12_copy_6 (by decide) (fun c_4 => ?_) (fun c_4 => ?_)
      · skip
        replace hF := q_ifn hF (Int.not_lt.mpr c_4)
        skip
        refine lv_iconst (v := 0) hx hb dX12_copy_39 zki_0 ?_
        refine lv_istore_n (lv' := [(3, .int 0), (0, .ref a), (1, .int v1), (2, .int v2)]) hx hb dX12_copy_40 rfl hl (by decide) rfl (fun ls hl => ?_)
        have L_41_7 : ∀ (k_7 : Nat) (x_5 : Int32) (σ_6 : ST) (H : Heap) (locs : List Loc) (ls : Array Slot), (2147483647 - x_5.toInt).toNat < k_7 → (0 ≤ x_5.toInt ∧ x_5.toInt ≤ 6) → (∀ j : Int, 0 ≤ j → m_c X σ_6 a j = if 930 * v2.toInt ≤ j ∧ j < 930 * v2.toInt + 930 then m_c X σ a (930 * v1.toInt + (j - 930 * v2.toInt)) else m_c X σ a j) → (q_ow [(34, 99)] [(37, 99)] X σ σ_6) → (F_X12_copy_L41_3 X v2 v1 a k_7 x_5 σ_6 = out) → q_I X 1 σ s.heap locs σ_6 H → lv_has ls 4 [(0, .ref a), (1, .int v1), (2, .int v2), (3, .int x_5)] → W p l e (q_rm 0 0) s m ([.ref a, .int v1, .int v2] : List Value).toArray below meth c H locs 0 0 (MQ below (q_Qv X 1 σ (fun (σ' : ST) => (∀ j : Int, 0 ≤ j → m_c X σ' a j = if 930 * v2.toInt ≤ j ∧ j < 930 * v2.toInt + 930 then m_c X σ a (930 * v1.toInt + (j - 930 * v2.toInt)) else m_c X σ a j) ∧ σ' = F_X12_copy X σ a v1 v2 ∧ q_ow [(34, 99)] [(37, 99)] X σ σ')) ([.ref a, .int v1, .int v2] : List Value).toArray s 0 0 (q_reg X)) (F0 m 41 ls []) := by
          clear hF
          intro k_7
          induction k_7 with
          | zero =>
            intro x_5 σ_6 H locs ls hms
            exact absurd hms (Nat.not_lt_zero _)
          | succ k_7 ih41 =>
            intro x_5 σ_6 H locs ls hm41 hge41 cpσ_6 fr_σ_6 hF hI hl
            replace hF := (F_X12_copy_L41_3_s).symm.trans hF
            unfold F_X12_copy_B41_3 at hF
            refine lv_iload_n hx hb dX12_copy_41 rfl (lv_at hl 3 rfl) ?_
            refine lv_bipush (v := 6) hx hb dX12_copy_42 zkb_6 ?_
            have gc_8_x_5 := q_rng x_5
            refine q_icmp_ge (A := x_5.toInt) (B := 6) E rfl (by decide) (tgt := 75) dX12_copy_44 (by decide) (fun c_8 => ?_) (fun c_8 => ?_)
            · skip
              replace hF := q_ifn hF (Int.not_lt.mpr c_8)
              skip
              exact q_retv E hr hlk hI ⟨cpσ_6, (hF.trans hout), fr_σ_6⟩ dX12_copy_75
            · skip
              replace hF := q_ifp hF c_8
              refine lv_aload_n hx hb dX12_copy_47 rfl (lv_at hl 0 rfl) ?_
              refine gs_X12_44_12 E hI ha dX12_copy_48 ?_
              refine lv_bipush (v := 6) hx hb dX12_copy_51 zkb_6 ?_
              refine lv_iload_n hx hb dX12_copy_53 rfl (lv_at hl 2 rfl) ?_
              refine lv_imul hx hb dX12_copy_54 ?_
              refine lv_topi (fun z_9 ez_9 => ?_)
              replace hF := q_letX hF ez_9
              have iz_9 := q_mulI (A := 6) (B := v2.toInt) ez_9 (by decide) rfl (by first | (clear h0 h1 h2 hm2 hge2 gc_4_x_1 c_4 hm41 hge41 gc_8_x_5 c_8; omega) | omega) (by first | (clear h0 h1 h2 hm2 hge2 gc_4_x_1 c_4 hm41 hge41 gc_8_x_5 c_8; omega) | omega)
              refine lv_iload_n hx hb dX12_copy_55 rfl (lv_at hl 3 rfl) ?_
              refine lv_iadd hx hb dX12_copy_56 ?_
              refine lv_topi (fun z_10 ez_10 => ?_)
              replace hF := q_letX hF ez_10
              have iz_10 := q_addI (A := (6 * v2.toInt)) (B := x_5.toInt) ez_10 iz_9 rfl (by first | (clear h0 h1 h2 hm2 hge2 gc_4_x_1 c_4 hm41 gc_8_x_5 iz_9; omega) | omega) (by first | (clear h0 h1 h2 hm2 hge2 gc_4_x_1 c_4 hm41 gc_8_x_5 iz_9; omega) | omega)
              refine lv_aload_n hx hb dX12_copy_57 rfl (lv_at hl 0 rfl) ?_
              refine gs_X12_44_12 E hI ha dX12_copy_58 ?_
              refine lv_bipush (v := 6) hx hb dX12_copy_61 zkb_6 ?_
              refine lv_iload_n hx hb dX12_copy_63 rfl (lv_at hl 1 rfl) ?_
              refine lv_imul hx hb dX12_copy_64 ?_
              refine lv_topi (fun z_11 ez_11 => ?_)
              replace hF := q_letX hF ez_11
              have iz_11 := q_mulI (A := 6) (B := v1.toInt) ez_11 (by decide) rfl (by first | (clear h0 h1 h2 hm2 hge2 gc_4_x_1 c_4 hm41 hge41 gc_8_x_5 c_8 iz_9 iz_10; omega) | omega) (by first | (clear h0 h1 h2 hm2 hge2 gc_4_x_1 c_4 hm41 hge41 gc_8_x_5 c_8 iz_9 iz_10; omega) | omega)
              refine lv_iload_n hx hb dX12_copy_65 rfl (lv_at hl 3 rfl) ?_
              refine lv_iadd hx hb dX12_copy_66 ?_
              refine lv_topi (fun z_12 ez_12 => ?_)
              replace hF := q_letX hF ez_12
              have iz_12 := q_addI (A := (6 * v1.toInt)) (B := x_5.toInt) ez_12 iz_11 rfl (by first | (clear h0 h1 h2 hm2 hge2 gc_4_x_1 c_4 hm41 gc_8_x_5 iz_9 iz_11; omega) | omega) (by first | (clear h0 h1 h2 hm2 hge2 gc_4_x_1 c_4 hm41 gc_8_x_5 iz_9 iz_11; omega) | omega)
              refine q_lald E hI (q_tk (k' := 37) hI ha rfl (Nat.succ_ne_zero _)) ⟨by decide, rfl⟩ (by first | (clear h0 h1 h2 hm2 hge2 gc_4_x_1 c_4 hm41 gc_8_x_5 iz_9 iz_11; omega) | omega) (by rw [q_lnk (v := 30) hI (q_tk (k' := 37) hI ha rfl (Nat.succ_ne_zero _)) rfl (by decide)]; omega) dX12_copy_67 ?_
              refine lv_topl (fun g_13 eg_13 => ?_)
              replace hF := q_letX hF eg_13
              refine q_lastN E hI (q_tk (k' := 37) hI ha rfl (Nat.succ_ne_zero _)) ⟨by decide, rfl⟩ (by first | (clear h0 h1 h2 hm2 hge2 gc_4_x_1 c_4 hm41 gc_8_x_5 iz_9 iz_11; omega) | omega) (by rw [q_lnk (v := 30) hI (q_tk (k' := 37) hI ha rfl (Nat.succ_ne_zero _)) rfl (by decide)]; omega) dX12_copy_68 (fun H locs σ_14 hσ_14 hI => ?_)
              replace hF := q_letX hF hσ_14
              have fr_σ_14 := fr_σ_6.sl hσ_14 (q_tk (k' := 37) hI ha rfl (Nat.succ_ne_zero _)) rfl
              have mcσ_14 := m_wl (X := X) hσ_14 a
              have cpσ_14 : ∀ j : Int, 0 ≤ j → m_c X σ_14 a j = if 930 * v2.toInt ≤ j ∧ j < 930 * v2.toInt + 930 then m_c X σ a (930 * v1.toInt + (j - 930 * v2.toInt)) else m_c X σ a j := fun j hj => (mcσ_14 j).trans (cpσ_6 j hj)
              obtain ⟨z_15, ez_15⟩ : ∃ y : Int32, y = x_5 + 1 := ⟨_, rfl⟩
              replace hF := q_letX hF ez_15
              refine lv_iinc (v := z_15) (lv' := [(3, .int z_15), (0, .ref a), (1, .int v1), (2, .int v2)]) hx hb dX12_copy_69 hl (k := 3) rfl (by rw [ez_15]; rfl) (by decide) rfl (fun ls hl => ?_)
              have iz_15 : z_15.toInt = x_5.toInt + 1 := q_inc ez_15 (by first | (clear h0 h1 h2 hm2 hge2 gc_4_x_1 c_4 hm41 gc_8_x_5 iz_9 iz_11; omega) | omega)
              refine lv_goto (tgt := 41) hx hb dX12_copy_72 (by decide) ?_
              exact ih41 z_15 σ_14 _ _ ls (by first | (clear h0 h1 h2 hm2 hge2 gc_4_x_1 c_4 gc_8_x_5 iz_9 iz_11; omega) | omega) (by first | (clear h0 h1 h2 hm2 hge2 gc_4_x_1 c_4 hm41 gc_8_x_5 iz_9 iz_11; omega) | omega) cpσ_14 fr_σ_14 hF hI (lv_sub hl [1, 2, 3, 0] rfl)
        exact L_41_7 ((2147483647 - (0 : Int32).toInt).toNat + 1) 0 σ_2 _ _ ls (Nat.lt_succ_self _) (by decide) (m_cpy_n cpσ_2 (by first | (clear h0 h1 h2 hm2 gc_4_x_1; omega) | omega)) fr_σ_2 hF hI (lv_sub hl [1, 2, 3, 0] rfl)
      · skip
        replace hF := q_ifp hF c_4
        refine lv_aload_n hx hb dX12_copy_9 rfl (lv_at hl 0 rfl) ?_
        refine gs_X12_35_12 E hI ha dX12_copy_10 ?_
        refine lv_sipush (v := 930) hx hb dX12_copy_13 zks_930 ?_
        refine lv_iload_n hx hb dX12_copy_16 rfl (lv_at hl 2 rfl) ?_
        refine lv_imul hx hb dX12_copy_17 ?_
        refine lv_topi (fun z_16 ez_16 => ?_)
        replace hF := q_letX hF ez_16
        have iz_16 := q_mulI (A := 930) (B := v2.toInt) ez_16 (by decide) rfl (by first | (clear h0 h1 h2 hm2 hge2 gc_4_x_1 c_4; omega) | omega) (by first | (clear h0 h1 h2 hm2 hge2 gc_4_x_1 c_4; omega) | omega)
        refine lv_iload_n hx hb dX12_copy_18 rfl (lv_at hl 3 rfl) ?_
        refine lv_iadd hx hb dX12_copy_19 ?_
        refine lv_topi (fun z_17 ez_17 => ?_)
        replace hF := q_letX hF ez_17
        have iz_17 := q_addI (A := (930 * v2.toInt)) (B := x_1.toInt) ez_17 iz_16 rfl (by first | (clear h0 h1 h2 hm2 gc_4_x_1 iz_16; omega) | omega) (by first | (clear h0 h1 h2 hm2 gc_4_x_1 iz_16; omega) | omega)
        refine lv_aload_n hx hb dX12_copy_20 rfl (lv_at hl 0 rfl) ?_
        refine gs_X12_35_12 E hI ha dX12_copy_21 ?_
        refine lv_sipush (v := 930) hx hb dX12_copy_24 zks_930 ?_
        refine lv_iload_n hx hb dX12_copy_27 rfl (lv_at hl 1 rfl) ?_
        refine lv_imul hx hb dX12_copy_28 ?_
        refine lv_topi (fun z_18 ez_18 => ?_)
        replace hF := q_letX hF ez_18
        have iz_18 := q_mulI (A := 930) (B := v1.toInt) ez_18 (by decide) rfl (by first | (clear h0 h1 h2 hm2 hge2 gc_4_x_1 c_4 iz_16 iz_17; omega) | omega) (by first | (clear h0 h1 h2 hm2 hge2 gc_4_x_1 c_4 iz_16 iz_17; omega) | omega)
        refine lv_iload_n hx hb dX12_copy_29 rfl (lv_at hl 3 rfl) ?_
        refine lv_iadd hx hb dX12_copy_30 ?_
        refine lv_topi (fun z_19 ez_19 => ?_)
        replace hF := q_letX hF ez_19
        have iz_19 := q_addI (A := (930 * v1.toInt)) (B := x_1.toInt) ez_19 iz_18 rfl (by first | (clear h0 h1 h2 hm2 gc_4_x_1 iz_16 iz_18; omega) | omega) (by first | (clear h0 h1 h2 hm2 gc_4_x_1 iz_16 iz_18; omega) | omega)
        refine q_iald E hI (q_tk (k' := 34) hI ha rfl (Nat.succ_ne_zero _)) ⟨by decide, rfl⟩ (by first | (clear h0 h1 h2 hm2 gc_4_x_1 iz_16 iz_18; omega) | omega) (by rw [q_lnk (v := 4650) hI (q_tk (k' := 34) hI ha rfl (Nat.succ_ne_zero _)) rfl (by decide)]; omega) dX12_copy_31 ?_
        refine lv_topi (fun f_20 ef_20 => ?_)
        replace hF := q_letX hF ef_20
        have if_20 : f_20.toInt = m_c X σ_2 a ((930 * v1.toInt) + x_1.toInt) := m_rd ef_20 iz_19
        refine q_iastN E hI (q_tk (k' := 34) hI ha rfl (Nat.succ_ne_zero _)) ⟨by decide, rfl⟩ (by first | (clear h0 h1 h2 hm2 gc_4_x_1 iz_16 iz_18 if_20; omega) | omega) (by rw [q_lnk (v := 4650) hI (q_tk (k' := 34) hI ha rfl (Nat.succ_ne_zero _)) rfl (by decide)]; omega) (show 1 < 2 by decide) (q_inU rfl) dX12_copy_32 (fun H locs σ_21 hσ_21 hI => ?_)
        replace hF := q_letX hF hσ_21
        have fr_σ_21 := fr_σ_2.si hσ_21 (q_tk (k' := 34) hI ha rfl (Nat.succ_ne_zero _)) rfl
        have mcσ_21 := m_wr (v := f_20) (A := ((930 * v2.toInt) + x_1.toInt)) hσ_21 iz_17 (by first | (clear h0 h1 h2 hm2 gc_4_x_1 iz_16 iz_18 if_20; omega) | omega)
        have cpσ_21 := m_cpy (n := 930) cpσ_2 mcσ_21 if_20 (by first | (clear h0 h1 h2 hm2 gc_4_x_1 iz_16 iz_18 if_20; omega) | omega) (by first | (clear h0 h1 h2 hm2 hge2 gc_4_x_1 c_4 iz_16 iz_17 iz_18 iz_19 if_20; omega) | omega) (by first | (clear h0 h1 h2 hm2 gc_4_x_1 iz_16 iz_18 if_20; omega) | omega)
        obtain ⟨z_22, ez_22⟩ : ∃ y : Int32, y = x_1 + 1 := ⟨_, rfl⟩
        replace hF := q_letX hF ez_22
        refine lv_iinc (v := z_22) (lv' := [(3, .int z_22), (0, .ref a), (1, .int v1), (2, .int v2)]) hx hb dX12_copy_33 hl (k := 3) rfl (by rw [ez_22]; rfl) (by decide) rfl (fun ls hl => ?_)
        have iz_22 : z_22.toInt = x_1.toInt + 1 := q_inc ez_22 (by first | (clear h0 h1 h2 hm2 gc_4_x_1 iz_16 iz_18 if_20; omega) | omega)
        refine lv_goto (tgt := 2) hx hb dX12_copy_36 (by decide) ?_
        exact ih2 z_22 σ_21 _ _ ls (by first | (clear h0 h1 h2 gc_4_x_1 iz_16 iz_18 if_20; omega) | omega) (by first | (clear h0 h1 h2 hm2 gc_4_x_1 iz_16 iz_18 if_20; omega) | omega) (by rw [iz_22]; exact cpσ_21) fr_σ_21 hF hI (lv_sub hl [1, 2, 3, 0] rfl)
  exact L_2_3 ((2147483647 - (0 : Int32).toInt).toNat + 1) 0 σ _ _ ls (Nat.lt_succ_self _) (by decide) (fun j hj => by rw [if_neg (by have q : (0 : Int32).toInt = 0 := rfl; omega)]) fr_σ hF hI (lv_sub hl [1, 2, 3, 0] rfl)

set_option maxRecDepth 100000 in
set_option maxHeartbeats 4000000 in
theorem c_X12_table (l : Launch) (X : XW) (σ : ST) (a : Nat) (v1 : Int32) (n : Int) (ha : q_kd X a = 12) (hG : m_G (m_c X σ a)) (hW : m_W (m_c X σ a) n) (hn : 0 ≤ n) : Met l yX12_table (q_ws yX12_table cX12_table 3 (some .int)) (q_rm 7 154) (q_P X σ [.ref a, .int v1]) (q_Qi X 0 σ (fun (r : Int32) (σ' : ST) => (q_KS (fun b g => b = a ∧ 8 ≤ g ∧ g ≤ 18) 1 X σ σ') ∧ (m_G (m_c X σ' a)) ∧ (m_W (m_c X σ' a) n) ∧ (∀ j, 930 ≤ j → j < 3720 → m_c X σ' a j = m_c X σ a j) ∧ ((v1.toInt < 0 ∨ (σ.1 a 8).toInt < v1.toInt) → (σ'.1 a 8).toInt = (σ.1 a 8).toInt) ∧ ((0 ≤ v1.toInt ∧ v1.toInt ≤ (σ.1 a 8).toInt) → (σ'.1 a 8).toInt = 0) ∧ (r, σ') = F_X12_table X σ a v1 ∧ q_ow [(12, 0), (12, 1), (12, 8), (12, 9), (12, 10), (12, 11), (12, 12), (12, 13), (12, 14), (12, 15), (12, 16), (12, 17), (12, 18), (12, 25), (12, 26), (34, 99), (36, 99)] [(12, 19), (37, 99)] X σ σ')) 0 0 (q_reg X) := by
  refine q_met 0 (by first | exact rfl | decide +kernel) rfl (Nat.le_of_ble_eq_true rfl) (fun p e s m below meth c E hml hr hlk hI ls hl => ?_)
  have hx := E.1
  have hb := E.2.1
  have hl : lv_has ls 3 [(0, .ref a), (1, .int v1)] := hl
  have ks_σ : q_KS (fun b g => b = a ∧ 8 ≤ g ∧ g ≤ 18) 1 X σ σ := q_KS.rf
  have kpσ : ∀ j, 0 ≤ j → j < 3720 → m_c X σ a j = m_c X σ a j := fun _ _ _ => rfl
  have fr_σ : q_ow [(12, 0), (12, 1), (12, 8), (12, 9), (12, 10), (12, 11), (12, 12), (12, 13), (12, 14), (12, 15), (12, 16), (12, 17), (12, 18), (12, 25), (12, 26), (34, 99), (36, 99)] [(12, 19), (37, 99)] X σ σ := q_ow.rf
  have tb8 := q_bd (f := 8) (lo := 0) (hi := 900) hI ha rfl
  obtain ⟨out, hout⟩ : ∃ o, o = F_X12_table X σ a v1 := ⟨_, rfl⟩
  have hF := hout.symm
  unfold F_X12_table at hF
  refine lv_aload_n hx hb dX12_table_0 rfl (lv_at hl 0 rfl) ?_
  refine lv_iconst (v := 0) hx hb dX12_table_1 zki_0 ?_
  refine ps_X12_59_12 E hI ha (by decide) dX12_table_2 (fun H locs σ_1 hσ_1 hI => ?_)
  replace hF := q_letX hF hσ_1
  have fr_σ_1 := fr_σ.si hσ_1 ha rfl
  have ks_σ_1 : q_KS (fun b g => b = a ∧ 8 ≤ g ∧ g ≤ 18) 1 X σ σ_1 := ks_σ.si hσ_1 ha (show 1 < 9 by decide)
  have mv9_σ_1 : (σ_1.1 a 9).toInt = (σ.1 a 9).toInt := congrArg Int32.toInt (q_rdn hσ_1 (Or.inr (by decide)))
  have mv12_σ_1 : (σ_1.1 a 12).toInt = (σ.1 a 12).toInt := congrArg Int32.toInt (q_rdn hσ_1 (Or.inr (by decide)))
  have mv14_σ_1 : (σ_1.1 a 14).toInt = (σ.1 a 14).toInt := congrArg Int32.toInt (q_rdn hσ_1 (Or.inr (by decide)))
  have mv15_σ_1 : (σ_1.1 a 15).toInt = (σ.1 a 15).toInt := congrArg Int32.toInt (q_rdn hσ_1 (Or.inr (by decide)))
  have mv16_σ_1 : (σ_1.1 a 16).toInt = (σ.1 a 16).toInt := congrArg Int32.toInt (q_rdn hσ_1 (Or.inr (by decide)))
  have mv8_σ_1 : (σ_1.1 a 8).toInt = (σ.1 a 8).toInt := congrArg Int32.toInt (q_rdn hσ_1 (Or.inr (by decide)))
  have mcσ_1 := m_wo hσ_1 (m_ne ha (q_tk (f := 20) (k' := 34) hI ha rfl (by decide)) (by decide))
  have kpσ_1 : ∀ j, 0 ≤ j → j < 3720 → m_c X σ_1 a j = m_c X σ a j := fun j h0 h1 => (mcσ_1 j).trans (kpσ j h0 h1)
  refine lv_aload_n hx hb dX12_table_5 rfl (lv_at hl 0 rfl) ?_
  refine lv_iconst (v := 0) hx hb dX12_table_6 zki_0 ?_
  refine ps_X12_62_12 E hI ha (by decide) dX12_table_7 (fun H locs σ_2 hσ_2 hI => ?_)
  replace hF := q_letX hF hσ_2
  have fr_σ_2 := fr_σ_1.si hσ_2 ha rfl
  have ks_σ_2 : q_KS (fun b g => b = a ∧ 8 ≤ g ∧ g ≤ 18) 1 X σ σ_2 := ks_σ_1.si hσ_2 ha (show 1 < 9 by decide)
  have mv9_σ_2 : (σ_2.1 a 9).toInt = (σ_1.1 a 9).toInt := congrArg Int32.toInt (q_rdn hσ_2 (Or.inr (by decide)))
  have mv12_σ_2 : (σ_2.1 a 12).toInt = (σ_1.1 a 12).toInt := congrArg Int32.toInt (q_rdn hσ_2 (Or.inr (by decide)))
  have mv14_σ_2 : (σ_2.1 a 14).toInt = (σ_1.1 a 14).toInt := congrArg Int32.toInt (q_rdn hσ_2 (Or.inr (by decide)))
  have mv15_σ_2 : (σ_2.1 a 15).toInt = (σ_1.1 a 15).toInt := congrArg Int32.toInt (q_rdn hσ_2 (Or.inr (by decide)))
  have mv16_σ_2 : (σ_2.1 a 16).toInt = (σ_1.1 a 16).toInt := congrArg Int32.toInt (q_rdn hσ_2 (Or.inr (by decide)))
  have mv8_σ_2 : (σ_2.1 a 8).toInt = (σ_1.1 a 8).toInt := congrArg Int32.toInt (q_rdn hσ_2 (Or.inr (by decide)))
  have mcσ_2 := m_wo hσ_2 (m_ne ha (q_tk (f := 20) (k' := 34) hI ha rfl (by decide)) (by decide))
  have kpσ_2 : ∀ j, 0 ≤ j → j < 3720 → m_c X σ_2 a j = m_c X σ a j := fun j h0 h1 => (mcσ_2 j).trans (kpσ_1 j h0 h1)
  refine lv_aload_n hx hb dX12_table_10 rfl (lv_at hl 0 rfl) ?_
  refine lv_iload_n hx hb dX12_table_11 rfl (lv_at hl 1 rfl) ?_
  refine lv_sipush (v := 900) hx hb dX12_table_12 zks_900 ?_
  have kc_3 : (900 : Int32).toInt = 900 := zt_900
  refine q_ci (q_rV11_2 (rest := []) E (hml.trans hl.1.symm) hI (c_X12_opens l X σ_2 a v1 (900 : Int32) ha (by decide)) kv_X12_239 ha ⟨Nat.le_of_ble_eq_true rfl, Nat.le_of_ble_eq_true rfl⟩ (Nat.le_of_ble_eq_true rfl) dX12_table_15) hI (Nat.le_of_ble_eq_true rfl) (fun r_4 σ_5 H locs hpσ_5 hkσ_5 hI => ?_)
  have ahpσ_5 := hpσ_5.1
  have bhpσ_5 := hpσ_5.2.1
  have chpσ_5 := hpσ_5.2.2.1
  have dhpσ_5 := hpσ_5.2.2.2.1
  have ehpσ_5 := hpσ_5.2.2.2.2.1
  have fhpσ_5 := hpσ_5.2.2.2.2.2.1
  have ghpσ_5 := hpσ_5.2.2.2.2.2.2
  clear hpσ_5
  have fr_σ_5 := fr_σ_2.call ghpσ_5 rfl rfl
  replace hF := q_biX hF fhpσ_5
  have mcσ_5 := ehpσ_5
  have kpσ_5 : ∀ j, 0 ≤ j → j < 3720 → m_c X σ_5 a j = m_c X σ a j := fun j h0 h1 => (mcσ_5 j).trans (kpσ_2 j h0 h1)
  have ks_σ_5 : q_KS (fun b g => b = a ∧ 8 ≤ g ∧ g ≤ 18) 1 X σ σ_5 := ks_σ_2.KS bhpσ_5 (by decide) (fun b g h => ⟨h.1, by have := h.2; omega⟩)
  have so := chpσ_5
  have sf := dhpσ_5
  clear chpσ_5 dhpσ_5
  refine q_if_ne (A := r_4.toInt) E rfl (tgt := 23) dX12_table_18 (by decide) (fun c_6 => ?_) (fun c_6 => ?_)
  · skip
    replace hF := q_ifn hF c_6
    replace c_6 := q_ifOne ahpσ_5 c_6
    replace so := so (by omega)
    clear sf
    have smσ_5 : 0 ≤ (σ_5.1 a 15).toInt ∧ (σ_5.1 a 15).toInt ≤ (σ_5.1 a 16).toInt ∧ (σ_5.1 a 16).toInt ≤ (σ_5.1 a 9).toInt ∧ (σ_5.1 a 9).toInt ≤ 900 ∧ 0 ≤ (σ_5.1 a 14).toInt ∧ (σ_5.1 a 14).toInt ≤ 4 ∧ (σ_5.1 a 14).toInt ≤ 4 * ((σ_5.1 a 16).toInt - (σ_5.1 a 15).toInt) ∧ (σ_5.1 a 14).toInt ≤ 4 * ((σ_5.1 a 9).toInt - (σ_5.1 a 15).toInt) ∧ 0 ≤ (σ_5.1 a 12).toInt ∧ (σ_5.1 a 8).toInt = 0 := (by first | (clear hn tb8 mv9_σ_1 mv12_σ_1 mv14_σ_1 mv15_σ_1 mv16_σ_1 mv8_σ_1 mv9_σ_2 mv12_σ_2 mv14_σ_2 mv15_σ_2 mv16_σ_2 mv8_σ_2 kc_3 ahpσ_5 bhpσ_5 ehpσ_5 fhpσ_5 c_6; omega) | omega)
    have sv : 0 ≤ v1.toInt ∧ v1.toInt ≤ (σ.1 a 8).toInt := (by first | (clear hn tb8 mv9_σ_1 mv12_σ_1 mv14_σ_1 mv15_σ_1 mv16_σ_1 mv9_σ_2 mv12_σ_2 mv14_σ_2 mv15_σ_2 mv16_σ_2 ahpσ_5 bhpσ_5 ehpσ_5 fhpσ_5 c_6 smσ_5; omega) | omega)
    clear so
    refine lv_iconst (v := 0) hx hb dX12_table_23 zki_0 ?_
    refine lv_istore_n (lv' := [(2, .int 0), (0, .ref a), (1, .int v1)]) hx hb dX12_table_24 rfl hl (by decide) rfl (fun ls hl => ?_)
    have L_25_9 : ∀ (k_9 : Nat) (x_7 : Int32) (σ_8 : ST) (H : Heap) (locs : List Loc) (ls : Array Slot), (2147483647 - x_7.toInt).toNat < k_9 → (0 ≤ x_7.toInt ∧ x_7.toInt ≤ 930) → (∀ j, 3720 ≤ j → j < 3720 + x_7.toInt → m_c X σ_8 a j = 0) → (q_KS (fun b g => b = a ∧ 8 ≤ g ∧ g ≤ 18) 1 X σ σ_8) → (q_ow [(12, 0), (12, 1), (12, 8), (12, 9), (12, 10), (12, 11), (12, 12), (12, 13), (12, 14), (12, 15), (12, 16), (12, 17), (12, 18), (12, 25), (12, 26), (34, 99), (36, 99)] [(12, 19), (37, 99)] X σ σ_8) → (∀ j, 0 ≤ j → j < 3720 → m_c X σ_8 a j = m_c X σ a j) → (0 ≤ (σ_8.1 a 15).toInt ∧ (σ_8.1 a 15).toInt ≤ (σ_8.1 a 16).toInt ∧ (σ_8.1 a 16).toInt ≤ (σ_8.1 a 9).toInt ∧ (σ_8.1 a 9).toInt ≤ 900 ∧ 0 ≤ (σ_8.1 a 14).toInt ∧ (σ_8.1 a 14).toInt ≤ 4 ∧ (σ_8.1 a 14).toInt ≤ 4 * ((σ_8.1 a 16).toInt - (σ_8.1 a 15).toInt) ∧ (σ_8.1 a 14).toInt ≤ 4 * ((σ_8.1 a 9).toInt - (σ_8.1 a 15).toInt) ∧ 0 ≤ (σ_8.1 a 12).toInt ∧ (σ_8.1 a 8).toInt = 0) → (F_X12_table_L25_1 X a k_9 x_7 σ_8 = out) → q_I X 0 σ s.heap locs σ_8 H → lv_has ls 3 [(0, .ref a), (1, .int v1), (2, .int x_7)] → W p l e (q_rm 7 154) s m ([.ref a, .int v1] : List Value).toArray below meth c H locs 0 0 (MQ below (q_Qi X 0 σ (fun (r : Int32) (σ' : ST) => (q_KS (fun b g => b = a ∧ 8 ≤ g ∧ g ≤ 18) 1 X σ σ') ∧ (m_G (m_c X σ' a)) ∧ (m_W (m_c X σ' a) n) ∧ (∀ j, 930 ≤ j → j < 3720 → m_c X σ' a j = m_c X σ a j) ∧ ((v1.toInt < 0 ∨ (σ.1 a 8).toInt < v1.toInt) → (σ'.1 a 8).toInt = (σ.1 a 8).toInt) ∧ ((0 ≤ v1.toInt ∧ v1.toInt ≤ (σ.1 a 8).toInt) → (σ'.1 a 8).toInt = 0) ∧ (r, σ') = F_X12_table X σ a v1 ∧ q_ow [(12, 0), (12, 1), (12, 8), (12, 9), (12, 10), (12, 11), (12, 12), (12, 13), (12, 14), (12, 15), (12, 16), (12, 17), (12, 18), (12, 25), (12, 26), (34, 99), (36, 99)] [(12, 19), (37, 99)] X σ σ')) ([.ref a, .int v1] : List Value).toArray s 0 0 (q_reg X)) (F0 m 25 ls []) := by
      clear hF
      intro k_9
      induction k_9 with
      | zero =>
        intro x_7 σ_8 H locs ls hms
        try clear smσ_5
        exact absurd hms (Nat.not_lt_zero _)
      | succ k_9 ih25 =>
        intro x_7 σ_8 H locs ls hm25 hge25 hzσ_8 ks_σ_8 fr_σ_8 kpσ_8 smσ_8 hF hI hl
        replace hF := (F_X12_table_L25_1_s).symm.trans hF
        unfold F_X12_table_B25_1 at hF
        refine lv_iload_n hx hb dX12_table_25 rfl (lv_at hl 2 rfl) ?_
        refine lv_sipush (v := 930) hx hb dX12_table_26 zks_930 ?_
        have gc_10_x_7 := q_rng x_7
        refine q_icmp_ge (A := x_7.toInt) (B := 930) E rfl (by decide) (tgt := 49) dX12_table_29 (by decide) (fun c_10 => ?_) (fun c_10 => ?_)
        · skip
          replace hF := q_ifn hF (Int.not_lt.mpr c_10)
          skip
          have zzσ_8 : ∀ j, 3720 ≤ j → j < 4650 → m_c X σ_8 a j = 0 := fun j h0 h1 => hzσ_8 j h0 (by first | (clear hn tb8 mv9_σ_1 mv12_σ_1 mv14_σ_1 mv15_σ_1 mv16_σ_1 mv8_σ_1 mv9_σ_2 mv12_σ_2 mv14_σ_2 mv15_σ_2 mv16_σ_2 mv8_σ_2 kc_3 ahpσ_5 bhpσ_5 ehpσ_5 fhpσ_5 c_6 sv hm25 hzσ_8 smσ_8 gc_10_x_7; omega) | omega)
          refine lv_iconst (v := 0) hx hb dX12_table_49 zki_0 ?_
          refine lv_istore_n (lv' := [(2, .int 0), (0, .ref a), (1, .int v1)]) hx hb dX12_table_50 rfl hl (by decide) rfl (fun ls hl => ?_)
          have L_51_13 : ∀ (k_13 : Nat) (x_11 : Int32) (σ_12 : ST) (H : Heap) (locs : List Loc) (ls : Array Slot), (2147483647 - x_11.toInt).toNat < k_13 → (0 ≤ x_11.toInt ∧ x_11.toInt ≤ 60) → (q_KS (fun b g => b = a ∧ 8 ≤ g ∧ g ≤ 18) 1 X σ σ_12) → (q_ow [(12, 0), (12, 1), (12, 8), (12, 9), (12, 10), (12, 11), (12, 12), (12, 13), (12, 14), (12, 15), (12, 16), (12, 17), (12, 18), (12, 25), (12, 26), (34, 99), (36, 99)] [(12, 19), (37, 99)] X σ σ_12) → (∀ j, 0 ≤ j → j < 3720 → m_c X σ_12 a j = m_c X σ a j) → (0 ≤ (σ_12.1 a 15).toInt ∧ (σ_12.1 a 15).toInt ≤ (σ_12.1 a 16).toInt ∧ (σ_12.1 a 16).toInt ≤ (σ_12.1 a 9).toInt ∧ (σ_12.1 a 9).toInt ≤ 900 ∧ 0 ≤ (σ_12.1 a 14).toInt ∧ (σ_12.1 a 14).toInt ≤ 4 ∧ (σ_12.1 a 14).toInt ≤ 4 * ((σ_12.1 a 16).toInt - (σ_12.1 a 15).toInt) ∧ (σ_12.1 a 14).toInt ≤ 4 * ((σ_12.1 a 9).toInt - (σ_12.1 a 15).toInt) ∧ 0 ≤ (σ_12.1 a 12).toInt ∧ (σ_12.1 a 8).toInt = 0) → (∀ j, 3720 ≤ j → j < 4650 → m_c X σ_12 a j = 0) → (F_X12_table_L51_3 X a k_13 x_11 σ_12 = out) → q_I X 0 σ s.heap locs σ_12 H → lv_has ls 3 [(0, .ref a), (1, .int v1), (2, .int x_11)] → W p l e (q_rm 7 154) s m ([.ref a, .int v1] : List Value).toArray below meth c H locs 0 0 (MQ below (q_Qi X 0 σ (fun (r : Int32) (σ' : ST) => (q_KS (fun b g => b = a ∧ 8 ≤ g ∧ g ≤ 18) 1 X σ σ') ∧ (m_G (m_c X σ' a)) ∧ (m_W (m_c X σ' a) n) ∧ (∀ j, 930 ≤ j → j < 3720 → m_c X σ' a j = m_c X σ a j) ∧ ((v1.toInt < 0 ∨ (σ.1 a 8).toInt < v1.toInt) → (σ'.1 a 8).toInt = (σ.1 a 8).toInt) ∧ ((0 ≤ v1.toInt ∧ v1.toInt ≤ (σ.1 a 8).toInt) → (σ'.1 a 8).toInt = 0) ∧ (r, σ') = F_X12_table X σ a v1 ∧ q_ow [(12, 0), (12, 1), (12, 8), (12, 9), (12, 10), (12, 11), (12, 12), (12, 13), (12, 14), (12, 15), (12, 16), (12, 17), (12, 18), (12, 25), (12, 26), (34, 99), (36, 99)] [(12, 19), (37, 99)] X σ σ')) ([.ref a, .int v1] : List Value).toArray s 0 0 (q_reg X)) (F0 m 51 ls []) := by
            clear hF
            intro k_13
            induction k_13 with
            | zero =>
              intro x_11 σ_12 H locs ls hms
              try clear zzσ_8
              exact absurd hms (Nat.not_lt_zero _)
            | succ k_13 ih51 =>
              intro x_11 σ_12 H locs ls hm51 hge51 ks_σ_12 fr_σ_12 kpσ_12 smσ_12 zzσ_12 hF hI hl
              replace hF := (F_X12_table_L51_3_s).symm.trans hF
              unfold F_X12_table_B51_3 at hF
              refine lv_iload_n hx hb dX12_table_51 rfl (lv_at hl 2 rfl) ?_
              refine lv_bipush (v := 60) hx hb dX12_table_52 zkb_60 ?_
              have gc_14_x_11 := q_rng x_11
              refine q_icmp_ge (A := x_11.toInt) (B := 60) E rfl (by decide) (tgt := 70) dX12_table_54 (by decide) (fun c_14 => ?_) (fun c_14 => ?_)
              · skip
                replace hF := q_ifn hF (Int.not_lt.mpr c_14)
                unfold F_X12_table_E70_7 at hF
                refine lv_aload_n hx hb dX12_table_70 rfl (lv_at hl 0 rfl) ?_
                refine lv_iconst (v := 0) hx hb dX12_table_71 zki_0 ?_
                refine ps_X12_232_12 E hI ha (by decide) (by decide) (by decide) dX12_table_72 (fun H locs σ_15 hσ_15 hI => ?_)
                replace hF := q_letX hF hσ_15
                have fr_σ_15 := fr_σ_12.si hσ_15 ha rfl
                have ks_σ_15 : q_KS (fun b g => b = a ∧ 8 ≤ g ∧ g ≤ 18) 1 X σ σ_15 := ks_σ_12.si hσ_15 ha (show 1 < 3 by decide)
                have mv9_σ_15 : (σ_15.1 a 9).toInt = (σ_12.1 a 9).toInt := congrArg Int32.toInt (q_rdn hσ_15 (Or.inr (by decide)))
                have mv12_σ_15 : (σ_15.1 a 12).toInt = (σ_12.1 a 12).toInt := congrArg Int32.toInt (q_rdn hσ_15 (Or.inr (by decide)))
                have mv14_σ_15 : (σ_15.1 a 14).toInt = (σ_12.1 a 14).toInt := congrArg Int32.toInt (q_rdn hσ_15 (Or.inr (by decide)))
                have mv15_σ_15 : (σ_15.1 a 15).toInt = (σ_12.1 a 15).toInt := congrArg Int32.toInt (q_rdn hσ_15 (Or.inr (by decide)))
                have mv16_σ_15 : (σ_15.1 a 16).toInt = (σ_12.1 a 16).toInt := congrArg Int32.toInt (q_rdn hσ_15 (Or.inr (by decide)))
                have mv8_σ_15 : (σ_15.1 a 8).toInt = (σ_12.1 a 8).toInt := congrArg Int32.toInt (q_rdn hσ_15 (Or.inr (by decide)))
                have mcσ_15 := m_wo hσ_15 (m_ne ha (q_tk (f := 20) (k' := 34) hI ha rfl (by decide)) (by decide))
                have kpσ_15 : ∀ j, 0 ≤ j → j < 3720 → m_c X σ_15 a j = m_c X σ a j := fun j h0 h1 => (mcσ_15 j).trans (kpσ_12 j h0 h1)
                have smσ_15 : 0 ≤ (σ_15.1 a 15).toInt ∧ (σ_15.1 a 15).toInt ≤ (σ_15.1 a 16).toInt ∧ (σ_15.1 a 16).toInt ≤ (σ_15.1 a 9).toInt ∧ (σ_15.1 a 9).toInt ≤ 900 ∧ 0 ≤ (σ_15.1 a 14).toInt ∧ (σ_15.1 a 14).toInt ≤ 4 ∧ (σ_15.1 a 14).toInt ≤ 4 * ((σ_15.1 a 16).toInt - (σ_15.1 a 15).toInt) ∧ (σ_15.1 a 14).toInt ≤ 4 * ((σ_15.1 a 9).toInt - (σ_15.1 a 15).toInt) ∧ 0 ≤ (σ_15.1 a 12).toInt ∧ (σ_15.1 a 8).toInt = 0 := (by first | (rw [mv12_σ_15, mv14_σ_15, mv15_σ_15, mv16_σ_15, mv8_σ_15, mv9_σ_15]; exact smσ_12) | omega)
                have zzσ_15 : ∀ j, 3720 ≤ j → j < 4650 → m_c X σ_15 a j = 0 := fun j h0 h1 => (mcσ_15 j).trans (zzσ_12 j h0 h1)
                clear mv9_σ_15 mv12_σ_15 mv14_σ_15 mv15_σ_15 mv16_σ_15 mv8_σ_15 smσ_12
                refine lv_aload_n hx hb dX12_table_75 rfl (lv_at hl 0 rfl) ?_
                refine lv_iconst (v := 0) hx hb dX12_table_76 zki_0 ?_
                refine ps_X12_236_12 E hI ha (by decide) (by decide) (by decide) dX12_table_77 (fun H locs σ_16 hσ_16 hI => ?_)
                replace hF := q_letX hF hσ_16
                have fr_σ_16 := fr_σ_15.si hσ_16 ha rfl
                have ks_σ_16 : q_KS (fun b g => b = a ∧ 8 ≤ g ∧ g ≤ 18) 1 X σ σ_16 := ks_σ_15.si hσ_16 ha (show 1 < 3 by decide)
                have mv9_σ_16 : (σ_16.1 a 9).toInt = (σ_15.1 a 9).toInt := congrArg Int32.toInt (q_rdn hσ_16 (Or.inr (by decide)))
                have mv12_σ_16 : (σ_16.1 a 12).toInt = (σ_15.1 a 12).toInt := congrArg Int32.toInt (q_rdn hσ_16 (Or.inr (by decide)))
                have mv14_σ_16 : (σ_16.1 a 14).toInt = (σ_15.1 a 14).toInt := congrArg Int32.toInt (q_rdn hσ_16 (Or.inr (by decide)))
                have mv15_σ_16 : (σ_16.1 a 15).toInt = (σ_15.1 a 15).toInt := congrArg Int32.toInt (q_rdn hσ_16 (Or.inr (by decide)))
                have mv16_σ_16 : (σ_16.1 a 16).toInt = (σ_15.1 a 16).toInt := congrArg Int32.toInt (q_rdn hσ_16 (Or.inr (by decide)))
                have mv8_σ_16 : (σ_16.1 a 8).toInt = (σ_15.1 a 8).toInt := congrArg Int32.toInt (q_rdn hσ_16 (Or.inr (by decide)))
                have mcσ_16 := m_wo hσ_16 (m_ne ha (q_tk (f := 20) (k' := 34) hI ha rfl (by decide)) (by decide))
                have kpσ_16 : ∀ j, 0 ≤ j → j < 3720 → m_c X σ_16 a j = m_c X σ a j := fun j h0 h1 => (mcσ_16 j).trans (kpσ_15 j h0 h1)
                have smσ_16 : 0 ≤ (σ_16.1 a 15).toInt ∧ (σ_16.1 a 15).toInt ≤ (σ_16.1 a 16).toInt ∧ (σ_16.1 a 16).toInt ≤ (σ_16.1 a 9).toInt ∧ (σ_16.1 a 9).toInt ≤ 900 ∧ 0 ≤ (σ_16.1 a 14).toInt ∧ (σ_16.1 a 14).toInt ≤ 4 ∧ (σ_16.1 a 14).toInt ≤ 4 * ((σ_16.1 a 16).toInt - (σ_16.1 a 15).toInt) ∧ (σ_16.1 a 14).toInt ≤ 4 * ((σ_16.1 a 9).toInt - (σ_16.1 a 15).toInt) ∧ 0 ≤ (σ_16.1 a 12).toInt ∧ (σ_16.1 a 8).toInt = 0 := (by first | (rw [mv12_σ_16, mv14_σ_16, mv15_σ_16, mv16_σ_16, mv8_σ_16, mv9_σ_16]; exact smσ_15) | omega)
                have zzσ_16 : ∀ j, 3720 ≤ j → j < 4650 → m_c X σ_16 a j = 0 := fun j h0 h1 => (mcσ_16 j).trans (zzσ_15 j h0 h1)
                clear mv9_σ_16 mv12_σ_16 mv14_σ_16 mv15_σ_16 mv16_σ_16 mv8_σ_16 smσ_15
                refine lv_aload_n hx hb dX12_table_80 rfl (lv_at hl 0 rfl) ?_
                refine gs_X12_35_12 E hI ha dX12_table_81 ?_
                refine lv_sipush (v := 3724) hx hb dX12_table_84 zks_3724 ?_
                refine lv_iconst (v := 4) hx hb dX12_table_87 zki_4 ?_
                refine q_iastN E hI (q_tk (k' := 34) hI ha rfl (Nat.succ_ne_zero _)) ⟨by decide, rfl⟩ (by decide) (by rw [q_lnk (v := 4650) hI (q_tk (k' := 34) hI ha rfl (Nat.succ_ne_zero _)) rfl (by decide)]; decide) (show 0 < 2 by decide) (q_inU rfl) dX12_table_88 (fun H locs σ_17 hσ_17 hI => ?_)
                replace hF := q_letX hF hσ_17
                have fr_σ_17 := fr_σ_16.si hσ_17 (q_tk (k' := 34) hI ha rfl (Nat.succ_ne_zero _)) rfl
                have mv9_σ_17 : (σ_17.1 a 9).toInt = (σ_16.1 a 9).toInt := congrArg Int32.toInt (q_rdn hσ_17 (Or.inl (m_ne ha (q_tk (k' := 34) hI ha rfl (Nat.succ_ne_zero _)) (by decide))))
                have mv12_σ_17 : (σ_17.1 a 12).toInt = (σ_16.1 a 12).toInt := congrArg Int32.toInt (q_rdn hσ_17 (Or.inl (m_ne ha (q_tk (k' := 34) hI ha rfl (Nat.succ_ne_zero _)) (by decide))))
                have mv14_σ_17 : (σ_17.1 a 14).toInt = (σ_16.1 a 14).toInt := congrArg Int32.toInt (q_rdn hσ_17 (Or.inl (m_ne ha (q_tk (k' := 34) hI ha rfl (Nat.succ_ne_zero _)) (by decide))))
                have mv15_σ_17 : (σ_17.1 a 15).toInt = (σ_16.1 a 15).toInt := congrArg Int32.toInt (q_rdn hσ_17 (Or.inl (m_ne ha (q_tk (k' := 34) hI ha rfl (Nat.succ_ne_zero _)) (by decide))))
                have mv16_σ_17 : (σ_17.1 a 16).toInt = (σ_16.1 a 16).toInt := congrArg Int32.toInt (q_rdn hσ_17 (Or.inl (m_ne ha (q_tk (k' := 34) hI ha rfl (Nat.succ_ne_zero _)) (by decide))))
                have mv8_σ_17 : (σ_17.1 a 8).toInt = (σ_16.1 a 8).toInt := congrArg Int32.toInt (q_rdn hσ_17 (Or.inl (m_ne ha (q_tk (k' := 34) hI ha rfl (Nat.succ_ne_zero _)) (by decide))))
                have ks_σ_17 : q_KS (fun b g => b = a ∧ 8 ≤ g ∧ g ≤ 18) 1 X σ σ_17 := ks_σ_16.si hσ_17 (q_tk (k' := 34) hI ha rfl (Nat.succ_ne_zero _)) (show 1 < 2 by decide)
                have mcσ_17 := m_wr (v := (4 : Int32)) (A := 3724) hσ_17 (by decide) (by decide)
                have kpσ_17 : ∀ j, 0 ≤ j → j < 3720 → m_c X σ_17 a j = m_c X σ a j := fun j h0 h1 => by rw [mcσ_17 j h0, if_neg (by first | (clear hn tb8 mv9_σ_1 mv12_σ_1 mv14_σ_1 mv15_σ_1 mv16_σ_1 mv8_σ_1 mv9_σ_2 mv12_σ_2 mv14_σ_2 mv15_σ_2 mv16_σ_2 mv8_σ_2 kc_3 ahpσ_5 bhpσ_5 ehpσ_5 fhpσ_5 c_6 sv hm25 hge25 hzσ_8 smσ_8 gc_10_x_7 c_10 hm51 hge51 gc_14_x_11 c_14 smσ_16 mv9_σ_17 mv12_σ_17 mv14_σ_17 mv15_σ_17 mv16_σ_17 mv8_σ_17; omega) | omega)]; exact kpσ_16 j h0 h1
                have smσ_17 : 0 ≤ (σ_17.1 a 15).toInt ∧ (σ_17.1 a 15).toInt ≤ (σ_17.1 a 16).toInt ∧ (σ_17.1 a 16).toInt ≤ (σ_17.1 a 9).toInt ∧ (σ_17.1 a 9).toInt ≤ 900 ∧ 0 ≤ (σ_17.1 a 14).toInt ∧ (σ_17.1 a 14).toInt ≤ 4 ∧ (σ_17.1 a 14).toInt ≤ 4 * ((σ_17.1 a 16).toInt - (σ_17.1 a 15).toInt) ∧ (σ_17.1 a 14).toInt ≤ 4 * ((σ_17.1 a 9).toInt - (σ_17.1 a 15).toInt) ∧ 0 ≤ (σ_17.1 a 12).toInt ∧ (σ_17.1 a 8).toInt = 0 := (by first | (rw [mv12_σ_17, mv14_σ_17, mv15_σ_17, mv16_σ_17, mv8_σ_17, mv9_σ_17]; exact smσ_16) | omega)
                have zhσ_17 : ∀ j, 3754 ≤ j → j < 3814 → m_c X σ_17 a j = 0 := fun j h0 h1 => by rw [mcσ_17 j (by first | (clear hn tb8 mv9_σ_1 mv12_σ_1 mv14_σ_1 mv15_σ_1 mv16_σ_1 mv8_σ_1 mv9_σ_2 mv12_σ_2 mv14_σ_2 mv15_σ_2 mv16_σ_2 mv8_σ_2 kc_3 ahpσ_5 bhpσ_5 ehpσ_5 fhpσ_5 c_6 sv hm25 hge25 hzσ_8 smσ_8 gc_10_x_7 c_10 hm51 hge51 gc_14_x_11 c_14 smσ_16 mv9_σ_17 mv12_σ_17 mv14_σ_17 mv15_σ_17 mv16_σ_17 mv8_σ_17 smσ_17; omega) | omega), if_neg (by first | (clear hn tb8 mv9_σ_1 mv12_σ_1 mv14_σ_1 mv15_σ_1 mv16_σ_1 mv8_σ_1 mv9_σ_2 mv12_σ_2 mv14_σ_2 mv15_σ_2 mv16_σ_2 mv8_σ_2 kc_3 ahpσ_5 bhpσ_5 ehpσ_5 fhpσ_5 c_6 sv hm25 hge25 hzσ_8 smσ_8 gc_10_x_7 c_10 hm51 hge51 gc_14_x_11 c_14 smσ_16 mv9_σ_17 mv12_σ_17 mv14_σ_17 mv15_σ_17 mv16_σ_17 mv8_σ_17 smσ_17; omega) | omega)]; exact zzσ_16 j (by first | (clear hn tb8 mv9_σ_1 mv12_σ_1 mv14_σ_1 mv15_σ_1 mv16_σ_1 mv8_σ_1 mv9_σ_2 mv12_σ_2 mv14_σ_2 mv15_σ_2 mv16_σ_2 mv8_σ_2 kc_3 ahpσ_5 bhpσ_5 ehpσ_5 fhpσ_5 c_6 sv hm25 hge25 hzσ_8 smσ_8 gc_10_x_7 c_10 hm51 hge51 gc_14_x_11 c_14 smσ_16 mv9_σ_17 mv12_σ_17 mv14_σ_17 mv15_σ_17 mv16_σ_17 mv8_σ_17 smσ_17; omega) | omega) (by first | (clear hn tb8 mv9_σ_1 mv12_σ_1 mv14_σ_1 mv15_σ_1 mv16_σ_1 mv8_σ_1 mv9_σ_2 mv12_σ_2 mv14_σ_2 mv15_σ_2 mv16_σ_2 mv8_σ_2 kc_3 ahpσ_5 bhpσ_5 ehpσ_5 fhpσ_5 c_6 sv hm25 hge25 hzσ_8 smσ_8 gc_10_x_7 c_10 hm51 hge51 gc_14_x_11 c_14 smσ_16 mv9_σ_17 mv12_σ_17 mv14_σ_17 mv15_σ_17 mv16_σ_17 mv8_σ_17 smσ_17; omega) | omega)
                have nnσ_17 : m_N (m_c X σ_17 a) := m_N.new zzσ_16 mcσ_17 rfl
                have k4σ_17 : 1 ≤ m_c X σ_17 a 3724 + 10 * (σ_17.1 a 12).toInt := (by have := mcσ_17 3724 (by decide); rw [if_pos rfl] at this; have q : (4 : Int32).toInt = 4 := rfl; omega)
                clear mv9_σ_17 mv12_σ_17 mv14_σ_17 mv15_σ_17 mv16_σ_17 mv8_σ_17 smσ_16
                refine lv_aload_n hx hb dX12_table_89 rfl (lv_at hl 0 rfl) ?_
                refine lv_aload_n hx hb dX12_table_90 rfl (lv_at hl 0 rfl) ?_
                refine q_ci (q_rV11_0 (rest := [.ref a]) E (hml.trans hl.1.symm) hI (c_X12_isKinds l X σ_17 a ha) kv_X12_150 ha ⟨Nat.le_of_ble_eq_true rfl, Nat.le_of_ble_eq_true rfl⟩ (Nat.le_of_ble_eq_true rfl) dX12_table_91) hI (Nat.le_of_ble_eq_true rfl) (fun r_18 σ_19 H locs hpσ_19 hkσ_19 hI => ?_)
                have ahpσ_19 := hpσ_19.1
                have bhpσ_19 := hpσ_19.2.1
                have chpσ_19 := hpσ_19.2.2
                clear hpσ_19
                replace hI := q_Irw ahpσ_19 hI
                replace hF := q_letX hF chpσ_19
                refine q_cv (q_rV11_1 (rest := []) E (hml.trans hl.1.symm) hI (c_X12_must l X σ_17 a r_18 ha (by first | exact sm_9 smσ_17 | exact hs | omega) (by first | (clear hn tb8 mv9_σ_1 mv12_σ_1 mv14_σ_1 mv15_σ_1 mv16_σ_1 mv8_σ_1 mv9_σ_2 mv12_σ_2 mv14_σ_2 mv15_σ_2 mv16_σ_2 mv8_σ_2 kc_3 ahpσ_5 bhpσ_5 ehpσ_5 fhpσ_5 c_6 sv hm25 hge25 hzσ_8 smσ_8 gc_10_x_7 c_10 hm51 hge51 gc_14_x_11 c_14 smσ_17 k4σ_17 ahpσ_19 chpσ_19; omega) | omega)) kv_X12_216 ha ⟨Nat.le_of_ble_eq_true rfl, Nat.le_of_ble_eq_true rfl⟩ (Nat.le_of_ble_eq_true rfl) dX12_table_94) hI (Nat.le_of_ble_eq_true rfl) (fun σ_21 H locs hpσ_21 hkσ_21 hI => ?_)
                have ahpσ_21 := hpσ_21.1
                have bhpσ_21 := hpσ_21.2.1
                have chpσ_21 := hpσ_21.2.2.1
                have dhpσ_21 := hpσ_21.2.2.2.1
                have ehpσ_21 := hpσ_21.2.2.2.2
                clear hpσ_21
                have fr_σ_21 := fr_σ_17.call ehpσ_21 rfl rfl
                replace hF := q_letX hF dhpσ_21
                have mv8_σ_21 : (σ_21.1 a 8).toInt = (σ_17.1 a 8).toInt := congrArg Int32.toInt (hkσ_21 a 8 (by rw [ha]; decide))
                have mcσ_21 := m_cK hkσ_21 hI.1 ha (by decide)
                have kpσ_21 : ∀ j, 0 ≤ j → j < 3720 → m_c X σ_21 a j = m_c X σ a j := fun j h0 h1 => (mcσ_21 j).trans (kpσ_17 j h0 h1)
                have smσ_21 : 0 ≤ (σ_21.1 a 15).toInt ∧ (σ_21.1 a 15).toInt ≤ (σ_21.1 a 16).toInt ∧ (σ_21.1 a 16).toInt ≤ (σ_21.1 a 9).toInt ∧ (σ_21.1 a 9).toInt ≤ 900 ∧ 0 ≤ (σ_21.1 a 14).toInt ∧ (σ_21.1 a 14).toInt ≤ 4 ∧ (σ_21.1 a 14).toInt ≤ 4 * ((σ_21.1 a 16).toInt - (σ_21.1 a 15).toInt) ∧ (σ_21.1 a 14).toInt ≤ 4 * ((σ_21.1 a 9).toInt - (σ_21.1 a 15).toInt) ∧ 0 ≤ (σ_21.1 a 12).toInt ∧ (σ_21.1 a 8).toInt = 0 := (by first | (clear hn tb8 mv9_σ_1 mv12_σ_1 mv14_σ_1 mv15_σ_1 mv16_σ_1 mv8_σ_1 mv9_σ_2 mv12_σ_2 mv14_σ_2 mv15_σ_2 mv16_σ_2 mv8_σ_2 kc_3 ahpσ_5 bhpσ_5 ehpσ_5 fhpσ_5 c_6 sv hm25 hge25 hzσ_8 smσ_8 gc_10_x_7 c_10 hm51 hge51 gc_14_x_11 c_14 k4σ_17 ahpσ_19 bhpσ_19 chpσ_19 ahpσ_21 chpσ_21 dhpσ_21 ehpσ_21; omega) | omega)
                have zhσ_21 : ∀ j, 3754 ≤ j → j < 3814 → m_c X σ_21 a j = 0 := fun j h0 h1 => (mcσ_21 j).trans (zhσ_17 j h0 h1)
                have nnσ_21 : m_N (m_c X σ_21 a) := m_N.ext mcσ_21 nnσ_17
                have k4σ_21 : 1 ≤ m_c X σ_21 a 3724 + 10 * (σ_21.1 a 12).toInt := (by have := mcσ_21 3724; omega)
                clear mv8_σ_21 smσ_17 k4σ_17 bhpσ_21
                have ks_σ_21 : q_KS (fun b g => b = a ∧ 8 ≤ g ∧ g ≤ 18) 1 X σ σ_21 := ks_σ_17.K hkσ_21 (by decide)
                refine lv_aload_n hx hb dX12_table_97 rfl (lv_at hl 0 rfl) ?_
                refine gs_X12_35_12 E hI ha dX12_table_98 ?_
                refine lv_sipush (v := 3720) hx hb dX12_table_101 zks_3720 ?_
                refine lv_aload_n hx hb dX12_table_104 rfl (lv_at hl 0 rfl) ?_
                refine lv_iconst (v := 2) hx hb dX12_table_105 zki_2 ?_
                refine lv_bipush (v := 10) hx hb dX12_table_106 zkb_10 ?_
                have kc_22 : (2 : Int32).toInt = 2 := zt_2
                have kc_23 : (10 : Int32).toInt = 10 := zt_10
                refine q_ci (q_rV11_2 (rest := [.int 3720, .ref (q_rf X a 20)]) E (hml.trans hl.1.symm) hI (c_X12_count l X σ_21 a (2 : Int32) (10 : Int32) ha (by first | exact sm_9 smσ_21 | exact hs | omega) (by first | (clear hn tb8 mv9_σ_1 mv12_σ_1 mv14_σ_1 mv15_σ_1 mv16_σ_1 mv8_σ_1 mv9_σ_2 mv12_σ_2 mv14_σ_2 mv15_σ_2 mv16_σ_2 mv8_σ_2 kc_3 ahpσ_5 bhpσ_5 ehpσ_5 fhpσ_5 c_6 sv hm25 hge25 hzσ_8 smσ_8 gc_10_x_7 c_10 hm51 hge51 gc_14_x_11 c_14 ahpσ_19 bhpσ_19 chpσ_19 ahpσ_21 chpσ_21 dhpσ_21 ehpσ_21 smσ_21 k4σ_21; omega) | omega)) kv_X12_223 ha ⟨Nat.le_of_ble_eq_true rfl, Nat.le_of_ble_eq_true rfl⟩ (Nat.le_of_ble_eq_true rfl) dX12_table_108) hI (Nat.le_of_ble_eq_true rfl) (fun r_24 σ_25 H locs hpσ_25 hkσ_25 hI => ?_)
                have ahpσ_25 := hpσ_25.1
                have bhpσ_25 := hpσ_25.2.1
                have chpσ_25 := hpσ_25.2.2.1
                have dhpσ_25 := hpσ_25.2.2.2.1
                have ehpσ_25 := hpσ_25.2.2.2.2
                clear hpσ_25
                have fr_σ_25 := fr_σ_21.call ehpσ_25 rfl rfl
                replace hF := q_biX hF dhpσ_25
                have mv8_σ_25 : (σ_25.1 a 8).toInt = (σ_21.1 a 8).toInt := congrArg Int32.toInt (hkσ_25 a 8 (by rw [ha]; decide))
                have mcσ_25 := m_cK hkσ_25 hI.1 ha (by decide)
                have kpσ_25 : ∀ j, 0 ≤ j → j < 3720 → m_c X σ_25 a j = m_c X σ a j := fun j h0 h1 => (mcσ_25 j).trans (kpσ_21 j h0 h1)
                have smσ_25 : 0 ≤ (σ_25.1 a 15).toInt ∧ (σ_25.1 a 15).toInt ≤ (σ_25.1 a 16).toInt ∧ (σ_25.1 a 16).toInt ≤ (σ_25.1 a 9).toInt ∧ (σ_25.1 a 9).toInt ≤ 900 ∧ 0 ≤ (σ_25.1 a 14).toInt ∧ (σ_25.1 a 14).toInt ≤ 4 ∧ (σ_25.1 a 14).toInt ≤ 4 * ((σ_25.1 a 16).toInt - (σ_25.1 a 15).toInt) ∧ (σ_25.1 a 14).toInt ≤ 4 * ((σ_25.1 a 9).toInt - (σ_25.1 a 15).toInt) ∧ 0 ≤ (σ_25.1 a 12).toInt ∧ (σ_25.1 a 8).toInt = 0 := (by first | (clear hn tb8 mv9_σ_1 mv12_σ_1 mv14_σ_1 mv15_σ_1 mv16_σ_1 mv8_σ_1 mv9_σ_2 mv12_σ_2 mv14_σ_2 mv15_σ_2 mv16_σ_2 mv8_σ_2 kc_3 ahpσ_5 bhpσ_5 ehpσ_5 fhpσ_5 c_6 sv hm25 hge25 hzσ_8 smσ_8 gc_10_x_7 c_10 hm51 hge51 gc_14_x_11 c_14 ahpσ_19 bhpσ_19 chpσ_19 ahpσ_21 chpσ_21 dhpσ_21 ehpσ_21 k4σ_21 kc_22 kc_23 ahpσ_25 chpσ_25 dhpσ_25 ehpσ_25; omega) | omega)
                have zhσ_25 : ∀ j, 3754 ≤ j → j < 3814 → m_c X σ_25 a j = 0 := fun j h0 h1 => (mcσ_25 j).trans (zhσ_21 j h0 h1)
                have nnσ_25 : m_N (m_c X σ_25 a) := m_N.ext mcσ_25 nnσ_21
                have k4σ_25 : 1 ≤ m_c X σ_25 a 3724 + 10 * (σ_25.1 a 12).toInt := (by have := mcσ_25 3724; omega)
                clear mv8_σ_25 smσ_21 k4σ_21 bhpσ_25
                have ks_σ_25 : q_KS (fun b g => b = a ∧ 8 ≤ g ∧ g ≤ 18) 1 X σ σ_25 := ks_σ_21.K hkσ_25 (by decide)
                refine q_iastN E hI (q_tk (k' := 34) hI ha rfl (Nat.succ_ne_zero _)) ⟨by decide, rfl⟩ (by decide) (by rw [q_lnk (v := 4650) hI (q_tk (k' := 34) hI ha rfl (Nat.succ_ne_zero _)) rfl (by decide)]; decide) (show 0 < 2 by decide) (q_inU rfl) dX12_table_111 (fun H locs σ_26 hσ_26 hI => ?_)
                replace hF := q_letX hF hσ_26
                have fr_σ_26 := fr_σ_25.si hσ_26 (q_tk (k' := 34) hI ha rfl (Nat.succ_ne_zero _)) rfl
                have mv9_σ_26 : (σ_26.1 a 9).toInt = (σ_25.1 a 9).toInt := congrArg Int32.toInt (q_rdn hσ_26 (Or.inl (m_ne ha (q_tk (k' := 34) hI ha rfl (Nat.succ_ne_zero _)) (by decide))))
                have mv12_σ_26 : (σ_26.1 a 12).toInt = (σ_25.1 a 12).toInt := congrArg Int32.toInt (q_rdn hσ_26 (Or.inl (m_ne ha (q_tk (k' := 34) hI ha rfl (Nat.succ_ne_zero _)) (by decide))))
                have mv14_σ_26 : (σ_26.1 a 14).toInt = (σ_25.1 a 14).toInt := congrArg Int32.toInt (q_rdn hσ_26 (Or.inl (m_ne ha (q_tk (k' := 34) hI ha rfl (Nat.succ_ne_zero _)) (by decide))))
                have mv15_σ_26 : (σ_26.1 a 15).toInt = (σ_25.1 a 15).toInt := congrArg Int32.toInt (q_rdn hσ_26 (Or.inl (m_ne ha (q_tk (k' := 34) hI ha rfl (Nat.succ_ne_zero _)) (by decide))))
                have mv16_σ_26 : (σ_26.1 a 16).toInt = (σ_25.1 a 16).toInt := congrArg Int32.toInt (q_rdn hσ_26 (Or.inl (m_ne ha (q_tk (k' := 34) hI ha rfl (Nat.succ_ne_zero _)) (by decide))))
                have mv8_σ_26 : (σ_26.1 a 8).toInt = (σ_25.1 a 8).toInt := congrArg Int32.toInt (q_rdn hσ_26 (Or.inl (m_ne ha (q_tk (k' := 34) hI ha rfl (Nat.succ_ne_zero _)) (by decide))))
                have ks_σ_26 : q_KS (fun b g => b = a ∧ 8 ≤ g ∧ g ≤ 18) 1 X σ σ_26 := ks_σ_25.si hσ_26 (q_tk (k' := 34) hI ha rfl (Nat.succ_ne_zero _)) (show 1 < 2 by decide)
                have mcσ_26 := m_wr (v := r_24) (A := 3720) hσ_26 (by decide) (by decide)
                have kpσ_26 : ∀ j, 0 ≤ j → j < 3720 → m_c X σ_26 a j = m_c X σ a j := fun j h0 h1 => by rw [mcσ_26 j h0, if_neg (by first | (clear hn tb8 mv9_σ_1 mv12_σ_1 mv14_σ_1 mv15_σ_1 mv16_σ_1 mv8_σ_1 mv9_σ_2 mv12_σ_2 mv14_σ_2 mv15_σ_2 mv16_σ_2 mv8_σ_2 kc_3 ahpσ_5 bhpσ_5 ehpσ_5 fhpσ_5 c_6 sv hm25 hge25 hzσ_8 smσ_8 gc_10_x_7 c_10 hm51 hge51 gc_14_x_11 c_14 ahpσ_19 bhpσ_19 chpσ_19 ahpσ_21 chpσ_21 dhpσ_21 ehpσ_21 kc_22 kc_23 ahpσ_25 chpσ_25 dhpσ_25 ehpσ_25 smσ_25 k4σ_25 mv9_σ_26 mv12_σ_26 mv14_σ_26 mv15_σ_26 mv16_σ_26 mv8_σ_26; omega) | omega)]; exact kpσ_25 j h0 h1
                have smσ_26 : 0 ≤ (σ_26.1 a 15).toInt ∧ (σ_26.1 a 15).toInt ≤ (σ_26.1 a 16).toInt ∧ (σ_26.1 a 16).toInt ≤ (σ_26.1 a 9).toInt ∧ (σ_26.1 a 9).toInt ≤ 900 ∧ 0 ≤ (σ_26.1 a 14).toInt ∧ (σ_26.1 a 14).toInt ≤ 4 ∧ (σ_26.1 a 14).toInt ≤ 4 * ((σ_26.1 a 16).toInt - (σ_26.1 a 15).toInt) ∧ (σ_26.1 a 14).toInt ≤ 4 * ((σ_26.1 a 9).toInt - (σ_26.1 a 15).toInt) ∧ 0 ≤ (σ_26.1 a 12).toInt ∧ (σ_26.1 a 8).toInt = 0 := (by first | (rw [mv12_σ_26, mv14_σ_26, mv15_σ_26, mv16_σ_26, mv8_σ_26, mv9_σ_26]; exact smσ_25) | omega)
                have nnσ_26 : m_N (m_c X σ_26 a) := m_N.w0 nnσ_25 zhσ_25 mcσ_26 (by first | (clear hn tb8 mv9_σ_1 mv12_σ_1 mv14_σ_1 mv15_σ_1 mv16_σ_1 mv8_σ_1 mv9_σ_2 mv12_σ_2 mv14_σ_2 mv15_σ_2 mv16_σ_2 mv8_σ_2 kc_3 ahpσ_5 bhpσ_5 ehpσ_5 fhpσ_5 c_6 sv hm25 hge25 hzσ_8 smσ_8 gc_10_x_7 c_10 hm51 hge51 gc_14_x_11 c_14 ahpσ_19 bhpσ_19 chpσ_19 ahpσ_21 chpσ_21 dhpσ_21 ehpσ_21 kc_22 ahpσ_25 dhpσ_25 ehpσ_25 smσ_25 k4σ_25 mv9_σ_26 mv12_σ_26 mv14_σ_26 mv15_σ_26 mv16_σ_26 mv8_σ_26 smσ_26; omega) | omega)
                have k0σ_26 : 2 ≤ m_c X σ_26 a 3720 + 10 * (σ_26.1 a 12).toInt := (by have := mcσ_26 3720 (by decide); rw [if_pos rfl] at this; omega)
                have k4σ_26 : 1 ≤ m_c X σ_26 a 3724 + 10 * (σ_26.1 a 12).toInt := (by have := mcσ_26 3724 (by decide); rw [if_neg (by first | (clear hn tb8 mv9_σ_1 mv12_σ_1 mv14_σ_1 mv15_σ_1 mv16_σ_1 mv8_σ_1 mv9_σ_2 mv12_σ_2 mv14_σ_2 mv15_σ_2 mv16_σ_2 mv8_σ_2 kc_3 ahpσ_5 bhpσ_5 ehpσ_5 fhpσ_5 c_6 sv hm25 hge25 hzσ_8 smσ_8 gc_10_x_7 c_10 hm51 hge51 gc_14_x_11 c_14 ahpσ_19 bhpσ_19 chpσ_19 ahpσ_21 chpσ_21 dhpσ_21 ehpσ_21 kc_22 kc_23 ahpσ_25 chpσ_25 dhpσ_25 ehpσ_25 smσ_25 k4σ_25 mv9_σ_26 mv12_σ_26 mv14_σ_26 mv15_σ_26 mv16_σ_26 mv8_σ_26 smσ_26 k0σ_26; omega) | omega)] at this; omega)
                clear mv9_σ_26 mv12_σ_26 mv14_σ_26 mv15_σ_26 mv16_σ_26 mv8_σ_26 smσ_25 k4σ_25
                refine lv_aload_n hx hb dX12_table_112 rfl (lv_at hl 0 rfl) ?_
                refine lv_aload_n hx hb dX12_table_113 rfl (lv_at hl 0 rfl) ?_
                refine q_ci (q_rV11_0 (rest := [.ref a]) E (hml.trans hl.1.symm) hI (c_X12_isEach l X σ_26 a ha) kv_X12_153 ha ⟨Nat.le_of_ble_eq_true rfl, Nat.le_of_ble_eq_true rfl⟩ (Nat.le_of_ble_eq_true rfl) dX12_table_114) hI (Nat.le_of_ble_eq_true rfl) (fun r_27 σ_28 H locs hpσ_28 hkσ_28 hI => ?_)
                have ahpσ_28 := hpσ_28.1
                have bhpσ_28 := hpσ_28.2.1
                have chpσ_28 := hpσ_28.2.2
                clear hpσ_28
                replace hI := q_Irw ahpσ_28 hI
                replace hF := q_letX hF chpσ_28
                refine q_cv (q_rV11_1 (rest := []) E (hml.trans hl.1.symm) hI (c_X12_must l X σ_26 a r_27 ha (by first | exact sm_9 smσ_26 | exact hs | omega) (by first | (clear hn tb8 mv9_σ_1 mv12_σ_1 mv14_σ_1 mv15_σ_1 mv16_σ_1 mv8_σ_1 mv9_σ_2 mv12_σ_2 mv14_σ_2 mv15_σ_2 mv16_σ_2 mv8_σ_2 kc_3 ahpσ_5 bhpσ_5 ehpσ_5 fhpσ_5 c_6 sv hm25 hge25 hzσ_8 smσ_8 gc_10_x_7 c_10 hm51 hge51 gc_14_x_11 c_14 ahpσ_19 bhpσ_19 chpσ_19 ahpσ_21 chpσ_21 dhpσ_21 ehpσ_21 kc_22 kc_23 ahpσ_25 chpσ_25 dhpσ_25 ehpσ_25 smσ_26 k0σ_26 k4σ_26 ahpσ_28 chpσ_28; omega) | omega)) kv_X12_216 ha ⟨Nat.le_of_ble_eq_true rfl, Nat.le_of_ble_eq_true rfl⟩ (Nat.le_of_ble_eq_true rfl) dX12_table_117) hI (Nat.le_of_ble_eq_true rfl) (fun σ_30 H locs hpσ_30 hkσ_30 hI => ?_)
                have ahpσ_30 := hpσ_30.1
                have bhpσ_30 := hpσ_30.2.1
                have chpσ_30 := hpσ_30.2.2.1
                have dhpσ_30 := hpσ_30.2.2.2.1
                have ehpσ_30 := hpσ_30.2.2.2.2
                clear hpσ_30
                have fr_σ_30 := fr_σ_26.call ehpσ_30 rfl rfl
                replace hF := q_letX hF dhpσ_30
                have mv8_σ_30 : (σ_30.1 a 8).toInt = (σ_26.1 a 8).toInt := congrArg Int32.toInt (hkσ_30 a 8 (by rw [ha]; decide))
                have mcσ_30 := m_cK hkσ_30 hI.1 ha (by decide)
                have kpσ_30 : ∀ j, 0 ≤ j → j < 3720 → m_c X σ_30 a j = m_c X σ a j := fun j h0 h1 => (mcσ_30 j).trans (kpσ_26 j h0 h1)
                have smσ_30 : 0 ≤ (σ_30.1 a 15).toInt ∧ (σ_30.1 a 15).toInt ≤ (σ_30.1 a 16).toInt ∧ (σ_30.1 a 16).toInt ≤ (σ_30.1 a 9).toInt ∧ (σ_30.1 a 9).toInt ≤ 900 ∧ 0 ≤ (σ_30.1 a 14).toInt ∧ (σ_30.1 a 14).toInt ≤ 4 ∧ (σ_30.1 a 14).toInt ≤ 4 * ((σ_30.1 a 16).toInt - (σ_30.1 a 15).toInt) ∧ (σ_30.1 a 14).toInt ≤ 4 * ((σ_30.1 a 9).toInt - (σ_30.1 a 15).toInt) ∧ 0 ≤ (σ_30.1 a 12).toInt ∧ (σ_30.1 a 8).toInt = 0 := (by first | (clear hn tb8 mv9_σ_1 mv12_σ_1 mv14_σ_1 mv15_σ_1 mv16_σ_1 mv8_σ_1 mv9_σ_2 mv12_σ_2 mv14_σ_2 mv15_σ_2 mv16_σ_2 mv8_σ_2 kc_3 ahpσ_5 bhpσ_5 ehpσ_5 fhpσ_5 c_6 sv hm25 hge25 hzσ_8 smσ_8 gc_10_x_7 c_10 hm51 hge51 gc_14_x_11 c_14 ahpσ_19 bhpσ_19 chpσ_19 ahpσ_21 chpσ_21 dhpσ_21 ehpσ_21 kc_22 kc_23 ahpσ_25 chpσ_25 dhpσ_25 ehpσ_25 k0σ_26 k4σ_26 ahpσ_28 bhpσ_28 chpσ_28 ahpσ_30 chpσ_30 dhpσ_30 ehpσ_30; omega) | omega)
                have nnσ_30 : m_N (m_c X σ_30 a) := m_N.ext mcσ_30 nnσ_26
                have k0σ_30 : 2 ≤ m_c X σ_30 a 3720 + 10 * (σ_30.1 a 12).toInt := (by have := mcσ_30 3720; omega)
                have k4σ_30 : 1 ≤ m_c X σ_30 a 3724 + 10 * (σ_30.1 a 12).toInt := (by have := mcσ_30 3724; omega)
                clear mv8_σ_30 smσ_26 k0σ_26 k4σ_26 bhpσ_30
                have ks_σ_30 : q_KS (fun b g => b = a ∧ 8 ≤ g ∧ g ≤ 18) 1 X σ σ_30 := ks_σ_26.K hkσ_30 (by decide)
                refine lv_aload_n hx hb dX12_table_120 rfl (lv_at hl 0 rfl) ?_
                refine gs_X12_35_12 E hI ha dX12_table_121 ?_
                refine lv_sipush (v := 3721) hx hb dX12_table_124 zks_3721 ?_
                refine lv_aload_n hx hb dX12_table_127 rfl (lv_at hl 0 rfl) ?_
                refine lv_iconst (v := 1) hx hb dX12_table_128 zki_1 ?_
                refine lv_bipush (v := 8) hx hb dX12_table_129 zkb_8 ?_
                have kc_31 : (1 : Int32).toInt = 1 := zt_1
                have kc_32 : (8 : Int32).toInt = 8 := zt_8
                refine q_ci (q_rV11_2 (rest := [.int 3721, .ref (q_rf X a 20)]) E (hml.trans hl.1.symm) hI (c_X12_count l X σ_30 a (1 : Int32) (8 : Int32) ha (by first | exact sm_9 smσ_30 | exact hs | omega) (by first | (clear hn tb8 mv9_σ_1 mv12_σ_1 mv14_σ_1 mv15_σ_1 mv16_σ_1 mv8_σ_1 mv9_σ_2 mv12_σ_2 mv14_σ_2 mv15_σ_2 mv16_σ_2 mv8_σ_2 kc_3 ahpσ_5 bhpσ_5 ehpσ_5 fhpσ_5 c_6 sv hm25 hge25 hzσ_8 smσ_8 gc_10_x_7 c_10 hm51 hge51 gc_14_x_11 c_14 ahpσ_19 bhpσ_19 chpσ_19 ahpσ_21 chpσ_21 dhpσ_21 ehpσ_21 kc_22 kc_23 ahpσ_25 chpσ_25 dhpσ_25 ehpσ_25 ahpσ_28 bhpσ_28 chpσ_28 ahpσ_30 chpσ_30 dhpσ_30 ehpσ_30 smσ_30 k0σ_30 k4σ_30; omega) | omega)) kv_X12_223 ha ⟨Nat.le_of_ble_eq_true rfl, Nat.le_of_ble_eq_true rfl⟩ (Nat.le_of_ble_eq_true rfl) dX12_table_131) hI (Nat.le_of_ble_eq_true rfl) (fun r_33 σ_34 H locs hpσ_34 hkσ_34 hI => ?_)
                have ahpσ_34 := hpσ_34.1
                have bhpσ_34 := hpσ_34.2.1
                have chpσ_34 := hpσ_34.2.2.1
                have dhpσ_34 := hpσ_34.2.2.2.1
                have ehpσ_34 := hpσ_34.2.2.2.2
                clear hpσ_34
                have fr_σ_34 := fr_σ_30.call ehpσ_34 rfl rfl
                replace hF := q_biX hF dhpσ_34
                have mv8_σ_34 : (σ_34.1 a 8).toInt = (σ_30.1 a 8).toInt := congrArg Int32.toInt (hkσ_34 a 8 (by rw [ha]; decide))
                have mcσ_34 := m_cK hkσ_34 hI.1 ha (by decide)
                have kpσ_34 : ∀ j, 0 ≤ j → j < 3720 → m_c X σ_34 a j = m_c X σ a j := fun j h0 h1 => (mcσ_34 j).trans (kpσ_30 j h0 h1)
                have smσ_34 : 0 ≤ (σ_34.1 a 15).toInt ∧ (σ_34.1 a 15).toInt ≤ (σ_34.1 a 16).toInt ∧ (σ_34.1 a 16).toInt ≤ (σ_34.1 a 9).toInt ∧ (σ_34.1 a 9).toInt ≤ 900 ∧ 0 ≤ (σ_34.1 a 14).toInt ∧ (σ_34.1 a 14).toInt ≤ 4 ∧ (σ_34.1 a 14).toInt ≤ 4 * ((σ_34.1 a 16).toInt - (σ_34.1 a 15).toInt) ∧ (σ_34.1 a 14).toInt ≤ 4 * ((σ_34.1 a 9).toInt - (σ_34.1 a 15).toInt) ∧ 0 ≤ (σ_34.1 a 12).toInt ∧ (σ_34.1 a 8).toInt = 0 := (by first | (clear hn tb8 mv9_σ_1 mv12_σ_1 mv14_σ_1 mv15_σ_1 mv16_σ_1 mv8_σ_1 mv9_σ_2 mv12_σ_2 mv14_σ_2 mv15_σ_2 mv16_σ_2 mv8_σ_2 kc_3 ahpσ_5 bhpσ_5 ehpσ_5 fhpσ_5 c_6 sv hm25 hge25 hzσ_8 smσ_8 gc_10_x_7 c_10 hm51 hge51 gc_14_x_11 c_14 ahpσ_19 bhpσ_19 chpσ_19 ahpσ_21 chpσ_21 dhpσ_21 ehpσ_21 kc_22 kc_23 ahpσ_25 chpσ_25 dhpσ_25 ehpσ_25 ahpσ_28 bhpσ_28 chpσ_28 ahpσ_30 chpσ_30 dhpσ_30 ehpσ_30 k0σ_30 k4σ_30 kc_31 kc_32 ahpσ_34 chpσ_34 dhpσ_34 ehpσ_34; omega) | omega)
                have nnσ_34 : m_N (m_c X σ_34 a) := m_N.ext mcσ_34 nnσ_30
                have k0σ_34 : 2 ≤ m_c X σ_34 a 3720 + 10 * (σ_34.1 a 12).toInt := (by have := mcσ_34 3720; omega)
                have k4σ_34 : 1 ≤ m_c X σ_34 a 3724 + 10 * (σ_34.1 a 12).toInt := (by have := mcσ_34 3724; omega)
                clear mv8_σ_34 smσ_30 k0σ_30 k4σ_30 bhpσ_34
                have ks_σ_34 : q_KS (fun b g => b = a ∧ 8 ≤ g ∧ g ≤ 18) 1 X σ σ_34 := ks_σ_30.K hkσ_34 (by decide)
                refine q_iastN E hI (q_tk (k' := 34) hI ha rfl (Nat.succ_ne_zero _)) ⟨by decide, rfl⟩ (by decide) (by rw [q_lnk (v := 4650) hI (q_tk (k' := 34) hI ha rfl (Nat.succ_ne_zero _)) rfl (by decide)]; decide) (show 0 < 2 by decide) (q_inU rfl) dX12_table_134 (fun H locs σ_35 hσ_35 hI => ?_)
                replace hF := q_letX hF hσ_35
                have fr_σ_35 := fr_σ_34.si hσ_35 (q_tk (k' := 34) hI ha rfl (Nat.succ_ne_zero _)) rfl
                have mv9_σ_35 : (σ_35.1 a 9).toInt = (σ_34.1 a 9).toInt := congrArg Int32.toInt (q_rdn hσ_35 (Or.inl (m_ne ha (q_tk (k' := 34) hI ha rfl (Nat.succ_ne_zero _)) (by decide))))
                have mv12_σ_35 : (σ_35.1 a 12).toInt = (σ_34.1 a 12).toInt := congrArg Int32.toInt (q_rdn hσ_35 (Or.inl (m_ne ha (q_tk (k' := 34) hI ha rfl (Nat.succ_ne_zero _)) (by decide))))
                have mv14_σ_35 : (σ_35.1 a 14).toInt = (σ_34.1 a 14).toInt := congrArg Int32.toInt (q_rdn hσ_35 (Or.inl (m_ne ha (q_tk (k' := 34) hI ha rfl (Nat.succ_ne_zero _)) (by decide))))
                have mv15_σ_35 : (σ_35.1 a 15).toInt = (σ_34.1 a 15).toInt := congrArg Int32.toInt (q_rdn hσ_35 (Or.inl (m_ne ha (q_tk (k' := 34) hI ha rfl (Nat.succ_ne_zero _)) (by decide))))
                have mv16_σ_35 : (σ_35.1 a 16).toInt = (σ_34.1 a 16).toInt := congrArg Int32.toInt (q_rdn hσ_35 (Or.inl (m_ne ha (q_tk (k' := 34) hI ha rfl (Nat.succ_ne_zero _)) (by decide))))
                have mv8_σ_35 : (σ_35.1 a 8).toInt = (σ_34.1 a 8).toInt := congrArg Int32.toInt (q_rdn hσ_35 (Or.inl (m_ne ha (q_tk (k' := 34) hI ha rfl (Nat.succ_ne_zero _)) (by decide))))
                have ks_σ_35 : q_KS (fun b g => b = a ∧ 8 ≤ g ∧ g ≤ 18) 1 X σ σ_35 := ks_σ_34.si hσ_35 (q_tk (k' := 34) hI ha rfl (Nat.succ_ne_zero _)) (show 1 < 2 by decide)
                have mcσ_35 := m_wr (v := r_33) (A := 3721) hσ_35 (by decide) (by decide)
                have kpσ_35 : ∀ j, 0 ≤ j → j < 3720 → m_c X σ_35 a j = m_c X σ a j := fun j h0 h1 => by rw [mcσ_35 j h0, if_neg (by first | (clear hn tb8 mv9_σ_1 mv12_σ_1 mv14_σ_1 mv15_σ_1 mv16_σ_1 mv8_σ_1 mv9_σ_2 mv12_σ_2 mv14_σ_2 mv15_σ_2 mv16_σ_2 mv8_σ_2 kc_3 ahpσ_5 bhpσ_5 ehpσ_5 fhpσ_5 c_6 sv hm25 hge25 hzσ_8 smσ_8 gc_10_x_7 c_10 hm51 hge51 gc_14_x_11 c_14 ahpσ_19 bhpσ_19 chpσ_19 ahpσ_21 chpσ_21 dhpσ_21 ehpσ_21 kc_22 kc_23 ahpσ_25 chpσ_25 dhpσ_25 ehpσ_25 ahpσ_28 bhpσ_28 chpσ_28 ahpσ_30 chpσ_30 dhpσ_30 ehpσ_30 kc_31 kc_32 ahpσ_34 chpσ_34 dhpσ_34 ehpσ_34 smσ_34 k0σ_34 k4σ_34 mv9_σ_35 mv12_σ_35 mv14_σ_35 mv15_σ_35 mv16_σ_35 mv8_σ_35; omega) | omega)]; exact kpσ_34 j h0 h1
                have smσ_35 : 0 ≤ (σ_35.1 a 15).toInt ∧ (σ_35.1 a 15).toInt ≤ (σ_35.1 a 16).toInt ∧ (σ_35.1 a 16).toInt ≤ (σ_35.1 a 9).toInt ∧ (σ_35.1 a 9).toInt ≤ 900 ∧ 0 ≤ (σ_35.1 a 14).toInt ∧ (σ_35.1 a 14).toInt ≤ 4 ∧ (σ_35.1 a 14).toInt ≤ 4 * ((σ_35.1 a 16).toInt - (σ_35.1 a 15).toInt) ∧ (σ_35.1 a 14).toInt ≤ 4 * ((σ_35.1 a 9).toInt - (σ_35.1 a 15).toInt) ∧ 0 ≤ (σ_35.1 a 12).toInt ∧ (σ_35.1 a 8).toInt = 0 := (by first | (rw [mv12_σ_35, mv14_σ_35, mv15_σ_35, mv16_σ_35, mv8_σ_35, mv9_σ_35]; exact smσ_34) | omega)
                have nnσ_35 : m_N (m_c X σ_35 a) := m_N.wr nnσ_34 mcσ_35 (by first | (clear hn tb8 mv9_σ_1 mv12_σ_1 mv14_σ_1 mv15_σ_1 mv16_σ_1 mv8_σ_1 mv9_σ_2 mv12_σ_2 mv14_σ_2 mv15_σ_2 mv16_σ_2 mv8_σ_2 kc_3 ahpσ_5 bhpσ_5 ehpσ_5 fhpσ_5 c_6 sv hm25 hge25 hzσ_8 smσ_8 gc_10_x_7 c_10 hm51 hge51 gc_14_x_11 c_14 ahpσ_19 bhpσ_19 chpσ_19 ahpσ_21 chpσ_21 dhpσ_21 ehpσ_21 kc_22 kc_23 ahpσ_25 chpσ_25 dhpσ_25 ehpσ_25 ahpσ_28 bhpσ_28 chpσ_28 ahpσ_30 chpσ_30 dhpσ_30 ehpσ_30 kc_31 ahpσ_34 dhpσ_34 ehpσ_34 smσ_34 k0σ_34 k4σ_34 mv9_σ_35 mv12_σ_35 mv14_σ_35 mv15_σ_35 mv16_σ_35 mv8_σ_35 smσ_35; omega) | omega)
                have k0σ_35 : 2 ≤ m_c X σ_35 a 3720 + 10 * (σ_35.1 a 12).toInt := (by have := mcσ_35 3720 (by decide); rw [if_neg (by first | (clear hn tb8 mv9_σ_1 mv12_σ_1 mv14_σ_1 mv15_σ_1 mv16_σ_1 mv8_σ_1 mv9_σ_2 mv12_σ_2 mv14_σ_2 mv15_σ_2 mv16_σ_2 mv8_σ_2 kc_3 ahpσ_5 bhpσ_5 ehpσ_5 fhpσ_5 c_6 sv hm25 hge25 hzσ_8 smσ_8 gc_10_x_7 c_10 hm51 hge51 gc_14_x_11 c_14 ahpσ_19 bhpσ_19 chpσ_19 ahpσ_21 chpσ_21 dhpσ_21 ehpσ_21 kc_22 kc_23 ahpσ_25 chpσ_25 dhpσ_25 ehpσ_25 ahpσ_28 bhpσ_28 chpσ_28 ahpσ_30 chpσ_30 dhpσ_30 ehpσ_30 kc_31 kc_32 ahpσ_34 chpσ_34 dhpσ_34 ehpσ_34 smσ_34 k0σ_34 k4σ_34 mv9_σ_35 mv12_σ_35 mv14_σ_35 mv15_σ_35 mv16_σ_35 mv8_σ_35 smσ_35; omega) | omega)] at this; omega)
                have k4σ_35 : 1 ≤ m_c X σ_35 a 3724 + 10 * (σ_35.1 a 12).toInt := (by have := mcσ_35 3724 (by decide); rw [if_neg (by first | (clear hn tb8 mv9_σ_1 mv12_σ_1 mv14_σ_1 mv15_σ_1 mv16_σ_1 mv8_σ_1 mv9_σ_2 mv12_σ_2 mv14_σ_2 mv15_σ_2 mv16_σ_2 mv8_σ_2 kc_3 ahpσ_5 bhpσ_5 ehpσ_5 fhpσ_5 c_6 sv hm25 hge25 hzσ_8 smσ_8 gc_10_x_7 c_10 hm51 hge51 gc_14_x_11 c_14 ahpσ_19 bhpσ_19 chpσ_19 ahpσ_21 chpσ_21 dhpσ_21 ehpσ_21 kc_22 kc_23 ahpσ_25 chpσ_25 dhpσ_25 ehpσ_25 ahpσ_28 bhpσ_28 chpσ_28 ahpσ_30 chpσ_30 dhpσ_30 ehpσ_30 kc_31 kc_32 ahpσ_34 chpσ_34 dhpσ_34 ehpσ_34 smσ_34 k0σ_34 k4σ_34 mv9_σ_35 mv12_σ_35 mv14_σ_35 mv15_σ_35 mv16_σ_35 mv8_σ_35 smσ_35 k0σ_35; omega) | omega)] at this; omega)
                clear mv9_σ_35 mv12_σ_35 mv14_σ_35 mv15_σ_35 mv16_σ_35 mv8_σ_35 smσ_34 k0σ_34 k4σ_34
                refine lv_aload_n hx hb dX12_table_135 rfl (lv_at hl 0 rfl) ?_
                refine lv_aload_n hx hb dX12_table_136 rfl (lv_at hl 0 rfl) ?_
                refine lv_bipush (v := 59) hx hb dX12_table_137 zkb_59 ?_
                have kc_36 : (59 : Int32).toInt = 59 := zt_59
                refine q_ci (q_rV11_1 (rest := [.ref a]) E (hml.trans hl.1.symm) hI (c_X12_isSign l X σ_35 a (59 : Int32) ha) kv_X12_243 ha ⟨Nat.le_of_ble_eq_true rfl, Nat.le_of_ble_eq_true rfl⟩ (Nat.le_of_ble_eq_true rfl) dX12_table_139) hI (Nat.le_of_ble_eq_true rfl) (fun r_37 σ_38 H locs hpσ_38 hkσ_38 hI => ?_)
                have ahpσ_38 := hpσ_38.1
                have bhpσ_38 := hpσ_38.2.1
                have chpσ_38 := hpσ_38.2.2
                clear hpσ_38
                replace hI := q_Irw ahpσ_38 hI
                replace hF := q_letX hF chpσ_38
                refine q_cv (q_rV11_1 (rest := []) E (hml.trans hl.1.symm) hI (c_X12_must l X σ_35 a r_37 ha (by first | exact sm_9 smσ_35 | exact hs | omega) (by first | (clear hn tb8 mv9_σ_1 mv12_σ_1 mv14_σ_1 mv15_σ_1 mv16_σ_1 mv8_σ_1 mv9_σ_2 mv12_σ_2 mv14_σ_2 mv15_σ_2 mv16_σ_2 mv8_σ_2 kc_3 ahpσ_5 bhpσ_5 ehpσ_5 fhpσ_5 c_6 sv hm25 hge25 hzσ_8 smσ_8 gc_10_x_7 c_10 hm51 hge51 gc_14_x_11 c_14 ahpσ_19 bhpσ_19 chpσ_19 ahpσ_21 chpσ_21 dhpσ_21 ehpσ_21 kc_22 kc_23 ahpσ_25 chpσ_25 dhpσ_25 ehpσ_25 ahpσ_28 bhpσ_28 chpσ_28 ahpσ_30 chpσ_30 dhpσ_30 ehpσ_30 kc_31 kc_32 ahpσ_34 chpσ_34 dhpσ_34 ehpσ_34 smσ_35 k0σ_35 k4σ_35 kc_36 ahpσ_38 chpσ_38; omega) | omega)) kv_X12_216 ha ⟨Nat.le_of_ble_eq_true rfl, Nat.le_of_ble_eq_true rfl⟩ (Nat.le_of_ble_eq_true rfl) dX12_table_142) hI (Nat.le_of_ble_eq_true rfl) (fun σ_40 H locs hpσ_40 hkσ_40 hI => ?_)
                have ahpσ_40 := hpσ_40.1
                have bhpσ_40 := hpσ_40.2.1
                have chpσ_40 := hpσ_40.2.2.1
                have dhpσ_40 := hpσ_40.2.2.2.1
                have ehpσ_40 := hpσ_40.2.2.2.2
                clear hpσ_40
                have fr_σ_40 := fr_σ_35.call ehpσ_40 rfl rfl
                replace hF := q_letX hF dhpσ_40
                have mv8_σ_40 : (σ_40.1 a 8).toInt = (σ_35.1 a 8).toInt := congrArg Int32.toInt (hkσ_40 a 8 (by rw [ha]; decide))
                have mcσ_40 := m_cK hkσ_40 hI.1 ha (by decide)
                have kpσ_40 : ∀ j, 0 ≤ j → j < 3720 → m_c X σ_40 a j = m_c X σ a j := fun j h0 h1 => (mcσ_40 j).trans (kpσ_35 j h0 h1)
                have smσ_40 : 0 ≤ (σ_40.1 a 15).toInt ∧ (σ_40.1 a 15).toInt ≤ (σ_40.1 a 16).toInt ∧ (σ_40.1 a 16).toInt ≤ (σ_40.1 a 9).toInt ∧ (σ_40.1 a 9).toInt ≤ 900 ∧ 0 ≤ (σ_40.1 a 14).toInt ∧ (σ_40.1 a 14).toInt ≤ 4 ∧ (σ_40.1 a 14).toInt ≤ 4 * ((σ_40.1 a 16).toInt - (σ_40.1 a 15).toInt) ∧ (σ_40.1 a 14).toInt ≤ 4 * ((σ_40.1 a 9).toInt - (σ_40.1 a 15).toInt) ∧ 0 ≤ (σ_40.1 a 12).toInt ∧ (σ_40.1 a 8).toInt = 0 := (by first | (clear hn tb8 mv9_σ_1 mv12_σ_1 mv14_σ_1 mv15_σ_1 mv16_σ_1 mv8_σ_1 mv9_σ_2 mv12_σ_2 mv14_σ_2 mv15_σ_2 mv16_σ_2 mv8_σ_2 kc_3 ahpσ_5 bhpσ_5 ehpσ_5 fhpσ_5 c_6 sv hm25 hge25 hzσ_8 smσ_8 gc_10_x_7 c_10 hm51 hge51 gc_14_x_11 c_14 ahpσ_19 bhpσ_19 chpσ_19 ahpσ_21 chpσ_21 dhpσ_21 ehpσ_21 kc_22 kc_23 ahpσ_25 chpσ_25 dhpσ_25 ehpσ_25 ahpσ_28 bhpσ_28 chpσ_28 ahpσ_30 chpσ_30 dhpσ_30 ehpσ_30 kc_31 kc_32 ahpσ_34 chpσ_34 dhpσ_34 ehpσ_34 k0σ_35 k4σ_35 kc_36 ahpσ_38 bhpσ_38 chpσ_38 ahpσ_40 chpσ_40 dhpσ_40 ehpσ_40; omega) | omega)
                have nnσ_40 : m_N (m_c X σ_40 a) := m_N.ext mcσ_40 nnσ_35
                have k0σ_40 : 2 ≤ m_c X σ_40 a 3720 + 10 * (σ_40.1 a 12).toInt := (by have := mcσ_40 3720; omega)
                have k4σ_40 : 1 ≤ m_c X σ_40 a 3724 + 10 * (σ_40.1 a 12).toInt := (by have := mcσ_40 3724; omega)
                clear mv8_σ_40 smσ_35 k0σ_35 k4σ_35 bhpσ_40
                have ks_σ_40 : q_KS (fun b g => b = a ∧ 8 ≤ g ∧ g ≤ 18) 1 X σ σ_40 := ks_σ_35.K hkσ_40 (by decide)
                have L_145_42 : ∀ (k_42 : Nat)  (σ_41 : ST) (H : Heap) (locs : List Loc) (ls : Array Slot), (901 - (σ_41.1 a 15).toInt).toNat + (1 - (σ_41.1 a 12).toInt).toNat < k_42 → (q_KS (fun b g => b = a ∧ 8 ≤ g ∧ g ≤ 18) 1 X σ σ_41) → (q_ow [(12, 0), (12, 1), (12, 8), (12, 9), (12, 10), (12, 11), (12, 12), (12, 13), (12, 14), (12, 15), (12, 16), (12, 17), (12, 18), (12, 25), (12, 26), (34, 99), (36, 99)] [(12, 19), (37, 99)] X σ σ_41) → (∀ j, 0 ≤ j → j < 3720 → m_c X σ_41 a j = m_c X σ a j) → (0 ≤ (σ_41.1 a 15).toInt ∧ (σ_41.1 a 15).toInt ≤ (σ_41.1 a 16).toInt ∧ (σ_41.1 a 16).toInt ≤ (σ_41.1 a 9).toInt ∧ (σ_41.1 a 9).toInt ≤ 900 ∧ 0 ≤ (σ_41.1 a 14).toInt ∧ (σ_41.1 a 14).toInt ≤ 4 ∧ (σ_41.1 a 14).toInt ≤ 4 * ((σ_41.1 a 16).toInt - (σ_41.1 a 15).toInt) ∧ (σ_41.1 a 14).toInt ≤ 4 * ((σ_41.1 a 9).toInt - (σ_41.1 a 15).toInt) ∧ 0 ≤ (σ_41.1 a 12).toInt ∧ (σ_41.1 a 8).toInt = 0) → (m_N (m_c X σ_41 a)) → (2 ≤ m_c X σ_41 a 3720 + 10 * (σ_41.1 a 12).toInt) → (1 ≤ m_c X σ_41 a 3724 + 10 * (σ_41.1 a 12).toInt) → (F_X12_table_L145_5 X a k_42 σ_41 = out) → q_I X 0 σ s.heap locs σ_41 H → lv_has ls 3 [(0, .ref a), (1, .int v1), (2, .int x_11)] → W p l e (q_rm 7 154) s m ([.ref a, .int v1] : List Value).toArray below meth c H locs 0 0 (MQ below (q_Qi X 0 σ (fun (r : Int32) (σ' : ST) => (q_KS (fun b g => b = a ∧ 8 ≤ g ∧ g ≤ 18) 1 X σ σ') ∧ (m_G (m_c X σ' a)) ∧ (m_W (m_c X σ' a) n) ∧ (∀ j, 930 ≤ j → j < 3720 → m_c X σ' a j = m_c X σ a j) ∧ ((v1.toInt < 0 ∨ (σ.1 a 8).toInt < v1.toInt) → (σ'.1 a 8).toInt = (σ.1 a 8).toInt) ∧ ((0 ≤ v1.toInt ∧ v1.toInt ≤ (σ.1 a 8).toInt) → (σ'.1 a 8).toInt = 0) ∧ (r, σ') = F_X12_table X σ a v1 ∧ q_ow [(12, 0), (12, 1), (12, 8), (12, 9), (12, 10), (12, 11), (12, 12), (12, 13), (12, 14), (12, 15), (12, 16), (12, 17), (12, 18), (12, 25), (12, 26), (34, 99), (36, 99)] [(12, 19), (37, 99)] X σ σ')) ([.ref a, .int v1] : List Value).toArray s 0 0 (q_reg X)) (F0 m 145 ls []) := by
                  clear hF
                  intro k_42
                  induction k_42 with
                  | zero =>
                    intro σ_41 H locs ls hms
                    try clear fr_σ_15; try clear mcσ_15; try clear kpσ_15; try clear zzσ_15; try clear fr_σ_16; try clear mcσ_16; try clear kpσ_16; try clear zzσ_16; try clear fr_σ_17; try clear mcσ_17; try clear kpσ_17; try clear zhσ_17; try clear nnσ_17; try clear ahpσ_19; try clear ahpσ_21; try clear fr_σ_21; try clear mcσ_21; try clear kpσ_21; try clear zhσ_21; try clear nnσ_21; try clear ahpσ_25; try clear fr_σ_25; try clear mcσ_25; try clear kpσ_25; try clear zhσ_25; try clear nnσ_25; try clear fr_σ_26; try clear mcσ_26; try clear kpσ_26; try clear nnσ_26; try clear ahpσ_28; try clear ahpσ_30; try clear fr_σ_30; try clear mcσ_30; try clear kpσ_30; try clear nnσ_30; try clear ahpσ_34; try clear fr_σ_34; try clear mcσ_34; try clear kpσ_34; try clear nnσ_34; try clear fr_σ_35; try clear mcσ_35; try clear kpσ_35; try clear nnσ_35; try clear ahpσ_38; try clear ahpσ_40; try clear fr_σ_40; try clear mcσ_40; try clear kpσ_40; try clear smσ_40; try clear nnσ_40
                    exact absurd hms (Nat.not_lt_zero _)
                  | succ k_42 ih145 =>
                    intro σ_41 H locs ls hm145 ks_σ_41 fr_σ_41 kpσ_41 smσ_41 nnσ_41 k0σ_41 k4σ_41 hF hI hl
                    replace hF := (F_X12_table_L145_5_s).symm.trans hF
                    unfold F_X12_table_B145_5 at hF
                    refine lv_aload_n hx hb dX12_table_145 rfl (lv_at hl 0 rfl) ?_
                    refine gs_X12_187_12 E hI ha dX12_table_146 ?_
                    refine lv_topi (fun f_43 ef_43 => ?_)
                    replace hF := q_letX hF ef_43
                    have if_43 : f_43.toInt = (σ_41.1 a 12).toInt := congrArg Int32.toInt ef_43
                    refine q_if_ne (A := f_43.toInt) E rfl (tgt := 232) dX12_table_149 (by decide) (fun c_44 => ?_) (fun c_44 => ?_)
                    · skip
                      replace hF := q_ifn hF c_44
                      unfold F_X12_table_E232_6 at hF
                      refine lv_aload_n hx hb dX12_table_232 rfl (lv_at hl 0 rfl) ?_
                      refine q_ci (q_rV11_0 (rest := []) E (hml.trans hl.1.symm) hI (c_X12_isWell l X σ_41 a ha) kv_X12_258 ha ⟨Nat.le_of_ble_eq_true rfl, Nat.le_of_ble_eq_true rfl⟩ (Nat.le_of_ble_eq_true rfl) dX12_table_233) hI (Nat.le_of_ble_eq_true rfl) (fun r_45 σ_46 H locs hpσ_46 hkσ_46 hI => ?_)
                      have ahpσ_46 := hpσ_46.1
                      have bhpσ_46 := hpσ_46.2.1
                      have chpσ_46 := hpσ_46.2.2.1
                      have dhpσ_46 := hpσ_46.2.2.2
                      clear hpσ_46
                      have fr_σ_46 := fr_σ_41.call dhpσ_46 rfl rfl
                      replace hF := q_biX hF chpσ_46
                      have mv9_σ_46 : (σ_46.1 a 9).toInt = (σ_41.1 a 9).toInt := congrArg Int32.toInt ((q_K.le hkσ_46 (by decide) : q_K 8 X σ_41 σ_46) a 9 (by rw [ha]; decide))
                      have mv12_σ_46 : (σ_46.1 a 12).toInt = (σ_41.1 a 12).toInt := congrArg Int32.toInt ((q_K.le hkσ_46 (by decide) : q_K 8 X σ_41 σ_46) a 12 (by rw [ha]; decide))
                      have mv14_σ_46 : (σ_46.1 a 14).toInt = (σ_41.1 a 14).toInt := congrArg Int32.toInt ((q_K.le hkσ_46 (by decide) : q_K 8 X σ_41 σ_46) a 14 (by rw [ha]; decide))
                      have mv15_σ_46 : (σ_46.1 a 15).toInt = (σ_41.1 a 15).toInt := congrArg Int32.toInt ((q_K.le hkσ_46 (by decide) : q_K 8 X σ_41 σ_46) a 15 (by rw [ha]; decide))
                      have mv16_σ_46 : (σ_46.1 a 16).toInt = (σ_41.1 a 16).toInt := congrArg Int32.toInt ((q_K.le hkσ_46 (by decide) : q_K 8 X σ_41 σ_46) a 16 (by rw [ha]; decide))
                      have mv8_σ_46 : (σ_46.1 a 8).toInt = (σ_41.1 a 8).toInt := congrArg Int32.toInt ((q_K.le hkσ_46 (by decide) : q_K 8 X σ_41 σ_46) a 8 (by rw [ha]; decide))
                      have mcσ_46 := m_cK hkσ_46 hI.1 ha (by decide)
                      have kpσ_46 : ∀ j, 0 ≤ j → j < 3720 → m_c X σ_46 a j = m_c X σ a j := fun j h0 h1 => (mcσ_46 j).trans (kpσ_41 j h0 h1)
                      have smσ_46 : 0 ≤ (σ_46.1 a 15).toInt ∧ (σ_46.1 a 15).toInt ≤ (σ_46.1 a 16).toInt ∧ (σ_46.1 a 16).toInt ≤ (σ_46.1 a 9).toInt ∧ (σ_46.1 a 9).toInt ≤ 900 ∧ 0 ≤ (σ_46.1 a 14).toInt ∧ (σ_46.1 a 14).toInt ≤ 4 ∧ (σ_46.1 a 14).toInt ≤ 4 * ((σ_46.1 a 16).toInt - (σ_46.1 a 15).toInt) ∧ (σ_46.1 a 14).toInt ≤ 4 * ((σ_46.1 a 9).toInt - (σ_46.1 a 15).toInt) ∧ 0 ≤ (σ_46.1 a 12).toInt ∧ (σ_46.1 a 8).toInt = 0 := (by first | (rw [mv12_σ_46, mv14_σ_46, mv15_σ_46, mv16_σ_46, mv8_σ_46, mv9_σ_46]; exact smσ_41) | omega)
                      have nnσ_46 : m_N (m_c X σ_46 a) := m_N.ext mcσ_46 nnσ_41
                      have k0σ_46 : 2 ≤ m_c X σ_46 a 3720 + 10 * (σ_46.1 a 12).toInt := (by have := mcσ_46 3720; omega)
                      have k4σ_46 : 1 ≤ m_c X σ_46 a 3724 + 10 * (σ_46.1 a 12).toInt := (by have := mcσ_46 3724; omega)
                      have ks_σ_46 : q_KS (fun b g => b = a ∧ 8 ≤ g ∧ g ≤ 18) 1 X σ σ_46 := ks_σ_41.K hkσ_46 (by decide)
                      refine q_if_ne (A := r_45.toInt) E rfl (tgt := 241) dX12_table_236 (by decide) (fun c_47 => ?_) (fun c_47 => ?_)
                      · skip
                        replace hF := q_ifn hF c_47
                        replace c_47 := q_ifOne ahpσ_46 c_47
                        replace bhpσ_46 := bhpσ_46 c_47
                        refine lv_aload_n hx hb dX12_table_241 rfl (lv_at hl 0 rfl) ?_
                        refine gs_X12_35_12 E hI ha dX12_table_242 ?_
                        refine lv_sipush (v := 3728) hx hb dX12_table_245 zks_3728 ?_
                        refine lv_iconst (v := (-1)) hx hb dX12_table_248 zki_m1 ?_
                        refine q_iastN E hI (q_tk (k' := 34) hI ha rfl (Nat.succ_ne_zero _)) ⟨by decide, rfl⟩ (by decide) (by rw [q_lnk (v := 4650) hI (q_tk (k' := 34) hI ha rfl (Nat.succ_ne_zero _)) rfl (by decide)]; decide) (show 0 < 2 by decide) (q_inU rfl) dX12_table_249 (fun H locs σ_48 hσ_48 hI => ?_)
                        replace hF := q_letX hF hσ_48
                        have fr_σ_48 := fr_σ_46.si hσ_48 (q_tk (k' := 34) hI ha rfl (Nat.succ_ne_zero _)) rfl
                        have mv9_σ_48 : (σ_48.1 a 9).toInt = (σ_46.1 a 9).toInt := congrArg Int32.toInt (q_rdn hσ_48 (Or.inl (m_ne ha (q_tk (k' := 34) hI ha rfl (Nat.succ_ne_zero _)) (by decide))))
                        have mv12_σ_48 : (σ_48.1 a 12).toInt = (σ_46.1 a 12).toInt := congrArg Int32.toInt (q_rdn hσ_48 (Or.inl (m_ne ha (q_tk (k' := 34) hI ha rfl (Nat.succ_ne_zero _)) (by decide))))
                        have mv14_σ_48 : (σ_48.1 a 14).toInt = (σ_46.1 a 14).toInt := congrArg Int32.toInt (q_rdn hσ_48 (Or.inl (m_ne ha (q_tk (k' := 34) hI ha rfl (Nat.succ_ne_zero _)) (by decide))))
                        have mv15_σ_48 : (σ_48.1 a 15).toInt = (σ_46.1 a 15).toInt := congrArg Int32.toInt (q_rdn hσ_48 (Or.inl (m_ne ha (q_tk (k' := 34) hI ha rfl (Nat.succ_ne_zero _)) (by decide))))
                        have mv16_σ_48 : (σ_48.1 a 16).toInt = (σ_46.1 a 16).toInt := congrArg Int32.toInt (q_rdn hσ_48 (Or.inl (m_ne ha (q_tk (k' := 34) hI ha rfl (Nat.succ_ne_zero _)) (by decide))))
                        have mv8_σ_48 : (σ_48.1 a 8).toInt = (σ_46.1 a 8).toInt := congrArg Int32.toInt (q_rdn hσ_48 (Or.inl (m_ne ha (q_tk (k' := 34) hI ha rfl (Nat.succ_ne_zero _)) (by decide))))
                        have ks_σ_48 : q_KS (fun b g => b = a ∧ 8 ≤ g ∧ g ≤ 18) 1 X σ σ_48 := ks_σ_46.si hσ_48 (q_tk (k' := 34) hI ha rfl (Nat.succ_ne_zero _)) (show 1 < 2 by decide)
                        have mcσ_48 := m_wr (v := ((-1) : Int32)) (A := 3728) hσ_48 (by decide) (by decide)
                        have kpσ_48 : ∀ j, 0 ≤ j → j < 3720 → m_c X σ_48 a j = m_c X σ a j := fun j h0 h1 => by rw [mcσ_48 j h0, if_neg (by first | (clear hn tb8 mv9_σ_1 mv12_σ_1 mv14_σ_1 mv15_σ_1 mv16_σ_1 mv8_σ_1 mv9_σ_2 mv12_σ_2 mv14_σ_2 mv15_σ_2 mv16_σ_2 mv8_σ_2 kc_3 ahpσ_5 bhpσ_5 ehpσ_5 fhpσ_5 c_6 sv hm25 hge25 hzσ_8 smσ_8 gc_10_x_7 c_10 hm51 hge51 gc_14_x_11 c_14 bhpσ_19 chpσ_19 chpσ_21 dhpσ_21 ehpσ_21 kc_22 kc_23 chpσ_25 dhpσ_25 ehpσ_25 bhpσ_28 chpσ_28 chpσ_30 dhpσ_30 ehpσ_30 kc_31 kc_32 chpσ_34 dhpσ_34 ehpσ_34 kc_36 bhpσ_38 chpσ_38 chpσ_40 dhpσ_40 ehpσ_40 k0σ_40 k4σ_40 hm145 smσ_41 k0σ_41 k4σ_41 if_43 c_44 ahpσ_46 chpσ_46 dhpσ_46 mv9_σ_46 mv12_σ_46 mv14_σ_46 mv15_σ_46 mv16_σ_46 mv8_σ_46 smσ_46 k0σ_46 k4σ_46 c_47 bhpσ_46 mv9_σ_48 mv12_σ_48 mv14_σ_48 mv15_σ_48 mv16_σ_48 mv8_σ_48; omega) | omega)]; exact kpσ_46 j h0 h1
                        have smσ_48 : 0 ≤ (σ_48.1 a 15).toInt ∧ (σ_48.1 a 15).toInt ≤ (σ_48.1 a 16).toInt ∧ (σ_48.1 a 16).toInt ≤ (σ_48.1 a 9).toInt ∧ (σ_48.1 a 9).toInt ≤ 900 ∧ 0 ≤ (σ_48.1 a 14).toInt ∧ (σ_48.1 a 14).toInt ≤ 4 ∧ (σ_48.1 a 14).toInt ≤ 4 * ((σ_48.1 a 16).toInt - (σ_48.1 a 15).toInt) ∧ (σ_48.1 a 14).toInt ≤ 4 * ((σ_48.1 a 9).toInt - (σ_48.1 a 15).toInt) ∧ 0 ≤ (σ_48.1 a 12).toInt ∧ (σ_48.1 a 8).toInt = 0 := (by first | (rw [mv12_σ_48, mv14_σ_48, mv15_σ_48, mv16_σ_48, mv8_σ_48, mv9_σ_48]; exact smσ_46) | omega)
                        have nbσ_48 : ∃ c1, m_N c1 ∧ 2 ≤ c1 3720 ∧ 1 ≤ c1 3724 ∧ (c1 3722 = m_c X σ_48 a 3722) ∧ ∀ j : Int, 0 ≤ j → m_c X σ_48 a j = if j = 3728 then -1 else c1 j := ⟨_, nnσ_46, by omega, by omega, by rw [mcσ_48 3722 (by decide)]; rfl, mcσ_48⟩
                        refine lv_aload_n hx hb dX12_table_250 rfl (lv_at hl 0 rfl) ?_
                        refine gs_X12_35_12 E hI ha dX12_table_251 ?_
                        refine lv_sipush (v := 3726) hx hb dX12_table_254 zks_3726 ?_
                        refine lv_aload_n hx hb dX12_table_257 rfl (lv_at hl 0 rfl) ?_
                        refine gs_X12_35_12 E hI ha dX12_table_258 ?_
                        refine lv_sipush (v := 3722) hx hb dX12_table_261 zks_3722 ?_
                        refine q_iald E hI (q_tk (k' := 34) hI ha rfl (Nat.succ_ne_zero _)) ⟨by decide, rfl⟩ (by decide) (by rw [q_lnk (v := 4650) hI (q_tk (k' := 34) hI ha rfl (Nat.succ_ne_zero _)) rfl (by decide)]; decide) dX12_table_264 ?_
                        refine lv_topi (fun f_49 ef_49 => ?_)
                        replace hF := q_letX hF ef_49
                        have if_49 : f_49.toInt = m_c X σ_48 a 3722 := m_rd ef_49 (by decide)
                        refine q_if_ne (A := f_49.toInt) E rfl (tgt := 272) dX12_table_265 (by decide) (fun c_50 => ?_) (fun c_50 => ?_)
                        · skip
                          replace hF := q_ifn hF c_50
                          refine lv_iconst (v := 0) hx hb dX12_table_272 zki_0 ?_
                          refine q_iastN E hI (q_tk (k' := 34) hI ha rfl (Nat.succ_ne_zero _)) ⟨by decide, rfl⟩ (by decide) (by rw [q_lnk (v := 4650) hI (q_tk (k' := 34) hI ha rfl (Nat.succ_ne_zero _)) rfl (by decide)]; decide) (show 0 < 2 by decide) (q_inU rfl) dX12_table_273 (fun H locs σ_51 hσ_51 hI => ?_)
                          replace hF := q_letX hF hσ_51
                          have fr_σ_51 := fr_σ_48.si hσ_51 (q_tk (k' := 34) hI ha rfl (Nat.succ_ne_zero _)) rfl
                          have mv9_σ_51 : (σ_51.1 a 9).toInt = (σ_48.1 a 9).toInt := congrArg Int32.toInt (q_rdn hσ_51 (Or.inl (m_ne ha (q_tk (k' := 34) hI ha rfl (Nat.succ_ne_zero _)) (by decide))))
                          have mv12_σ_51 : (σ_51.1 a 12).toInt = (σ_48.1 a 12).toInt := congrArg Int32.toInt (q_rdn hσ_51 (Or.inl (m_ne ha (q_tk (k' := 34) hI ha rfl (Nat.succ_ne_zero _)) (by decide))))
                          have mv14_σ_51 : (σ_51.1 a 14).toInt = (σ_48.1 a 14).toInt := congrArg Int32.toInt (q_rdn hσ_51 (Or.inl (m_ne ha (q_tk (k' := 34) hI ha rfl (Nat.succ_ne_zero _)) (by decide))))
                          have mv15_σ_51 : (σ_51.1 a 15).toInt = (σ_48.1 a 15).toInt := congrArg Int32.toInt (q_rdn hσ_51 (Or.inl (m_ne ha (q_tk (k' := 34) hI ha rfl (Nat.succ_ne_zero _)) (by decide))))
                          have mv16_σ_51 : (σ_51.1 a 16).toInt = (σ_48.1 a 16).toInt := congrArg Int32.toInt (q_rdn hσ_51 (Or.inl (m_ne ha (q_tk (k' := 34) hI ha rfl (Nat.succ_ne_zero _)) (by decide))))
                          have mv8_σ_51 : (σ_51.1 a 8).toInt = (σ_48.1 a 8).toInt := congrArg Int32.toInt (q_rdn hσ_51 (Or.inl (m_ne ha (q_tk (k' := 34) hI ha rfl (Nat.succ_ne_zero _)) (by decide))))
                          have ks_σ_51 : q_KS (fun b g => b = a ∧ 8 ≤ g ∧ g ≤ 18) 1 X σ σ_51 := ks_σ_48.si hσ_51 (q_tk (k' := 34) hI ha rfl (Nat.succ_ne_zero _)) (show 1 < 2 by decide)
                          have mcσ_51 := m_wr (v := (0 : Int32)) (A := 3726) hσ_51 (by decide) (by decide)
                          have kpσ_51 : ∀ j, 0 ≤ j → j < 3720 → m_c X σ_51 a j = m_c X σ a j := fun j h0 h1 => by rw [mcσ_51 j h0, if_neg (by first | (clear hn tb8 mv9_σ_1 mv12_σ_1 mv14_σ_1 mv15_σ_1 mv16_σ_1 mv8_σ_1 mv9_σ_2 mv12_σ_2 mv14_σ_2 mv15_σ_2 mv16_σ_2 mv8_σ_2 kc_3 ahpσ_5 bhpσ_5 ehpσ_5 fhpσ_5 c_6 sv hm25 hge25 hzσ_8 smσ_8 gc_10_x_7 c_10 hm51 hge51 gc_14_x_11 c_14 bhpσ_19 chpσ_19 chpσ_21 dhpσ_21 ehpσ_21 kc_22 kc_23 chpσ_25 dhpσ_25 ehpσ_25 bhpσ_28 chpσ_28 chpσ_30 dhpσ_30 ehpσ_30 kc_31 kc_32 chpσ_34 dhpσ_34 ehpσ_34 kc_36 bhpσ_38 chpσ_38 chpσ_40 dhpσ_40 ehpσ_40 k0σ_40 k4σ_40 hm145 smσ_41 k0σ_41 k4σ_41 if_43 c_44 ahpσ_46 chpσ_46 dhpσ_46 mv9_σ_46 mv12_σ_46 mv14_σ_46 mv15_σ_46 mv16_σ_46 mv8_σ_46 smσ_46 k0σ_46 k4σ_46 c_47 bhpσ_46 mv9_σ_48 mv12_σ_48 mv14_σ_48 mv15_σ_48 mv16_σ_48 mv8_σ_48 smσ_48 if_49 c_50 mv9_σ_51 mv12_σ_51 mv14_σ_51 mv15_σ_51 mv16_σ_51 mv8_σ_51; omega) | omega)]; exact kpσ_48 j h0 h1
                          have smσ_51 : 0 ≤ (σ_51.1 a 15).toInt ∧ (σ_51.1 a 15).toInt ≤ (σ_51.1 a 16).toInt ∧ (σ_51.1 a 16).toInt ≤ (σ_51.1 a 9).toInt ∧ (σ_51.1 a 9).toInt ≤ 900 ∧ 0 ≤ (σ_51.1 a 14).toInt ∧ (σ_51.1 a 14).toInt ≤ 4 ∧ (σ_51.1 a 14).toInt ≤ 4 * ((σ_51.1 a 16).toInt - (σ_51.1 a 15).toInt) ∧ (σ_51.1 a 14).toInt ≤ 4 * ((σ_51.1 a 9).toInt - (σ_51.1 a 15).toInt) ∧ 0 ≤ (σ_51.1 a 12).toInt ∧ (σ_51.1 a 8).toInt = 0 := (by first | (rw [mv12_σ_51, mv14_σ_51, mv15_σ_51, mv16_σ_51, mv8_σ_51, mv9_σ_51]; exact smσ_48) | omega)
                          obtain ⟨c1, hN1, q0, q4, q2, qe⟩ := nbσ_48
                          have ncσ_51 := m_new.mk hN1 q0 q4 qe rfl mcσ_51 (by have q : (0 : Int32).toInt = 0 := rfl; omega)
                          have nkσ_51 := kpσ_51
                          refine lv_aload_n hx hb dX12_table_274 rfl (lv_at hl 0 rfl) ?_
                          refine lv_iconst (v := 4) hx hb dX12_table_275 zki_4 ?_
                          refine lv_iconst (v := 0) hx hb dX12_table_276 zki_0 ?_
                          have kc_52 : (4 : Int32).toInt = 4 := zt_4
                          have kc_53 : (0 : Int32).toInt = 0 := zt_0
                          refine q_cv (q_rV11_2 (rest := []) E (hml.trans hl.1.symm) hI (c_X12_copy l X σ_51 a (4 : Int32) (0 : Int32) ha (by decide) (by decide) (by decide)) kv_X12_261 ha ⟨Nat.le_of_ble_eq_true rfl, Nat.le_of_ble_eq_true rfl⟩ (Nat.le_of_ble_eq_true rfl) dX12_table_277) hI (Nat.le_of_ble_eq_true rfl) (fun σ_55 H locs hpσ_55 hkσ_55 hI => ?_)
                          have ahpσ_55 := hpσ_55.1
                          have bhpσ_55 := hpσ_55.2.1
                          have chpσ_55 := hpσ_55.2.2
                          clear hpσ_55
                          have fr_σ_55 := fr_σ_51.call chpσ_55 rfl rfl
                          replace hF := q_letX hF bhpσ_55
                          have mv8_σ_55 : (σ_55.1 a 8).toInt = (σ_51.1 a 8).toInt := congrArg Int32.toInt (hkσ_55 a 8 (by rw [ha]; decide))
                          have ks_σ_55 : q_KS (fun b g => b = a ∧ 8 ≤ g ∧ g ≤ 18) 1 X σ σ_55 := ks_σ_51.K hkσ_55 (by decide)
                          have cqσ_55 := m_cpy40 (by decide) (by decide) ahpσ_55
                          have g2σ_55 := m_G.new ncσ_51 cqσ_55.1
                          have kbσ_55 : ∀ j, 930 ≤ j → j < 3720 → m_c X σ_55 a j = m_c X σ a j := fun j a b => (cqσ_55.2 j a).trans ((nkσ_51 j (by first | (clear hn tb8 mv9_σ_1 mv12_σ_1 mv14_σ_1 mv15_σ_1 mv16_σ_1 mv8_σ_1 mv9_σ_2 mv12_σ_2 mv14_σ_2 mv15_σ_2 mv16_σ_2 mv8_σ_2 kc_3 ahpσ_5 bhpσ_5 ehpσ_5 fhpσ_5 c_6 sv hm25 hge25 hzσ_8 smσ_8 gc_10_x_7 c_10 hm51 hge51 gc_14_x_11 c_14 bhpσ_19 chpσ_19 chpσ_21 dhpσ_21 ehpσ_21 kc_22 kc_23 chpσ_25 dhpσ_25 ehpσ_25 bhpσ_28 chpσ_28 chpσ_30 dhpσ_30 ehpσ_30 kc_31 kc_32 chpσ_34 dhpσ_34 ehpσ_34 kc_36 bhpσ_38 chpσ_38 chpσ_40 dhpσ_40 ehpσ_40 k0σ_40 k4σ_40 hm145 smσ_41 k0σ_41 k4σ_41 if_43 c_44 ahpσ_46 chpσ_46 dhpσ_46 mv9_σ_46 mv12_σ_46 mv14_σ_46 mv15_σ_46 mv16_σ_46 mv8_σ_46 smσ_46 k0σ_46 k4σ_46 c_47 bhpσ_46 mv9_σ_48 mv12_σ_48 mv14_σ_48 mv15_σ_48 mv16_σ_48 mv8_σ_48 smσ_48 nbσ_48 if_49 c_50 mv9_σ_51 mv12_σ_51 mv14_σ_51 mv15_σ_51 mv16_σ_51 mv8_σ_51 smσ_51 kc_52 kc_53 ahpσ_55 bhpσ_55 chpσ_55 mv8_σ_55 g2σ_55; omega) | omega) b))
                          refine lv_aload_n hx hb dX12_table_280 rfl (lv_at hl 0 rfl) ?_
                          refine gs_X12_35_12 E hI ha dX12_table_281 ?_
                          refine lv_iconst (v := 2) hx hb dX12_table_284 zki_2 ?_
                          refine q_iald E hI (q_tk (k' := 34) hI ha rfl (Nat.succ_ne_zero _)) ⟨by decide, rfl⟩ (by decide) (by rw [q_lnk (v := 4650) hI (q_tk (k' := 34) hI ha rfl (Nat.succ_ne_zero _)) rfl (by decide)]; decide) dX12_table_285 ?_
                          refine lv_topi (fun f_56 ef_56 => ?_)
                          replace hF := q_letX hF ef_56
                          have if_56 : f_56.toInt = m_c X σ_55 a 2 := m_rd ef_56 (by decide)
                          exact q_reti E hr hlk hI ⟨ks_σ_55, (g2σ_55.1), (m_W.le g2σ_55.2 hn), kbσ_55, (by first | exact smσ_55 | omega), (by first | exact smσ_55 | omega), (hF.trans hout), fr_σ_55⟩ dX12_table_286
                        · skip
                          replace hF := q_ifp hF c_50
                          refine lv_iconst (v := (-1)) hx hb dX12_table_268 zki_m1 ?_
                          refine lv_goto (tgt := 273) hx hb dX12_table_269 (by decide) ?_
                          refine q_iastN E hI (q_tk (k' := 34) hI ha rfl (Nat.succ_ne_zero _)) ⟨by decide, rfl⟩ (by decide) (by rw [q_lnk (v := 4650) hI (q_tk (k' := 34) hI ha rfl (Nat.succ_ne_zero _)) rfl (by decide)]; decide) (show 0 < 2 by decide) (q_inU rfl) dX12_table_273 (fun H locs σ_57 hσ_57 hI => ?_)
                          replace hF := q_letX hF hσ_57
                          have fr_σ_57 := fr_σ_48.si hσ_57 (q_tk (k' := 34) hI ha rfl (Nat.succ_ne_zero _)) rfl
                          have mv9_σ_57 : (σ_57.1 a 9).toInt = (σ_48.1 a 9).toInt := congrArg Int32.toInt (q_rdn hσ_57 (Or.inl (m_ne ha (q_tk (k' := 34) hI ha rfl (Nat.succ_ne_zero _)) (by decide))))
                          have mv12_σ_57 : (σ_57.1 a 12).toInt = (σ_48.1 a 12).toInt := congrArg Int32.toInt (q_rdn hσ_57 (Or.inl (m_ne ha (q_tk (k' := 34) hI ha rfl (Nat.succ_ne_zero _)) (by decide))))
                          have mv14_σ_57 : (σ_57.1 a 14).toInt = (σ_48.1 a 14).toInt := congrArg Int32.toInt (q_rdn hσ_57 (Or.inl (m_ne ha (q_tk (k' := 34) hI ha rfl (Nat.succ_ne_zero _)) (by decide))))
                          have mv15_σ_57 : (σ_57.1 a 15).toInt = (σ_48.1 a 15).toInt := congrArg Int32.toInt (q_rdn hσ_57 (Or.inl (m_ne ha (q_tk (k' := 34) hI ha rfl (Nat.succ_ne_zero _)) (by decide))))
                          have mv16_σ_57 : (σ_57.1 a 16).toInt = (σ_48.1 a 16).toInt := congrArg Int32.toInt (q_rdn hσ_57 (Or.inl (m_ne ha (q_tk (k' := 34) hI ha rfl (Nat.succ_ne_zero _)) (by decide))))
                          have mv8_σ_57 : (σ_57.1 a 8).toInt = (σ_48.1 a 8).toInt := congrArg Int32.toInt (q_rdn hσ_57 (Or.inl (m_ne ha (q_tk (k' := 34) hI ha rfl (Nat.succ_ne_zero _)) (by decide))))
                          have ks_σ_57 : q_KS (fun b g => b = a ∧ 8 ≤ g ∧ g ≤ 18) 1 X σ σ_57 := ks_σ_48.si hσ_57 (q_tk (k' := 34) hI ha rfl (Nat.succ_ne_zero _)) (show 1 < 2 by decide)
                          have mcσ_57 := m_wr (v := ((-1) : Int32)) (A := 3726) hσ_57 (by decide) (by decide)
                          have kpσ_57 : ∀ j, 0 ≤ j → j < 3720 → m_c X σ_57 a j = m_c X σ a j := fun j h0 h1 => by rw [mcσ_57 j h0, if_neg (by first | (clear hn tb8 mv9_σ_1 mv12_σ_1 mv14_σ_1 mv15_σ_1 mv16_σ_1 mv8_σ_1 mv9_σ_2 mv12_σ_2 mv14_σ_2 mv15_σ_2 mv16_σ_2 mv8_σ_2 kc_3 ahpσ_5 bhpσ_5 ehpσ_5 fhpσ_5 c_6 sv hm25 hge25 hzσ_8 smσ_8 gc_10_x_7 c_10 hm51 hge51 gc_14_x_11 c_14 bhpσ_19 chpσ_19 chpσ_21 dhpσ_21 ehpσ_21 kc_22 kc_23 chpσ_25 dhpσ_25 ehpσ_25 bhpσ_28 chpσ_28 chpσ_30 dhpσ_30 ehpσ_30 kc_31 kc_32 chpσ_34 dhpσ_34 ehpσ_34 kc_36 bhpσ_38 chpσ_38 chpσ_40 dhpσ_40 ehpσ_40 k0σ_40 k4σ_40 hm145 smσ_41 k0σ_41 k4σ_41 if_43 c_44 ahpσ_46 chpσ_46 dhpσ_46 mv9_σ_46 mv12_σ_46 mv14_σ_46 mv15_σ_46 mv16_σ_46 mv8_σ_46 smσ_46 k0σ_46 k4σ_46 c_47 bhpσ_46 mv9_σ_48 mv12_σ_48 mv14_σ_48 mv15_σ_48 mv16_σ_48 mv8_σ_48 smσ_48 if_49 c_50 mv9_σ_57 mv12_σ_57 mv14_σ_57 mv15_σ_57 mv16_σ_57 mv8_σ_57; omega) | omega)]; exact kpσ_48 j h0 h1
                          have smσ_57 : 0 ≤ (σ_57.1 a 15).toInt ∧ (σ_57.1 a 15).toInt ≤ (σ_57.1 a 16).toInt ∧ (σ_57.1 a 16).toInt ≤ (σ_57.1 a 9).toInt ∧ (σ_57.1 a 9).toInt ≤ 900 ∧ 0 ≤ (σ_57.1 a 14).toInt ∧ (σ_57.1 a 14).toInt ≤ 4 ∧ (σ_57.1 a 14).toInt ≤ 4 * ((σ_57.1 a 16).toInt - (σ_57.1 a 15).toInt) ∧ (σ_57.1 a 14).toInt ≤ 4 * ((σ_57.1 a 9).toInt - (σ_57.1 a 15).toInt) ∧ 0 ≤ (σ_57.1 a 12).toInt ∧ (σ_57.1 a 8).toInt = 0 := (by first | (rw [mv12_σ_57, mv14_σ_57, mv15_σ_57, mv16_σ_57, mv8_σ_57, mv9_σ_57]; exact smσ_48) | omega)
                          obtain ⟨c1, hN1, q0, q4, q2, qe⟩ := nbσ_48
                          have ncσ_57 := m_new.mk hN1 q0 q4 qe rfl mcσ_57 (by have q : ((-1) : Int32).toInt = (-1) := rfl; omega)
                          have nkσ_57 := kpσ_57
                          refine lv_aload_n hx hb dX12_table_274 rfl (lv_at hl 0 rfl) ?_
                          refine lv_iconst (v := 4) hx hb dX12_table_275 zki_4 ?_
                          refine lv_iconst (v := 0) hx hb dX12_table_276 zki_0 ?_
                          have kc_58 : (4 : Int32).toInt = 4 := zt_4
                          have kc_59 : (0 : Int32).toInt = 0 := zt_0
                          refine q_cv (q_rV11_2 (rest := []) E (hml.trans hl.1.symm) hI (c_X12_copy l X σ_57 a (4 : Int32) (0 : Int32) ha (by decide) (by decide) (by decide)) kv_X12_261 ha ⟨Nat.le_of_ble_eq_true rfl, Nat.le_of_ble_eq_true rfl⟩ (Nat.le_of_ble_eq_true rfl) dX12_table_277) hI (Nat.le_of_ble_eq_true rfl) (fun σ_61 H locs hpσ_61 hkσ_61 hI => ?_)
                          have ahpσ_61 := hpσ_61.1
                          have bhpσ_61 := hpσ_61.2.1
                          have chpσ_61 := hpσ_61.2.2
                          clear hpσ_61
                          have fr_σ_61 := fr_σ_57.call chpσ_61 rfl rfl
                          replace hF := q_letX hF bhpσ_61
                          have mv8_σ_61 : (σ_61.1 a 8).toInt = (σ_57.1 a 8).toInt := congrArg Int32.toInt (hkσ_61 a 8 (by rw [ha]; decide))
                          have ks_σ_61 : q_KS (fun b g => b = a ∧ 8 ≤ g ∧ g ≤ 18) 1 X σ σ_61 := ks_σ_57.K hkσ_61 (by decide)
                          have cqσ_61 := m_cpy40 (by decide) (by decide) ahpσ_61
                          have g2σ_61 := m_G.new ncσ_57 cqσ_61.1
                          have kbσ_61 : ∀ j, 930 ≤ j → j < 3720 → m_c X σ_61 a j = m_c X σ a j := fun j a b => (cqσ_61.2 j a).trans ((nkσ_57 j (by first | (clear hn tb8 mv9_σ_1 mv12_σ_1 mv14_σ_1 mv15_σ_1 mv16_σ_1 mv8_σ_1 mv9_σ_2 mv12_σ_2 mv14_σ_2 mv15_σ_2 mv16_σ_2 mv8_σ_2 kc_3 ahpσ_5 bhpσ_5 ehpσ_5 fhpσ_5 c_6 sv hm25 hge25 hzσ_8 smσ_8 gc_10_x_7 c_10 hm51 hge51 gc_14_x_11 c_14 bhpσ_19 chpσ_19 chpσ_21 dhpσ_21 ehpσ_21 kc_22 kc_23 chpσ_25 dhpσ_25 ehpσ_25 bhpσ_28 chpσ_28 chpσ_30 dhpσ_30 ehpσ_30 kc_31 kc_32 chpσ_34 dhpσ_34 ehpσ_34 kc_36 bhpσ_38 chpσ_38 chpσ_40 dhpσ_40 ehpσ_40 k0σ_40 k4σ_40 hm145 smσ_41 k0σ_41 k4σ_41 if_43 c_44 ahpσ_46 chpσ_46 dhpσ_46 mv9_σ_46 mv12_σ_46 mv14_σ_46 mv15_σ_46 mv16_σ_46 mv8_σ_46 smσ_46 k0σ_46 k4σ_46 c_47 bhpσ_46 mv9_σ_48 mv12_σ_48 mv14_σ_48 mv15_σ_48 mv16_σ_48 mv8_σ_48 smσ_48 nbσ_48 if_49 c_50 mv9_σ_57 mv12_σ_57 mv14_σ_57 mv15_σ_57 mv16_σ_57 mv8_σ_57 smσ_57 kc_58 kc_59 ahpσ_61 bhpσ_61 chpσ_61 mv8_σ_61 g2σ_61; omega) | omega) b))
                          refine lv_aload_n hx hb dX12_table_280 rfl (lv_at hl 0 rfl) ?_
                          refine gs_X12_35_12 E hI ha dX12_table_281 ?_
                          refine lv_iconst (v := 2) hx hb dX12_table_284 zki_2 ?_
                          refine q_iald E hI (q_tk (k' := 34) hI ha rfl (Nat.succ_ne_zero _)) ⟨by decide, rfl⟩ (by decide) (by rw [q_lnk (v := 4650) hI (q_tk (k' := 34) hI ha rfl (Nat.succ_ne_zero _)) rfl (by decide)]; decide) dX12_table_285 ?_
                          refine lv_topi (fun f_62 ef_62 => ?_)
                          replace hF := q_letX hF ef_62
                          have if_62 : f_62.toInt = m_c X σ_61 a 2 := m_rd ef_62 (by decide)
                          exact q_reti E hr hlk hI ⟨ks_σ_61, (g2σ_61.1), (m_W.le g2σ_61.2 hn), kbσ_61, (by first | exact smσ_61 | omega), (by first | exact smσ_61 | omega), (hF.trans hout), fr_σ_61⟩ dX12_table_286
                      · skip
                        replace hF := q_ifp hF c_47
                        clear bhpσ_46
                        refine lv_iconst (v := (-1)) hx hb dX12_table_239 zki_m1 ?_
                        have hrv : ((-1) : Int32).toInt = (-1) := zt_m1
                        exact q_reti E hr hlk hI ⟨ks_σ_46, (m_G.ext (fun j a b => kpσ_46 j a (by first | exact smσ_46 | omega)) hG), (m_W.ext (fun j a b => kpσ_46 j (by first | exact smσ_46 | omega) (by first | exact smσ_46 | omega)) hW), (fun j a b => kpσ_46 j (by first | exact smσ_46 | omega) b), (by first | exact smσ_46 | omega), (by first | exact smσ_46 | omega), (hF.trans hout), fr_σ_46⟩ dX12_table_240
                    · skip
                      replace hF := q_ifp hF c_44
                      refine lv_aload_n hx hb dX12_table_152 rfl (lv_at hl 0 rfl) ?_
                      refine gs_X12_110_12 E hI ha dX12_table_153 ?_
                      refine lv_topi (fun f_63 ef_63 => ?_)
                      replace hF := q_letX hF ef_63
                      have if_63 : f_63.toInt = (σ_41.1 a 14).toInt := congrArg Int32.toInt ef_63
                      refine q_if_eq (A := f_63.toInt) E rfl (tgt := 232) dX12_table_156 (by decide) (fun c_64 => ?_) (fun c_64 => ?_)
                      · skip
                        replace hF := q_ifp hF c_64
                        unfold F_X12_table_E232_7 at hF
                        refine lv_aload_n hx hb dX12_table_232 rfl (lv_at hl 0 rfl) ?_
                        refine q_ci (q_rV11_0 (rest := []) E (hml.trans hl.1.symm) hI (c_X12_isWell l X σ_41 a ha) kv_X12_258 ha ⟨Nat.le_of_ble_eq_true rfl, Nat.le_of_ble_eq_true rfl⟩ (Nat.le_of_ble_eq_true rfl) dX12_table_233) hI (Nat.le_of_ble_eq_true rfl) (fun r_65 σ_66 H locs hpσ_66 hkσ_66 hI => ?_)
                        have ahpσ_66 := hpσ_66.1
                        have bhpσ_66 := hpσ_66.2.1
                        have chpσ_66 := hpσ_66.2.2.1
                        have dhpσ_66 := hpσ_66.2.2.2
                        clear hpσ_66
                        have fr_σ_66 := fr_σ_41.call dhpσ_66 rfl rfl
                        replace hF := q_biX hF chpσ_66
                        have mv9_σ_66 : (σ_66.1 a 9).toInt = (σ_41.1 a 9).toInt := congrArg Int32.toInt ((q_K.le hkσ_66 (by decide) : q_K 8 X σ_41 σ_66) a 9 (by rw [ha]; decide))
                        have mv12_σ_66 : (σ_66.1 a 12).toInt = (σ_41.1 a 12).toInt := congrArg Int32.toInt ((q_K.le hkσ_66 (by decide) : q_K 8 X σ_41 σ_66) a 12 (by rw [ha]; decide))
                        have mv14_σ_66 : (σ_66.1 a 14).toInt = (σ_41.1 a 14).toInt := congrArg Int32.toInt ((q_K.le hkσ_66 (by decide) : q_K 8 X σ_41 σ_66) a 14 (by rw [ha]; decide))
                        have mv15_σ_66 : (σ_66.1 a 15).toInt = (σ_41.1 a 15).toInt := congrArg Int32.toInt ((q_K.le hkσ_66 (by decide) : q_K 8 X σ_41 σ_66) a 15 (by rw [ha]; decide))
                        have mv16_σ_66 : (σ_66.1 a 16).toInt = (σ_41.1 a 16).toInt := congrArg Int32.toInt ((q_K.le hkσ_66 (by decide) : q_K 8 X σ_41 σ_66) a 16 (by rw [ha]; decide))
                        have mv8_σ_66 : (σ_66.1 a 8).toInt = (σ_41.1 a 8).toInt := congrArg Int32.toInt ((q_K.le hkσ_66 (by decide) : q_K 8 X σ_41 σ_66) a 8 (by rw [ha]; decide))
                        have mcσ_66 := m_cK hkσ_66 hI.1 ha (by decide)
                        have kpσ_66 : ∀ j, 0 ≤ j → j < 3720 → m_c X σ_66 a j = m_c X σ a j := fun j h0 h1 => (mcσ_66 j).trans (kpσ_41 j h0 h1)
                        have smσ_66 : 0 ≤ (σ_66.1 a 15).toInt ∧ (σ_66.1 a 15).toInt ≤ (σ_66.1 a 16).toInt ∧ (σ_66.1 a 16).toInt ≤ (σ_66.1 a 9).toInt ∧ (σ_66.1 a 9).toInt ≤ 900 ∧ 0 ≤ (σ_66.1 a 14).toInt ∧ (σ_66.1 a 14).toInt ≤ 4 ∧ (σ_66.1 a 14).toInt ≤ 4 * ((σ_66.1 a 16).toInt - (σ_66.1 a 15).toInt) ∧ (σ_66.1 a 14).toInt ≤ 4 * ((σ_66.1 a 9).toInt - (σ_66.1 a 15).toInt) ∧ 0 ≤ (σ_66.1 a 12).toInt ∧ (σ_66.1 a 8).toInt = 0 := (by first | (rw [mv12_σ_66, mv14_σ_66, mv15_σ_66, mv16_σ_66, mv8_σ_66, mv9_σ_66]; exact smσ_41) | omega)
                        have nnσ_66 : m_N (m_c X σ_66 a) := m_N.ext mcσ_66 nnσ_41
                        have k0σ_66 : 2 ≤ m_c X σ_66 a 3720 + 10 * (σ_66.1 a 12).toInt := (by have := mcσ_66 3720; omega)
                        have k4σ_66 : 1 ≤ m_c X σ_66 a 3724 + 10 * (σ_66.1 a 12).toInt := (by have := mcσ_66 3724; omega)
                        have ks_σ_66 : q_KS (fun b g => b = a ∧ 8 ≤ g ∧ g ≤ 18) 1 X σ σ_66 := ks_σ_41.K hkσ_66 (by decide)
                        refine q_if_ne (A := r_65.toInt) E rfl (tgt := 241) dX12_table_236 (by decide) (fun c_67 => ?_) (fun c_67 => ?_)
                        · skip
                          replace hF := q_ifn hF c_67
                          replace c_67 := q_ifOne ahpσ_66 c_67
                          replace bhpσ_66 := bhpσ_66 c_67
                          refine lv_aload_n hx hb dX12_table_241 rfl (lv_at hl 0 rfl) ?_
                          refine gs_X12_35_12 E hI ha dX12_table_242 ?_
                          refine lv_sipush (v := 3728) hx hb dX12_table_245 zks_3728 ?_
                          refine lv_iconst (v := (-1)) hx hb dX12_table_248 zki_m1 ?_
                          refine q_iastN E hI (q_tk (k' := 34) hI ha rfl (Nat.succ_ne_zero _)) ⟨by decide, rfl⟩ (by decide) (by rw [q_lnk (v := 4650) hI (q_tk (k' := 34) hI ha rfl (Nat.succ_ne_zero _)) rfl (by decide)]; decide) (show 0 < 2 by decide) (q_inU rfl) dX12_table_249 (fun H locs σ_68 hσ_68 hI => ?_)
                          replace hF := q_letX hF hσ_68
                          have fr_σ_68 := fr_σ_66.si hσ_68 (q_tk (k' := 34) hI ha rfl (Nat.succ_ne_zero _)) rfl
                          have mv9_σ_68 : (σ_68.1 a 9).toInt = (σ_66.1 a 9).toInt := congrArg Int32.toInt (q_rdn hσ_68 (Or.inl (m_ne ha (q_tk (k' := 34) hI ha rfl (Nat.succ_ne_zero _)) (by decide))))
                          have mv12_σ_68 : (σ_68.1 a 12).toInt = (σ_66.1 a 12).toInt := congrArg Int32.toInt (q_rdn hσ_68 (Or.inl (m_ne ha (q_tk (k' := 34) hI ha rfl (Nat.succ_ne_zero _)) (by decide))))
                          have mv14_σ_68 : (σ_68.1 a 14).toInt = (σ_66.1 a 14).toInt := congrArg Int32.toInt (q_rdn hσ_68 (Or.inl (m_ne ha (q_tk (k' := 34) hI ha rfl (Nat.succ_ne_zero _)) (by decide))))
                          have mv15_σ_68 : (σ_68.1 a 15).toInt = (σ_66.1 a 15).toInt := congrArg Int32.toInt (q_rdn hσ_68 (Or.inl (m_ne ha (q_tk (k' := 34) hI ha rfl (Nat.succ_ne_zero _)) (by decide))))
                          have mv16_σ_68 : (σ_68.1 a 16).toInt = (σ_66.1 a 16).toInt := congrArg Int32.toInt (q_rdn hσ_68 (Or.inl (m_ne ha (q_tk (k' := 34) hI ha rfl (Nat.succ_ne_zero _)) (by decide))))
                          have mv8_σ_68 : (σ_68.1 a 8).toInt = (σ_66.1 a 8).toInt := congrArg Int32.toInt (q_rdn hσ_68 (Or.inl (m_ne ha (q_tk (k' := 34) hI ha rfl (Nat.succ_ne_zero _)) (by decide))))
                          have ks_σ_68 : q_KS (fun b g => b = a ∧ 8 ≤ g ∧ g ≤ 18) 1 X σ σ_68 := ks_σ_66.si hσ_68 (q_tk (k' := 34) hI ha rfl (Nat.succ_ne_zero _)) (show 1 < 2 by decide)
                          have mcσ_68 := m_wr (v := ((-1) : Int32)) (A := 3728) hσ_68 (by decide) (by decide)
                          have kpσ_68 : ∀ j, 0 ≤ j → j < 3720 → m_c X σ_68 a j = m_c X σ a j := fun j h0 h1 => by rw [mcσ_68 j h0, if_neg (by first | (clear hn tb8 mv9_σ_1 mv12_σ_1 mv14_σ_1 mv15_σ_1 mv16_σ_1 mv8_σ_1 mv9_σ_2 mv12_σ_2 mv14_σ_2 mv15_σ_2 mv16_σ_2 mv8_σ_2 kc_3 ahpσ_5 bhpσ_5 ehpσ_5 fhpσ_5 c_6 sv hm25 hge25 hzσ_8 smσ_8 gc_10_x_7 c_10 hm51 hge51 gc_14_x_11 c_14 bhpσ_19 chpσ_19 chpσ_21 dhpσ_21 ehpσ_21 kc_22 kc_23 chpσ_25 dhpσ_25 ehpσ_25 bhpσ_28 chpσ_28 chpσ_30 dhpσ_30 ehpσ_30 kc_31 kc_32 chpσ_34 dhpσ_34 ehpσ_34 kc_36 bhpσ_38 chpσ_38 chpσ_40 dhpσ_40 ehpσ_40 k0σ_40 k4σ_40 hm145 smσ_41 k0σ_41 k4σ_41 if_43 c_44 if_63 c_64 ahpσ_66 chpσ_66 dhpσ_66 mv9_σ_66 mv12_σ_66 mv14_σ_66 mv15_σ_66 mv16_σ_66 mv8_σ_66 smσ_66 k0σ_66 k4σ_66 c_67 bhpσ_66 mv9_σ_68 mv12_σ_68 mv14_σ_68 mv15_σ_68 mv16_σ_68 mv8_σ_68; omega) | omega)]; exact kpσ_66 j h0 h1
                          have smσ_68 : 0 ≤ (σ_68.1 a 15).toInt ∧ (σ_68.1 a 15).toInt ≤ (σ_68.1 a 16).toInt ∧ (σ_68.1 a 16).toInt ≤ (σ_68.1 a 9).toInt ∧ (σ_68.1 a 9).toInt ≤ 900 ∧ 0 ≤ (σ_68.1 a 14).toInt ∧ (σ_68.1 a 14).toInt ≤ 4 ∧ (σ_68.1 a 14).toInt ≤ 4 * ((σ_68.1 a 16).toInt - (σ_68.1 a 15).toInt) ∧ (σ_68.1 a 14).toInt ≤ 4 * ((σ_68.1 a 9).toInt - (σ_68.1 a 15).toInt) ∧ 0 ≤ (σ_68.1 a 12).toInt ∧ (σ_68.1 a 8).toInt = 0 := (by first | (rw [mv12_σ_68, mv14_σ_68, mv15_σ_68, mv16_σ_68, mv8_σ_68, mv9_σ_68]; exact smσ_66) | omega)
                          have nbσ_68 : ∃ c1, m_N c1 ∧ 2 ≤ c1 3720 ∧ 1 ≤ c1 3724 ∧ (c1 3722 = m_c X σ_68 a 3722) ∧ ∀ j : Int, 0 ≤ j → m_c X σ_68 a j = if j = 3728 then -1 else c1 j := ⟨_, nnσ_66, by omega, by omega, by rw [mcσ_68 3722 (by decide)]; rfl, mcσ_68⟩
                          refine lv_aload_n hx hb dX12_table_250 rfl (lv_at hl 0 rfl) ?_
                          refine gs_X12_35_12 E hI ha dX12_table_251 ?_
                          refine lv_sipush (v := 3726) hx hb dX12_table_254 zks_3726 ?_
                          refine lv_aload_n hx hb dX12_table_257 rfl (lv_at hl 0 rfl) ?_
                          refine gs_X12_35_12 E hI ha dX12_table_258 ?_
                          refine lv_sipush (v := 3722) hx hb dX12_table_261 zks_3722 ?_
                          refine q_iald E hI (q_tk (k' := 34) hI ha rfl (Nat.succ_ne_zero _)) ⟨by decide, rfl⟩ (by decide) (by rw [q_lnk (v := 4650) hI (q_tk (k' := 34) hI ha rfl (Nat.succ_ne_zero _)) rfl (by decide)]; decide) dX12_table_264 ?_
                          refine lv_topi (fun f_69 ef_69 => ?_)
                          replace hF := q_letX hF ef_69
                          have if_69 : f_69.toInt = m_c X σ_68 a 3722 := m_rd ef_69 (by decide)
                          refine q_if_ne (A := f_69.toInt) E rfl (tgt := 272) dX12_table_265 (by decide) (fun c_70 => ?_) (fun c_70 => ?_)
                          · skip
                            replace hF := q_ifn hF c_70
                            refine lv_iconst (v := 0) hx hb dX12_table_272 zki_0 ?_
                            refine q_iastN E hI (q_tk (k' := 34) hI ha rfl (Nat.succ_ne_zero _)) ⟨by decide, rfl⟩ (by decide) (by rw [q_lnk (v := 4650) hI (q_tk (k' := 34) hI ha rfl (Nat.succ_ne_zero _)) rfl (by decide)]; decide) (show 0 < 2 by decide) (q_inU rfl) dX12_table_273 (fun H locs σ_71 hσ_71 hI => ?_)
                            replace hF := q_letX hF hσ_71
                            have fr_σ_71 := fr_σ_68.si hσ_71 (q_tk (k' := 34) hI ha rfl (Nat.succ_ne_zero _)) rfl
                            have mv9_σ_71 : (σ_71.1 a 9).toInt = (σ_68.1 a 9).toInt := congrArg Int32.toInt (q_rdn hσ_71 (Or.inl (m_ne ha (q_tk (k' := 34) hI ha rfl (Nat.succ_ne_zero _)) (by decide))))
                            have mv12_σ_71 : (σ_71.1 a 12).toInt = (σ_68.1 a 12).toInt := congrArg Int32.toInt (q_rdn hσ_71 (Or.inl (m_ne ha (q_tk (k' := 34) hI ha rfl (Nat.succ_ne_zero _)) (by decide))))
                            have mv14_σ_71 : (σ_71.1 a 14).toInt = (σ_68.1 a 14).toInt := congrArg Int32.toInt (q_rdn hσ_71 (Or.inl (m_ne ha (q_tk (k' := 34) hI ha rfl (Nat.succ_ne_zero _)) (by decide))))
                            have mv15_σ_71 : (σ_71.1 a 15).toInt = (σ_68.1 a 15).toInt := congrArg Int32.toInt (q_rdn hσ_71 (Or.inl (m_ne ha (q_tk (k' := 34) hI ha rfl (Nat.succ_ne_zero _)) (by decide))))
                            have mv16_σ_71 : (σ_71.1 a 16).toInt = (σ_68.1 a 16).toInt := congrArg Int32.toInt (q_rdn hσ_71 (Or.inl (m_ne ha (q_tk (k' := 34) hI ha rfl (Nat.succ_ne_zero _)) (by decide))))
                            have mv8_σ_71 : (σ_71.1 a 8).toInt = (σ_68.1 a 8).toInt := congrArg Int32.toInt (q_rdn hσ_71 (Or.inl (m_ne ha (q_tk (k' := 34) hI ha rfl (Nat.succ_ne_zero _)) (by decide))))
                            have ks_σ_71 : q_KS (fun b g => b = a ∧ 8 ≤ g ∧ g ≤ 18) 1 X σ σ_71 := ks_σ_68.si hσ_71 (q_tk (k' := 34) hI ha rfl (Nat.succ_ne_zero _)) (show 1 < 2 by decide)
                            have mcσ_71 := m_wr (v := (0 : Int32)) (A := 3726) hσ_71 (by decide) (by decide)
                            have kpσ_71 : ∀ j, 0 ≤ j → j < 3720 → m_c X σ_71 a j = m_c X σ a j := fun j h0 h1 => by rw [mcσ_71 j h0, if_neg (by first | (clear hn tb8 mv9_σ_1 mv12_σ_1 mv14_σ_1 mv15_σ_1 mv16_σ_1 mv8_σ_1 mv9_σ_2 mv12_σ_2 mv14_σ_2 mv15_σ_2 mv16_σ_2 mv8_σ_2 kc_3 ahpσ_5 bhpσ_5 ehpσ_5 fhpσ_5 c_6 sv hm25 hge25 hzσ_8 smσ_8 gc_10_x_7 c_10 hm51 hge51 gc_14_x_11 c_14 bhpσ_19 chpσ_19 chpσ_21 dhpσ_21 ehpσ_21 kc_22 kc_23 chpσ_25 dhpσ_25 ehpσ_25 bhpσ_28 chpσ_28 chpσ_30 dhpσ_30 ehpσ_30 kc_31 kc_32 chpσ_34 dhpσ_34 ehpσ_34 kc_36 bhpσ_38 chpσ_38 chpσ_40 dhpσ_40 ehpσ_40 k0σ_40 k4σ_40 hm145 smσ_41 k0σ_41 k4σ_41 if_43 c_44 if_63 c_64 ahpσ_66 chpσ_66 dhpσ_66 mv9_σ_66 mv12_σ_66 mv14_σ_66 mv15_σ_66 mv16_σ_66 mv8_σ_66 smσ_66 k0σ_66 k4σ_66 c_67 bhpσ_66 mv9_σ_68 mv12_σ_68 mv14_σ_68 mv15_σ_68 mv16_σ_68 mv8_σ_68 smσ_68 if_69 c_70 mv9_σ_71 mv12_σ_71 mv14_σ_71 mv15_σ_71 mv16_σ_71 mv8_σ_71; omega) | omega)]; exact kpσ_68 j h0 h1
                            have smσ_71 : 0 ≤ (σ_71.1 a 15).toInt ∧ (σ_71.1 a 15).toInt ≤ (σ_71.1 a 16).toInt ∧ (σ_71.1 a 16).toInt ≤ (σ_71.1 a 9).toInt ∧ (σ_71.1 a 9).toInt ≤ 900 ∧ 0 ≤ (σ_71.1 a 14).toInt ∧ (σ_71.1 a 14).toInt ≤ 4 ∧ (σ_71.1 a 14).toInt ≤ 4 * ((σ_71.1 a 16).toInt - (σ_71.1 a 15).toInt) ∧ (σ_71.1 a 14).toInt ≤ 4 * ((σ_71.1 a 9).toInt - (σ_71.1 a 15).toInt) ∧ 0 ≤ (σ_71.1 a 12).toInt ∧ (σ_71.1 a 8).toInt = 0 := (by first | (rw [mv12_σ_71, mv14_σ_71, mv15_σ_71, mv16_σ_71, mv8_σ_71, mv9_σ_71]; exact smσ_68) | omega)
                            obtain ⟨c1, hN1, q0, q4, q2, qe⟩ := nbσ_68
                            have ncσ_71 := m_new.mk hN1 q0 q4 qe rfl mcσ_71 (by have q : (0 : Int32).toInt = 0 := rfl; omega)
                            have nkσ_71 := kpσ_71
                            refine lv_aload_n hx hb dX12_table_274 rfl (lv_at hl 0 rfl) ?_
                            refine lv_iconst (v := 4) hx hb dX12_table_275 zki_4 ?_
                            refine lv_iconst (v := 0) hx hb dX12_table_276 zki_0 ?_
                            have kc_72 : (4 : Int32).toInt = 4 := zt_4
                            have kc_73 : (0 : Int32).toInt = 0 := zt_0
                            refine q_cv (q_rV11_2 (rest := []) E (hml.trans hl.1.symm) hI (c_X12_copy l X σ_71 a (4 : Int32) (0 : Int32) ha (by decide) (by decide) (by decide)) kv_X12_261 ha ⟨Nat.le_of_ble_eq_true rfl, Nat.le_of_ble_eq_true rfl⟩ (Nat.le_of_ble_eq_true rfl) dX12_table_277) hI (Nat.le_of_ble_eq_true rfl) (fun σ_75 H locs hpσ_75 hkσ_75 hI => ?_)
                            have ahpσ_75 := hpσ_75.1
                            have bhpσ_75 := hpσ_75.2.1
                            have chpσ_75 := hpσ_75.2.2
                            clear hpσ_75
                            have fr_σ_75 := fr_σ_71.call chpσ_75 rfl rfl
                            replace hF := q_letX hF bhpσ_75
                            have mv8_σ_75 : (σ_75.1 a 8).toInt = (σ_71.1 a 8).toInt := congrArg Int32.toInt (hkσ_75 a 8 (by rw [ha]; decide))
                            have ks_σ_75 : q_KS (fun b g => b = a ∧ 8 ≤ g ∧ g ≤ 18) 1 X σ σ_75 := ks_σ_71.K hkσ_75 (by decide)
                            have cqσ_75 := m_cpy40 (by decide) (by decide) ahpσ_75
                            have g2σ_75 := m_G.new ncσ_71 cqσ_75.1
                            have kbσ_75 : ∀ j, 930 ≤ j → j < 3720 → m_c X σ_75 a j = m_c X σ a j := fun j a b => (cqσ_75.2 j a).trans ((nkσ_71 j (by first | (clear hn tb8 mv9_σ_1 mv12_σ_1 mv14_σ_1 mv15_σ_1 mv16_σ_1 mv8_σ_1 mv9_σ_2 mv12_σ_2 mv14_σ_2 mv15_σ_2 mv16_σ_2 mv8_σ_2 kc_3 ahpσ_5 bhpσ_5 ehpσ_5 fhpσ_5 c_6 sv hm25 hge25 hzσ_8 smσ_8 gc_10_x_7 c_10 hm51 hge51 gc_14_x_11 c_14 bhpσ_19 chpσ_19 chpσ_21 dhpσ_21 ehpσ_21 kc_22 kc_23 chpσ_25 dhpσ_25 ehpσ_25 bhpσ_28 chpσ_28 chpσ_30 dhpσ_30 ehpσ_30 kc_31 kc_32 chpσ_34 dhpσ_34 ehpσ_34 kc_36 bhpσ_38 chpσ_38 chpσ_40 dhpσ_40 ehpσ_40 k0σ_40 k4σ_40 hm145 smσ_41 k0σ_41 k4σ_41 if_43 c_44 if_63 c_64 ahpσ_66 chpσ_66 dhpσ_66 mv9_σ_66 mv12_σ_66 mv14_σ_66 mv15_σ_66 mv16_σ_66 mv8_σ_66 smσ_66 k0σ_66 k4σ_66 c_67 bhpσ_66 mv9_σ_68 mv12_σ_68 mv14_σ_68 mv15_σ_68 mv16_σ_68 mv8_σ_68 smσ_68 nbσ_68 if_69 c_70 mv9_σ_71 mv12_σ_71 mv14_σ_71 mv15_σ_71 mv16_σ_71 mv8_σ_71 smσ_71 kc_72 kc_73 ahpσ_75 bhpσ_75 chpσ_75 mv8_σ_75 g2σ_75; omega) | omega) b))
                            refine lv_aload_n hx hb dX12_table_280 rfl (lv_at hl 0 rfl) ?_
                            refine gs_X12_35_12 E hI ha dX12_table_281 ?_
                            refine lv_iconst (v := 2) hx hb dX12_table_284 zki_2 ?_
                            refine q_iald E hI (q_tk (k' := 34) hI ha rfl (Nat.succ_ne_zero _)) ⟨by decide, rfl⟩ (by decide) (by rw [q_lnk (v := 4650) hI (q_tk (k' := 34) hI ha rfl (Nat.succ_ne_zero _)) rfl (by decide)]; decide) dX12_table_285 ?_
                            refine lv_topi (fun f_76 ef_76 => ?_)
                            replace hF := q_letX hF ef_76
                            have if_76 : f_76.toInt = m_c X σ_75 a 2 := m_rd ef_76 (by decide)
                            exact q_reti E hr hlk hI ⟨ks_σ_75, (g2σ_75.1), (m_W.le g2σ_75.2 hn), kbσ_75, (by first | exact smσ_75 | omega), (by first | exact smσ_75 | omega), (hF.trans hout), fr_σ_75⟩ dX12_table_286
                          · skip
                            replace hF := q_ifp hF c_70
                            refine lv_iconst (v := (-1)) hx hb dX12_table_268 zki_m1 ?_
                            refine lv_goto (tgt := 273) hx hb dX12_table_269 (by decide) ?_
                            refine q_iastN E hI (q_tk (k' := 34) hI ha rfl (Nat.succ_ne_zero _)) ⟨by decide, rfl⟩ (by decide) (by rw [q_lnk (v := 4650) hI (q_tk (k' := 34) hI ha rfl (Nat.succ_ne_zero _)) rfl (by decide)]; decide) (show 0 < 2 by decide) (q_inU rfl) dX12_table_273 (fun H locs σ_77 hσ_77 hI => ?_)
                            replace hF := q_letX hF hσ_77
                            have fr_σ_77 := fr_σ_68.si hσ_77 (q_tk (k' := 34) hI ha rfl (Nat.succ_ne_zero _)) rfl
                            have mv9_σ_77 : (σ_77.1 a 9).toInt = (σ_68.1 a 9).toInt := congrArg Int32.toInt (q_rdn hσ_77 (Or.inl (m_ne ha (q_tk (k' := 34) hI ha rfl (Nat.succ_ne_zero _)) (by decide))))
                            have mv12_σ_77 : (σ_77.1 a 12).toInt = (σ_68.1 a 12).toInt := congrArg Int32.toInt (q_rdn hσ_77 (Or.inl (m_ne ha (q_tk (k' := 34) hI ha rfl (Nat.succ_ne_zero _)) (by decide))))
                            have mv14_σ_77 : (σ_77.1 a 14).toInt = (σ_68.1 a 14).toInt := congrArg Int32.toInt (q_rdn hσ_77 (Or.inl (m_ne ha (q_tk (k' := 34) hI ha rfl (Nat.succ_ne_zero _)) (by decide))))
                            have mv15_σ_77 : (σ_77.1 a 15).toInt = (σ_68.1 a 15).toInt := congrArg Int32.toInt (q_rdn hσ_77 (Or.inl (m_ne ha (q_tk (k' := 34) hI ha rfl (Nat.succ_ne_zero _)) (by decide))))
                            have mv16_σ_77 : (σ_77.1 a 16).toInt = (σ_68.1 a 16).toInt := congrArg Int32.toInt (q_rdn hσ_77 (Or.inl (m_ne ha (q_tk (k' := 34) hI ha rfl (Nat.succ_ne_zero _)) (by decide))))
                            have mv8_σ_77 : (σ_77.1 a 8).toInt = (σ_68.1 a 8).toInt := congrArg Int32.toInt (q_rdn hσ_77 (Or.inl (m_ne ha (q_tk (k' := 34) hI ha rfl (Nat.succ_ne_zero _)) (by decide))))
                            have ks_σ_77 : q_KS (fun b g => b = a ∧ 8 ≤ g ∧ g ≤ 18) 1 X σ σ_77 := ks_σ_68.si hσ_77 (q_tk (k' := 34) hI ha rfl (Nat.succ_ne_zero _)) (show 1 < 2 by decide)
                            have mcσ_77 := m_wr (v := ((-1) : Int32)) (A := 3726) hσ_77 (by decide) (by decide)
                            have kpσ_77 : ∀ j, 0 ≤ j → j < 3720 → m_c X σ_77 a j = m_c X σ a j := fun j h0 h1 => by rw [mcσ_77 j h0, if_neg (by first | (clear hn tb8 mv9_σ_1 mv12_σ_1 mv14_σ_1 mv15_σ_1 mv16_σ_1 mv8_σ_1 mv9_σ_2 mv12_σ_2 mv14_σ_2 mv15_σ_2 mv16_σ_2 mv8_σ_2 kc_3 ahpσ_5 bhpσ_5 ehpσ_5 fhpσ_5 c_6 sv hm25 hge25 hzσ_8 smσ_8 gc_10_x_7 c_10 hm51 hge51 gc_14_x_11 c_14 bhpσ_19 chpσ_19 chpσ_21 dhpσ_21 ehpσ_21 kc_22 kc_23 chpσ_25 dhpσ_25 ehpσ_25 bhpσ_28 chpσ_28 chpσ_30 dhpσ_30 ehpσ_30 kc_31 kc_32 chpσ_34 dhpσ_34 ehpσ_34 kc_36 bhpσ_38 chpσ_38 chpσ_40 dhpσ_40 ehpσ_40 k0σ_40 k4σ_40 hm145 smσ_41 k0σ_41 k4σ_41 if_43 c_44 if_63 c_64 ahpσ_66 chpσ_66 dhpσ_66 mv9_σ_66 mv12_σ_66 mv14_σ_66 mv15_σ_66 mv16_σ_66 mv8_σ_66 smσ_66 k0σ_66 k4σ_66 c_67 bhpσ_66 mv9_σ_68 mv12_σ_68 mv14_σ_68 mv15_σ_68 mv16_σ_68 mv8_σ_68 smσ_68 if_69 c_70 mv9_σ_77 mv12_σ_77 mv14_σ_77 mv15_σ_77 mv16_σ_77 mv8_σ_77; omega) | omega)]; exact kpσ_68 j h0 h1
                            have smσ_77 : 0 ≤ (σ_77.1 a 15).toInt ∧ (σ_77.1 a 15).toInt ≤ (σ_77.1 a 16).toInt ∧ (σ_77.1 a 16).toInt ≤ (σ_77.1 a 9).toInt ∧ (σ_77.1 a 9).toInt ≤ 900 ∧ 0 ≤ (σ_77.1 a 14).toInt ∧ (σ_77.1 a 14).toInt ≤ 4 ∧ (σ_77.1 a 14).toInt ≤ 4 * ((σ_77.1 a 16).toInt - (σ_77.1 a 15).toInt) ∧ (σ_77.1 a 14).toInt ≤ 4 * ((σ_77.1 a 9).toInt - (σ_77.1 a 15).toInt) ∧ 0 ≤ (σ_77.1 a 12).toInt ∧ (σ_77.1 a 8).toInt = 0 := (by first | (rw [mv12_σ_77, mv14_σ_77, mv15_σ_77, mv16_σ_77, mv8_σ_77, mv9_σ_77]; exact smσ_68) | omega)
                            obtain ⟨c1, hN1, q0, q4, q2, qe⟩ := nbσ_68
                            have ncσ_77 := m_new.mk hN1 q0 q4 qe rfl mcσ_77 (by have q : ((-1) : Int32).toInt = (-1) := rfl; omega)
                            have nkσ_77 := kpσ_77
                            refine lv_aload_n hx hb dX12_table_274 rfl (lv_at hl 0 rfl) ?_
                            refine lv_iconst (v := 4) hx hb dX12_table_275 zki_4 ?_
                            refine lv_iconst (v := 0) hx hb dX12_table_276 zki_0 ?_
                            have kc_78 : (4 : Int32).toInt = 4 := zt_4
                            have kc_79 : (0 : Int32).toInt = 0 := zt_0
                            refine q_cv (q_rV11_2 (rest := []) E (hml.trans hl.1.symm) hI (c_X12_copy l X σ_77 a (4 : Int32) (0 : Int32) ha (by decide) (by decide) (by decide)) kv_X12_261 ha ⟨Nat.le_of_ble_eq_true rfl, Nat.le_of_ble_eq_true rfl⟩ (Nat.le_of_ble_eq_true rfl) dX12_table_277) hI (Nat.le_of_ble_eq_true rfl) (fun σ_81 H locs hpσ_81 hkσ_81 hI => ?_)
                            have ahpσ_81 := hpσ_81.1
                            have bhpσ_81 := hpσ_81.2.1
                            have chpσ_81 := hpσ_81.2.2
                            clear hpσ_81
                            have fr_σ_81 := fr_σ_77.call chpσ_81 rfl rfl
                            replace hF := q_letX hF bhpσ_81
                            have mv8_σ_81 : (σ_81.1 a 8).toInt = (σ_77.1 a 8).toInt := congrArg Int32.toInt (hkσ_81 a 8 (by rw [ha]; decide))
                            have ks_σ_81 : q_KS (fun b g => b = a ∧ 8 ≤ g ∧ g ≤ 18) 1 X σ σ_81 := ks_σ_77.K hkσ_81 (by decide)
                            have cqσ_81 := m_cpy40 (by decide) (by decide) ahpσ_81
                            have g2σ_81 := m_G.new ncσ_77 cqσ_81.1
                            have kbσ_81 : ∀ j, 930 ≤ j → j < 3720 → m_c X σ_81 a j = m_c X σ a j := fun j a b => (cqσ_81.2 j a).trans ((nkσ_77 j (by first | (clear hn tb8 mv9_σ_1 mv12_σ_1 mv14_σ_1 mv15_σ_1 mv16_σ_1 mv8_σ_1 mv9_σ_2 mv12_σ_2 mv14_σ_2 mv15_σ_2 mv16_σ_2 mv8_σ_2 kc_3 ahpσ_5 bhpσ_5 ehpσ_5 fhpσ_5 c_6 sv hm25 hge25 hzσ_8 smσ_8 gc_10_x_7 c_10 hm51 hge51 gc_14_x_11 c_14 bhpσ_19 chpσ_19 chpσ_21 dhpσ_21 ehpσ_21 kc_22 kc_23 chpσ_25 dhpσ_25 ehpσ_25 bhpσ_28 chpσ_28 chpσ_30 dhpσ_30 ehpσ_30 kc_31 kc_32 chpσ_34 dhpσ_34 ehpσ_34 kc_36 bhpσ_38 chpσ_38 chpσ_40 dhpσ_40 ehpσ_40 k0σ_40 k4σ_40 hm145 smσ_41 k0σ_41 k4σ_41 if_43 c_44 if_63 c_64 ahpσ_66 chpσ_66 dhpσ_66 mv9_σ_66 mv12_σ_66 mv14_σ_66 mv15_σ_66 mv16_σ_66 mv8_σ_66 smσ_66 k0σ_66 k4σ_66 c_67 bhpσ_66 mv9_σ_68 mv12_σ_68 mv14_σ_68 mv15_σ_68 mv16_σ_68 mv8_σ_68 smσ_68 nbσ_68 if_69 c_70 mv9_σ_77 mv12_σ_77 mv14_σ_77 mv15_σ_77 mv16_σ_77 mv8_σ_77 smσ_77 kc_78 kc_79 ahpσ_81 bhpσ_81 chpσ_81 mv8_σ_81 g2σ_81; omega) | omega) b))
                            refine lv_aload_n hx hb dX12_table_280 rfl (lv_at hl 0 rfl) ?_
                            refine gs_X12_35_12 E hI ha dX12_table_281 ?_
                            refine lv_iconst (v := 2) hx hb dX12_table_284 zki_2 ?_
                            refine q_iald E hI (q_tk (k' := 34) hI ha rfl (Nat.succ_ne_zero _)) ⟨by decide, rfl⟩ (by decide) (by rw [q_lnk (v := 4650) hI (q_tk (k' := 34) hI ha rfl (Nat.succ_ne_zero _)) rfl (by decide)]; decide) dX12_table_285 ?_
                            refine lv_topi (fun f_82 ef_82 => ?_)
                            replace hF := q_letX hF ef_82
                            have if_82 : f_82.toInt = m_c X σ_81 a 2 := m_rd ef_82 (by decide)
                            exact q_reti E hr hlk hI ⟨ks_σ_81, (g2σ_81.1), (m_W.le g2σ_81.2 hn), kbσ_81, (by first | exact smσ_81 | omega), (by first | exact smσ_81 | omega), (hF.trans hout), fr_σ_81⟩ dX12_table_286
                        · skip
                          replace hF := q_ifp hF c_67
                          clear bhpσ_66
                          refine lv_iconst (v := (-1)) hx hb dX12_table_239 zki_m1 ?_
                          have hrv : ((-1) : Int32).toInt = (-1) := zt_m1
                          exact q_reti E hr hlk hI ⟨ks_σ_66, (m_G.ext (fun j a b => kpσ_66 j a (by first | exact smσ_66 | omega)) hG), (m_W.ext (fun j a b => kpσ_66 j (by first | exact smσ_66 | omega) (by first | exact smσ_66 | omega)) hW), (fun j a b => kpσ_66 j (by first | exact smσ_66 | omega) b), (by first | exact smσ_66 | omega), (by first | exact smσ_66 | omega), (hF.trans hout), fr_σ_66⟩ dX12_table_240
                      · skip
                        replace hF := q_ifn hF c_64
                        refine lv_aload_n hx hb dX12_table_159 rfl (lv_at hl 0 rfl) ?_
                        refine q_ci (q_rV11_0 (rest := []) E (hml.trans hl.1.symm) hI (c_X12_isLaw l X σ_41 a ha) kv_X12_156 ha ⟨Nat.le_of_ble_eq_true rfl, Nat.le_of_ble_eq_true rfl⟩ (Nat.le_of_ble_eq_true rfl) dX12_table_160) hI (Nat.le_of_ble_eq_true rfl) (fun r_83 σ_84 H locs hpσ_84 hkσ_84 hI => ?_)
                        have ahpσ_84 := hpσ_84.1
                        have bhpσ_84 := hpσ_84.2.1
                        have chpσ_84 := hpσ_84.2.2
                        clear hpσ_84
                        replace hI := q_Irw ahpσ_84 hI
                        replace hF := q_letX hF chpσ_84
                        refine q_if_eq (A := r_83.toInt) E rfl (tgt := 173) dX12_table_163 (by decide) (fun c_85 => ?_) (fun c_85 => ?_)
                        · skip
                          replace hF := q_ifp hF c_85
                          refine lv_aload_n hx hb dX12_table_173 rfl (lv_at hl 0 rfl) ?_
                          refine q_ci (q_rV11_0 (rest := []) E (hml.trans hl.1.symm) hI (c_X12_isMost l X σ_41 a ha) kv_X12_159 ha ⟨Nat.le_of_ble_eq_true rfl, Nat.le_of_ble_eq_true rfl⟩ (Nat.le_of_ble_eq_true rfl) dX12_table_174) hI (Nat.le_of_ble_eq_true rfl) (fun r_86 σ_87 H locs hpσ_87 hkσ_87 hI => ?_)
                          have ahpσ_87 := hpσ_87.1
                          have bhpσ_87 := hpσ_87.2.1
                          have chpσ_87 := hpσ_87.2.2
                          clear hpσ_87
                          replace hI := q_Irw ahpσ_87 hI
                          replace hF := q_letX hF chpσ_87
                          refine q_if_eq (A := r_86.toInt) E rfl (tgt := 187) dX12_table_177 (by decide) (fun c_88 => ?_) (fun c_88 => ?_)
                          · skip
                            replace hF := q_ifp hF c_88
                            refine lv_aload_n hx hb dX12_table_187 rfl (lv_at hl 0 rfl) ?_
                            refine q_ci (q_rV11_0 (rest := []) E (hml.trans hl.1.symm) hI (c_X12_isPlayer l X σ_41 a ha) kv_X12_162 ha ⟨Nat.le_of_ble_eq_true rfl, Nat.le_of_ble_eq_true rfl⟩ (Nat.le_of_ble_eq_true rfl) dX12_table_188) hI (Nat.le_of_ble_eq_true rfl) (fun r_89 σ_90 H locs hpσ_90 hkσ_90 hI => ?_)
                            have ahpσ_90 := hpσ_90.1
                            have bhpσ_90 := hpσ_90.2.1
                            have chpσ_90 := hpσ_90.2.2
                            clear hpσ_90
                            replace hI := q_Irw ahpσ_90 hI
                            replace hF := q_letX hF chpσ_90
                            refine q_if_eq (A := r_89.toInt) E rfl (tgt := 201) dX12_table_191 (by decide) (fun c_91 => ?_) (fun c_91 => ?_)
                            · skip
                              replace hF := q_ifp hF c_91
                              refine lv_aload_n hx hb dX12_table_201 rfl (lv_at hl 0 rfl) ?_
                              refine q_ci (q_rV11_0 (rest := []) E (hml.trans hl.1.symm) hI (c_X12_isHand l X σ_41 a ha) kv_X12_165 ha ⟨Nat.le_of_ble_eq_true rfl, Nat.le_of_ble_eq_true rfl⟩ (Nat.le_of_ble_eq_true rfl) dX12_table_202) hI (Nat.le_of_ble_eq_true rfl) (fun r_92 σ_93 H locs hpσ_93 hkσ_93 hI => ?_)
                              have ahpσ_93 := hpσ_93.1
                              have bhpσ_93 := hpσ_93.2.1
                              have chpσ_93 := hpσ_93.2.2
                              clear hpσ_93
                              replace hI := q_Irw ahpσ_93 hI
                              replace hF := q_letX hF chpσ_93
                              refine q_if_eq (A := r_92.toInt) E rfl (tgt := 215) dX12_table_205 (by decide) (fun c_94 => ?_) (fun c_94 => ?_)
                              · skip
                                replace hF := q_ifp hF c_94
                                refine lv_aload_n hx hb dX12_table_215 rfl (lv_at hl 0 rfl) ?_
                                refine q_cv (q_rV11_0 (rest := []) E (hml.trans hl.1.symm) hI (c_X12_wrong l X σ_41 a ha (by first | (clear hn tb8 mv9_σ_1 mv12_σ_1 mv14_σ_1 mv15_σ_1 mv16_σ_1 mv8_σ_1 mv9_σ_2 mv12_σ_2 mv14_σ_2 mv15_σ_2 mv16_σ_2 mv8_σ_2 kc_3 ahpσ_5 bhpσ_5 ehpσ_5 fhpσ_5 c_6 sv hm25 hge25 hzσ_8 smσ_8 gc_10_x_7 c_10 hm51 hge51 gc_14_x_11 c_14 bhpσ_19 chpσ_19 chpσ_21 dhpσ_21 ehpσ_21 kc_22 kc_23 chpσ_25 dhpσ_25 ehpσ_25 bhpσ_28 chpσ_28 chpσ_30 dhpσ_30 ehpσ_30 kc_31 kc_32 chpσ_34 dhpσ_34 ehpσ_34 kc_36 bhpσ_38 chpσ_38 chpσ_40 dhpσ_40 ehpσ_40 k0σ_40 k4σ_40 hm145 smσ_41 k0σ_41 k4σ_41 if_63 c_64 ahpσ_84 bhpσ_84 chpσ_84 c_85 ahpσ_87 bhpσ_87 chpσ_87 c_88 ahpσ_90 bhpσ_90 chpσ_90 c_91 ahpσ_93 bhpσ_93 chpσ_93 c_94; omega) | omega)) kv_X12_200 ha ⟨Nat.le_of_ble_eq_true rfl, Nat.le_of_ble_eq_true rfl⟩ (Nat.le_of_ble_eq_true rfl) dX12_table_216) hI (Nat.le_of_ble_eq_true rfl) (fun σ_96 H locs hpσ_96 hkσ_96 hI => ?_)
                                have ahpσ_96 := hpσ_96.1
                                have bhpσ_96 := hpσ_96.2.1
                                have chpσ_96 := hpσ_96.2.2.1
                                have dhpσ_96 := hpσ_96.2.2.2.1
                                have ehpσ_96 := hpσ_96.2.2.2.2
                                clear hpσ_96
                                have fr_σ_96 := fr_σ_41.call ehpσ_96 rfl rfl
                                replace hF := q_letX hF dhpσ_96
                                have mv8_σ_96 : (σ_96.1 a 8).toInt = (σ_41.1 a 8).toInt := congrArg Int32.toInt (hkσ_96 a 8 (by rw [ha]; decide))
                                have mcσ_96 := m_cK hkσ_96 hI.1 ha (by decide)
                                have kpσ_96 : ∀ j, 0 ≤ j → j < 3720 → m_c X σ_96 a j = m_c X σ a j := fun j h0 h1 => (mcσ_96 j).trans (kpσ_41 j h0 h1)
                                have smσ_96 : 0 ≤ (σ_96.1 a 15).toInt ∧ (σ_96.1 a 15).toInt ≤ (σ_96.1 a 16).toInt ∧ (σ_96.1 a 16).toInt ≤ (σ_96.1 a 9).toInt ∧ (σ_96.1 a 9).toInt ≤ 900 ∧ 0 ≤ (σ_96.1 a 14).toInt ∧ (σ_96.1 a 14).toInt ≤ 4 ∧ (σ_96.1 a 14).toInt ≤ 4 * ((σ_96.1 a 16).toInt - (σ_96.1 a 15).toInt) ∧ (σ_96.1 a 14).toInt ≤ 4 * ((σ_96.1 a 9).toInt - (σ_96.1 a 15).toInt) ∧ 0 ≤ (σ_96.1 a 12).toInt ∧ (σ_96.1 a 8).toInt = 0 := (by first | (clear hn tb8 mv9_σ_1 mv12_σ_1 mv14_σ_1 mv15_σ_1 mv16_σ_1 mv8_σ_1 mv9_σ_2 mv12_σ_2 mv14_σ_2 mv15_σ_2 mv16_σ_2 mv8_σ_2 kc_3 ahpσ_5 bhpσ_5 ehpσ_5 fhpσ_5 c_6 sv hm25 hge25 hzσ_8 smσ_8 gc_10_x_7 c_10 hm51 hge51 gc_14_x_11 c_14 bhpσ_19 chpσ_19 chpσ_21 dhpσ_21 ehpσ_21 kc_22 kc_23 chpσ_25 dhpσ_25 ehpσ_25 bhpσ_28 chpσ_28 chpσ_30 dhpσ_30 ehpσ_30 kc_31 kc_32 chpσ_34 dhpσ_34 ehpσ_34 kc_36 bhpσ_38 chpσ_38 chpσ_40 dhpσ_40 ehpσ_40 k0σ_40 k4σ_40 hm145 k0σ_41 k4σ_41 if_43 c_44 c_64 ahpσ_84 bhpσ_84 chpσ_84 c_85 ahpσ_87 bhpσ_87 chpσ_87 c_88 ahpσ_90 bhpσ_90 chpσ_90 c_91 ahpσ_93 bhpσ_93 chpσ_93 c_94 ahpσ_96 dhpσ_96 ehpσ_96; omega) | omega)
                                have nnσ_96 : m_N (m_c X σ_96 a) := m_N.ext mcσ_96 nnσ_41
                                have k0σ_96 : 2 ≤ m_c X σ_96 a 3720 + 10 * (σ_96.1 a 12).toInt := (by have := mcσ_96 3720; omega)
                                have k4σ_96 : 1 ≤ m_c X σ_96 a 3724 + 10 * (σ_96.1 a 12).toInt := (by have := mcσ_96 3724; omega)
                                have ks_σ_96 : q_KS (fun b g => b = a ∧ 8 ≤ g ∧ g ≤ 18) 1 X σ σ_96 := ks_σ_41.K hkσ_96 (by decide)
                                refine lv_aload_n hx hb dX12_table_219 rfl (lv_at hl 0 rfl) ?_
                                refine lv_aload_n hx hb dX12_table_220 rfl (lv_at hl 0 rfl) ?_
                                refine lv_bipush (v := 59) hx hb dX12_table_221 zkb_59 ?_
                                have kc_97 : (59 : Int32).toInt = 59 := zt_59
                                refine q_ci (q_rV11_1 (rest := [.ref a]) E (hml.trans hl.1.symm) hI (c_X12_isSign l X σ_96 a (59 : Int32) ha) kv_X12_243 ha ⟨Nat.le_of_ble_eq_true rfl, Nat.le_of_ble_eq_true rfl⟩ (Nat.le_of_ble_eq_true rfl) dX12_table_223) hI (Nat.le_of_ble_eq_true rfl) (fun r_98 σ_99 H locs hpσ_99 hkσ_99 hI => ?_)
                                have ahpσ_99 := hpσ_99.1
                                have bhpσ_99 := hpσ_99.2.1
                                have chpσ_99 := hpσ_99.2.2
                                clear hpσ_99
                                replace hI := q_Irw ahpσ_99 hI
                                replace hF := q_letX hF chpσ_99
                                refine q_cv (q_rV11_1 (rest := []) E (hml.trans hl.1.symm) hI (c_X12_must l X σ_96 a r_98 ha (by first | exact sm_9 smσ_96 | exact hs | omega) (by first | (clear hn tb8 mv9_σ_1 mv12_σ_1 mv14_σ_1 mv15_σ_1 mv16_σ_1 mv8_σ_1 mv9_σ_2 mv12_σ_2 mv14_σ_2 mv15_σ_2 mv16_σ_2 mv8_σ_2 kc_3 ahpσ_5 bhpσ_5 ehpσ_5 fhpσ_5 c_6 sv hm25 hge25 hzσ_8 smσ_8 gc_10_x_7 c_10 hm51 hge51 gc_14_x_11 c_14 bhpσ_19 chpσ_19 chpσ_21 dhpσ_21 ehpσ_21 kc_22 kc_23 chpσ_25 dhpσ_25 ehpσ_25 bhpσ_28 chpσ_28 chpσ_30 dhpσ_30 ehpσ_30 kc_31 kc_32 chpσ_34 dhpσ_34 ehpσ_34 kc_36 bhpσ_38 chpσ_38 chpσ_40 dhpσ_40 ehpσ_40 k0σ_40 k4σ_40 hm145 smσ_41 k0σ_41 k4σ_41 if_43 c_44 if_63 c_64 ahpσ_84 bhpσ_84 chpσ_84 c_85 ahpσ_87 bhpσ_87 chpσ_87 c_88 ahpσ_90 bhpσ_90 chpσ_90 c_91 ahpσ_93 bhpσ_93 chpσ_93 c_94 ahpσ_96 bhpσ_96 chpσ_96 dhpσ_96 ehpσ_96 mv8_σ_96 smσ_96 k0σ_96 k4σ_96 kc_97 ahpσ_99 chpσ_99; omega) | omega)) kv_X12_216 ha ⟨Nat.le_of_ble_eq_true rfl, Nat.le_of_ble_eq_true rfl⟩ (Nat.le_of_ble_eq_true rfl) dX12_table_226) hI (Nat.le_of_ble_eq_true rfl) (fun σ_101 H locs hpσ_101 hkσ_101 hI => ?_)
                                have ahpσ_101 := hpσ_101.1
                                have bhpσ_101 := hpσ_101.2.1
                                have chpσ_101 := hpσ_101.2.2.1
                                have dhpσ_101 := hpσ_101.2.2.2.1
                                have ehpσ_101 := hpσ_101.2.2.2.2
                                clear hpσ_101
                                have fr_σ_101 := fr_σ_96.call ehpσ_101 rfl rfl
                                replace hF := q_letX hF dhpσ_101
                                have mv8_σ_101 : (σ_101.1 a 8).toInt = (σ_96.1 a 8).toInt := congrArg Int32.toInt (hkσ_101 a 8 (by rw [ha]; decide))
                                have mcσ_101 := m_cK hkσ_101 hI.1 ha (by decide)
                                have kpσ_101 : ∀ j, 0 ≤ j → j < 3720 → m_c X σ_101 a j = m_c X σ a j := fun j h0 h1 => (mcσ_101 j).trans (kpσ_96 j h0 h1)
                                have smσ_101 : 0 ≤ (σ_101.1 a 15).toInt ∧ (σ_101.1 a 15).toInt ≤ (σ_101.1 a 16).toInt ∧ (σ_101.1 a 16).toInt ≤ (σ_101.1 a 9).toInt ∧ (σ_101.1 a 9).toInt ≤ 900 ∧ 0 ≤ (σ_101.1 a 14).toInt ∧ (σ_101.1 a 14).toInt ≤ 4 ∧ (σ_101.1 a 14).toInt ≤ 4 * ((σ_101.1 a 16).toInt - (σ_101.1 a 15).toInt) ∧ (σ_101.1 a 14).toInt ≤ 4 * ((σ_101.1 a 9).toInt - (σ_101.1 a 15).toInt) ∧ 0 ≤ (σ_101.1 a 12).toInt ∧ (σ_101.1 a 8).toInt = 0 := (by first | (clear hn tb8 mv9_σ_1 mv12_σ_1 mv14_σ_1 mv15_σ_1 mv16_σ_1 mv8_σ_1 mv9_σ_2 mv12_σ_2 mv14_σ_2 mv15_σ_2 mv16_σ_2 mv8_σ_2 kc_3 ahpσ_5 bhpσ_5 ehpσ_5 fhpσ_5 c_6 sv hm25 hge25 hzσ_8 smσ_8 gc_10_x_7 c_10 hm51 hge51 gc_14_x_11 c_14 bhpσ_19 chpσ_19 chpσ_21 dhpσ_21 ehpσ_21 kc_22 kc_23 chpσ_25 dhpσ_25 ehpσ_25 bhpσ_28 chpσ_28 chpσ_30 dhpσ_30 ehpσ_30 kc_31 kc_32 chpσ_34 dhpσ_34 ehpσ_34 kc_36 bhpσ_38 chpσ_38 chpσ_40 dhpσ_40 ehpσ_40 k0σ_40 k4σ_40 hm145 k0σ_41 k4σ_41 if_43 c_44 if_63 c_64 ahpσ_84 bhpσ_84 chpσ_84 c_85 ahpσ_87 bhpσ_87 chpσ_87 c_88 ahpσ_90 bhpσ_90 chpσ_90 c_91 ahpσ_93 bhpσ_93 chpσ_93 c_94 ahpσ_96 chpσ_96 dhpσ_96 ehpσ_96 smσ_96 k0σ_96 k4σ_96 kc_97 ahpσ_99 bhpσ_99 chpσ_99 ahpσ_101 chpσ_101 dhpσ_101 ehpσ_101; omega) | omega)
                                have nnσ_101 : m_N (m_c X σ_101 a) := m_N.ext mcσ_101 nnσ_96
                                have k0σ_101 : 2 ≤ m_c X σ_101 a 3720 + 10 * (σ_101.1 a 12).toInt := (by have := mcσ_101 3720; omega)
                                have k4σ_101 : 1 ≤ m_c X σ_101 a 3724 + 10 * (σ_101.1 a 12).toInt := (by have := mcσ_101 3724; omega)
                                have ks_σ_101 : q_KS (fun b g => b = a ∧ 8 ≤ g ∧ g ≤ 18) 1 X σ σ_101 := ks_σ_96.K hkσ_101 (by decide)
                                refine lv_goto (tgt := 145) hx hb dX12_table_229 (by decide) ?_
                                exact ih145 σ_101 _ _ ls (by first | (clear hn tb8 mv9_σ_1 mv12_σ_1 mv14_σ_1 mv15_σ_1 mv16_σ_1 mv8_σ_1 mv9_σ_2 mv12_σ_2 mv14_σ_2 mv15_σ_2 mv16_σ_2 mv8_σ_2 kc_3 ahpσ_5 bhpσ_5 ehpσ_5 fhpσ_5 c_6 sv hm25 hge25 hzσ_8 smσ_8 gc_10_x_7 c_10 hm51 hge51 gc_14_x_11 c_14 bhpσ_19 chpσ_19 chpσ_21 dhpσ_21 ehpσ_21 kc_22 kc_23 chpσ_25 dhpσ_25 ehpσ_25 bhpσ_28 chpσ_28 chpσ_30 dhpσ_30 ehpσ_30 kc_31 kc_32 chpσ_34 dhpσ_34 ehpσ_34 kc_36 bhpσ_38 chpσ_38 chpσ_40 dhpσ_40 ehpσ_40 k0σ_40 k4σ_40 k0σ_41 k4σ_41 ahpσ_84 bhpσ_84 chpσ_84 c_85 ahpσ_87 bhpσ_87 chpσ_87 c_88 ahpσ_90 bhpσ_90 chpσ_90 c_91 ahpσ_93 bhpσ_93 chpσ_93 c_94 ahpσ_96 dhpσ_96 ehpσ_96 mv8_σ_96 smσ_96 k0σ_96 k4σ_96 kc_97 ahpσ_99 bhpσ_99 chpσ_99 ahpσ_101 chpσ_101 dhpσ_101 ehpσ_101 mv8_σ_101 smσ_101 k0σ_101 k4σ_101; omega) | omega) ks_σ_101 fr_σ_101 kpσ_101 smσ_101 nnσ_101 k0σ_101 k4σ_101 hF hI (lv_sub hl [0, 1, 2] rfl)
                              · skip
                                replace hF := q_ifn hF c_94
                                replace c_94 := q_ifOne bhpσ_93 c_94
                                refine lv_aload_n hx hb dX12_table_208 rfl (lv_at hl 0 rfl) ?_
                                refine q_cv (q_rV11_0 (rest := []) E (hml.trans hl.1.symm) hI (c_X12_readHand l X σ_41 a ha (by first | exact sm_9 smσ_41 | exact hs | omega) nnσ_41 (by first | (clear hn tb8 mv9_σ_1 mv12_σ_1 mv14_σ_1 mv15_σ_1 mv16_σ_1 mv8_σ_1 mv9_σ_2 mv12_σ_2 mv14_σ_2 mv15_σ_2 mv16_σ_2 mv8_σ_2 kc_3 ahpσ_5 bhpσ_5 ehpσ_5 fhpσ_5 c_6 sv hm25 hge25 hzσ_8 smσ_8 gc_10_x_7 c_10 hm51 hge51 gc_14_x_11 c_14 bhpσ_19 chpσ_19 chpσ_21 dhpσ_21 ehpσ_21 kc_22 kc_23 chpσ_25 dhpσ_25 ehpσ_25 bhpσ_28 chpσ_28 chpσ_30 dhpσ_30 ehpσ_30 kc_31 kc_32 chpσ_34 dhpσ_34 ehpσ_34 kc_36 bhpσ_38 chpσ_38 chpσ_40 dhpσ_40 ehpσ_40 k0σ_40 k4σ_40 hm145 smσ_41 k0σ_41 k4σ_41 if_63 c_64 ahpσ_84 bhpσ_84 chpσ_84 c_85 ahpσ_87 bhpσ_87 chpσ_87 c_88 ahpσ_90 bhpσ_90 chpσ_90 c_91 ahpσ_93 bhpσ_93 chpσ_93 c_94; omega) | omega) (by first | (clear hn tb8 mv9_σ_1 mv12_σ_1 mv14_σ_1 mv15_σ_1 mv16_σ_1 mv8_σ_1 mv9_σ_2 mv12_σ_2 mv14_σ_2 mv15_σ_2 mv16_σ_2 mv8_σ_2 kc_3 ahpσ_5 bhpσ_5 ehpσ_5 fhpσ_5 c_6 sv hm25 hge25 hzσ_8 smσ_8 gc_10_x_7 c_10 hm51 hge51 gc_14_x_11 c_14 bhpσ_19 chpσ_19 chpσ_21 dhpσ_21 ehpσ_21 kc_22 kc_23 chpσ_25 dhpσ_25 ehpσ_25 bhpσ_28 chpσ_28 chpσ_30 dhpσ_30 ehpσ_30 kc_31 kc_32 chpσ_34 dhpσ_34 ehpσ_34 kc_36 bhpσ_38 chpσ_38 chpσ_40 dhpσ_40 ehpσ_40 k0σ_40 k4σ_40 hm145 smσ_41 k4σ_41 if_63 c_64 ahpσ_84 bhpσ_84 chpσ_84 c_85 ahpσ_87 bhpσ_87 chpσ_87 c_88 ahpσ_90 bhpσ_90 chpσ_90 c_91 ahpσ_93 bhpσ_93 chpσ_93 c_94; omega) | omega) (by first | (clear hn tb8 mv9_σ_1 mv12_σ_1 mv14_σ_1 mv15_σ_1 mv16_σ_1 mv8_σ_1 mv9_σ_2 mv12_σ_2 mv14_σ_2 mv15_σ_2 mv16_σ_2 mv8_σ_2 kc_3 ahpσ_5 bhpσ_5 ehpσ_5 fhpσ_5 c_6 sv hm25 hge25 hzσ_8 smσ_8 gc_10_x_7 c_10 hm51 hge51 gc_14_x_11 c_14 bhpσ_19 chpσ_19 chpσ_21 dhpσ_21 ehpσ_21 kc_22 kc_23 chpσ_25 dhpσ_25 ehpσ_25 bhpσ_28 chpσ_28 chpσ_30 dhpσ_30 ehpσ_30 kc_31 kc_32 chpσ_34 dhpσ_34 ehpσ_34 kc_36 bhpσ_38 chpσ_38 chpσ_40 dhpσ_40 ehpσ_40 k0σ_40 k4σ_40 hm145 smσ_41 k0σ_41 if_63 c_64 ahpσ_84 bhpσ_84 chpσ_84 c_85 ahpσ_87 bhpσ_87 chpσ_87 c_88 ahpσ_90 bhpσ_90 chpσ_90 c_91 ahpσ_93 bhpσ_93 chpσ_93 c_94; omega) | omega)) kv_X12_255 ha ⟨Nat.le_of_ble_eq_true rfl, Nat.le_of_ble_eq_true rfl⟩ (Nat.le_of_ble_eq_true rfl) dX12_table_209) hI (Nat.le_of_ble_eq_true rfl) (fun σ_103 H locs hpσ_103 hkσ_103 hI => ?_)
                                have ahpσ_103 := hpσ_103.1
                                have bhpσ_103 := hpσ_103.2.1
                                have chpσ_103 := hpσ_103.2.2.1
                                have dhpσ_103 := hpσ_103.2.2.2.1
                                have ehpσ_103 := hpσ_103.2.2.2.2.1
                                have fhpσ_103 := hpσ_103.2.2.2.2.2.1
                                have ghpσ_103 := hpσ_103.2.2.2.2.2.2.1
                                have hhpσ_103 := hpσ_103.2.2.2.2.2.2.2
                                clear hpσ_103
                                have fr_σ_103 := fr_σ_41.call hhpσ_103 rfl rfl
                                replace hF := q_letX hF ghpσ_103
                                have mv8_σ_103 : (σ_103.1 a 8).toInt = (σ_41.1 a 8).toInt := congrArg Int32.toInt (hkσ_103 a 8 (by rw [ha]; decide))
                                have kpσ_103 : ∀ j, 0 ≤ j → j < 3720 → m_c X σ_103 a j = m_c X σ a j := fun j h0 h1 => (bhpσ_103 j h0 h1).trans (kpσ_41 j h0 h1)
                                have smσ_103 : 0 ≤ (σ_103.1 a 15).toInt ∧ (σ_103.1 a 15).toInt ≤ (σ_103.1 a 16).toInt ∧ (σ_103.1 a 16).toInt ≤ (σ_103.1 a 9).toInt ∧ (σ_103.1 a 9).toInt ≤ 900 ∧ 0 ≤ (σ_103.1 a 14).toInt ∧ (σ_103.1 a 14).toInt ≤ 4 ∧ (σ_103.1 a 14).toInt ≤ 4 * ((σ_103.1 a 16).toInt - (σ_103.1 a 15).toInt) ∧ (σ_103.1 a 14).toInt ≤ 4 * ((σ_103.1 a 9).toInt - (σ_103.1 a 15).toInt) ∧ 0 ≤ (σ_103.1 a 12).toInt ∧ (σ_103.1 a 8).toInt = 0 := (by first | (clear hn tb8 mv9_σ_1 mv12_σ_1 mv14_σ_1 mv15_σ_1 mv16_σ_1 mv8_σ_1 mv9_σ_2 mv12_σ_2 mv14_σ_2 mv15_σ_2 mv16_σ_2 mv8_σ_2 kc_3 ahpσ_5 bhpσ_5 ehpσ_5 fhpσ_5 c_6 sv hm25 hge25 hzσ_8 smσ_8 gc_10_x_7 c_10 hm51 hge51 gc_14_x_11 c_14 bhpσ_19 chpσ_19 chpσ_21 dhpσ_21 ehpσ_21 kc_22 kc_23 chpσ_25 dhpσ_25 ehpσ_25 bhpσ_28 chpσ_28 chpσ_30 dhpσ_30 ehpσ_30 kc_31 kc_32 chpσ_34 dhpσ_34 ehpσ_34 kc_36 bhpσ_38 chpσ_38 chpσ_40 dhpσ_40 ehpσ_40 k0σ_40 k4σ_40 hm145 k0σ_41 k4σ_41 if_43 c_44 if_63 c_64 ahpσ_84 bhpσ_84 chpσ_84 c_85 ahpσ_87 bhpσ_87 chpσ_87 c_88 ahpσ_90 bhpσ_90 chpσ_90 c_91 ahpσ_93 bhpσ_93 chpσ_93 c_94 ahpσ_103 bhpσ_103 dhpσ_103 ehpσ_103 fhpσ_103; omega) | omega)
                                have nnσ_103 : m_N (m_c X σ_103 a) := ahpσ_103
                                have k0σ_103 : 2 ≤ m_c X σ_103 a 3720 + 10 * (σ_103.1 a 12).toInt := (by have := ehpσ_103.1; omega)
                                have k4σ_103 : 1 ≤ m_c X σ_103 a 3724 + 10 * (σ_103.1 a 12).toInt := fhpσ_103
                                have ks_σ_103 : q_KS (fun b g => b = a ∧ 8 ≤ g ∧ g ≤ 18) 1 X σ σ_103 := ks_σ_41.K hkσ_103 (by decide)
                                refine lv_goto (tgt := 219) hx hb dX12_table_212 (by decide) ?_
                                refine lv_aload_n hx hb dX12_table_219 rfl (lv_at hl 0 rfl) ?_
                                refine lv_aload_n hx hb dX12_table_220 rfl (lv_at hl 0 rfl) ?_
                                refine lv_bipush (v := 59) hx hb dX12_table_221 zkb_59 ?_
                                have kc_104 : (59 : Int32).toInt = 59 := zt_59
                                refine q_ci (q_rV11_1 (rest := [.ref a]) E (hml.trans hl.1.symm) hI (c_X12_isSign l X σ_103 a (59 : Int32) ha) kv_X12_243 ha ⟨Nat.le_of_ble_eq_true rfl, Nat.le_of_ble_eq_true rfl⟩ (Nat.le_of_ble_eq_true rfl) dX12_table_223) hI (Nat.le_of_ble_eq_true rfl) (fun r_105 σ_106 H locs hpσ_106 hkσ_106 hI => ?_)
                                have ahpσ_106 := hpσ_106.1
                                have bhpσ_106 := hpσ_106.2.1
                                have chpσ_106 := hpσ_106.2.2
                                clear hpσ_106
                                replace hI := q_Irw ahpσ_106 hI
                                replace hF := q_letX hF chpσ_106
                                refine q_cv (q_rV11_1 (rest := []) E (hml.trans hl.1.symm) hI (c_X12_must l X σ_103 a r_105 ha (by first | exact sm_9 smσ_103 | exact hs | omega) (by first | (clear hn tb8 mv9_σ_1 mv12_σ_1 mv14_σ_1 mv15_σ_1 mv16_σ_1 mv8_σ_1 mv9_σ_2 mv12_σ_2 mv14_σ_2 mv15_σ_2 mv16_σ_2 mv8_σ_2 kc_3 ahpσ_5 bhpσ_5 ehpσ_5 fhpσ_5 c_6 sv hm25 hge25 hzσ_8 smσ_8 gc_10_x_7 c_10 hm51 hge51 gc_14_x_11 c_14 bhpσ_19 chpσ_19 chpσ_21 dhpσ_21 ehpσ_21 kc_22 kc_23 chpσ_25 dhpσ_25 ehpσ_25 bhpσ_28 chpσ_28 chpσ_30 dhpσ_30 ehpσ_30 kc_31 kc_32 chpσ_34 dhpσ_34 ehpσ_34 kc_36 bhpσ_38 chpσ_38 chpσ_40 dhpσ_40 ehpσ_40 k0σ_40 k4σ_40 hm145 smσ_41 k0σ_41 k4σ_41 if_43 c_44 if_63 c_64 ahpσ_84 bhpσ_84 chpσ_84 c_85 ahpσ_87 bhpσ_87 chpσ_87 c_88 ahpσ_90 bhpσ_90 chpσ_90 c_91 ahpσ_93 bhpσ_93 chpσ_93 c_94 ahpσ_103 bhpσ_103 chpσ_103 dhpσ_103 ehpσ_103 fhpσ_103 mv8_σ_103 smσ_103 k0σ_103 k4σ_103 kc_104 ahpσ_106 chpσ_106; omega) | omega)) kv_X12_216 ha ⟨Nat.le_of_ble_eq_true rfl, Nat.le_of_ble_eq_true rfl⟩ (Nat.le_of_ble_eq_true rfl) dX12_table_226) hI (Nat.le_of_ble_eq_true rfl) (fun σ_108 H locs hpσ_108 hkσ_108 hI => ?_)
                                have ahpσ_108 := hpσ_108.1
                                have bhpσ_108 := hpσ_108.2.1
                                have chpσ_108 := hpσ_108.2.2.1
                                have dhpσ_108 := hpσ_108.2.2.2.1
                                have ehpσ_108 := hpσ_108.2.2.2.2
                                clear hpσ_108
                                have fr_σ_108 := fr_σ_103.call ehpσ_108 rfl rfl
                                replace hF := q_letX hF dhpσ_108
                                have mv8_σ_108 : (σ_108.1 a 8).toInt = (σ_103.1 a 8).toInt := congrArg Int32.toInt (hkσ_108 a 8 (by rw [ha]; decide))
                                have mcσ_108 := m_cK hkσ_108 hI.1 ha (by decide)
                                have kpσ_108 : ∀ j, 0 ≤ j → j < 3720 → m_c X σ_108 a j = m_c X σ a j := fun j h0 h1 => (mcσ_108 j).trans (kpσ_103 j h0 h1)
                                have smσ_108 : 0 ≤ (σ_108.1 a 15).toInt ∧ (σ_108.1 a 15).toInt ≤ (σ_108.1 a 16).toInt ∧ (σ_108.1 a 16).toInt ≤ (σ_108.1 a 9).toInt ∧ (σ_108.1 a 9).toInt ≤ 900 ∧ 0 ≤ (σ_108.1 a 14).toInt ∧ (σ_108.1 a 14).toInt ≤ 4 ∧ (σ_108.1 a 14).toInt ≤ 4 * ((σ_108.1 a 16).toInt - (σ_108.1 a 15).toInt) ∧ (σ_108.1 a 14).toInt ≤ 4 * ((σ_108.1 a 9).toInt - (σ_108.1 a 15).toInt) ∧ 0 ≤ (σ_108.1 a 12).toInt ∧ (σ_108.1 a 8).toInt = 0 := (by first | (clear hn tb8 mv9_σ_1 mv12_σ_1 mv14_σ_1 mv15_σ_1 mv16_σ_1 mv8_σ_1 mv9_σ_2 mv12_σ_2 mv14_σ_2 mv15_σ_2 mv16_σ_2 mv8_σ_2 kc_3 ahpσ_5 bhpσ_5 ehpσ_5 fhpσ_5 c_6 sv hm25 hge25 hzσ_8 smσ_8 gc_10_x_7 c_10 hm51 hge51 gc_14_x_11 c_14 bhpσ_19 chpσ_19 chpσ_21 dhpσ_21 ehpσ_21 kc_22 kc_23 chpσ_25 dhpσ_25 ehpσ_25 bhpσ_28 chpσ_28 chpσ_30 dhpσ_30 ehpσ_30 kc_31 kc_32 chpσ_34 dhpσ_34 ehpσ_34 kc_36 bhpσ_38 chpσ_38 chpσ_40 dhpσ_40 ehpσ_40 k0σ_40 k4σ_40 hm145 k0σ_41 k4σ_41 if_43 c_44 if_63 c_64 ahpσ_84 bhpσ_84 chpσ_84 c_85 ahpσ_87 bhpσ_87 chpσ_87 c_88 ahpσ_90 bhpσ_90 chpσ_90 c_91 ahpσ_93 bhpσ_93 chpσ_93 c_94 ahpσ_103 bhpσ_103 chpσ_103 dhpσ_103 ehpσ_103 fhpσ_103 smσ_103 k0σ_103 k4σ_103 kc_104 ahpσ_106 bhpσ_106 chpσ_106 ahpσ_108 chpσ_108 dhpσ_108 ehpσ_108; omega) | omega)
                                have nnσ_108 : m_N (m_c X σ_108 a) := m_N.ext mcσ_108 nnσ_103
                                have k0σ_108 : 2 ≤ m_c X σ_108 a 3720 + 10 * (σ_108.1 a 12).toInt := (by have := mcσ_108 3720; omega)
                                have k4σ_108 : 1 ≤ m_c X σ_108 a 3724 + 10 * (σ_108.1 a 12).toInt := (by have := mcσ_108 3724; omega)
                                have ks_σ_108 : q_KS (fun b g => b = a ∧ 8 ≤ g ∧ g ≤ 18) 1 X σ σ_108 := ks_σ_103.K hkσ_108 (by decide)
                                refine lv_goto (tgt := 145) hx hb dX12_table_229 (by decide) ?_
                                exact ih145 σ_108 _ _ ls (by first | (clear hn tb8 mv9_σ_1 mv12_σ_1 mv14_σ_1 mv15_σ_1 mv16_σ_1 mv8_σ_1 mv9_σ_2 mv12_σ_2 mv14_σ_2 mv15_σ_2 mv16_σ_2 mv8_σ_2 kc_3 ahpσ_5 bhpσ_5 ehpσ_5 fhpσ_5 c_6 sv hm25 hge25 hzσ_8 smσ_8 gc_10_x_7 c_10 hm51 hge51 gc_14_x_11 c_14 bhpσ_19 chpσ_19 chpσ_21 dhpσ_21 ehpσ_21 kc_22 kc_23 chpσ_25 dhpσ_25 ehpσ_25 bhpσ_28 chpσ_28 chpσ_30 dhpσ_30 ehpσ_30 kc_31 kc_32 chpσ_34 dhpσ_34 ehpσ_34 kc_36 bhpσ_38 chpσ_38 chpσ_40 dhpσ_40 ehpσ_40 k0σ_40 k4σ_40 k0σ_41 k4σ_41 ahpσ_84 bhpσ_84 chpσ_84 c_85 ahpσ_87 bhpσ_87 chpσ_87 c_88 ahpσ_90 bhpσ_90 chpσ_90 c_91 ahpσ_93 bhpσ_93 chpσ_93 c_94 ahpσ_103 bhpσ_103 ehpσ_103 fhpσ_103 mv8_σ_103 smσ_103 k0σ_103 k4σ_103 kc_104 ahpσ_106 bhpσ_106 chpσ_106 ahpσ_108 chpσ_108 dhpσ_108 ehpσ_108 mv8_σ_108 smσ_108 k0σ_108 k4σ_108; omega) | omega) ks_σ_108 fr_σ_108 kpσ_108 smσ_108 nnσ_108 k0σ_108 k4σ_108 hF hI (lv_sub hl [0, 1, 2] rfl)
                            · skip
                              replace hF := q_ifn hF c_91
                              replace c_91 := q_ifOne bhpσ_90 c_91
                              refine lv_aload_n hx hb dX12_table_194 rfl (lv_at hl 0 rfl) ?_
                              refine q_cv (q_rV11_0 (rest := []) E (hml.trans hl.1.symm) hI (c_X12_readPlayer l X σ_41 a ha (by first | exact sm_9 smσ_41 | exact hs | omega) nnσ_41 (by first | (clear hn tb8 mv9_σ_1 mv12_σ_1 mv14_σ_1 mv15_σ_1 mv16_σ_1 mv8_σ_1 mv9_σ_2 mv12_σ_2 mv14_σ_2 mv15_σ_2 mv16_σ_2 mv8_σ_2 kc_3 ahpσ_5 bhpσ_5 ehpσ_5 fhpσ_5 c_6 sv hm25 hge25 hzσ_8 smσ_8 gc_10_x_7 c_10 hm51 hge51 gc_14_x_11 c_14 bhpσ_19 chpσ_19 chpσ_21 dhpσ_21 ehpσ_21 kc_22 kc_23 chpσ_25 dhpσ_25 ehpσ_25 bhpσ_28 chpσ_28 chpσ_30 dhpσ_30 ehpσ_30 kc_31 kc_32 chpσ_34 dhpσ_34 ehpσ_34 kc_36 bhpσ_38 chpσ_38 chpσ_40 dhpσ_40 ehpσ_40 k0σ_40 k4σ_40 hm145 smσ_41 k0σ_41 k4σ_41 if_63 c_64 ahpσ_84 bhpσ_84 chpσ_84 c_85 ahpσ_87 bhpσ_87 chpσ_87 c_88 ahpσ_90 bhpσ_90 chpσ_90 c_91; omega) | omega) (by first | (clear hn tb8 mv9_σ_1 mv12_σ_1 mv14_σ_1 mv15_σ_1 mv16_σ_1 mv8_σ_1 mv9_σ_2 mv12_σ_2 mv14_σ_2 mv15_σ_2 mv16_σ_2 mv8_σ_2 kc_3 ahpσ_5 bhpσ_5 ehpσ_5 fhpσ_5 c_6 sv hm25 hge25 hzσ_8 smσ_8 gc_10_x_7 c_10 hm51 hge51 gc_14_x_11 c_14 bhpσ_19 chpσ_19 chpσ_21 dhpσ_21 ehpσ_21 kc_22 kc_23 chpσ_25 dhpσ_25 ehpσ_25 bhpσ_28 chpσ_28 chpσ_30 dhpσ_30 ehpσ_30 kc_31 kc_32 chpσ_34 dhpσ_34 ehpσ_34 kc_36 bhpσ_38 chpσ_38 chpσ_40 dhpσ_40 ehpσ_40 k0σ_40 k4σ_40 hm145 smσ_41 k4σ_41 if_63 c_64 ahpσ_84 bhpσ_84 chpσ_84 c_85 ahpσ_87 bhpσ_87 chpσ_87 c_88 ahpσ_90 bhpσ_90 chpσ_90 c_91; omega) | omega) (by first | (clear hn tb8 mv9_σ_1 mv12_σ_1 mv14_σ_1 mv15_σ_1 mv16_σ_1 mv8_σ_1 mv9_σ_2 mv12_σ_2 mv14_σ_2 mv15_σ_2 mv16_σ_2 mv8_σ_2 kc_3 ahpσ_5 bhpσ_5 ehpσ_5 fhpσ_5 c_6 sv hm25 hge25 hzσ_8 smσ_8 gc_10_x_7 c_10 hm51 hge51 gc_14_x_11 c_14 bhpσ_19 chpσ_19 chpσ_21 dhpσ_21 ehpσ_21 kc_22 kc_23 chpσ_25 dhpσ_25 ehpσ_25 bhpσ_28 chpσ_28 chpσ_30 dhpσ_30 ehpσ_30 kc_31 kc_32 chpσ_34 dhpσ_34 ehpσ_34 kc_36 bhpσ_38 chpσ_38 chpσ_40 dhpσ_40 ehpσ_40 k0σ_40 k4σ_40 hm145 smσ_41 k0σ_41 if_63 c_64 ahpσ_84 bhpσ_84 chpσ_84 c_85 ahpσ_87 bhpσ_87 chpσ_87 c_88 ahpσ_90 bhpσ_90 chpσ_90 c_91; omega) | omega)) kv_X12_252 ha ⟨Nat.le_of_ble_eq_true rfl, Nat.le_of_ble_eq_true rfl⟩ (Nat.le_of_ble_eq_true rfl) dX12_table_195) hI (Nat.le_of_ble_eq_true rfl) (fun σ_110 H locs hpσ_110 hkσ_110 hI => ?_)
                              have ahpσ_110 := hpσ_110.1
                              have bhpσ_110 := hpσ_110.2.1
                              have chpσ_110 := hpσ_110.2.2.1
                              have dhpσ_110 := hpσ_110.2.2.2.1
                              have ehpσ_110 := hpσ_110.2.2.2.2.1
                              have fhpσ_110 := hpσ_110.2.2.2.2.2.1
                              have ghpσ_110 := hpσ_110.2.2.2.2.2.2.1
                              have hhpσ_110 := hpσ_110.2.2.2.2.2.2.2
                              clear hpσ_110
                              have fr_σ_110 := fr_σ_41.call hhpσ_110 rfl rfl
                              replace hF := q_letX hF ghpσ_110
                              have mv8_σ_110 : (σ_110.1 a 8).toInt = (σ_41.1 a 8).toInt := congrArg Int32.toInt (hkσ_110 a 8 (by rw [ha]; decide))
                              have kpσ_110 : ∀ j, 0 ≤ j → j < 3720 → m_c X σ_110 a j = m_c X σ a j := fun j h0 h1 => (bhpσ_110 j h0 h1).trans (kpσ_41 j h0 h1)
                              have smσ_110 : 0 ≤ (σ_110.1 a 15).toInt ∧ (σ_110.1 a 15).toInt ≤ (σ_110.1 a 16).toInt ∧ (σ_110.1 a 16).toInt ≤ (σ_110.1 a 9).toInt ∧ (σ_110.1 a 9).toInt ≤ 900 ∧ 0 ≤ (σ_110.1 a 14).toInt ∧ (σ_110.1 a 14).toInt ≤ 4 ∧ (σ_110.1 a 14).toInt ≤ 4 * ((σ_110.1 a 16).toInt - (σ_110.1 a 15).toInt) ∧ (σ_110.1 a 14).toInt ≤ 4 * ((σ_110.1 a 9).toInt - (σ_110.1 a 15).toInt) ∧ 0 ≤ (σ_110.1 a 12).toInt ∧ (σ_110.1 a 8).toInt = 0 := (by first | (clear hn tb8 mv9_σ_1 mv12_σ_1 mv14_σ_1 mv15_σ_1 mv16_σ_1 mv8_σ_1 mv9_σ_2 mv12_σ_2 mv14_σ_2 mv15_σ_2 mv16_σ_2 mv8_σ_2 kc_3 ahpσ_5 bhpσ_5 ehpσ_5 fhpσ_5 c_6 sv hm25 hge25 hzσ_8 smσ_8 gc_10_x_7 c_10 hm51 hge51 gc_14_x_11 c_14 bhpσ_19 chpσ_19 chpσ_21 dhpσ_21 ehpσ_21 kc_22 kc_23 chpσ_25 dhpσ_25 ehpσ_25 bhpσ_28 chpσ_28 chpσ_30 dhpσ_30 ehpσ_30 kc_31 kc_32 chpσ_34 dhpσ_34 ehpσ_34 kc_36 bhpσ_38 chpσ_38 chpσ_40 dhpσ_40 ehpσ_40 k0σ_40 k4σ_40 hm145 k0σ_41 k4σ_41 if_43 c_44 if_63 c_64 ahpσ_84 bhpσ_84 chpσ_84 c_85 ahpσ_87 bhpσ_87 chpσ_87 c_88 ahpσ_90 bhpσ_90 chpσ_90 c_91 ahpσ_110 bhpσ_110 dhpσ_110 ehpσ_110 fhpσ_110; omega) | omega)
                              have nnσ_110 : m_N (m_c X σ_110 a) := ahpσ_110
                              have k0σ_110 : 2 ≤ m_c X σ_110 a 3720 + 10 * (σ_110.1 a 12).toInt := (by have := ehpσ_110.1; omega)
                              have k4σ_110 : 1 ≤ m_c X σ_110 a 3724 + 10 * (σ_110.1 a 12).toInt := fhpσ_110
                              have ks_σ_110 : q_KS (fun b g => b = a ∧ 8 ≤ g ∧ g ≤ 18) 1 X σ σ_110 := ks_σ_41.K hkσ_110 (by decide)
                              refine lv_goto (tgt := 219) hx hb dX12_table_198 (by decide) ?_
                              refine lv_aload_n hx hb dX12_table_219 rfl (lv_at hl 0 rfl) ?_
                              refine lv_aload_n hx hb dX12_table_220 rfl (lv_at hl 0 rfl) ?_
                              refine lv_bipush (v := 59) hx hb dX12_table_221 zkb_59 ?_
                              have kc_111 : (59 : Int32).toInt = 59 := zt_59
                              refine q_ci (q_rV11_1 (rest := [.ref a]) E (hml.trans hl.1.symm) hI (c_X12_isSign l X σ_110 a (59 : Int32) ha) kv_X12_243 ha ⟨Nat.le_of_ble_eq_true rfl, Nat.le_of_ble_eq_true rfl⟩ (Nat.le_of_ble_eq_true rfl) dX12_table_223) hI (Nat.le_of_ble_eq_true rfl) (fun r_112 σ_113 H locs hpσ_113 hkσ_113 hI => ?_)
                              have ahpσ_113 := hpσ_113.1
                              have bhpσ_113 := hpσ_113.2.1
                              have chpσ_113 := hpσ_113.2.2
                              clear hpσ_113
                              replace hI := q_Irw ahpσ_113 hI
                              replace hF := q_letX hF chpσ_113
                              refine q_cv (q_rV11_1 (rest := []) E (hml.trans hl.1.symm) hI (c_X12_must l X σ_110 a r_112 ha (by first | exact sm_9 smσ_110 | exact hs | omega) (by first | (clear hn tb8 mv9_σ_1 mv12_σ_1 mv14_σ_1 mv15_σ_1 mv16_σ_1 mv8_σ_1 mv9_σ_2 mv12_σ_2 mv14_σ_2 mv15_σ_2 mv16_σ_2 mv8_σ_2 kc_3 ahpσ_5 bhpσ_5 ehpσ_5 fhpσ_5 c_6 sv hm25 hge25 hzσ_8 smσ_8 gc_10_x_7 c_10 hm51 hge51 gc_14_x_11 c_14 bhpσ_19 chpσ_19 chpσ_21 dhpσ_21 ehpσ_21 kc_22 kc_23 chpσ_25 dhpσ_25 ehpσ_25 bhpσ_28 chpσ_28 chpσ_30 dhpσ_30 ehpσ_30 kc_31 kc_32 chpσ_34 dhpσ_34 ehpσ_34 kc_36 bhpσ_38 chpσ_38 chpσ_40 dhpσ_40 ehpσ_40 k0σ_40 k4σ_40 hm145 smσ_41 k0σ_41 k4σ_41 if_43 c_44 if_63 c_64 ahpσ_84 bhpσ_84 chpσ_84 c_85 ahpσ_87 bhpσ_87 chpσ_87 c_88 ahpσ_90 bhpσ_90 chpσ_90 c_91 ahpσ_110 bhpσ_110 chpσ_110 dhpσ_110 ehpσ_110 fhpσ_110 mv8_σ_110 smσ_110 k0σ_110 k4σ_110 kc_111 ahpσ_113 chpσ_113; omega) | omega)) kv_X12_216 ha ⟨Nat.le_of_ble_eq_true rfl, Nat.le_of_ble_eq_true rfl⟩ (Nat.le_of_ble_eq_true rfl) dX12_table_226) hI (Nat.le_of_ble_eq_true rfl) (fun σ_115 H locs hpσ_115 hkσ_115 hI => ?_)
                              have ahpσ_115 := hpσ_115.1
                              have bhpσ_115 := hpσ_115.2.1
                              have chpσ_115 := hpσ_115.2.2.1
                              have dhpσ_115 := hpσ_115.2.2.2.1
                              have ehpσ_115 := hpσ_115.2.2.2.2
                              clear hpσ_115
                              have fr_σ_115 := fr_σ_110.call ehpσ_115 rfl rfl
                              replace hF := q_letX hF dhpσ_115
                              have mv8_σ_115 : (σ_115.1 a 8).toInt = (σ_110.1 a 8).toInt := congrArg Int32.toInt (hkσ_115 a 8 (by rw [ha]; decide))
                              have mcσ_115 := m_cK hkσ_115 hI.1 ha (by decide)
                              have kpσ_115 : ∀ j, 0 ≤ j → j < 3720 → m_c X σ_115 a j = m_c X σ a j := fun j h0 h1 => (mcσ_115 j).trans (kpσ_110 j h0 h1)
                              have smσ_115 : 0 ≤ (σ_115.1 a 15).toInt ∧ (σ_115.1 a 15).toInt ≤ (σ_115.1 a 16).toInt ∧ (σ_115.1 a 16).toInt ≤ (σ_115.1 a 9).toInt ∧ (σ_115.1 a 9).toInt ≤ 900 ∧ 0 ≤ (σ_115.1 a 14).toInt ∧ (σ_115.1 a 14).toInt ≤ 4 ∧ (σ_115.1 a 14).toInt ≤ 4 * ((σ_115.1 a 16).toInt - (σ_115.1 a 15).toInt) ∧ (σ_115.1 a 14).toInt ≤ 4 * ((σ_115.1 a 9).toInt - (σ_115.1 a 15).toInt) ∧ 0 ≤ (σ_115.1 a 12).toInt ∧ (σ_115.1 a 8).toInt = 0 := (by first | (clear hn tb8 mv9_σ_1 mv12_σ_1 mv14_σ_1 mv15_σ_1 mv16_σ_1 mv8_σ_1 mv9_σ_2 mv12_σ_2 mv14_σ_2 mv15_σ_2 mv16_σ_2 mv8_σ_2 kc_3 ahpσ_5 bhpσ_5 ehpσ_5 fhpσ_5 c_6 sv hm25 hge25 hzσ_8 smσ_8 gc_10_x_7 c_10 hm51 hge51 gc_14_x_11 c_14 bhpσ_19 chpσ_19 chpσ_21 dhpσ_21 ehpσ_21 kc_22 kc_23 chpσ_25 dhpσ_25 ehpσ_25 bhpσ_28 chpσ_28 chpσ_30 dhpσ_30 ehpσ_30 kc_31 kc_32 chpσ_34 dhpσ_34 ehpσ_34 kc_36 bhpσ_38 chpσ_38 chpσ_40 dhpσ_40 ehpσ_40 k0σ_40 k4σ_40 hm145 k0σ_41 k4σ_41 if_43 c_44 if_63 c_64 ahpσ_84 bhpσ_84 chpσ_84 c_85 ahpσ_87 bhpσ_87 chpσ_87 c_88 ahpσ_90 bhpσ_90 chpσ_90 c_91 ahpσ_110 bhpσ_110 chpσ_110 dhpσ_110 ehpσ_110 fhpσ_110 smσ_110 k0σ_110 k4σ_110 kc_111 ahpσ_113 bhpσ_113 chpσ_113 ahpσ_115 chpσ_115 dhpσ_115 ehpσ_115; omega) | omega)
                              have nnσ_115 : m_N (m_c X σ_115 a) := m_N.ext mcσ_115 nnσ_110
                              have k0σ_115 : 2 ≤ m_c X σ_115 a 3720 + 10 * (σ_115.1 a 12).toInt := (by have := mcσ_115 3720; omega)
                              have k4σ_115 : 1 ≤ m_c X σ_115 a 3724 + 10 * (σ_115.1 a 12).toInt := (by have := mcσ_115 3724; omega)
                              have ks_σ_115 : q_KS (fun b g => b = a ∧ 8 ≤ g ∧ g ≤ 18) 1 X σ σ_115 := ks_σ_110.K hkσ_115 (by decide)
                              refine lv_goto (tgt := 145) hx hb dX12_table_229 (by decide) ?_
                              exact ih145 σ_115 _ _ ls (by first | (clear hn tb8 mv9_σ_1 mv12_σ_1 mv14_σ_1 mv15_σ_1 mv16_σ_1 mv8_σ_1 mv9_σ_2 mv12_σ_2 mv14_σ_2 mv15_σ_2 mv16_σ_2 mv8_σ_2 kc_3 ahpσ_5 bhpσ_5 ehpσ_5 fhpσ_5 c_6 sv hm25 hge25 hzσ_8 smσ_8 gc_10_x_7 c_10 hm51 hge51 gc_14_x_11 c_14 bhpσ_19 chpσ_19 chpσ_21 dhpσ_21 ehpσ_21 kc_22 kc_23 chpσ_25 dhpσ_25 ehpσ_25 bhpσ_28 chpσ_28 chpσ_30 dhpσ_30 ehpσ_30 kc_31 kc_32 chpσ_34 dhpσ_34 ehpσ_34 kc_36 bhpσ_38 chpσ_38 chpσ_40 dhpσ_40 ehpσ_40 k0σ_40 k4σ_40 k0σ_41 k4σ_41 ahpσ_84 bhpσ_84 chpσ_84 c_85 ahpσ_87 bhpσ_87 chpσ_87 c_88 ahpσ_90 bhpσ_90 chpσ_90 c_91 ahpσ_110 bhpσ_110 ehpσ_110 fhpσ_110 mv8_σ_110 smσ_110 k0σ_110 k4σ_110 kc_111 ahpσ_113 bhpσ_113 chpσ_113 ahpσ_115 chpσ_115 dhpσ_115 ehpσ_115 mv8_σ_115 smσ_115 k0σ_115 k4σ_115; omega) | omega) ks_σ_115 fr_σ_115 kpσ_115 smσ_115 nnσ_115 k0σ_115 k4σ_115 hF hI (lv_sub hl [0, 1, 2] rfl)
                          · skip
                            replace hF := q_ifn hF c_88
                            replace c_88 := q_ifOne bhpσ_87 c_88
                            refine lv_aload_n hx hb dX12_table_180 rfl (lv_at hl 0 rfl) ?_
                            refine q_cv (q_rV11_0 (rest := []) E (hml.trans hl.1.symm) hI (c_X12_readMost l X σ_41 a ha (by first | exact sm_9 smσ_41 | exact hs | omega) nnσ_41 (by first | (clear hn tb8 mv9_σ_1 mv12_σ_1 mv14_σ_1 mv15_σ_1 mv16_σ_1 mv8_σ_1 mv9_σ_2 mv12_σ_2 mv14_σ_2 mv15_σ_2 mv16_σ_2 mv8_σ_2 kc_3 ahpσ_5 bhpσ_5 ehpσ_5 fhpσ_5 c_6 sv hm25 hge25 hzσ_8 smσ_8 gc_10_x_7 c_10 hm51 hge51 gc_14_x_11 c_14 bhpσ_19 chpσ_19 chpσ_21 dhpσ_21 ehpσ_21 kc_22 kc_23 chpσ_25 dhpσ_25 ehpσ_25 bhpσ_28 chpσ_28 chpσ_30 dhpσ_30 ehpσ_30 kc_31 kc_32 chpσ_34 dhpσ_34 ehpσ_34 kc_36 bhpσ_38 chpσ_38 chpσ_40 dhpσ_40 ehpσ_40 k0σ_40 k4σ_40 hm145 smσ_41 k0σ_41 k4σ_41 if_63 c_64 ahpσ_84 bhpσ_84 chpσ_84 c_85 ahpσ_87 bhpσ_87 chpσ_87 c_88; omega) | omega) (by first | (clear hn tb8 mv9_σ_1 mv12_σ_1 mv14_σ_1 mv15_σ_1 mv16_σ_1 mv8_σ_1 mv9_σ_2 mv12_σ_2 mv14_σ_2 mv15_σ_2 mv16_σ_2 mv8_σ_2 kc_3 ahpσ_5 bhpσ_5 ehpσ_5 fhpσ_5 c_6 sv hm25 hge25 hzσ_8 smσ_8 gc_10_x_7 c_10 hm51 hge51 gc_14_x_11 c_14 bhpσ_19 chpσ_19 chpσ_21 dhpσ_21 ehpσ_21 kc_22 kc_23 chpσ_25 dhpσ_25 ehpσ_25 bhpσ_28 chpσ_28 chpσ_30 dhpσ_30 ehpσ_30 kc_31 kc_32 chpσ_34 dhpσ_34 ehpσ_34 kc_36 bhpσ_38 chpσ_38 chpσ_40 dhpσ_40 ehpσ_40 k0σ_40 k4σ_40 hm145 smσ_41 k4σ_41 if_63 c_64 ahpσ_84 bhpσ_84 chpσ_84 c_85 ahpσ_87 bhpσ_87 chpσ_87 c_88; omega) | omega) (by first | (clear hn tb8 mv9_σ_1 mv12_σ_1 mv14_σ_1 mv15_σ_1 mv16_σ_1 mv8_σ_1 mv9_σ_2 mv12_σ_2 mv14_σ_2 mv15_σ_2 mv16_σ_2 mv8_σ_2 kc_3 ahpσ_5 bhpσ_5 ehpσ_5 fhpσ_5 c_6 sv hm25 hge25 hzσ_8 smσ_8 gc_10_x_7 c_10 hm51 hge51 gc_14_x_11 c_14 bhpσ_19 chpσ_19 chpσ_21 dhpσ_21 ehpσ_21 kc_22 kc_23 chpσ_25 dhpσ_25 ehpσ_25 bhpσ_28 chpσ_28 chpσ_30 dhpσ_30 ehpσ_30 kc_31 kc_32 chpσ_34 dhpσ_34 ehpσ_34 kc_36 bhpσ_38 chpσ_38 chpσ_40 dhpσ_40 ehpσ_40 k0σ_40 k4σ_40 hm145 smσ_41 k0σ_41 if_63 c_64 ahpσ_84 bhpσ_84 chpσ_84 c_85 ahpσ_87 bhpσ_87 chpσ_87 c_88; omega) | omega)) kv_X12_249 ha ⟨Nat.le_of_ble_eq_true rfl, Nat.le_of_ble_eq_true rfl⟩ (Nat.le_of_ble_eq_true rfl) dX12_table_181) hI (Nat.le_of_ble_eq_true rfl) (fun σ_117 H locs hpσ_117 hkσ_117 hI => ?_)
                            have ahpσ_117 := hpσ_117.1
                            have bhpσ_117 := hpσ_117.2.1
                            have chpσ_117 := hpσ_117.2.2.1
                            have dhpσ_117 := hpσ_117.2.2.2.1
                            have ehpσ_117 := hpσ_117.2.2.2.2.1
                            have fhpσ_117 := hpσ_117.2.2.2.2.2.1
                            have ghpσ_117 := hpσ_117.2.2.2.2.2.2.1
                            have hhpσ_117 := hpσ_117.2.2.2.2.2.2.2
                            clear hpσ_117
                            have fr_σ_117 := fr_σ_41.call hhpσ_117 rfl rfl
                            replace hF := q_letX hF ghpσ_117
                            have mv8_σ_117 : (σ_117.1 a 8).toInt = (σ_41.1 a 8).toInt := congrArg Int32.toInt (hkσ_117 a 8 (by rw [ha]; decide))
                            have kpσ_117 : ∀ j, 0 ≤ j → j < 3720 → m_c X σ_117 a j = m_c X σ a j := fun j h0 h1 => (bhpσ_117 j h0 h1).trans (kpσ_41 j h0 h1)
                            have smσ_117 : 0 ≤ (σ_117.1 a 15).toInt ∧ (σ_117.1 a 15).toInt ≤ (σ_117.1 a 16).toInt ∧ (σ_117.1 a 16).toInt ≤ (σ_117.1 a 9).toInt ∧ (σ_117.1 a 9).toInt ≤ 900 ∧ 0 ≤ (σ_117.1 a 14).toInt ∧ (σ_117.1 a 14).toInt ≤ 4 ∧ (σ_117.1 a 14).toInt ≤ 4 * ((σ_117.1 a 16).toInt - (σ_117.1 a 15).toInt) ∧ (σ_117.1 a 14).toInt ≤ 4 * ((σ_117.1 a 9).toInt - (σ_117.1 a 15).toInt) ∧ 0 ≤ (σ_117.1 a 12).toInt ∧ (σ_117.1 a 8).toInt = 0 := (by first | (clear hn tb8 mv9_σ_1 mv12_σ_1 mv14_σ_1 mv15_σ_1 mv16_σ_1 mv8_σ_1 mv9_σ_2 mv12_σ_2 mv14_σ_2 mv15_σ_2 mv16_σ_2 mv8_σ_2 kc_3 ahpσ_5 bhpσ_5 ehpσ_5 fhpσ_5 c_6 sv hm25 hge25 hzσ_8 smσ_8 gc_10_x_7 c_10 hm51 hge51 gc_14_x_11 c_14 bhpσ_19 chpσ_19 chpσ_21 dhpσ_21 ehpσ_21 kc_22 kc_23 chpσ_25 dhpσ_25 ehpσ_25 bhpσ_28 chpσ_28 chpσ_30 dhpσ_30 ehpσ_30 kc_31 kc_32 chpσ_34 dhpσ_34 ehpσ_34 kc_36 bhpσ_38 chpσ_38 chpσ_40 dhpσ_40 ehpσ_40 k0σ_40 k4σ_40 hm145 k0σ_41 k4σ_41 if_43 c_44 if_63 c_64 ahpσ_84 bhpσ_84 chpσ_84 c_85 ahpσ_87 bhpσ_87 chpσ_87 c_88 ahpσ_117 bhpσ_117 dhpσ_117 ehpσ_117 fhpσ_117; omega) | omega)
                            have nnσ_117 : m_N (m_c X σ_117 a) := ahpσ_117
                            have k0σ_117 : 2 ≤ m_c X σ_117 a 3720 + 10 * (σ_117.1 a 12).toInt := (by have := ehpσ_117.1; omega)
                            have k4σ_117 : 1 ≤ m_c X σ_117 a 3724 + 10 * (σ_117.1 a 12).toInt := fhpσ_117
                            have ks_σ_117 : q_KS (fun b g => b = a ∧ 8 ≤ g ∧ g ≤ 18) 1 X σ σ_117 := ks_σ_41.K hkσ_117 (by decide)
                            refine lv_goto (tgt := 219) hx hb dX12_table_184 (by decide) ?_
                            refine lv_aload_n hx hb dX12_table_219 rfl (lv_at hl 0 rfl) ?_
                            refine lv_aload_n hx hb dX12_table_220 rfl (lv_at hl 0 rfl) ?_
                            refine lv_bipush (v := 59) hx hb dX12_table_221 zkb_59 ?_
                            have kc_118 : (59 : Int32).toInt = 59 := zt_59
                            refine q_ci (q_rV11_1 (rest := [.ref a]) E (hml.trans hl.1.symm) hI (c_X12_isSign l X σ_117 a (59 : Int32) ha) kv_X12_243 ha ⟨Nat.le_of_ble_eq_true rfl, Nat.le_of_ble_eq_true rfl⟩ (Nat.le_of_ble_eq_true rfl) dX12_table_223) hI (Nat.le_of_ble_eq_true rfl) (fun r_119 σ_120 H locs hpσ_120 hkσ_120 hI => ?_)
                            have ahpσ_120 := hpσ_120.1
                            have bhpσ_120 := hpσ_120.2.1
                            have chpσ_120 := hpσ_120.2.2
                            clear hpσ_120
                            replace hI := q_Irw ahpσ_120 hI
                            replace hF := q_letX hF chpσ_120
                            refine q_cv (q_rV11_1 (rest := []) E (hml.trans hl.1.symm) hI (c_X12_must l X σ_117 a r_119 ha (by first | exact sm_9 smσ_117 | exact hs | omega) (by first | (clear hn tb8 mv9_σ_1 mv12_σ_1 mv14_σ_1 mv15_σ_1 mv16_σ_1 mv8_σ_1 mv9_σ_2 mv12_σ_2 mv14_σ_2 mv15_σ_2 mv16_σ_2 mv8_σ_2 kc_3 ahpσ_5 bhpσ_5 ehpσ_5 fhpσ_5 c_6 sv hm25 hge25 hzσ_8 smσ_8 gc_10_x_7 c_10 hm51 hge51 gc_14_x_11 c_14 bhpσ_19 chpσ_19 chpσ_21 dhpσ_21 ehpσ_21 kc_22 kc_23 chpσ_25 dhpσ_25 ehpσ_25 bhpσ_28 chpσ_28 chpσ_30 dhpσ_30 ehpσ_30 kc_31 kc_32 chpσ_34 dhpσ_34 ehpσ_34 kc_36 bhpσ_38 chpσ_38 chpσ_40 dhpσ_40 ehpσ_40 k0σ_40 k4σ_40 hm145 smσ_41 k0σ_41 k4σ_41 if_43 c_44 if_63 c_64 ahpσ_84 bhpσ_84 chpσ_84 c_85 ahpσ_87 bhpσ_87 chpσ_87 c_88 ahpσ_117 bhpσ_117 chpσ_117 dhpσ_117 ehpσ_117 fhpσ_117 mv8_σ_117 smσ_117 k0σ_117 k4σ_117 kc_118 ahpσ_120 chpσ_120; omega) | omega)) kv_X12_216 ha ⟨Nat.le_of_ble_eq_true rfl, Nat.le_of_ble_eq_true rfl⟩ (Nat.le_of_ble_eq_true rfl) dX12_table_226) hI (Nat.le_of_ble_eq_true rfl) (fun σ_122 H locs hpσ_122 hkσ_122 hI => ?_)
                            have ahpσ_122 := hpσ_122.1
                            have bhpσ_122 := hpσ_122.2.1
                            have chpσ_122 := hpσ_122.2.2.1
                            have dhpσ_122 := hpσ_122.2.2.2.1
                            have ehpσ_122 := hpσ_122.2.2.2.2
                            clear hpσ_122
                            have fr_σ_122 := fr_σ_117.call ehpσ_122 rfl rfl
                            replace hF := q_letX hF dhpσ_122
                            have mv8_σ_122 : (σ_122.1 a 8).toInt = (σ_117.1 a 8).toInt := congrArg Int32.toInt (hkσ_122 a 8 (by rw [ha]; decide))
                            have mcσ_122 := m_cK hkσ_122 hI.1 ha (by decide)
                            have kpσ_122 : ∀ j, 0 ≤ j → j < 3720 → m_c X σ_122 a j = m_c X σ a j := fun j h0 h1 => (mcσ_122 j).trans (kpσ_117 j h0 h1)
                            have smσ_122 : 0 ≤ (σ_122.1 a 15).toInt ∧ (σ_122.1 a 15).toInt ≤ (σ_122.1 a 16).toInt ∧ (σ_122.1 a 16).toInt ≤ (σ_122.1 a 9).toInt ∧ (σ_122.1 a 9).toInt ≤ 900 ∧ 0 ≤ (σ_122.1 a 14).toInt ∧ (σ_122.1 a 14).toInt ≤ 4 ∧ (σ_122.1 a 14).toInt ≤ 4 * ((σ_122.1 a 16).toInt - (σ_122.1 a 15).toInt) ∧ (σ_122.1 a 14).toInt ≤ 4 * ((σ_122.1 a 9).toInt - (σ_122.1 a 15).toInt) ∧ 0 ≤ (σ_122.1 a 12).toInt ∧ (σ_122.1 a 8).toInt = 0 := (by first | (clear hn tb8 mv9_σ_1 mv12_σ_1 mv14_σ_1 mv15_σ_1 mv16_σ_1 mv8_σ_1 mv9_σ_2 mv12_σ_2 mv14_σ_2 mv15_σ_2 mv16_σ_2 mv8_σ_2 kc_3 ahpσ_5 bhpσ_5 ehpσ_5 fhpσ_5 c_6 sv hm25 hge25 hzσ_8 smσ_8 gc_10_x_7 c_10 hm51 hge51 gc_14_x_11 c_14 bhpσ_19 chpσ_19 chpσ_21 dhpσ_21 ehpσ_21 kc_22 kc_23 chpσ_25 dhpσ_25 ehpσ_25 bhpσ_28 chpσ_28 chpσ_30 dhpσ_30 ehpσ_30 kc_31 kc_32 chpσ_34 dhpσ_34 ehpσ_34 kc_36 bhpσ_38 chpσ_38 chpσ_40 dhpσ_40 ehpσ_40 k0σ_40 k4σ_40 hm145 k0σ_41 k4σ_41 if_43 c_44 if_63 c_64 ahpσ_84 bhpσ_84 chpσ_84 c_85 ahpσ_87 bhpσ_87 chpσ_87 c_88 ahpσ_117 bhpσ_117 dhpσ_117 ehpσ_117 fhpσ_117 smσ_117 k0σ_117 k4σ_117 kc_118 ahpσ_120 bhpσ_120 chpσ_120 ahpσ_122 chpσ_122 dhpσ_122 ehpσ_122; omega) | omega)
                            have nnσ_122 : m_N (m_c X σ_122 a) := m_N.ext mcσ_122 nnσ_117
                            have k0σ_122 : 2 ≤ m_c X σ_122 a 3720 + 10 * (σ_122.1 a 12).toInt := (by have := mcσ_122 3720; omega)
                            have k4σ_122 : 1 ≤ m_c X σ_122 a 3724 + 10 * (σ_122.1 a 12).toInt := (by have := mcσ_122 3724; omega)
                            have ks_σ_122 : q_KS (fun b g => b = a ∧ 8 ≤ g ∧ g ≤ 18) 1 X σ σ_122 := ks_σ_117.K hkσ_122 (by decide)
                            refine lv_goto (tgt := 145) hx hb dX12_table_229 (by decide) ?_
                            exact ih145 σ_122 _ _ ls (by first | (clear hn tb8 mv9_σ_1 mv12_σ_1 mv14_σ_1 mv15_σ_1 mv16_σ_1 mv8_σ_1 mv9_σ_2 mv12_σ_2 mv14_σ_2 mv15_σ_2 mv16_σ_2 mv8_σ_2 kc_3 ahpσ_5 bhpσ_5 ehpσ_5 fhpσ_5 c_6 sv hm25 hge25 hzσ_8 smσ_8 gc_10_x_7 c_10 hm51 hge51 gc_14_x_11 c_14 bhpσ_19 chpσ_19 chpσ_21 dhpσ_21 ehpσ_21 kc_22 kc_23 chpσ_25 dhpσ_25 ehpσ_25 bhpσ_28 chpσ_28 chpσ_30 dhpσ_30 ehpσ_30 kc_31 kc_32 chpσ_34 dhpσ_34 ehpσ_34 kc_36 bhpσ_38 chpσ_38 chpσ_40 dhpσ_40 ehpσ_40 k0σ_40 k4σ_40 k0σ_41 k4σ_41 ahpσ_84 bhpσ_84 chpσ_84 c_85 ahpσ_87 bhpσ_87 chpσ_87 c_88 ahpσ_117 bhpσ_117 ehpσ_117 fhpσ_117 mv8_σ_117 smσ_117 k0σ_117 k4σ_117 kc_118 ahpσ_120 bhpσ_120 chpσ_120 ahpσ_122 chpσ_122 dhpσ_122 ehpσ_122 mv8_σ_122 smσ_122 k0σ_122 k4σ_122; omega) | omega) ks_σ_122 fr_σ_122 kpσ_122 smσ_122 nnσ_122 k0σ_122 k4σ_122 hF hI (lv_sub hl [0, 1, 2] rfl)
                        · skip
                          replace hF := q_ifn hF c_85
                          replace c_85 := q_ifOne bhpσ_84 c_85
                          refine lv_aload_n hx hb dX12_table_166 rfl (lv_at hl 0 rfl) ?_
                          refine q_cv (q_rV11_0 (rest := []) E (hml.trans hl.1.symm) hI (c_X12_readLaw l X σ_41 a ha (by first | exact sm_9 smσ_41 | exact hs | omega) nnσ_41 (by first | (clear hn tb8 mv9_σ_1 mv12_σ_1 mv14_σ_1 mv15_σ_1 mv16_σ_1 mv8_σ_1 mv9_σ_2 mv12_σ_2 mv14_σ_2 mv15_σ_2 mv16_σ_2 mv8_σ_2 kc_3 ahpσ_5 bhpσ_5 ehpσ_5 fhpσ_5 c_6 sv hm25 hge25 hzσ_8 smσ_8 gc_10_x_7 c_10 hm51 hge51 gc_14_x_11 c_14 bhpσ_19 chpσ_19 chpσ_21 dhpσ_21 ehpσ_21 kc_22 kc_23 chpσ_25 dhpσ_25 ehpσ_25 bhpσ_28 chpσ_28 chpσ_30 dhpσ_30 ehpσ_30 kc_31 kc_32 chpσ_34 dhpσ_34 ehpσ_34 kc_36 bhpσ_38 chpσ_38 chpσ_40 dhpσ_40 ehpσ_40 k0σ_40 k4σ_40 hm145 smσ_41 k0σ_41 k4σ_41 if_63 c_64 ahpσ_84 bhpσ_84 chpσ_84 c_85; omega) | omega) (by first | (clear hn tb8 mv9_σ_1 mv12_σ_1 mv14_σ_1 mv15_σ_1 mv16_σ_1 mv8_σ_1 mv9_σ_2 mv12_σ_2 mv14_σ_2 mv15_σ_2 mv16_σ_2 mv8_σ_2 kc_3 ahpσ_5 bhpσ_5 ehpσ_5 fhpσ_5 c_6 sv hm25 hge25 hzσ_8 smσ_8 gc_10_x_7 c_10 hm51 hge51 gc_14_x_11 c_14 bhpσ_19 chpσ_19 chpσ_21 dhpσ_21 ehpσ_21 kc_22 kc_23 chpσ_25 dhpσ_25 ehpσ_25 bhpσ_28 chpσ_28 chpσ_30 dhpσ_30 ehpσ_30 kc_31 kc_32 chpσ_34 dhpσ_34 ehpσ_34 kc_36 bhpσ_38 chpσ_38 chpσ_40 dhpσ_40 ehpσ_40 k0σ_40 k4σ_40 hm145 smσ_41 k4σ_41 if_63 c_64 ahpσ_84 bhpσ_84 chpσ_84 c_85; omega) | omega) (by first | (clear hn tb8 mv9_σ_1 mv12_σ_1 mv14_σ_1 mv15_σ_1 mv16_σ_1 mv8_σ_1 mv9_σ_2 mv12_σ_2 mv14_σ_2 mv15_σ_2 mv16_σ_2 mv8_σ_2 kc_3 ahpσ_5 bhpσ_5 ehpσ_5 fhpσ_5 c_6 sv hm25 hge25 hzσ_8 smσ_8 gc_10_x_7 c_10 hm51 hge51 gc_14_x_11 c_14 bhpσ_19 chpσ_19 chpσ_21 dhpσ_21 ehpσ_21 kc_22 kc_23 chpσ_25 dhpσ_25 ehpσ_25 bhpσ_28 chpσ_28 chpσ_30 dhpσ_30 ehpσ_30 kc_31 kc_32 chpσ_34 dhpσ_34 ehpσ_34 kc_36 bhpσ_38 chpσ_38 chpσ_40 dhpσ_40 ehpσ_40 k0σ_40 k4σ_40 hm145 smσ_41 k0σ_41 if_63 c_64 ahpσ_84 bhpσ_84 chpσ_84 c_85; omega) | omega)) kv_X12_246 ha ⟨Nat.le_of_ble_eq_true rfl, Nat.le_of_ble_eq_true rfl⟩ (Nat.le_of_ble_eq_true rfl) dX12_table_167) hI (Nat.le_of_ble_eq_true rfl) (fun σ_124 H locs hpσ_124 hkσ_124 hI => ?_)
                          have ahpσ_124 := hpσ_124.1
                          have bhpσ_124 := hpσ_124.2.1
                          have chpσ_124 := hpσ_124.2.2.1
                          have dhpσ_124 := hpσ_124.2.2.2.1
                          have ehpσ_124 := hpσ_124.2.2.2.2.1
                          have fhpσ_124 := hpσ_124.2.2.2.2.2.1
                          have ghpσ_124 := hpσ_124.2.2.2.2.2.2.1
                          have hhpσ_124 := hpσ_124.2.2.2.2.2.2.2
                          clear hpσ_124
                          have fr_σ_124 := fr_σ_41.call hhpσ_124 rfl rfl
                          replace hF := q_letX hF ghpσ_124
                          have mv8_σ_124 : (σ_124.1 a 8).toInt = (σ_41.1 a 8).toInt := congrArg Int32.toInt (hkσ_124 a 8 (by rw [ha]; decide))
                          have kpσ_124 : ∀ j, 0 ≤ j → j < 3720 → m_c X σ_124 a j = m_c X σ a j := fun j h0 h1 => (bhpσ_124 j h0 h1).trans (kpσ_41 j h0 h1)
                          have smσ_124 : 0 ≤ (σ_124.1 a 15).toInt ∧ (σ_124.1 a 15).toInt ≤ (σ_124.1 a 16).toInt ∧ (σ_124.1 a 16).toInt ≤ (σ_124.1 a 9).toInt ∧ (σ_124.1 a 9).toInt ≤ 900 ∧ 0 ≤ (σ_124.1 a 14).toInt ∧ (σ_124.1 a 14).toInt ≤ 4 ∧ (σ_124.1 a 14).toInt ≤ 4 * ((σ_124.1 a 16).toInt - (σ_124.1 a 15).toInt) ∧ (σ_124.1 a 14).toInt ≤ 4 * ((σ_124.1 a 9).toInt - (σ_124.1 a 15).toInt) ∧ 0 ≤ (σ_124.1 a 12).toInt ∧ (σ_124.1 a 8).toInt = 0 := (by first | (clear hn tb8 mv9_σ_1 mv12_σ_1 mv14_σ_1 mv15_σ_1 mv16_σ_1 mv8_σ_1 mv9_σ_2 mv12_σ_2 mv14_σ_2 mv15_σ_2 mv16_σ_2 mv8_σ_2 kc_3 ahpσ_5 bhpσ_5 ehpσ_5 fhpσ_5 c_6 sv hm25 hge25 hzσ_8 smσ_8 gc_10_x_7 c_10 hm51 hge51 gc_14_x_11 c_14 bhpσ_19 chpσ_19 chpσ_21 dhpσ_21 ehpσ_21 kc_22 kc_23 chpσ_25 dhpσ_25 ehpσ_25 bhpσ_28 chpσ_28 chpσ_30 dhpσ_30 ehpσ_30 kc_31 kc_32 chpσ_34 dhpσ_34 ehpσ_34 kc_36 bhpσ_38 chpσ_38 chpσ_40 dhpσ_40 ehpσ_40 k0σ_40 k4σ_40 hm145 k0σ_41 k4σ_41 if_43 c_44 if_63 c_64 ahpσ_84 bhpσ_84 chpσ_84 c_85 ahpσ_124 bhpσ_124 dhpσ_124 ehpσ_124 fhpσ_124; omega) | omega)
                          have nnσ_124 : m_N (m_c X σ_124 a) := ahpσ_124
                          have k0σ_124 : 2 ≤ m_c X σ_124 a 3720 + 10 * (σ_124.1 a 12).toInt := (by have := ehpσ_124.1; omega)
                          have k4σ_124 : 1 ≤ m_c X σ_124 a 3724 + 10 * (σ_124.1 a 12).toInt := fhpσ_124
                          have ks_σ_124 : q_KS (fun b g => b = a ∧ 8 ≤ g ∧ g ≤ 18) 1 X σ σ_124 := ks_σ_41.K hkσ_124 (by decide)
                          refine lv_goto (tgt := 219) hx hb dX12_table_170 (by decide) ?_
                          refine lv_aload_n hx hb dX12_table_219 rfl (lv_at hl 0 rfl) ?_
                          refine lv_aload_n hx hb dX12_table_220 rfl (lv_at hl 0 rfl) ?_
                          refine lv_bipush (v := 59) hx hb dX12_table_221 zkb_59 ?_
                          have kc_125 : (59 : Int32).toInt = 59 := zt_59
                          refine q_ci (q_rV11_1 (rest := [.ref a]) E (hml.trans hl.1.symm) hI (c_X12_isSign l X σ_124 a (59 : Int32) ha) kv_X12_243 ha ⟨Nat.le_of_ble_eq_true rfl, Nat.le_of_ble_eq_true rfl⟩ (Nat.le_of_ble_eq_true rfl) dX12_table_223) hI (Nat.le_of_ble_eq_true rfl) (fun r_126 σ_127 H locs hpσ_127 hkσ_127 hI => ?_)
                          have ahpσ_127 := hpσ_127.1
                          have bhpσ_127 := hpσ_127.2.1
                          have chpσ_127 := hpσ_127.2.2
                          clear hpσ_127
                          replace hI := q_Irw ahpσ_127 hI
                          replace hF := q_letX hF chpσ_127
                          refine q_cv (q_rV11_1 (rest := []) E (hml.trans hl.1.symm) hI (c_X12_must l X σ_124 a r_126 ha (by first | exact sm_9 smσ_124 | exact hs | omega) (by first | (clear hn tb8 mv9_σ_1 mv12_σ_1 mv14_σ_1 mv15_σ_1 mv16_σ_1 mv8_σ_1 mv9_σ_2 mv12_σ_2 mv14_σ_2 mv15_σ_2 mv16_σ_2 mv8_σ_2 kc_3 ahpσ_5 bhpσ_5 ehpσ_5 fhpσ_5 c_6 sv hm25 hge25 hzσ_8 smσ_8 gc_10_x_7 c_10 hm51 hge51 gc_14_x_11 c_14 bhpσ_19 chpσ_19 chpσ_21 dhpσ_21 ehpσ_21 kc_22 kc_23 chpσ_25 dhpσ_25 ehpσ_25 bhpσ_28 chpσ_28 chpσ_30 dhpσ_30 ehpσ_30 kc_31 kc_32 chpσ_34 dhpσ_34 ehpσ_34 kc_36 bhpσ_38 chpσ_38 chpσ_40 dhpσ_40 ehpσ_40 k0σ_40 k4σ_40 hm145 smσ_41 k0σ_41 k4σ_41 if_43 c_44 if_63 c_64 ahpσ_84 bhpσ_84 chpσ_84 c_85 ahpσ_124 bhpσ_124 chpσ_124 dhpσ_124 ehpσ_124 fhpσ_124 mv8_σ_124 smσ_124 k0σ_124 k4σ_124 kc_125 ahpσ_127 chpσ_127; omega) | omega)) kv_X12_216 ha ⟨Nat.le_of_ble_eq_true rfl, Nat.le_of_ble_eq_true rfl⟩ (Nat.le_of_ble_eq_true rfl) dX12_table_226) hI (Nat.le_of_ble_eq_true rfl) (fun σ_129 H locs hpσ_129 hkσ_129 hI => ?_)
                          have ahpσ_129 := hpσ_129.1
                          have bhpσ_129 := hpσ_129.2.1
                          have chpσ_129 := hpσ_129.2.2.1
                          have dhpσ_129 := hpσ_129.2.2.2.1
                          have ehpσ_129 := hpσ_129.2.2.2.2
                          clear hpσ_129
                          have fr_σ_129 := fr_σ_124.call ehpσ_129 rfl rfl
                          replace hF := q_letX hF dhpσ_129
                          have mv8_σ_129 : (σ_129.1 a 8).toInt = (σ_124.1 a 8).toInt := congrArg Int32.toInt (hkσ_129 a 8 (by rw [ha]; decide))
                          have mcσ_129 := m_cK hkσ_129 hI.1 ha (by decide)
                          have kpσ_129 : ∀ j, 0 ≤ j → j < 3720 → m_c X σ_129 a j = m_c X σ a j := fun j h0 h1 => (mcσ_129 j).trans (kpσ_124 j h0 h1)
                          have smσ_129 : 0 ≤ (σ_129.1 a 15).toInt ∧ (σ_129.1 a 15).toInt ≤ (σ_129.1 a 16).toInt ∧ (σ_129.1 a 16).toInt ≤ (σ_129.1 a 9).toInt ∧ (σ_129.1 a 9).toInt ≤ 900 ∧ 0 ≤ (σ_129.1 a 14).toInt ∧ (σ_129.1 a 14).toInt ≤ 4 ∧ (σ_129.1 a 14).toInt ≤ 4 * ((σ_129.1 a 16).toInt - (σ_129.1 a 15).toInt) ∧ (σ_129.1 a 14).toInt ≤ 4 * ((σ_129.1 a 9).toInt - (σ_129.1 a 15).toInt) ∧ 0 ≤ (σ_129.1 a 12).toInt ∧ (σ_129.1 a 8).toInt = 0 := (by first | (clear hn tb8 mv9_σ_1 mv12_σ_1 mv14_σ_1 mv15_σ_1 mv16_σ_1 mv8_σ_1 mv9_σ_2 mv12_σ_2 mv14_σ_2 mv15_σ_2 mv16_σ_2 mv8_σ_2 kc_3 ahpσ_5 bhpσ_5 ehpσ_5 fhpσ_5 c_6 sv hm25 hge25 hzσ_8 smσ_8 gc_10_x_7 c_10 hm51 hge51 gc_14_x_11 c_14 bhpσ_19 chpσ_19 chpσ_21 dhpσ_21 ehpσ_21 kc_22 kc_23 chpσ_25 dhpσ_25 ehpσ_25 bhpσ_28 chpσ_28 chpσ_30 dhpσ_30 ehpσ_30 kc_31 kc_32 chpσ_34 dhpσ_34 ehpσ_34 kc_36 bhpσ_38 chpσ_38 chpσ_40 dhpσ_40 ehpσ_40 k0σ_40 k4σ_40 hm145 k0σ_41 k4σ_41 if_43 c_44 if_63 c_64 ahpσ_84 bhpσ_84 chpσ_84 c_85 ahpσ_124 bhpσ_124 chpσ_124 dhpσ_124 ehpσ_124 fhpσ_124 smσ_124 k0σ_124 k4σ_124 kc_125 ahpσ_127 bhpσ_127 chpσ_127 ahpσ_129 chpσ_129 dhpσ_129 ehpσ_129; omega) | omega)
                          have nnσ_129 : m_N (m_c X σ_129 a) := m_N.ext mcσ_129 nnσ_124
                          have k0σ_129 : 2 ≤ m_c X σ_129 a 3720 + 10 * (σ_129.1 a 12).toInt := (by have := mcσ_129 3720; omega)
                          have k4σ_129 : 1 ≤ m_c X σ_129 a 3724 + 10 * (σ_129.1 a 12).toInt := (by have := mcσ_129 3724; omega)
                          have ks_σ_129 : q_KS (fun b g => b = a ∧ 8 ≤ g ∧ g ≤ 18) 1 X σ σ_129 := ks_σ_124.K hkσ_129 (by decide)
                          refine lv_goto (tgt := 145) hx hb dX12_table_229 (by decide) ?_
                          exact ih145 σ_129 _ _ ls (by first | (clear hn tb8 mv9_σ_1 mv12_σ_1 mv14_σ_1 mv15_σ_1 mv16_σ_1 mv8_σ_1 mv9_σ_2 mv12_σ_2 mv14_σ_2 mv15_σ_2 mv16_σ_2 mv8_σ_2 kc_3 ahpσ_5 bhpσ_5 ehpσ_5 fhpσ_5 c_6 sv hm25 hge25 hzσ_8 smσ_8 gc_10_x_7 c_10 hm51 hge51 gc_14_x_11 c_14 bhpσ_19 chpσ_19 chpσ_21 dhpσ_21 ehpσ_21 kc_22 kc_23 chpσ_25 dhpσ_25 ehpσ_25 bhpσ_28 chpσ_28 chpσ_30 dhpσ_30 ehpσ_30 kc_31 kc_32 chpσ_34 dhpσ_34 ehpσ_34 kc_36 bhpσ_38 chpσ_38 chpσ_40 dhpσ_40 ehpσ_40 k0σ_40 k4σ_40 k0σ_41 k4σ_41 ahpσ_84 bhpσ_84 chpσ_84 c_85 ahpσ_124 bhpσ_124 ehpσ_124 fhpσ_124 mv8_σ_124 smσ_124 k0σ_124 k4σ_124 kc_125 ahpσ_127 bhpσ_127 chpσ_127 ahpσ_129 chpσ_129 dhpσ_129 ehpσ_129 mv8_σ_129 smσ_129 k0σ_129 k4σ_129; omega) | omega) ks_σ_129 fr_σ_129 kpσ_129 smσ_129 nnσ_129 k0σ_129 k4σ_129 hF hI (lv_sub hl [0, 1, 2] rfl)
                exact L_145_42 ((901 - (σ_40.1 a 15).toInt).toNat + (1 - (σ_40.1 a 12).toInt).toNat + 1) σ_40 _ _ ls (Nat.lt_succ_self _) ks_σ_40 fr_σ_40 kpσ_40 smσ_40 nnσ_40 k0σ_40 k4σ_40 hF hI (lv_sub hl [0, 1, 2] rfl)
              · skip
                replace hF := q_ifp hF c_14
                refine lv_aload_n hx hb dX12_table_57 rfl (lv_at hl 0 rfl) ?_
                refine gs_X12_41_12 E hI ha dX12_table_58 ?_
                refine lv_iload_n hx hb dX12_table_61 rfl (lv_at hl 2 rfl) ?_
                refine lv_iconst (v := 0) hx hb dX12_table_62 zki_0 ?_
                refine q_iastN E hI (q_tk (k' := 36) hI ha rfl (Nat.succ_ne_zero _)) ⟨by decide, rfl⟩ (by first | (clear hn tb8 mv9_σ_1 mv12_σ_1 mv14_σ_1 mv15_σ_1 mv16_σ_1 mv8_σ_1 mv9_σ_2 mv12_σ_2 mv14_σ_2 mv15_σ_2 mv16_σ_2 mv8_σ_2 kc_3 ahpσ_5 bhpσ_5 ehpσ_5 fhpσ_5 c_6 sv hm25 hge25 hzσ_8 smσ_8 gc_10_x_7 c_10 hm51 gc_14_x_11; omega) | omega) (by rw [q_lnk (v := 60) hI (q_tk (k' := 36) hI ha rfl (Nat.succ_ne_zero _)) rfl (by decide)]; omega) (show 0 < 9 by decide) (q_inU rfl) dX12_table_63 (fun H locs σ_130 hσ_130 hI => ?_)
                replace hF := q_letX hF hσ_130
                have fr_σ_130 := fr_σ_12.si hσ_130 (q_tk (k' := 36) hI ha rfl (Nat.succ_ne_zero _)) rfl
                have mv9_σ_130 : (σ_130.1 a 9).toInt = (σ_12.1 a 9).toInt := congrArg Int32.toInt ((hσ_130 ▸ (q_K.si (q_tk (k' := 36) hI ha rfl (Nat.succ_ne_zero _)) (show 8 < 9 by decide) : q_K 8 X σ_12 (q_si σ_12 (q_rf X a 22) (x_11 : Int32).toNatClampNeg _))) a 9 (by rw [ha]; decide))
                have mv12_σ_130 : (σ_130.1 a 12).toInt = (σ_12.1 a 12).toInt := congrArg Int32.toInt ((hσ_130 ▸ (q_K.si (q_tk (k' := 36) hI ha rfl (Nat.succ_ne_zero _)) (show 8 < 9 by decide) : q_K 8 X σ_12 (q_si σ_12 (q_rf X a 22) (x_11 : Int32).toNatClampNeg _))) a 12 (by rw [ha]; decide))
                have mv14_σ_130 : (σ_130.1 a 14).toInt = (σ_12.1 a 14).toInt := congrArg Int32.toInt ((hσ_130 ▸ (q_K.si (q_tk (k' := 36) hI ha rfl (Nat.succ_ne_zero _)) (show 8 < 9 by decide) : q_K 8 X σ_12 (q_si σ_12 (q_rf X a 22) (x_11 : Int32).toNatClampNeg _))) a 14 (by rw [ha]; decide))
                have mv15_σ_130 : (σ_130.1 a 15).toInt = (σ_12.1 a 15).toInt := congrArg Int32.toInt ((hσ_130 ▸ (q_K.si (q_tk (k' := 36) hI ha rfl (Nat.succ_ne_zero _)) (show 8 < 9 by decide) : q_K 8 X σ_12 (q_si σ_12 (q_rf X a 22) (x_11 : Int32).toNatClampNeg _))) a 15 (by rw [ha]; decide))
                have mv16_σ_130 : (σ_130.1 a 16).toInt = (σ_12.1 a 16).toInt := congrArg Int32.toInt ((hσ_130 ▸ (q_K.si (q_tk (k' := 36) hI ha rfl (Nat.succ_ne_zero _)) (show 8 < 9 by decide) : q_K 8 X σ_12 (q_si σ_12 (q_rf X a 22) (x_11 : Int32).toNatClampNeg _))) a 16 (by rw [ha]; decide))
                have mv8_σ_130 : (σ_130.1 a 8).toInt = (σ_12.1 a 8).toInt := congrArg Int32.toInt ((hσ_130 ▸ (q_K.si (q_tk (k' := 36) hI ha rfl (Nat.succ_ne_zero _)) (show 8 < 9 by decide) : q_K 8 X σ_12 (q_si σ_12 (q_rf X a 22) (x_11 : Int32).toNatClampNeg _))) a 8 (by rw [ha]; decide))
                have ks_σ_130 : q_KS (fun b g => b = a ∧ 8 ≤ g ∧ g ≤ 18) 1 X σ σ_130 := ks_σ_12.si hσ_130 (q_tk (k' := 36) hI ha rfl (Nat.succ_ne_zero _)) (show 1 < 9 by decide)
                have mcσ_130 := m_wo hσ_130 (m_ne (q_tk (k' := 36) hI ha rfl (Nat.succ_ne_zero _)) (q_tk (f := 20) (k' := 34) hI ha rfl (by decide)) (by decide))
                have kpσ_130 : ∀ j, 0 ≤ j → j < 3720 → m_c X σ_130 a j = m_c X σ a j := fun j h0 h1 => (mcσ_130 j).trans (kpσ_12 j h0 h1)
                have smσ_130 : 0 ≤ (σ_130.1 a 15).toInt ∧ (σ_130.1 a 15).toInt ≤ (σ_130.1 a 16).toInt ∧ (σ_130.1 a 16).toInt ≤ (σ_130.1 a 9).toInt ∧ (σ_130.1 a 9).toInt ≤ 900 ∧ 0 ≤ (σ_130.1 a 14).toInt ∧ (σ_130.1 a 14).toInt ≤ 4 ∧ (σ_130.1 a 14).toInt ≤ 4 * ((σ_130.1 a 16).toInt - (σ_130.1 a 15).toInt) ∧ (σ_130.1 a 14).toInt ≤ 4 * ((σ_130.1 a 9).toInt - (σ_130.1 a 15).toInt) ∧ 0 ≤ (σ_130.1 a 12).toInt ∧ (σ_130.1 a 8).toInt = 0 := (by first | (rw [mv12_σ_130, mv14_σ_130, mv15_σ_130, mv16_σ_130, mv8_σ_130, mv9_σ_130]; exact smσ_12) | omega)
                have zzσ_130 : ∀ j, 3720 ≤ j → j < 4650 → m_c X σ_130 a j = 0 := fun j h0 h1 => (mcσ_130 j).trans (zzσ_12 j h0 h1)
                clear mv9_σ_130 mv12_σ_130 mv14_σ_130 mv15_σ_130 mv16_σ_130 mv8_σ_130 smσ_12
                obtain ⟨z_131, ez_131⟩ : ∃ y : Int32, y = x_11 + 1 := ⟨_, rfl⟩
                replace hF := q_letX hF ez_131
                refine lv_iinc (v := z_131) (lv' := [(2, .int z_131), (0, .ref a), (1, .int v1)]) hx hb dX12_table_64 hl (k := 2) rfl (by rw [ez_131]; rfl) (by decide) rfl (fun ls hl => ?_)
                have iz_131 : z_131.toInt = x_11.toInt + 1 := q_inc ez_131 (by first | (clear hn tb8 mv9_σ_1 mv12_σ_1 mv14_σ_1 mv15_σ_1 mv16_σ_1 mv8_σ_1 mv9_σ_2 mv12_σ_2 mv14_σ_2 mv15_σ_2 mv16_σ_2 mv8_σ_2 kc_3 ahpσ_5 bhpσ_5 ehpσ_5 fhpσ_5 c_6 sv hm25 hge25 hzσ_8 smσ_8 gc_10_x_7 c_10 hm51 gc_14_x_11 smσ_130; omega) | omega)
                refine lv_goto (tgt := 51) hx hb dX12_table_67 (by decide) ?_
                exact ih51 z_131 σ_130 _ _ ls (by first | (clear hn tb8 mv9_σ_1 mv12_σ_1 mv14_σ_1 mv15_σ_1 mv16_σ_1 mv8_σ_1 mv9_σ_2 mv12_σ_2 mv14_σ_2 mv15_σ_2 mv16_σ_2 mv8_σ_2 kc_3 ahpσ_5 bhpσ_5 ehpσ_5 fhpσ_5 c_6 sv hm25 hge25 hzσ_8 smσ_8 gc_10_x_7 c_10 gc_14_x_11 smσ_130; omega) | omega) (by first | (clear hn tb8 mv9_σ_1 mv12_σ_1 mv14_σ_1 mv15_σ_1 mv16_σ_1 mv8_σ_1 mv9_σ_2 mv12_σ_2 mv14_σ_2 mv15_σ_2 mv16_σ_2 mv8_σ_2 kc_3 ahpσ_5 bhpσ_5 ehpσ_5 fhpσ_5 c_6 sv hm25 hge25 hzσ_8 smσ_8 gc_10_x_7 c_10 hm51 gc_14_x_11 smσ_130; omega) | omega) ks_σ_130 fr_σ_130 kpσ_130 smσ_130 zzσ_130 hF hI (lv_sub hl [1, 2, 0] rfl)
          exact L_51_13 ((2147483647 - (0 : Int32).toInt).toNat + 1) 0 σ_8 _ _ ls (Nat.lt_succ_self _) (by decide) ks_σ_8 fr_σ_8 kpσ_8 smσ_8 zzσ_8 hF hI (lv_sub hl [1, 2, 0] rfl)
        · skip
          replace hF := q_ifp hF c_10
          refine lv_aload_n hx hb dX12_table_32 rfl (lv_at hl 0 rfl) ?_
          refine gs_X12_35_12 E hI ha dX12_table_33 ?_
          refine lv_sipush (v := 3720) hx hb dX12_table_36 zks_3720 ?_
          refine lv_iload_n hx hb dX12_table_39 rfl (lv_at hl 2 rfl) ?_
          refine lv_iadd hx hb dX12_table_40 ?_
          refine lv_topi (fun z_132 ez_132 => ?_)
          replace hF := q_letX hF ez_132
          have iz_132 := q_addI (A := 3720) (B := x_7.toInt) ez_132 (by decide) rfl (by first | (clear hn tb8 mv9_σ_1 mv12_σ_1 mv14_σ_1 mv15_σ_1 mv16_σ_1 mv8_σ_1 mv9_σ_2 mv12_σ_2 mv14_σ_2 mv15_σ_2 mv16_σ_2 mv8_σ_2 kc_3 ahpσ_5 bhpσ_5 ehpσ_5 fhpσ_5 c_6 sv hm25 hzσ_8 smσ_8 gc_10_x_7; omega) | omega) (by first | (clear hn tb8 mv9_σ_1 mv12_σ_1 mv14_σ_1 mv15_σ_1 mv16_σ_1 mv8_σ_1 mv9_σ_2 mv12_σ_2 mv14_σ_2 mv15_σ_2 mv16_σ_2 mv8_σ_2 kc_3 ahpσ_5 bhpσ_5 ehpσ_5 fhpσ_5 c_6 sv hm25 hzσ_8 smσ_8 gc_10_x_7; omega) | omega)
          refine lv_iconst (v := 0) hx hb dX12_table_41 zki_0 ?_
          refine q_iastN E hI (q_tk (k' := 34) hI ha rfl (Nat.succ_ne_zero _)) ⟨by decide, rfl⟩ (by first | (clear hn tb8 mv9_σ_1 mv12_σ_1 mv14_σ_1 mv15_σ_1 mv16_σ_1 mv8_σ_1 mv9_σ_2 mv12_σ_2 mv14_σ_2 mv15_σ_2 mv16_σ_2 mv8_σ_2 kc_3 ahpσ_5 bhpσ_5 ehpσ_5 fhpσ_5 c_6 sv hm25 hzσ_8 smσ_8 gc_10_x_7; omega) | omega) (by rw [q_lnk (v := 4650) hI (q_tk (k' := 34) hI ha rfl (Nat.succ_ne_zero _)) rfl (by decide)]; omega) (show 0 < 2 by decide) (q_inU rfl) dX12_table_42 (fun H locs σ_133 hσ_133 hI => ?_)
          replace hF := q_letX hF hσ_133
          have fr_σ_133 := fr_σ_8.si hσ_133 (q_tk (k' := 34) hI ha rfl (Nat.succ_ne_zero _)) rfl
          have mv9_σ_133 : (σ_133.1 a 9).toInt = (σ_8.1 a 9).toInt := congrArg Int32.toInt (q_rdn hσ_133 (Or.inl (m_ne ha (q_tk (k' := 34) hI ha rfl (Nat.succ_ne_zero _)) (by decide))))
          have mv12_σ_133 : (σ_133.1 a 12).toInt = (σ_8.1 a 12).toInt := congrArg Int32.toInt (q_rdn hσ_133 (Or.inl (m_ne ha (q_tk (k' := 34) hI ha rfl (Nat.succ_ne_zero _)) (by decide))))
          have mv14_σ_133 : (σ_133.1 a 14).toInt = (σ_8.1 a 14).toInt := congrArg Int32.toInt (q_rdn hσ_133 (Or.inl (m_ne ha (q_tk (k' := 34) hI ha rfl (Nat.succ_ne_zero _)) (by decide))))
          have mv15_σ_133 : (σ_133.1 a 15).toInt = (σ_8.1 a 15).toInt := congrArg Int32.toInt (q_rdn hσ_133 (Or.inl (m_ne ha (q_tk (k' := 34) hI ha rfl (Nat.succ_ne_zero _)) (by decide))))
          have mv16_σ_133 : (σ_133.1 a 16).toInt = (σ_8.1 a 16).toInt := congrArg Int32.toInt (q_rdn hσ_133 (Or.inl (m_ne ha (q_tk (k' := 34) hI ha rfl (Nat.succ_ne_zero _)) (by decide))))
          have mv8_σ_133 : (σ_133.1 a 8).toInt = (σ_8.1 a 8).toInt := congrArg Int32.toInt (q_rdn hσ_133 (Or.inl (m_ne ha (q_tk (k' := 34) hI ha rfl (Nat.succ_ne_zero _)) (by decide))))
          have ks_σ_133 : q_KS (fun b g => b = a ∧ 8 ≤ g ∧ g ≤ 18) 1 X σ σ_133 := ks_σ_8.si hσ_133 (q_tk (k' := 34) hI ha rfl (Nat.succ_ne_zero _)) (show 1 < 2 by decide)
          have mcσ_133 := m_wr (v := (0 : Int32)) (A := (3720 + x_7.toInt)) hσ_133 iz_132 (by first | (clear hn tb8 mv9_σ_1 mv12_σ_1 mv14_σ_1 mv15_σ_1 mv16_σ_1 mv8_σ_1 mv9_σ_2 mv12_σ_2 mv14_σ_2 mv15_σ_2 mv16_σ_2 mv8_σ_2 kc_3 ahpσ_5 bhpσ_5 ehpσ_5 fhpσ_5 c_6 sv hm25 hzσ_8 smσ_8 gc_10_x_7 mv9_σ_133 mv12_σ_133 mv14_σ_133 mv15_σ_133 mv16_σ_133 mv8_σ_133; omega) | omega)
          have kpσ_133 : ∀ j, 0 ≤ j → j < 3720 → m_c X σ_133 a j = m_c X σ a j := fun j h0 h1 => by rw [mcσ_133 j h0, if_neg (by first | (clear hn tb8 mv9_σ_1 mv12_σ_1 mv14_σ_1 mv15_σ_1 mv16_σ_1 mv8_σ_1 mv9_σ_2 mv12_σ_2 mv14_σ_2 mv15_σ_2 mv16_σ_2 mv8_σ_2 kc_3 ahpσ_5 bhpσ_5 ehpσ_5 fhpσ_5 c_6 sv hm25 hzσ_8 smσ_8 gc_10_x_7 mv9_σ_133 mv12_σ_133 mv14_σ_133 mv15_σ_133 mv16_σ_133 mv8_σ_133; omega) | omega)]; exact kpσ_8 j h0 h1
          have smσ_133 : 0 ≤ (σ_133.1 a 15).toInt ∧ (σ_133.1 a 15).toInt ≤ (σ_133.1 a 16).toInt ∧ (σ_133.1 a 16).toInt ≤ (σ_133.1 a 9).toInt ∧ (σ_133.1 a 9).toInt ≤ 900 ∧ 0 ≤ (σ_133.1 a 14).toInt ∧ (σ_133.1 a 14).toInt ≤ 4 ∧ (σ_133.1 a 14).toInt ≤ 4 * ((σ_133.1 a 16).toInt - (σ_133.1 a 15).toInt) ∧ (σ_133.1 a 14).toInt ≤ 4 * ((σ_133.1 a 9).toInt - (σ_133.1 a 15).toInt) ∧ 0 ≤ (σ_133.1 a 12).toInt ∧ (σ_133.1 a 8).toInt = 0 := (by first | (rw [mv12_σ_133, mv14_σ_133, mv15_σ_133, mv16_σ_133, mv8_σ_133, mv9_σ_133]; exact smσ_8) | omega)
          clear mv9_σ_133 mv12_σ_133 mv14_σ_133 mv15_σ_133 mv16_σ_133 mv8_σ_133 smσ_8
          have hzσ_133x := m_zs hzσ_8 mcσ_133 rfl (by decide)
          obtain ⟨z_134, ez_134⟩ : ∃ y : Int32, y = x_7 + 1 := ⟨_, rfl⟩
          replace hF := q_letX hF ez_134
          refine lv_iinc (v := z_134) (lv' := [(2, .int z_134), (0, .ref a), (1, .int v1)]) hx hb dX12_table_43 hl (k := 2) rfl (by rw [ez_134]; rfl) (by decide) rfl (fun ls hl => ?_)
          have iz_134 : z_134.toInt = x_7.toInt + 1 := q_inc ez_134 (by first | (clear hn tb8 mv9_σ_1 mv12_σ_1 mv14_σ_1 mv15_σ_1 mv16_σ_1 mv8_σ_1 mv9_σ_2 mv12_σ_2 mv14_σ_2 mv15_σ_2 mv16_σ_2 mv8_σ_2 kc_3 ahpσ_5 bhpσ_5 ehpσ_5 fhpσ_5 c_6 sv hm25 hzσ_8 gc_10_x_7 smσ_133 hzσ_133x; omega) | omega)
          refine lv_goto (tgt := 25) hx hb dX12_table_46 (by decide) ?_
          exact ih25 z_134 σ_133 _ _ ls (by first | (clear hn tb8 mv9_σ_1 mv12_σ_1 mv14_σ_1 mv15_σ_1 mv16_σ_1 mv8_σ_1 mv9_σ_2 mv12_σ_2 mv14_σ_2 mv15_σ_2 mv16_σ_2 mv8_σ_2 kc_3 ahpσ_5 bhpσ_5 ehpσ_5 fhpσ_5 c_6 sv hzσ_8 gc_10_x_7 smσ_133 hzσ_133x; omega) | omega) (by first | (clear hn tb8 mv9_σ_1 mv12_σ_1 mv14_σ_1 mv15_σ_1 mv16_σ_1 mv8_σ_1 mv9_σ_2 mv12_σ_2 mv14_σ_2 mv15_σ_2 mv16_σ_2 mv8_σ_2 kc_3 ahpσ_5 bhpσ_5 ehpσ_5 fhpσ_5 c_6 sv hm25 hzσ_8 gc_10_x_7 smσ_133 hzσ_133x; omega) | omega) (by rw [iz_134]; exact hzσ_133x) ks_σ_133 fr_σ_133 kpσ_133 smσ_133 hF hI (lv_sub hl [1, 2, 0] rfl)
    exact L_25_9 ((2147483647 - (0 : Int32).toInt).toNat + 1) 0 σ_5 _ _ ls (Nat.lt_succ_self _) (by decide) (fun j h0 h1 => by have q : (0 : Int32).toInt = 0 := rfl; omega) ks_σ_5 fr_σ_5 kpσ_5 smσ_5 hF hI (lv_sub hl [1, 2, 0] rfl)
  · skip
    replace hF := q_ifp hF c_6
    replace sf := sf (by omega)
    clear so
    refine lv_iconst (v := (-1)) hx hb dX12_table_21 zki_m1 ?_
    have hrv : ((-1) : Int32).toInt = (-1) := zt_m1
    exact q_reti E hr hlk hI ⟨ks_σ_5, (m_G.ext (fun j a b => kpσ_5 j a (by first | exact smσ_5 | omega)) hG), (m_W.ext (fun j a b => kpσ_5 j (by first | exact smσ_5 | omega) (by first | exact smσ_5 | omega)) hW), (fun j a b => kpσ_5 j (by first | exact smσ_5 | omega) b), (by first | exact smσ_5 | omega), (by first | exact smσ_5 | omega), (hF.trans hout), fr_σ_5⟩ dX12_table_22
end
/-! FROM 37z.round.lean.txt -/
section
/-! steps of a round, read -/
def m_oz (b : Int) (P : Prop) : Prop := b = 0 → P
theorem m_oz.mono {b b' : Int} {P P' : Prop} (h : m_oz b P) (hb : 0 ≤ b) (hb' : b ≤ b') (f : P → P') : m_oz b' P' := fun e => f (h (by omega))
def m_tst (c : Int → Int) (w : Int) : Prop := (0 ≤ c (w + 6) ∧ c (w + 6) ≤ 3) ∧ ((c (w + 6) = 0 ∨ c (w + 6) = 2) → 0 ≤ c (w + 1) ∧ c (w + 1) ≤ 5)
def m_t1 (c : Int → Int) (w : Int) : Prop := (c (w + 6) = 0 ∨ c (w + 6) = 2) → 0 ≤ c (w + 1) ∧ c (w + 1) ≤ 5
theorem m_t1.no {c : Int → Int} {w : Int} (h0 : c (w + 6) ≠ 0) (h2 : c (w + 6) ≠ 2) : m_t1 c w := fun h => by omega
theorem m_t1.yes {c : Int → Int} {w : Int} (h : 0 ≤ c (w + 1) ∧ c (w + 1) ≤ 5) : m_t1 c w := fun _ => h
theorem m_t1.k {c c' : Int → Int} {w : Int} (h : m_t1 c w) (h6 : c' (w + 6) = c (w + 6)) (h1 : c' (w + 1) = c (w + 1)) : m_t1 c' w := by
  unfold m_t1 at h ⊢
  rw [h6, h1]
  exact h
def m_rst (c : Int → Int) (w : Int) : Prop := ((c w = 1 ∨ c w = 2 ∨ (c w = 3 ∧ (c (w + 6) = 0 ∨ c (w + 6) = 2))) → 0 ≤ c (w + 1) ∧ c (w + 1) ≤ 5) ∧ (c w = 3 → 0 ≤ c (w + 6) ∧ c (w + 6) ≤ 3)
theorem m_rst.m0 {c : Int → Int} {w : Int} (h1 : c w ≠ 1) (h2 : c w ≠ 2) (h3 : c w ≠ 3) : m_rst c w := ⟨fun h => by omega, fun h => by omega⟩
theorem m_rst.m1 {c : Int → Int} {w : Int} (h3 : c w ≠ 3) (h : 0 ≤ c (w + 1) ∧ c (w + 1) ≤ 5) : m_rst c w := ⟨fun _ => h, fun h => by omega⟩
theorem m_rst.m3 {c : Int → Int} {w : Int} (h3 : c w = 3) (h : m_tst c w) : m_rst c w := ⟨fun q => h.2 (by omega), fun _ => h.1⟩
theorem m_rst.ext {c c' : Int → Int} {w : Int} (h : m_rst c w) (e : ∀ j : Int, c' j = c j) : m_rst c' w := by
  have : c' = c := funext e
  rw [this]; exact h
def m_lp (c : Int → Int) (w s n : Int) : Prop := (0 ≤ c w ∧ c w ≤ 5) ∧ m_rst c w ∧ ∀ t : Int, s + 1 ≤ t → t < n → m_stp c (4376 + 9 * t) t n
theorem m_lp.mk {c : Int → Int} {w s n : Int} (h : m_rst c w) (hk : 0 ≤ c w ∧ c w ≤ 5) (e : n = s + 1) : m_lp c w s n := ⟨hk, h, fun t h0 h1 => by omega⟩
theorem m_lp.ext {c c' : Int → Int} {w s n n' : Int} (h : m_lp c w s n) (e : ∀ j : Int, c' j = c j) (en : n' = n) : m_lp c' w s n' := by
  have : c' = c := funext e
  rw [this, en]; exact h
theorem m_stp.up {c : Int → Int} {w s n n' : Int} (h : m_stp c w s n) (hn : n ≤ n') : m_stp c w s n' := ⟨h.1, h.2.1, h.2.2.1, h.2.2.2.1, by have := h.2.2.2.2; omega⟩
theorem m_lp.step {c c' : Int → Int} {w s n n' : Int} (h : m_lp c w s n) (hk : ∀ j : Int, 0 ≤ j → j < 4376 + 9 * n → c' j = c j) (hm : ∀ t : Int, n ≤ t → t < n' → m_stp c' (4376 + 9 * t) t n') (hn : n ≤ n') (hw : w = 4376 + 9 * s) (hs : 0 ≤ s ∧ s < n) : m_lp c' w s n' := by
  obtain ⟨h1, h2, h3⟩ := h
  refine ⟨by rw [hk w (by omega) (by omega)]; exact h1, ?_, fun t t0 t1 => ?_⟩
  · unfold m_rst at h2 ⊢
    rw [hk w (by omega) (by omega), hk (w + 6) (by omega) (by omega), hk (w + 1) (by omega) (by omega)]
    exact h2
  · by_cases q : t < n
    · exact ((h3 t t0 q).ext (fun j a b => hk j (by omega) (by omega))).up hn
    · exact hm t (by omega) t1
theorem m_lp.done {c c' : Int → Int} {w s n v : Int} (h : m_lp c w s n) (e : ∀ j : Int, 0 ≤ j → c' j = if j = w + 8 then v else c j) (hv : v = n) (hw : w = 4376 + 9 * s) (hs : 0 ≤ s ∧ s < n) : ∀ t : Int, s ≤ t → t < n → m_stp c' (4376 + 9 * t) t n := by
  obtain ⟨h1, h2, h3⟩ := h
  intro t t0 t1
  by_cases q : t = s
  · subst q
    rw [← hw]
    unfold m_rst at h2
    unfold m_stp
    rw [e w (by omega), if_neg (by omega), e (w + 1) (by omega), if_neg (by omega), e (w + 6) (by omega), if_neg (by omega), e (w + 8) (by omega), if_pos rfl]
    exact ⟨h1, h2.1, h2.2, by omega, by omega⟩
  · exact (h3 t (by omega) t1).ext (fun j a b => by rw [e j (by omega), if_neg (by omega)])
/-- a round read to its end comes into the game -/
theorem m_G.round {c c' : Int → Int} {n : Int} (g : m_G c) (hst : ∀ s : Int, 0 ≤ s → s < n → m_stp c (4376 + 9 * s) s n) (hn : 0 ≤ n ∧ n ≤ 30) (e : ∀ j : Int, 0 ≤ j → c' j = if 656 ≤ j ∧ j < 656 + 9 * n then c (4376 + (j - 656)) else if j = 655 then n else c j) : m_G c' := by
  obtain ⟨hH, hD, hY, hT, hO, hQ⟩ := g
  have b9 : 0 ≤ c 9 ∧ c 9 ≤ 80 := hH.2.2.2.2.2.2.1
  have q : ∀ j : Int, 0 ≤ j → j < 655 → c' j = c j := fun j h0 h1 => by rw [e j h0, if_neg (by omega), if_neg (by omega)]
  have e9 : c' 9 = c 9 := q 9 (by decide) (by decide)
  have e0 : c' 0 = c 0 := q 0 (by decide) (by decide)
  have eN : c' 655 = n := by rw [e 655 (by decide), if_neg (by omega), if_pos rfl]
  refine ⟨?_, ?_, ?_, ?_, ?_, ?_⟩
  · unfold m_H at hH ⊢
    rw [q 0 (by decide) (by decide), q 2 (by decide) (by decide), q 4 (by decide) (by decide), q 5 (by decide) (by decide), q 6 (by decide) (by decide), q 7 (by decide) (by decide), q 9 (by decide) (by decide)]
    exact hH
  · intro p k h0 h1 h2 h3
    rw [q _ (by omega) (by omega), e0]
    exact hD p k h0 h1 h2 h3
  · intro i h0 h1
    rw [e9] at h1
    have w := hY i h0 h1
    rw [q (94 + 7 * i + 2) (by omega) (by omega)]
    refine ⟨w.1, fun t t0 t1 => ?_⟩
    rw [q (94 + 7 * i + 3 + t) (by omega) (by omega), e0]
    exact w.2 t t0 t1
  · unfold m_T at hT ⊢
    rw [m_S_ext (fun j a b => q j (by omega) (by omega)), e9, m_L_ext (fun i a b => q _ (by omega) (by omega))]
    exact hT
  · intro h7
    rw [q 7 (by decide) (by decide)] at h7
    have h8 : 1 ≤ c 9 := by have := hH.2.2.2.2.2.2.2.1; omega
    rw [e9, q (94 + 7 * (c 9 - 1)) (by omega) (by omega), q 6 (by decide) (by decide)]
    exact hO h7
  · refine ⟨by rw [eN]; exact hn, fun s h0 h1 => ?_⟩
    rw [eN] at h1 ⊢
    have w := hst s h0 h1
    have f : ∀ i : Int, 0 ≤ i → i < 9 → c' (656 + 9 * s + i) = c (4376 + 9 * s + i) := by
      intro i a b
      rw [e _ (by omega), if_pos (by omega)]
      have : (4376 : Int) + (656 + 9 * s + i - 656) = 4376 + 9 * s + i := by omega
      rw [this]
    have f0 := f 0 (by decide) (by decide)
    simp only [Int.add_zero] at f0
    unfold m_stp at w ⊢
    rw [f0, f 1 (by decide) (by decide), f 6 (by decide) (by decide), f 8 (by decide) (by decide)]
    exact w
/-- the steps copied, behind their number -/
theorem m_rd_done {c c0 c1 : Int → Int} {n k : Int} (h : ∀ j : Int, 0 ≤ j → c j = if 656 ≤ j ∧ j < 656 + k then c1 (4376 + (j - 656)) else c1 j) (e1 : ∀ j : Int, 0 ≤ j → c1 j = if j = 655 then n else c0 j) (hk : k = 9 * n) : ∀ j : Int, 0 ≤ j → c j = if 656 ≤ j ∧ j < 656 + 9 * n then c0 (4376 + (j - 656)) else if j = 655 then n else c0 j := by
  intro j hj
  subst hk
  rw [h j hj]
  by_cases q : 656 ≤ j ∧ j < 656 + 9 * n
  · rw [if_pos q, if_pos q, e1 _ (by omega), if_neg (by omega)]
  · rw [if_neg q, if_neg q, e1 j hj]
def m_rs (c : Int → Int) (n : Int) : Prop := ∀ s : Int, 0 ≤ s → s < n → m_stp c (4376 + 9 * s) s n
theorem m_rs.ext {c c' : Int → Int} {n n' : Int} (h : m_rs c n) (e : ∀ j : Int, 4376 ≤ j → c' j = c j) (en : n' = n) : m_rs c' n' := by
  subst en
  intro s h0 h1
  exact (h s h0 h1).ext (fun j a b => e j (by omega))
theorem m_rs.step {c c' : Int → Int} {n n' : Int} (h : m_rs c n) (hk : ∀ j : Int, 0 ≤ j → j < 4376 + 9 * n → c' j = c j) (hm : ∀ t : Int, n ≤ t → t < n' → m_stp c' (4376 + 9 * t) t n') (hn : n ≤ n') : m_rs c' n' := by
  intro t t0 t1
  by_cases q : t < n
  · exact ((h t t0 q).ext (fun j a b => hk j (by omega) (by omega))).up hn
  · exact hm t (by omega) t1
end
/-! FROM 38.round.a.lean.txt -/
section
section QS
variable {p : Program} {l : Launch} {e : Env} {R : Room} {s : State} {m : MethodId} {args : Array Value} {below : List Frame} {meth : Method} {c : Code} {H : Heap} {locs : List Loc} {cells slots : Nat} {Q : State → Prop} {cc : ByteArray} {X : XW} {n : Nat} {σ0 σ : ST} {H0 : Heap} {pc : Nat} {ls : Array Slot} {rest : List Value} {a : Nat}
theorem kv_X12_264 : q_okV RX12 264 RX12 yX12_readTest cX12_readTest 3 none 1 := ⟨(q_in_t8 (i := 107) (by first | rfl | decide +kernel) rfl), (q_in_t8 (i := 109) (by first | rfl | decide +kernel) rfl), (q_in_p (i := 77) (by decide +kernel) rfl), (q_in_t1 (i := 14) (by first | rfl | decide +kernel) rfl), (q_in_t8 (i := 110) (by first | rfl | decide +kernel) rfl), ⟨rfl, by decide, by decide, rfl⟩⟩
theorem gs_X12_267_12 (E : q_E p c cc s m args RX12 X) (hI : q_I X n σ0 H0 locs σ H) (ha : q_kd X a = 12) (hdg : decode cc pc = .ok (.getfield 267, 3)) (kk : W p l e R s m args below meth c H locs cells slots Q (F0 m (pc + 3) ls (.int (σ.1 a 27) :: rest))) : W p l e R s m args below meth c H locs cells slots Q (F0 m pc ls (.ref a :: rest)) :=
  q_getf (ref := "CheatHeapModel") E hI ha ⟨rfl, by decide⟩ (show vwCl[11]? = some (RX12, TX12, 46) from rfl) q_inX12 (f := 27) (by decide) (q_in_t7 (i := 12) (by first | rfl | decide +kernel) rfl) (Or.inl rfl) rfl hdg kk
theorem ps_X12_267_12 (E : q_E p c cc s m args RX12 X) (hI : q_I X n σ0 H0 locs σ H) (ha : q_kd X a = 12) {v : Int32} (hcl : n < 3) (hdg : decode cc pc = .ok (.putfield 267, 3)) (kk : ∀ (H1 : Heap) (locs1 : List Loc) (σ1 : ST), σ1 = q_si σ a 27 v → q_I X n σ0 H0 locs1 σ1 H1 → W p l e R s m args below meth c H1 locs1 cells slots Q (F0 m (pc + 3) ls rest)) : W p l e R s m args below meth c H locs cells slots Q (F0 m pc ls (.int v :: .ref a :: rest)) :=
  q_puti (ref := "CheatHeapModel") E hI ha ⟨rfl, by decide⟩ (show vwCl[11]? = some (RX12, TX12, 46) from rfl) q_inX12 tyX12_ok nmX12 (f := 27) (by decide) (q_in_t7 (i := 12) (by first | rfl | decide +kernel) rfl) (Or.inl rfl) rfl rfl hcl hdg (q_inU rfl) (Or.inl rfl) (fun H1 l1 h => kk H1 l1 _ rfl h)
theorem kv_X12_270 : q_okV RX12 270 RX12 yX12_readRest cX12_readRest 3 none 1 := ⟨(q_in_t8 (i := 103) (by first | rfl | decide +kernel) rfl), (q_in_t8 (i := 105) (by first | rfl | decide +kernel) rfl), (q_in_p (i := 76) (by decide +kernel) rfl), (q_in_t1 (i := 14) (by first | rfl | decide +kernel) rfl), (q_in_t8 (i := 106) (by first | rfl | decide +kernel) rfl), ⟨rfl, by decide, by decide, rfl⟩⟩
theorem kv_X12_273 : q_okV RX12 273 RX12 yX12_readStep cX12_readStep 5 none 1 := ⟨(q_in_t8 (i := 99) (by first | rfl | decide +kernel) rfl), (q_in_t8 (i := 101) (by first | rfl | decide +kernel) rfl), (q_in_p (i := 75) (by decide +kernel) rfl), (q_in_t1 (i := 14) (by first | rfl | decide +kernel) rfl), (q_in_t8 (i := 102) (by first | rfl | decide +kernel) rfl), ⟨rfl, by decide, by decide, rfl⟩⟩
end QS
end
