/-! FROM 30.trays.a.lean.txt -/
section
section QS
variable {p : Program} {l : Launch} {e : Env} {R : Room} {s : State} {m : MethodId} {args : Array Value} {below : List Frame} {meth : Method} {c : Code} {H : Heap} {locs : List Loc} {cells slots : Nat} {Q : State → Prop} {cc : ByteArray} {X : XW} {n : Nat} {σ0 σ : ST} {H0 : Heap} {pc : Nat} {ls : Array Slot} {rest : List Value} {a : Nat}
theorem ps_X12_59_12 (E : q_E p c cc s m args RX12 X) (hI : q_I X n σ0 H0 locs σ H) (ha : q_kd X a = 12) {v : Int32} (hcl : n < 9) (hdg : decode cc pc = .ok (.putfield 59, 3)) (kk : ∀ (H1 : Heap) (locs1 : List Loc) (σ1 : ST), σ1 = q_si σ a 1 v → q_I X n σ0 H0 locs1 σ1 H1 → W p l e R s m args below meth c H1 locs1 cells slots Q (F0 m (pc + 3) ls rest)) : W p l e R s m args below meth c H locs cells slots Q (F0 m pc ls (.int v :: .ref a :: rest)) :=
  q_puti (ref := "CheatHeapModel") E hI ha ⟨rfl, by decide⟩ (show vwCl[11]? = some (RX12, TX12, 46) from rfl) q_inX12 tyX12_ok nmX12 (f := 1) (by decide) (q_in_t6 (i := 226) (by first | rfl | decide +kernel) rfl) (Or.inl rfl) rfl rfl hcl hdg (q_inU rfl) (Or.inl rfl) (fun H1 l1 h => kk H1 l1 _ rfl h)
theorem gs_X12_62_12 (E : q_E p c cc s m args RX12 X) (hI : q_I X n σ0 H0 locs σ H) (ha : q_kd X a = 12) (hdg : decode cc pc = .ok (.getfield 62, 3)) (kk : W p l e R s m args below meth c H locs cells slots Q (F0 m (pc + 3) ls (.int (σ.1 a 0) :: rest))) : W p l e R s m args below meth c H locs cells slots Q (F0 m pc ls (.ref a :: rest)) :=
  q_getf (ref := "CheatHeapModel") E hI ha ⟨rfl, by decide⟩ (show vwCl[11]? = some (RX12, TX12, 46) from rfl) q_inX12 (f := 0) (by decide) (q_in_t6 (i := 225) (by first | rfl | decide +kernel) rfl) (Or.inl rfl) rfl hdg kk
theorem gs_X12_65_12 (E : q_E p c cc s m args RX12 X) (hI : q_I X n σ0 H0 locs σ H) (ha : q_kd X a = 12) (hdg : decode cc pc = .ok (.getfield 65, 3)) (kk : W p l e R s m args below meth c H locs cells slots Q (F0 m (pc + 3) ls (.long (σ.2.1 a 2) :: rest))) : W p l e R s m args below meth c H locs cells slots Q (F0 m pc ls (.ref a :: rest)) :=
  q_getf (ref := "CheatHeapModel") E hI ha ⟨rfl, by decide⟩ (show vwCl[11]? = some (RX12, TX12, 46) from rfl) q_inX12 (f := 2) (by decide) (q_in_t6 (i := 227) (by first | rfl | decide +kernel) rfl) (Or.inl rfl) rfl hdg kk
theorem gs_X12_7_12 (E : q_E p c cc s m args RX12 X) (hI : q_I X n σ0 H0 locs σ H) (ha : q_kd X a = 12) (hdg : decode cc pc = .ok (.getfield 7, 3)) (kk : W p l e R s m args below meth c H locs cells slots Q (F0 m (pc + 3) ls (.long (σ.2.1 a 3) :: rest))) : W p l e R s m args below meth c H locs cells slots Q (F0 m pc ls (.ref a :: rest)) :=
  q_getf (ref := "CheatHeapModel") E hI ha ⟨rfl, by decide⟩ (show vwCl[11]? = some (RX12, TX12, 46) from rfl) q_inX12 (f := 3) (by decide) (q_in_t6 (i := 228) (by first | rfl | decide +kernel) rfl) (Or.inl rfl) rfl hdg kk
theorem ps_X12_62_12 (E : q_E p c cc s m args RX12 X) (hI : q_I X n σ0 H0 locs σ H) (ha : q_kd X a = 12) {v : Int32} (hcl : n < 9) (hdg : decode cc pc = .ok (.putfield 62, 3)) (kk : ∀ (H1 : Heap) (locs1 : List Loc) (σ1 : ST), σ1 = q_si σ a 0 v → q_I X n σ0 H0 locs1 σ1 H1 → W p l e R s m args below meth c H1 locs1 cells slots Q (F0 m (pc + 3) ls rest)) : W p l e R s m args below meth c H locs cells slots Q (F0 m pc ls (.int v :: .ref a :: rest)) :=
  q_puti (ref := "CheatHeapModel") E hI ha ⟨rfl, by decide⟩ (show vwCl[11]? = some (RX12, TX12, 46) from rfl) q_inX12 tyX12_ok nmX12 (f := 0) (by decide) (q_in_t6 (i := 225) (by first | rfl | decide +kernel) rfl) (Or.inl rfl) rfl rfl hcl hdg (q_inU rfl) (Or.inl rfl) (fun H1 l1 h => kk H1 l1 _ rfl h)
theorem gs_X12_17_12 (E : q_E p c cc s m args RX12 X) (hI : q_I X n σ0 H0 locs σ H) (ha : q_kd X a = 12) (hdg : decode cc pc = .ok (.getfield 17, 3)) (kk : W p l e R s m args below meth c H locs cells slots Q (F0 m (pc + 3) ls (.ref (q_rf X a 5) :: rest))) : W p l e R s m args below meth c H locs cells slots Q (F0 m pc ls (.ref a :: rest)) :=
  q_getf (ref := "CheatHeapModel") E hI ha ⟨rfl, by decide⟩ (show vwCl[11]? = some (RX12, TX12, 46) from rfl) q_inX12 (f := 5) (by decide) (q_in_t6 (i := 230) (by first | rfl | decide +kernel) rfl) (Or.inl rfl) rfl hdg kk
theorem kv_X12_78 : q_okV RX12 78 RX12 yX12_trayed cX12_trayed 2 (some .int) 1 := ⟨(q_in_t7 (i := 152) (by first | rfl | decide +kernel) rfl), (q_in_t7 (i := 154) (by first | rfl | decide +kernel) rfl), (q_in_p (i := 39) (by decide +kernel) rfl), (q_in_t1 (i := 14) (by first | rfl | decide +kernel) rfl), (q_in_t7 (i := 155) (by first | rfl | decide +kernel) rfl), ⟨rfl, by decide, by decide, rfl⟩⟩
theorem kv_X12_74 : q_okV RX12 74 RX12 yX12_no cX12_no 2 (some .boolean) 1 := ⟨(q_in_t7 (i := 140) (by first | rfl | decide +kernel) rfl), (q_in_t7 (i := 142) (by first | rfl | decide +kernel) rfl), (q_in_p (i := 37) (by decide +kernel) rfl), (q_in_t1 (i := 14) (by first | rfl | decide +kernel) rfl), (q_in_t7 (i := 143) (by first | rfl | decide +kernel) rfl), ⟨rfl, by decide, by decide, rfl⟩⟩
theorem gs_X12_13_12 (E : q_E p c cc s m args RX12 X) (hI : q_I X n σ0 H0 locs σ H) (ha : q_kd X a = 12) (hdg : decode cc pc = .ok (.getfield 13, 3)) (kk : W p l e R s m args below meth c H locs cells slots Q (F0 m (pc + 3) ls (.ref (q_rf X a 4) :: rest))) : W p l e R s m args below meth c H locs cells slots Q (F0 m pc ls (.ref a :: rest)) :=
  q_getf (ref := "CheatHeapModel") E hI ha ⟨rfl, by decide⟩ (show vwCl[11]? = some (RX12, TX12, 46) from rfl) q_inX12 (f := 4) (by decide) (q_in_t6 (i := 229) (by first | rfl | decide +kernel) rfl) (Or.inl rfl) rfl hdg kk
theorem gs_X12_20_12 (E : q_E p c cc s m args RX12 X) (hI : q_I X n σ0 H0 locs σ H) (ha : q_kd X a = 12) (hdg : decode cc pc = .ok (.getfield 20, 3)) (kk : W p l e R s m args below meth c H locs cells slots Q (F0 m (pc + 3) ls (.ref (q_rf X a 6) :: rest))) : W p l e R s m args below meth c H locs cells slots Q (F0 m pc ls (.ref a :: rest)) :=
  q_getf (ref := "CheatHeapModel") E hI ha ⟨rfl, by decide⟩ (show vwCl[11]? = some (RX12, TX12, 46) from rfl) q_inX12 (f := 6) (by decide) (q_in_t6 (i := 231) (by first | rfl | decide +kernel) rfl) (Or.inl rfl) rfl hdg kk
theorem kv_X12_82 : q_okV RX12 82 RX12 yX12_placed cX12_placed 4 (some .int) 2 := ⟨(q_in_t7 (i := 148) (by first | rfl | decide +kernel) rfl), (q_in_t7 (i := 150) (by first | rfl | decide +kernel) rfl), (q_in_p (i := 38) (by decide +kernel) rfl), (q_in_t1 (i := 14) (by first | rfl | decide +kernel) rfl), (q_in_t7 (i := 151) (by first | rfl | decide +kernel) rfl), ⟨rfl, by decide, by decide, rfl⟩⟩
theorem ks_X12_86 : q_okS RX12 86 yX12_cut cX12_cut 3 (some .long) 2 := ⟨(q_in_t7 (i := 156) (by first | rfl | decide +kernel) rfl), (q_in_t7 (i := 157) (by first | rfl | decide +kernel) rfl), (q_in_t1 (i := 14) (by first | rfl | decide +kernel) rfl), (q_in_t7 (i := 158) (by first | rfl | decide +kernel) rfl), ⟨by decide, by decide, rfl⟩⟩
theorem gs_X12_24_12 (E : q_E p c cc s m args RX12 X) (hI : q_I X n σ0 H0 locs σ H) (ha : q_kd X a = 12) (hdg : decode cc pc = .ok (.getfield 24, 3)) (kk : W p l e R s m args below meth c H locs cells slots Q (F0 m (pc + 3) ls (.ref (q_rf X a 7) :: rest))) : W p l e R s m args below meth c H locs cells slots Q (F0 m pc ls (.ref a :: rest)) :=
  q_getf (ref := "CheatHeapModel") E hI ha ⟨rfl, by decide⟩ (show vwCl[11]? = some (RX12, TX12, 46) from rfl) q_inX12 (f := 7) (by decide) (q_in_t6 (i := 232) (by first | rfl | decide +kernel) rfl) (Or.inl rfl) rfl hdg kk
theorem gs_X12_203_12 (E : q_E p c cc s m args RX12 X) (hI : q_I X n σ0 H0 locs σ H) (ha : q_kd X a = 12) (hdg : decode cc pc = .ok (.getfield 203, 3)) (kk : W p l e R s m args below meth c H locs cells slots Q (F0 m (pc + 3) ls (.int (σ.1 a 8) :: rest))) : W p l e R s m args below meth c H locs cells slots Q (F0 m pc ls (.ref a :: rest)) :=
  q_getf (ref := "CheatHeapModel") E hI ha ⟨rfl, by decide⟩ (show vwCl[11]? = some (RX12, TX12, 46) from rfl) q_inX12 (f := 8) (by decide) (q_in_t6 (i := 233) (by first | rfl | decide +kernel) rfl) (Or.inl rfl) rfl hdg kk
theorem ps_X12_203_12 (E : q_E p c cc s m args RX12 X) (hI : q_I X n σ0 H0 locs σ H) (ha : q_kd X a = 12) {v : Int32} (hcl : n < 1) (h1 : 0 ≤ v.toInt) (h2 : v.toInt ≤ 900) (hdg : decode cc pc = .ok (.putfield 203, 3)) (kk : ∀ (H1 : Heap) (locs1 : List Loc) (σ1 : ST), σ1 = q_si σ a 8 v → q_I X n σ0 H0 locs1 σ1 H1 → W p l e R s m args below meth c H1 locs1 cells slots Q (F0 m (pc + 3) ls rest)) : W p l e R s m args below meth c H locs cells slots Q (F0 m pc ls (.int v :: .ref a :: rest)) :=
  q_puti (ref := "CheatHeapModel") E hI ha ⟨rfl, by decide⟩ (show vwCl[11]? = some (RX12, TX12, 46) from rfl) q_inX12 tyX12_ok nmX12 (f := 8) (by decide) (q_in_t6 (i := 233) (by first | rfl | decide +kernel) rfl) (Or.inl rfl) rfl rfl hcl hdg (q_inB rfl h1 h2) (Or.inl rfl) (fun H1 l1 h => kk H1 l1 _ rfl h)
theorem kv_X12_206 : q_okV RX12 206 RX12 yX12_lays cX12_lays 3 none 1 := ⟨(q_in_t7 (i := 172) (by first | rfl | decide +kernel) rfl), (q_in_t7 (i := 174) (by first | rfl | decide +kernel) rfl), (q_in_p (i := 40) (by decide +kernel) rfl), (q_in_t1 (i := 14) (by first | rfl | decide +kernel) rfl), (q_in_t7 (i := 175) (by first | rfl | decide +kernel) rfl), ⟨rfl, by decide, by decide, rfl⟩⟩
theorem gs_X12_32_12 (E : q_E p c cc s m args RX12 X) (hI : q_I X n σ0 H0 locs σ H) (ha : q_kd X a = 12) (hdg : decode cc pc = .ok (.getfield 32, 3)) (kk : W p l e R s m args below meth c H locs cells slots Q (F0 m (pc + 3) ls (.int (σ.1 a 11) :: rest))) : W p l e R s m args below meth c H locs cells slots Q (F0 m pc ls (.ref a :: rest)) :=
  q_getf (ref := "CheatHeapModel") E hI ha ⟨rfl, by decide⟩ (show vwCl[11]? = some (RX12, TX12, 46) from rfl) q_inX12 (f := 11) (by decide) (q_in_t6 (i := 236) (by first | rfl | decide +kernel) rfl) (Or.inl rfl) rfl hdg kk
theorem gs_X12_28_12 (E : q_E p c cc s m args RX12 X) (hI : q_I X n σ0 H0 locs σ H) (ha : q_kd X a = 12) (hdg : decode cc pc = .ok (.getfield 28, 3)) (kk : W p l e R s m args below meth c H locs cells slots Q (F0 m (pc + 3) ls (.int (σ.1 a 10) :: rest))) : W p l e R s m args below meth c H locs cells slots Q (F0 m pc ls (.ref a :: rest)) :=
  q_getf (ref := "CheatHeapModel") E hI ha ⟨rfl, by decide⟩ (show vwCl[11]? = some (RX12, TX12, 46) from rfl) q_inX12 (f := 10) (by decide) (q_in_t6 (i := 235) (by first | rfl | decide +kernel) rfl) (Or.inl rfl) rfl hdg kk
end QS
end
/-! FROM 30.trays.b00.lean.txt -/
section
set_option maxRecDepth 100000 in
set_option maxHeartbeats 4000000 in
theorem c_X12_status (l : Launch) (X : XW) (σ : ST) (a : Nat) (ha : q_kd X a = 12) : Met l yX12_status (q_ws yX12_status cX12_status 1 (some .int)) (q_rm 0 0) (q_P X σ [.ref a]) (q_Qi X 8 σ (fun (r : Int32) (σ' : ST) => (r, σ') = F_X12_status X σ a ∧ q_ow [(12, 1)] [] X σ σ')) 0 0 (q_reg X) := by
  refine q_met 8 (by first | exact rfl | decide +kernel) rfl (Nat.le_of_ble_eq_true rfl) (fun p e s m below meth c E hml hr hlk hI ls hl => ?_)
  have hx := E.1
  have hb := E.2.1
  have hl : lv_has ls 1 [(0, .ref a)] := hl
  have fr_σ : q_ow [(12, 1)] [] X σ σ := q_ow.rf
  obtain ⟨out, hout⟩ : ∃ o, o = F_X12_status X σ a := ⟨_, rfl⟩
  have hF := hout.symm
  unfold F_X12_status at hF
  refine lv_aload_n hx hb dX12_status_0 rfl (lv_at hl 0 rfl) ?_
  refine lv_iconst (v := 0) hx hb dX12_status_1 (by decide) ?_
  refine ps_X12_59_12 E hI ha (by decide) dX12_status_2 (fun H locs σ_1 hσ_1 hI => ?_)
  replace hF := q_letX hF hσ_1
  have fr_σ_1 := fr_σ.si hσ_1 ha rfl
  refine lv_aload_n hx hb dX12_status_5 rfl (lv_at hl 0 rfl) ?_
  refine gs_X12_62_12 E hI ha dX12_status_6 ?_
  refine lv_topi (fun f_2 ef_2 => ?_)
  replace hF := q_letX hF ef_2
  exact q_reti E hr hlk hI ⟨(hF.trans hout), fr_σ_1⟩ dX12_status_9

set_option maxRecDepth 100000 in
set_option maxHeartbeats 4000000 in
theorem c_X12_top (l : Launch) (X : XW) (σ : ST) (a : Nat) (ha : q_kd X a = 12) : Met l yX12_top (q_ws yX12_top cX12_top 1 (some .long)) (q_rm 0 0) (q_P X σ [.ref a]) (q_Ql X 8 σ (fun (r : Int64) (σ' : ST) => (r, σ') = F_X12_top X σ a ∧ q_ow [(12, 1)] [] X σ σ')) 0 0 (q_reg X) := by
  refine q_met 8 (by first | exact rfl | decide +kernel) rfl (Nat.le_of_ble_eq_true rfl) (fun p e s m below meth c E hml hr hlk hI ls hl => ?_)
  have hx := E.1
  have hb := E.2.1
  have hl : lv_has ls 1 [(0, .ref a)] := hl
  have fr_σ : q_ow [(12, 1)] [] X σ σ := q_ow.rf
  obtain ⟨out, hout⟩ : ∃ o, o = F_X12_top X σ a := ⟨_, rfl⟩
  have hF := hout.symm
  unfold F_X12_top at hF
  refine lv_aload_n hx hb dX12_top_0 rfl (lv_at hl 0 rfl) ?_
  refine lv_iconst (v := 0) hx hb dX12_top_1 (by decide) ?_
  refine ps_X12_59_12 E hI ha (by decide) dX12_top_2 (fun H locs σ_1 hσ_1 hI => ?_)
  replace hF := q_letX hF hσ_1
  have fr_σ_1 := fr_σ.si hσ_1 ha rfl
  refine lv_aload_n hx hb dX12_top_5 rfl (lv_at hl 0 rfl) ?_
  refine gs_X12_65_12 E hI ha dX12_top_6 ?_
  refine lv_topl (fun g_2 eg_2 => ?_)
  replace hF := q_letX hF eg_2
  exact q_retl E hr hlk hI ⟨(hF.trans hout), fr_σ_1⟩ dX12_top_9

set_option maxRecDepth 100000 in
set_option maxHeartbeats 4000000 in
theorem c_X12_bottom (l : Launch) (X : XW) (σ : ST) (a : Nat) (ha : q_kd X a = 12) : Met l yX12_bottom (q_ws yX12_bottom cX12_bottom 1 (some .long)) (q_rm 0 0) (q_P X σ [.ref a]) (q_Ql X 8 σ (fun (r : Int64) (σ' : ST) => (r, σ') = F_X12_bottom X σ a ∧ q_ow [(12, 1)] [] X σ σ')) 0 0 (q_reg X) := by
  refine q_met 8 (by first | exact rfl | decide +kernel) rfl (Nat.le_of_ble_eq_true rfl) (fun p e s m below meth c E hml hr hlk hI ls hl => ?_)
  have hx := E.1
  have hb := E.2.1
  have hl : lv_has ls 1 [(0, .ref a)] := hl
  have fr_σ : q_ow [(12, 1)] [] X σ σ := q_ow.rf
  obtain ⟨out, hout⟩ : ∃ o, o = F_X12_bottom X σ a := ⟨_, rfl⟩
  have hF := hout.symm
  unfold F_X12_bottom at hF
  refine lv_aload_n hx hb dX12_bottom_0 rfl (lv_at hl 0 rfl) ?_
  refine lv_iconst (v := 0) hx hb dX12_bottom_1 (by decide) ?_
  refine ps_X12_59_12 E hI ha (by decide) dX12_bottom_2 (fun H locs σ_1 hσ_1 hI => ?_)
  replace hF := q_letX hF hσ_1
  have fr_σ_1 := fr_σ.si hσ_1 ha rfl
  refine lv_aload_n hx hb dX12_bottom_5 rfl (lv_at hl 0 rfl) ?_
  refine gs_X12_7_12 E hI ha dX12_bottom_6 ?_
  refine lv_topl (fun g_2 eg_2 => ?_)
  replace hF := q_letX hF eg_2
  exact q_retl E hr hlk hI ⟨(hF.trans hout), fr_σ_1⟩ dX12_bottom_9

set_option maxRecDepth 100000 in
set_option maxHeartbeats 4000000 in
theorem c_X12_no (l : Launch) (X : XW) (σ : ST) (a : Nat) (v1 : Int32) (ha : q_kd X a = 12) : Met l yX12_no (q_ws yX12_no cX12_no 2 (some .boolean)) (q_rm 0 0) (q_P X σ [.ref a, .int v1]) (q_Qi X 8 σ (fun (r : Int32) (σ' : ST) => (0 ≤ r.toInt ∧ r.toInt ≤ 1) ∧ (r.toInt = 0) ∧ (r, σ') = F_X12_no X σ a v1 ∧ q_ow [(12, 0)] [] X σ σ')) 0 0 (q_reg X) := by
  refine q_met 8 (by first | exact rfl | decide +kernel) rfl (Nat.le_of_ble_eq_true rfl) (fun p e s m below meth c E hml hr hlk hI ls hl => ?_)
  have hx := E.1
  have hb := E.2.1
  have hl : lv_has ls 2 [(0, .ref a), (1, .int v1)] := hl
  have fr_σ : q_ow [(12, 0)] [] X σ σ := q_ow.rf
  obtain ⟨out, hout⟩ : ∃ o, o = F_X12_no X σ a v1 := ⟨_, rfl⟩
  have hF := hout.symm
  unfold F_X12_no at hF
  refine lv_aload_n hx hb dX12_no_0 rfl (lv_at hl 0 rfl) ?_
  refine lv_iload_n hx hb dX12_no_1 rfl (lv_at hl 1 rfl) ?_
  refine ps_X12_62_12 E hI ha (by decide) dX12_no_2 (fun H locs σ_1 hσ_1 hI => ?_)
  replace hF := q_letX hF hσ_1
  have fr_σ_1 := fr_σ.si hσ_1 ha rfl
  refine lv_iconst (v := 0) hx hb dX12_no_5 (by decide) ?_
  have hrv : (0 : Int32).toInt = 0 := rfl
  exact q_retz E hr hlk hI ⟨by decide, by decide⟩ ⟨⟨by decide, by decide⟩, (by decide), (hF.trans hout), fr_σ_1⟩ dX12_no_6

set_option maxRecDepth 100000 in
set_option maxHeartbeats 4000000 in
theorem c_X12_refuse (l : Launch) (X : XW) (σ : ST) (a : Nat) (v1 : Int32) (ha : q_kd X a = 12) : Met l yX12_refuse (q_ws yX12_refuse cX12_refuse 2 (some .int)) (q_rm 0 0) (q_P X σ [.ref a, .int v1]) (q_Qi X 8 σ (fun (r : Int32) (σ' : ST) => (r.toInt = -1) ∧ (r, σ') = F_X12_refuse X σ a v1 ∧ q_ow [(12, 0)] [] X σ σ')) 0 0 (q_reg X) := by
  refine q_met 8 (by first | exact rfl | decide +kernel) rfl (Nat.le_of_ble_eq_true rfl) (fun p e s m below meth c E hml hr hlk hI ls hl => ?_)
  have hx := E.1
  have hb := E.2.1
  have hl : lv_has ls 2 [(0, .ref a), (1, .int v1)] := hl
  have fr_σ : q_ow [(12, 0)] [] X σ σ := q_ow.rf
  obtain ⟨out, hout⟩ : ∃ o, o = F_X12_refuse X σ a v1 := ⟨_, rfl⟩
  have hF := hout.symm
  unfold F_X12_refuse at hF
  refine lv_aload_n hx hb dX12_refuse_0 rfl (lv_at hl 0 rfl) ?_
  refine lv_iload_n hx hb dX12_refuse_1 rfl (lv_at hl 1 rfl) ?_
  refine ps_X12_62_12 E hI ha (by decide) dX12_refuse_2 (fun H locs σ_1 hσ_1 hI => ?_)
  replace hF := q_letX hF hσ_1
  have fr_σ_1 := fr_σ.si hσ_1 ha rfl
  refine lv_iconst (v := (-1)) hx hb dX12_refuse_5 (by decide) ?_
  have hrv : ((-1) : Int32).toInt = (-1) := rfl
  exact q_reti E hr hlk hI ⟨(by decide), (hF.trans hout), fr_σ_1⟩ dX12_refuse_6

set_option maxRecDepth 100000 in
set_option maxHeartbeats 4000000 in
theorem c_X12_trayed (l : Launch) (X : XW) (σ : ST) (a : Nat) (v1 : Int32) (ha : q_kd X a = 12) : Met l yX12_trayed (q_ws yX12_trayed cX12_trayed 2 (some .int)) (q_rm 0 0) (q_P X σ [.ref a, .int v1]) (q_Qi X 9 σ (fun (r : Int32) (σ' : ST) => σ' = σ ∧ (r.toInt = 0 ↔ (0 ≤ v1.toInt ∧ v1.toInt < 4 ∧ 0 ≤ (σ.1 (q_rf X a 5) v1.toNatClampNeg).toInt)) ∧ (r.toInt = 0 ∨ r.toInt = 1 ∨ r.toInt = 3) ∧ r = F_X12_trayed X σ a v1)) 0 0 (q_reg X) := by
  refine q_met 9 (by first | exact rfl | decide +kernel) rfl (Nat.le_of_ble_eq_true rfl) (fun p e s m below meth c E hml hr hlk hI ls hl => ?_)
  have hx := E.1
  have hb := E.2.1
  have hl : lv_has ls 2 [(0, .ref a), (1, .int v1)] := hl
  obtain ⟨out, hout⟩ : ∃ o, o = F_X12_trayed X σ a v1 := ⟨_, rfl⟩
  have hF := hout.symm
  unfold F_X12_trayed at hF
  refine lv_iload_n hx hb dX12_trayed_0 rfl (lv_at hl 1 rfl) ?_
  refine q_if_lt (A := v1.toInt) E rfl (tgt := 9) dX12_trayed_1 (by decide) (fun c_1 => ?_) (fun c_1 => ?_)
  · skip
    replace hF := q_ifp hF c_1
    refine lv_iconst (v := 1) hx hb dX12_trayed_9 (by decide) ?_
    refine lv_goto (tgt := 27) hx hb dX12_trayed_10 (by decide) ?_
    have hrv : (1 : Int32).toInt = 1 := rfl
    exact q_reti E hr hlk hI ⟨rfl, (by constructor <;> intro h9 <;> omega), (by first | (clear c_1; omega) | omega), (hF.trans hout)⟩ dX12_trayed_27
  · skip
    replace hF := q_ifn hF (Int.not_lt.mpr c_1)
    refine lv_iload_n hx hb dX12_trayed_4 rfl (lv_at hl 1 rfl) ?_
    refine lv_iconst (v := 4) hx hb dX12_trayed_5 (by decide) ?_
    refine q_icmp_lt (A := v1.toInt) (B := 4) E rfl (by decide) (tgt := 13) dX12_trayed_6 (by decide) (fun c_2 => ?_) (fun c_2 => ?_)
    · skip
      replace hF := q_ifp hF c_2
      refine lv_aload_n hx hb dX12_trayed_13 rfl (lv_at hl 0 rfl) ?_
      refine gs_X12_17_12 E hI ha dX12_trayed_14 ?_
      refine lv_iload_n hx hb dX12_trayed_17 rfl (lv_at hl 1 rfl) ?_
      refine q_iald E hI (q_tk (k' := 31) hI ha rfl (by decide)) ⟨by decide, rfl⟩ (by omega) (by rw [q_lnk (v := 4) hI (q_tk (k' := 31) hI ha rfl (by decide)) rfl (by decide)]; omega) dX12_trayed_18 ?_
      refine lv_topi (fun f_3 ef_3 => ?_)
      replace hF := q_letX hF ef_3
      have bf_3 : -1 ≤ f_3.toInt ∧ f_3.toInt ≤ 60 := by rw [ef_3]; exact q_bd hI (q_tk (k' := 31) hI ha rfl (by decide)) rfl
      have if_3 : f_3.toInt = (σ.1 (q_rf X a 5) (v1 : Int32).toNatClampNeg).toInt := congrArg Int32.toInt ef_3
      refine q_if_ge (A := f_3.toInt) E rfl (tgt := 26) dX12_trayed_19 (by decide) (fun c_4 => ?_) (fun c_4 => ?_)
      · skip
        replace hF := q_ifn hF (Int.not_lt.mpr c_4)
        refine lv_iconst (v := 0) hx hb dX12_trayed_26 (by decide) ?_
        have hrv : (0 : Int32).toInt = 0 := rfl
        exact q_reti E hr hlk hI ⟨rfl, (by constructor <;> intro h9 <;> omega), (by first | (clear c_1 c_2 bf_3 if_3 c_4; omega) | omega), (hF.trans hout)⟩ dX12_trayed_27
      · skip
        replace hF := q_ifp hF c_4
        refine lv_iconst (v := 3) hx hb dX12_trayed_22 (by decide) ?_
        refine lv_goto (tgt := 27) hx hb dX12_trayed_23 (by decide) ?_
        have hrv : (3 : Int32).toInt = 3 := rfl
        exact q_reti E hr hlk hI ⟨rfl, (by constructor <;> intro h9 <;> omega), (by first | (clear c_1 c_2 bf_3 if_3 c_4; omega) | omega), (hF.trans hout)⟩ dX12_trayed_27
    · skip
      replace hF := q_ifn hF (Int.not_lt.mpr c_2)
      refine lv_iconst (v := 1) hx hb dX12_trayed_9 (by decide) ?_
      refine lv_goto (tgt := 27) hx hb dX12_trayed_10 (by decide) ?_
      have hrv : (1 : Int32).toInt = 1 := rfl
      exact q_reti E hr hlk hI ⟨rfl, (by constructor <;> intro h9 <;> omega), (by first | (clear c_1 c_2; omega) | omega), (hF.trans hout)⟩ dX12_trayed_27

set_option maxRecDepth 100000 in
set_option maxHeartbeats 4000000 in
theorem c_X12_placed (l : Launch) (X : XW) (σ : ST) (a : Nat) (v1 : Int32) (v2 : Int32) (ha : q_kd X a = 12) : Met l yX12_placed (q_ws yX12_placed cX12_placed 4 (some .int)) (q_rm 1 21) (q_P X σ [.ref a, .int v1, .int v2]) (q_Qi X 9 σ (fun (r : Int32) (σ' : ST) => σ' = σ ∧ (r.toInt = 0 ↔ (0 ≤ v1.toInt ∧ v1.toInt < 4 ∧ 0 ≤ v2.toInt ∧ v2.toInt + 1 ≤ (σ.1 (q_rf X a 5) v1.toNatClampNeg).toInt)) ∧ (r.toInt = 0 ∨ r.toInt = 1 ∨ r.toInt = 3 ∨ r.toInt = 4) ∧ r = F_X12_placed X σ a v1 v2)) 0 0 (q_reg X) := by
  refine q_met 9 (by first | exact rfl | decide +kernel) rfl (Nat.le_of_ble_eq_true rfl) (fun p e s m below meth c E hml hr hlk hI ls hl => ?_)
  have hx := E.1
  have hb := E.2.1
  have hl : lv_has ls 4 [(0, .ref a), (1, .int v1), (2, .int v2)] := hl
  obtain ⟨out, hout⟩ : ∃ o, o = F_X12_placed X σ a v1 v2 := ⟨_, rfl⟩
  have hF := hout.symm
  unfold F_X12_placed at hF
  refine lv_aload_n hx hb dX12_placed_0 rfl (lv_at hl 0 rfl) ?_
  refine lv_iload_n hx hb dX12_placed_1 rfl (lv_at hl 1 rfl) ?_
  refine q_ci (q_runV (As := [.int v1]) (rest := []) E (hml.trans hl.1.symm) hI (c_X12_trayed l X σ a v1 ha) kv_X12_78 ha ⟨rfl, by decide⟩ (show vwCl[11]? = some (RX12, TX12, 46) from rfl) rfl ⟨Nat.le_of_ble_eq_true rfl, Nat.le_of_ble_eq_true rfl⟩ ⟨Nat.le_refl _, Nat.le_refl _⟩ rfl (Nat.le_of_ble_eq_true rfl) dX12_placed_2) hI (by decide) (fun r_1 σ_2 H locs hpσ_2 hkσ_2 hI => ?_)
  obtain ⟨ahpσ_2, bhpσ_2, chpσ_2, dhpσ_2⟩ := hpσ_2
  rw [ahpσ_2] at hI
  replace hF := q_letX hF dhpσ_2
  refine lv_istore_n (lv' := [(3, .int r_1), (0, .ref a), (1, .int v1), (2, .int v2)]) hx hb dX12_placed_5 rfl hl (by decide) rfl (fun ls hl => ?_)
  refine lv_iload_n hx hb dX12_placed_6 rfl (lv_at hl 0 rfl) ?_
  refine q_if_le (A := r_1.toInt) E rfl (tgt := 14) dX12_placed_7 (by decide) (fun c_3 => ?_) (fun c_3 => ?_)
  · skip
    replace hF := q_ifn hF (Int.not_lt.mpr c_3)
    refine lv_iload_n hx hb dX12_placed_14 rfl (lv_at hl 3 rfl) ?_
    refine q_if_lt (A := v2.toInt) E rfl (tgt := 28) dX12_placed_15 (by decide) (fun c_4 => ?_) (fun c_4 => ?_)
    · skip
      replace hF := q_ifp hF c_4
      refine lv_iconst (v := 4) hx hb dX12_placed_28 (by decide) ?_
      refine lv_goto (tgt := 33) hx hb dX12_placed_29 (by decide) ?_
      have hrv : (4 : Int32).toInt = 4 := rfl
      exact q_reti E hr hlk hI ⟨rfl, (by constructor <;> intro h9 <;> omega), (by first | (clear ahpσ_2 bhpσ_2 chpσ_2 dhpσ_2 c_3 c_4; omega) | omega), (hF.trans hout)⟩ dX12_placed_33
    · skip
      replace hF := q_ifn hF (Int.not_lt.mpr c_4)
      refine lv_iload_n hx hb dX12_placed_18 rfl (lv_at hl 3 rfl) ?_
      refine lv_aload_n hx hb dX12_placed_19 rfl (lv_at hl 1 rfl) ?_
      refine gs_X12_17_12 E hI ha dX12_placed_20 ?_
      refine lv_iload_n hx hb dX12_placed_23 rfl (lv_at hl 2 rfl) ?_
      refine q_iald E hI (q_tk (k' := 31) hI ha rfl (by decide)) ⟨by decide, rfl⟩ (by first | (clear ahpσ_2 dhpσ_2 c_4; omega) | omega) (by rw [q_lnk (v := 4) hI (q_tk (k' := 31) hI ha rfl (by decide)) rfl (by decide)]; omega) dX12_placed_24 ?_
      refine lv_topi (fun f_5 ef_5 => ?_)
      replace hF := q_letX hF ef_5
      have bf_5 : -1 ≤ f_5.toInt ∧ f_5.toInt ≤ 60 := by rw [ef_5]; exact q_bd hI (q_tk (k' := 31) hI ha rfl (by decide)) rfl
      have if_5 : f_5.toInt = (σ.1 (q_rf X a 5) (v1 : Int32).toNatClampNeg).toInt := congrArg Int32.toInt ef_5
      refine q_icmp_lt (A := v2.toInt) (B := f_5.toInt) E rfl rfl (tgt := 32) dX12_placed_25 (by decide) (fun c_6 => ?_) (fun c_6 => ?_)
      · skip
        replace hF := q_ifp hF c_6
        refine lv_iconst (v := 0) hx hb dX12_placed_32 (by decide) ?_
        have hrv : (0 : Int32).toInt = 0 := rfl
        exact q_reti E hr hlk hI ⟨rfl, (by constructor <;> intro h9 <;> omega), (by first | (clear ahpσ_2 bhpσ_2 chpσ_2 dhpσ_2 c_3 c_4 bf_5 if_5 c_6; omega) | omega), (hF.trans hout)⟩ dX12_placed_33
      · skip
        replace hF := q_ifn hF (Int.not_lt.mpr c_6)
        refine lv_iconst (v := 4) hx hb dX12_placed_28 (by decide) ?_
        refine lv_goto (tgt := 33) hx hb dX12_placed_29 (by decide) ?_
        have hrv : (4 : Int32).toInt = 4 := rfl
        exact q_reti E hr hlk hI ⟨rfl, (by constructor <;> intro h9 <;> omega), (by first | (clear ahpσ_2 bhpσ_2 chpσ_2 dhpσ_2 c_3 c_4 bf_5 if_5 c_6; omega) | omega), (hF.trans hout)⟩ dX12_placed_33
  · skip
    replace hF := q_ifp hF c_3
    refine lv_iload_n hx hb dX12_placed_10 rfl (lv_at hl 0 rfl) ?_
    refine lv_goto (tgt := 33) hx hb dX12_placed_11 (by decide) ?_
    exact q_reti E hr hlk hI ⟨rfl, (by constructor <;> intro h9 <;> omega), (by first | (clear ahpσ_2 bhpσ_2 dhpσ_2; omega) | omega), (hF.trans hout)⟩ dX12_placed_33

set_option maxRecDepth 100000 in
set_option maxHeartbeats 4000000 in
theorem c_X12_cut (l : Launch) (X : XW) (σ : ST) (v0 : Int32) (v1 : Int64) : Met l yX12_cut (q_ws yX12_cut cX12_cut 3 (some .long)) (q_rm 0 0) (q_P X σ [.int v0, .long v1]) (q_Ql X 9 σ (fun (r : Int64) (σ' : ST) => σ' = σ ∧ r = F_X12_cut X σ v0 v1)) 0 0 (q_reg X) := by
  refine q_met 9 (by first | exact rfl | decide +kernel) rfl (Nat.le_of_ble_eq_true rfl) (fun p e s m below meth c E hml hr hlk hI ls hl => ?_)
  have hx := E.1
  have hb := E.2.1
  have hl : lv_has ls 3 [(0, .int v0), (1, .long v1)] := hl
  obtain ⟨out, hout⟩ : ∃ o, o = F_X12_cut X σ v0 v1 := ⟨_, rfl⟩
  have hF := hout.symm
  unfold F_X12_cut at hF
  refine lv_iload_n hx hb dX12_cut_0 rfl (lv_at hl 0 rfl) ?_
  refine q_if_ne (A := v0.toInt) E rfl (tgt := 11) dX12_cut_1 (by decide) (fun c_1 => ?_) (fun c_1 => ?_)
  · skip
    replace hF := q_ifn hF c_1
    refine lv_iload_n hx hb dX12_cut_11 rfl (lv_at hl 0 rfl) ?_
    refine lv_iconst (v := 1) hx hb dX12_cut_12 (by decide) ?_
    refine q_icmp_ne (A := v0.toInt) (B := 1) E rfl (by decide) (tgt := 23) dX12_cut_13 (by decide) (fun c_2 => ?_) (fun c_2 => ?_)
    · skip
      replace hF := q_ifn hF c_2
      refine lv_iload_n hx hb dX12_cut_23 rfl (lv_at hl 0 rfl) ?_
      refine lv_iconst (v := 2) hx hb dX12_cut_24 (by decide) ?_
      refine q_icmp_ne (A := v0.toInt) (B := 2) E rfl (by decide) (tgt := 34) dX12_cut_25 (by decide) (fun c_3 => ?_) (fun c_3 => ?_)
      · skip
        replace hF := q_ifn hF c_3
        refine lv_lload_n hx hb dX12_cut_34 rfl (lv_at hl 1 rfl) ?_
        exact q_retl E hr hlk hI ⟨rfl, (hF.trans hout)⟩ dX12_cut_35
      · skip
        replace hF := q_ifp hF c_3
        refine lv_lload_n hx hb dX12_cut_28 rfl (lv_at hl 1 rfl) ?_
        refine lv_l2i hx hb dX12_cut_29 rfl ?_
        refine lv_topi (fun z_4 ez_4 => ?_)
        replace hF := q_letX hF ez_4
        refine lv_i2l hx hb dX12_cut_30 rfl ?_
        refine lv_topl (fun y_5 ey_5 => ?_)
        replace hF := q_letX hF ey_5
        refine lv_goto (tgt := 35) hx hb dX12_cut_31 (by decide) ?_
        exact q_retl E hr hlk hI ⟨rfl, (hF.trans hout)⟩ dX12_cut_35
    · skip
      replace hF := q_ifp hF c_2
      refine lv_lload_n hx hb dX12_cut_16 rfl (lv_at hl 1 rfl) ?_
      refine lv_l2i hx hb dX12_cut_17 rfl ?_
      refine lv_topi (fun z_6 ez_6 => ?_)
      replace hF := q_letX hF ez_6
      refine lv_i2s hx hb dX12_cut_18 rfl ?_
      refine lv_topi (fun z_7 ez_7 => ?_)
      replace hF := q_letX hF ez_7
      refine lv_i2l hx hb dX12_cut_19 rfl ?_
      refine lv_topl (fun y_8 ey_8 => ?_)
      replace hF := q_letX hF ey_8
      refine lv_goto (tgt := 35) hx hb dX12_cut_20 (by decide) ?_
      exact q_retl E hr hlk hI ⟨rfl, (hF.trans hout)⟩ dX12_cut_35
  · skip
    replace hF := q_ifp hF c_1
    refine lv_lload_n hx hb dX12_cut_4 rfl (lv_at hl 1 rfl) ?_
    refine lv_l2i hx hb dX12_cut_5 rfl ?_
    refine lv_topi (fun z_9 ez_9 => ?_)
    replace hF := q_letX hF ez_9
    refine lv_i2b hx hb dX12_cut_6 rfl ?_
    refine lv_topi (fun z_10 ez_10 => ?_)
    replace hF := q_letX hF ez_10
    refine lv_i2l hx hb dX12_cut_7 rfl ?_
    refine lv_topl (fun y_11 ey_11 => ?_)
    replace hF := q_letX hF ey_11
    refine lv_goto (tgt := 35) hx hb dX12_cut_8 (by decide) ?_
    exact q_retl E hr hlk hI ⟨rfl, (hF.trans hout)⟩ dX12_cut_35

set_option maxRecDepth 100000 in
set_option maxHeartbeats 4000000 in
theorem c_X12_tray (l : Launch) (X : XW) (σ : ST) (a : Nat) (v1 : Int32) (v2 : Int32) (v3 : Int32) (ha : q_kd X a = 12) : Met l yX12_tray (q_ws yX12_tray cX12_tray 5 (some .boolean)) (q_rm 1 21) (q_P X σ [.ref a, .int v1, .int v2, .int v3]) (q_Qi X 0 σ (fun (r : Int32) (σ' : ST) => (0 ≤ r.toInt ∧ r.toInt ≤ 1) ∧ (q_KS (fun b g => (b = q_rf X a 4 ∨ b = q_rf X a 5) ∧ g = v1.toNatClampNeg) 8 X σ σ') ∧ (r.toInt = 1 ↔ (0 ≤ v1.toInt ∧ v1.toInt < 4 ∧ 0 ≤ v2.toInt ∧ v2.toInt ≤ 3 ∧ 0 ≤ v3.toInt ∧ v3.toInt ≤ 60)) ∧ (r.toInt = 1 → σ'.1 (q_rf X a 4) v1.toNatClampNeg = v2 ∧ σ'.1 (q_rf X a 5) v1.toNatClampNeg = v3) ∧ (r.toInt = 0 → q_K 8 X σ σ') ∧ (r, σ') = F_X12_tray X σ a v1 v2 v3 ∧ q_ow [(12, 0), (12, 1), (30, 99), (31, 99)] [(32, 99)] X σ σ')) 0 0 (q_reg X) := by
  refine q_met 0 (by first | exact rfl | decide +kernel) rfl (Nat.le_of_ble_eq_true rfl) (fun p e s m below meth c E hml hr hlk hI ls hl => ?_)
  have hx := E.1
  have hb := E.2.1
  have hl : lv_has ls 5 [(0, .ref a), (1, .int v1), (2, .int v2), (3, .int v3)] := hl
  have ks_σ : q_KS (fun b g => (b = q_rf X a 4 ∨ b = q_rf X a 5) ∧ g = v1.toNatClampNeg) 8 X σ σ := q_KS.rf
  have fr_σ : q_ow [(12, 0), (12, 1), (30, 99), (31, 99)] [(32, 99)] X σ σ := q_ow.rf
  have kt4 : q_kd X (q_rf X a 4) = 30 := q_tk (k' := 30) hI ha rfl (by decide)
  have kt5 : q_kd X (q_rf X a 5) = 31 := q_tk (k' := 31) hI ha rfl (by decide)
  have n45 : q_rf X a 4 ≠ q_rf X a 5 := m_ne kt4 kt5 (by decide)
  obtain ⟨out, hout⟩ : ∃ o, o = F_X12_tray X σ a v1 v2 v3 := ⟨_, rfl⟩
  have hF := hout.symm
  unfold F_X12_tray at hF
  refine lv_aload_n hx hb dX12_tray_0 rfl (lv_at hl 0 rfl) ?_
  refine lv_iconst (v := 0) hx hb dX12_tray_1 (by decide) ?_
  refine ps_X12_59_12 E hI ha (by decide) dX12_tray_2 (fun H locs σ_1 hσ_1 hI => ?_)
  replace hF := q_letX hF hσ_1
  have fr_σ_1 := fr_σ.si hσ_1 ha rfl
  have ks_σ_1 : q_KS (fun b g => (b = q_rf X a 4 ∨ b = q_rf X a 5) ∧ g = v1.toNatClampNeg) 8 X σ σ_1 := ks_σ.si hσ_1 ha (show 8 < 9 by decide)
  have kzσ_1 : q_K 8 X σ σ_1 := by rw [hσ_1]; exact q_K.si ha (by decide)
  refine lv_aload_n hx hb dX12_tray_5 rfl (lv_at hl 0 rfl) ?_
  refine lv_iconst (v := 0) hx hb dX12_tray_6 (by decide) ?_
  refine ps_X12_62_12 E hI ha (by decide) dX12_tray_7 (fun H locs σ_2 hσ_2 hI => ?_)
  replace hF := q_letX hF hσ_2
  have fr_σ_2 := fr_σ_1.si hσ_2 ha rfl
  have ks_σ_2 : q_KS (fun b g => (b = q_rf X a 4 ∨ b = q_rf X a 5) ∧ g = v1.toNatClampNeg) 8 X σ σ_2 := ks_σ_1.si hσ_2 ha (show 8 < 9 by decide)
  have kzσ_2 : q_K 8 X σ σ_2 := kzσ_1.tr (by rw [hσ_2]; exact q_K.si ha (by decide))
  refine lv_iload_n hx hb dX12_tray_10 rfl (lv_at hl 1 rfl) ?_
  refine q_if_lt (A := v1.toInt) E rfl (tgt := 28) dX12_tray_11 (by decide) (fun c_3 => ?_) (fun c_3 => ?_)
  · skip
    replace hF := q_ifp hF c_3
    refine lv_aload_n hx hb dX12_tray_28 rfl (lv_at hl 0 rfl) ?_
    refine lv_iconst (v := 1) hx hb dX12_tray_29 (by decide) ?_
    have kc_4 : (1 : Int32).toInt = 1 := rfl
    refine q_ci (q_runV (As := [.int 1]) (rest := []) E (hml.trans hl.1.symm) hI (c_X12_no l X σ_2 a (1 : Int32) ha) kv_X12_74 ha ⟨rfl, by decide⟩ (show vwCl[11]? = some (RX12, TX12, 46) from rfl) rfl ⟨Nat.le_of_ble_eq_true rfl, Nat.le_of_ble_eq_true rfl⟩ ⟨Nat.le_refl _, Nat.le_refl _⟩ rfl (Nat.le_of_ble_eq_true rfl) dX12_tray_30) hI (by decide) (fun r_5 σ_6 H locs hpσ_6 hkσ_6 hI => ?_)
    obtain ⟨ahpσ_6, bhpσ_6, chpσ_6, dhpσ_6⟩ := hpσ_6
    have fr_σ_6 := fr_σ_2.call dhpσ_6 rfl rfl
    replace hF := q_biX hF chpσ_6
    have ks_σ_6 : q_KS (fun b g => (b = q_rf X a 4 ∨ b = q_rf X a 5) ∧ g = v1.toNatClampNeg) 8 X σ σ_6 := ks_σ_2.K hkσ_6 (by decide)
    have kzσ_6 : q_K 8 X σ σ_6 := kzσ_2.tr (q_K.le hkσ_6 (by decide))
    exact q_retz E hr hlk hI ⟨by omega, by omega⟩ ⟨⟨by omega, by omega⟩, ks_σ_6, (by constructor <;> intro h9 <;> omega), (by intro h9; exfalso; omega), (fun _ => kzσ_6), (hF.trans hout), fr_σ_6⟩ dX12_tray_33
  · skip
    replace hF := q_ifn hF (Int.not_lt.mpr c_3)
    refine lv_iload_n hx hb dX12_tray_14 rfl (lv_at hl 1 rfl) ?_
    refine lv_iconst (v := 4) hx hb dX12_tray_15 (by decide) ?_
    have gc_7_v1 := q_rng v1
    refine q_icmp_ge (A := v1.toInt) (B := 4) E rfl (by decide) (tgt := 28) dX12_tray_16 (by decide) (fun c_7 => ?_) (fun c_7 => ?_)
    · skip
      replace hF := q_ifn hF (Int.not_lt.mpr c_7)
      refine lv_aload_n hx hb dX12_tray_28 rfl (lv_at hl 0 rfl) ?_
      refine lv_iconst (v := 1) hx hb dX12_tray_29 (by decide) ?_
      have kc_8 : (1 : Int32).toInt = 1 := rfl
      refine q_ci (q_runV (As := [.int 1]) (rest := []) E (hml.trans hl.1.symm) hI (c_X12_no l X σ_2 a (1 : Int32) ha) kv_X12_74 ha ⟨rfl, by decide⟩ (show vwCl[11]? = some (RX12, TX12, 46) from rfl) rfl ⟨Nat.le_of_ble_eq_true rfl, Nat.le_of_ble_eq_true rfl⟩ ⟨Nat.le_refl _, Nat.le_refl _⟩ rfl (Nat.le_of_ble_eq_true rfl) dX12_tray_30) hI (by decide) (fun r_9 σ_10 H locs hpσ_10 hkσ_10 hI => ?_)
      obtain ⟨ahpσ_10, bhpσ_10, chpσ_10, dhpσ_10⟩ := hpσ_10
      have fr_σ_10 := fr_σ_2.call dhpσ_10 rfl rfl
      replace hF := q_biX hF chpσ_10
      have ks_σ_10 : q_KS (fun b g => (b = q_rf X a 4 ∨ b = q_rf X a 5) ∧ g = v1.toNatClampNeg) 8 X σ σ_10 := ks_σ_2.K hkσ_10 (by decide)
      have kzσ_10 : q_K 8 X σ σ_10 := kzσ_2.tr (q_K.le hkσ_10 (by decide))
      exact q_retz E hr hlk hI ⟨by omega, by omega⟩ ⟨⟨by omega, by omega⟩, ks_σ_10, (by constructor <;> intro h9 <;> omega), (by intro h9; exfalso; omega), (fun _ => kzσ_10), (hF.trans hout), fr_σ_10⟩ dX12_tray_33
    · skip
      replace hF := q_ifp hF c_7
      refine lv_iload_n hx hb dX12_tray_19 rfl (lv_at hl 2 rfl) ?_
      refine q_if_lt (A := v2.toInt) E rfl (tgt := 28) dX12_tray_20 (by decide) (fun c_11 => ?_) (fun c_11 => ?_)
      · skip
        replace hF := q_ifp hF c_11
        refine lv_aload_n hx hb dX12_tray_28 rfl (lv_at hl 0 rfl) ?_
        refine lv_iconst (v := 1) hx hb dX12_tray_29 (by decide) ?_
        have kc_12 : (1 : Int32).toInt = 1 := rfl
        refine q_ci (q_runV (As := [.int 1]) (rest := []) E (hml.trans hl.1.symm) hI (c_X12_no l X σ_2 a (1 : Int32) ha) kv_X12_74 ha ⟨rfl, by decide⟩ (show vwCl[11]? = some (RX12, TX12, 46) from rfl) rfl ⟨Nat.le_of_ble_eq_true rfl, Nat.le_of_ble_eq_true rfl⟩ ⟨Nat.le_refl _, Nat.le_refl _⟩ rfl (Nat.le_of_ble_eq_true rfl) dX12_tray_30) hI (by decide) (fun r_13 σ_14 H locs hpσ_14 hkσ_14 hI => ?_)
        obtain ⟨ahpσ_14, bhpσ_14, chpσ_14, dhpσ_14⟩ := hpσ_14
        have fr_σ_14 := fr_σ_2.call dhpσ_14 rfl rfl
        replace hF := q_biX hF chpσ_14
        have ks_σ_14 : q_KS (fun b g => (b = q_rf X a 4 ∨ b = q_rf X a 5) ∧ g = v1.toNatClampNeg) 8 X σ σ_14 := ks_σ_2.K hkσ_14 (by decide)
        have kzσ_14 : q_K 8 X σ σ_14 := kzσ_2.tr (q_K.le hkσ_14 (by decide))
        exact q_retz E hr hlk hI ⟨by omega, by omega⟩ ⟨⟨by omega, by omega⟩, ks_σ_14, (by constructor <;> intro h9 <;> omega), (by intro h9; exfalso; omega), (fun _ => kzσ_14), (hF.trans hout), fr_σ_14⟩ dX12_tray_33
      · skip
        replace hF := q_ifn hF (Int.not_lt.mpr c_11)
        refine lv_iload_n hx hb dX12_tray_23 rfl (lv_at hl 2 rfl) ?_
        refine lv_iconst (v := 3) hx hb dX12_tray_24 (by decide) ?_
        have gc_15_v2 := q_rng v2
        refine q_icmp_le (A := v2.toInt) (B := 3) E rfl (by decide) (tgt := 34) dX12_tray_25 (by decide) (fun c_15 => ?_) (fun c_15 => ?_)
        · skip
          replace hF := q_ifn hF (Int.not_lt.mpr c_15)
          refine lv_iload_n hx hb dX12_tray_34 rfl (lv_at hl 3 rfl) ?_
          refine lv_bipush (v := 60) hx hb dX12_tray_35 (by decide) ?_
          have gc_16_v3 := q_rng v3
          refine q_icmp_le (A := v3.toInt) (B := 60) E rfl (by decide) (tgt := 46) dX12_tray_37 (by decide) (fun c_16 => ?_) (fun c_16 => ?_)
          · skip
            replace hF := q_ifn hF (Int.not_lt.mpr c_16)
            refine lv_iload_n hx hb dX12_tray_46 rfl (lv_at hl 3 rfl) ?_
            refine q_if_ge (A := v3.toInt) E rfl (tgt := 57) dX12_tray_47 (by decide) (fun c_17 => ?_) (fun c_17 => ?_)
            · skip
              replace hF := q_ifn hF (Int.not_lt.mpr c_17)
              refine lv_aload_n hx hb dX12_tray_57 rfl (lv_at hl 0 rfl) ?_
              refine gs_X12_13_12 E hI ha dX12_tray_58 ?_
              refine lv_iload_n hx hb dX12_tray_61 rfl (lv_at hl 1 rfl) ?_
              refine lv_iload_n hx hb dX12_tray_62 rfl (lv_at hl 2 rfl) ?_
              refine q_iastN E hI (q_tk (k' := 30) hI ha rfl (by decide)) ⟨by decide, rfl⟩ (by omega) (by rw [q_lnk (v := 4) hI (q_tk (k' := 30) hI ha rfl (by decide)) rfl (by decide)]; omega) (show 0 < 1 by decide) (q_inB (lo := 0) (hi := 3) rfl (by omega) (by omega)) dX12_tray_63 (fun H locs σ_18 hσ_18 hI => ?_)
              replace hF := q_letX hF hσ_18
              have fr_σ_18 := fr_σ_2.si hσ_18 (q_tk (k' := 30) hI ha rfl (by decide)) rfl
              have ks_σ_18 : q_KS (fun b g => (b = q_rf X a 4 ∨ b = q_rf X a 5) ∧ g = v1.toNatClampNeg) 8 X σ σ_18 := ks_σ_2.siS hσ_18 ⟨Or.inl rfl, rfl⟩
              have mk0σ_18 : σ_18.1 (q_rf X a 4) v1.toNatClampNeg = v2 := q_rd hσ_18
              refine lv_aload_n hx hb dX12_tray_64 rfl (lv_at hl 0 rfl) ?_
              refine gs_X12_17_12 E hI ha dX12_tray_65 ?_
              refine lv_iload_n hx hb dX12_tray_68 rfl (lv_at hl 1 rfl) ?_
              refine lv_iload_n hx hb dX12_tray_69 rfl (lv_at hl 3 rfl) ?_
              refine q_iastN E hI (q_tk (k' := 31) hI ha rfl (by decide)) ⟨by decide, rfl⟩ (by omega) (by rw [q_lnk (v := 4) hI (q_tk (k' := 31) hI ha rfl (by decide)) rfl (by decide)]; omega) (show 0 < 1 by decide) (q_inB (lo := -1) (hi := 60) rfl (by first | (clear kzσ_1 kzσ_2 c_3 gc_7_v1 c_7 c_11 gc_15_v2 c_15 mk0σ_18; omega) | omega) (by omega)) dX12_tray_70 (fun H locs σ_19 hσ_19 hI => ?_)
              replace hF := q_letX hF hσ_19
              have fr_σ_19 := fr_σ_18.si hσ_19 (q_tk (k' := 31) hI ha rfl (by decide)) rfl
              have ks_σ_19 : q_KS (fun b g => (b = q_rf X a 4 ∨ b = q_rf X a 5) ∧ g = v1.toNatClampNeg) 8 X σ σ_19 := ks_σ_18.siS hσ_19 ⟨Or.inr rfl, rfl⟩
              have mk0σ_19 : σ_19.1 (q_rf X a 4) v1.toNatClampNeg = v2 := (q_rdn hσ_19 (Or.inl n45)).trans mk0σ_18
              have mk1σ_19 : σ_19.1 (q_rf X a 5) v1.toNatClampNeg = v3 := q_rd hσ_19
              refine lv_iconst (v := 0) hx hb dX12_tray_71 (by decide) ?_
              refine lv_istore (lv' := [(4, .int 0), (0, .ref a), (1, .int v1), (2, .int v2), (3, .int v3)]) hx hb dX12_tray_72 hl (by decide) rfl (fun ls hl => ?_)
              have L_74_22 : ∀ (k_22 : Nat) (x_20 : Int32) (σ_21 : ST) (H : Heap) (locs : List Loc) (ls : Array Slot), (2147483647 - x_20.toInt).toNat < k_22 → (0 ≤ x_20.toInt) → (σ_21.1 (q_rf X a 4) v1.toNatClampNeg = v2) → (σ_21.1 (q_rf X a 5) v1.toNatClampNeg = v3) → (q_KS (fun b g => (b = q_rf X a 4 ∨ b = q_rf X a 5) ∧ g = v1.toNatClampNeg) 8 X σ σ_21) → (q_ow [(12, 0), (12, 1), (30, 99), (31, 99)] [(32, 99)] X σ σ_21) → (F_X12_tray_L74_1 X v3 v1 a k_22 x_20 σ_21 = out) → q_I X 0 σ s.heap locs σ_21 H → lv_has ls 5 [(0, .ref a), (1, .int v1), (2, .int v2), (3, .int v3), (4, .int x_20)] → W p l e (q_rm 1 21) s m ([.ref a, .int v1, .int v2, .int v3] : List Value).toArray below meth c H locs 0 0 (MQ below (q_Qi X 0 σ (fun (r : Int32) (σ' : ST) => (0 ≤ r.toInt ∧ r.toInt ≤ 1) ∧ (q_KS (fun b g => (b = q_rf X a 4 ∨ b = q_rf X a 5) ∧ g = v1.toNatClampNeg) 8 X σ σ') ∧ (r.toInt = 1 ↔ (0 ≤ v1.toInt ∧ v1.toInt < 4 ∧ 0 ≤ v2.toInt ∧ v2.toInt ≤ 3 ∧ 0 ≤ v3.toInt ∧ v3.toInt ≤ 60)) ∧ (r.toInt = 1 → σ'.1 (q_rf X a 4) v1.toNatClampNeg = v2 ∧ σ'.1 (q_rf X a 5) v1.toNatClampNeg = v3) ∧ (r.toInt = 0 → q_K 8 X σ σ') ∧ (r, σ') = F_X12_tray X σ a v1 v2 v3 ∧ q_ow [(12, 0), (12, 1), (30, 99), (31, 99)] [(32, 99)] X σ σ')) ([.ref a, .int v1, .int v2, .int v3] : List Value).toArray s 0 0 (q_reg X)) (F0 m 74 ls []) := by
                clear hF
                intro k_22
                induction k_22 with
                | zero =>
                  intro x_20 σ_21 H locs ls hms
                  try clear fr_σ_18; try clear fr_σ_19
                  exact absurd hms (Nat.not_lt_zero _)
                | succ k_22 ih74 =>
                  intro x_20 σ_21 H locs ls hm74 hge74 mk0σ_21 mk1σ_21 ks_σ_21 fr_σ_21 hF hI hl
                  replace hF := (F_X12_tray_L74_1_s).symm.trans hF
                  unfold F_X12_tray_B74_1 at hF
                  refine lv_iload hx hb dX12_tray_74 (lv_at hl 4 rfl) ?_
                  refine lv_iload_n hx hb dX12_tray_76 rfl (lv_at hl 3 rfl) ?_
                  have gc_23_x_20 := q_rng x_20
                  have gc_23_v3 := q_rng v3
                  refine q_icmp_ge (A := x_20.toInt) (B := v3.toInt) E rfl rfl (tgt := 99) dX12_tray_77 (by decide) (fun c_23 => ?_) (fun c_23 => ?_)
                  · skip
                    replace hF := q_ifn hF (Int.not_lt.mpr c_23)
                    skip
                    refine lv_iconst (v := 1) hx hb dX12_tray_99 (by decide) ?_
                    have hrv : (1 : Int32).toInt = 1 := rfl
                    exact q_retz E hr hlk hI ⟨by decide, by decide⟩ ⟨⟨by decide, by decide⟩, ks_σ_21, (by constructor <;> intro h9 <;> omega), (fun _ => ⟨mk0σ_21, mk1σ_21⟩), (by intro h9; exfalso; omega), (hF.trans hout), fr_σ_21⟩ dX12_tray_100
                  · skip
                    replace hF := q_ifp hF c_23
                    refine lv_aload_n hx hb dX12_tray_80 rfl (lv_at hl 0 rfl) ?_
                    refine gs_X12_20_12 E hI ha dX12_tray_81 ?_
                    refine lv_bipush (v := 60) hx hb dX12_tray_84 (by decide) ?_
                    refine lv_iload_n hx hb dX12_tray_86 rfl (lv_at hl 1 rfl) ?_
                    refine lv_imul hx hb dX12_tray_87 ?_
                    refine lv_topi (fun z_24 ez_24 => ?_)
                    replace hF := q_letX hF ez_24
                    have iz_24 := q_mulI (A := 60) (B := v1.toInt) ez_24 (by decide) rfl (by first | (clear kzσ_1 kzσ_2 c_11 gc_15_v2 c_15 gc_16_v3 c_16 c_17 mk0σ_18 mk0σ_19 mk1σ_19 hm74 hge74 mk0σ_21 mk1σ_21 gc_23_x_20 gc_23_v3 c_23; omega) | omega) (by first | (clear kzσ_1 kzσ_2 c_11 gc_15_v2 c_15 gc_16_v3 c_16 c_17 mk0σ_18 mk0σ_19 mk1σ_19 hm74 hge74 mk0σ_21 mk1σ_21 gc_23_x_20 gc_23_v3 c_23; omega) | omega)
                    refine lv_iload hx hb dX12_tray_88 (lv_at hl 4 rfl) ?_
                    refine lv_iadd hx hb dX12_tray_90 ?_
                    refine lv_topi (fun z_25 ez_25 => ?_)
                    replace hF := q_letX hF ez_25
                    have iz_25 := q_addI (A := (60 * v1.toInt)) (B := x_20.toInt) ez_25 iz_24 rfl (by first | (clear kzσ_1 kzσ_2 c_11 gc_15_v2 c_15 gc_16_v3 c_16 c_17 mk0σ_18 mk0σ_19 mk1σ_19 hm74 mk0σ_21 mk1σ_21 gc_23_v3 c_23 iz_24; omega) | omega) (by first | (clear kzσ_1 kzσ_2 c_11 gc_15_v2 c_15 mk0σ_18 mk0σ_19 mk1σ_19 hm74 mk0σ_21 mk1σ_21 gc_23_v3 iz_24; omega) | omega)
                    refine lv_lconst (v := 0) hx hb dX12_tray_91 (by decide) ?_
                    refine q_lastN E hI (q_tk (k' := 32) hI ha rfl (by decide)) ⟨by decide, rfl⟩ (by first | (clear kzσ_1 kzσ_2 c_11 gc_15_v2 c_15 mk0σ_18 mk0σ_19 mk1σ_19 hm74 mk0σ_21 mk1σ_21 gc_23_v3 iz_24; omega) | omega) (by rw [q_lnk (v := 240) hI (q_tk (k' := 32) hI ha rfl (by decide)) rfl (by decide)]; omega) dX12_tray_92 (fun H locs σ_26 hσ_26 hI => ?_)
                    replace hF := q_letX hF hσ_26
                    have fr_σ_26 := fr_σ_21.sl hσ_26 (q_tk (k' := 32) hI ha rfl (by decide)) rfl
                    have ks_σ_26 : q_KS (fun b g => (b = q_rf X a 4 ∨ b = q_rf X a 5) ∧ g = v1.toNatClampNeg) 8 X σ σ_26 := ks_σ_21.sl hσ_26
                    have mk0σ_26 : σ_26.1 (q_rf X a 4) v1.toNatClampNeg = v2 := (q_rdl hσ_26).trans mk0σ_21
                    have mk1σ_26 : σ_26.1 (q_rf X a 5) v1.toNatClampNeg = v3 := (q_rdl hσ_26).trans mk1σ_21
                    obtain ⟨z_27, ez_27⟩ : ∃ y : Int32, y = x_20 + 1 := ⟨_, rfl⟩
                    replace hF := q_letX hF ez_27
                    refine lv_iinc (v := z_27) (lv' := [(4, .int z_27), (0, .ref a), (1, .int v1), (2, .int v2), (3, .int v3)]) hx hb dX12_tray_93 hl (k := 4) rfl (by rw [ez_27]; rfl) (by decide) rfl (fun ls hl => ?_)
                    have iz_27 : z_27.toInt = x_20.toInt + 1 := q_inc ez_27 (by first | (clear kzσ_1 kzσ_2 c_3 gc_7_v1 c_7 c_11 gc_15_v2 c_15 mk0σ_18 mk0σ_19 mk1σ_19 hm74 mk0σ_21 mk1σ_21 gc_23_v3 iz_24 mk0σ_26 mk1σ_26; omega) | omega)
                    refine lv_goto (tgt := 74) hx hb dX12_tray_96 (by decide) ?_
                    exact ih74 z_27 σ_26 _ _ ls (by first | (clear kzσ_1 kzσ_2 c_3 gc_7_v1 c_7 c_11 gc_15_v2 c_15 mk0σ_18 mk0σ_19 mk1σ_19 mk0σ_21 mk1σ_21 gc_23_v3 iz_24 mk0σ_26 mk1σ_26; omega) | omega) (by first | (clear kzσ_1 kzσ_2 c_3 gc_7_v1 c_7 c_11 gc_15_v2 c_15 gc_16_v3 c_16 c_17 mk0σ_18 mk0σ_19 mk1σ_19 hm74 mk0σ_21 mk1σ_21 gc_23_v3 c_23 iz_24 mk0σ_26 mk1σ_26; omega) | omega) mk0σ_26 mk1σ_26 ks_σ_26 fr_σ_26 hF hI (lv_sub hl [1, 2, 3, 4, 0] rfl)
              exact L_74_22 ((2147483647 - (0 : Int32).toInt).toNat + 1) 0 σ_19 _ _ ls (Nat.lt_succ_self _) (by decide) mk0σ_19 mk1σ_19 ks_σ_19 fr_σ_19 hF hI (lv_sub hl [1, 2, 3, 4, 0] rfl)
            · skip
              replace hF := q_ifp hF c_17
              refine lv_aload_n hx hb dX12_tray_50 rfl (lv_at hl 0 rfl) ?_
              refine lv_bipush (v := 6) hx hb dX12_tray_51 (by decide) ?_
              have kc_28 : (6 : Int32).toInt = 6 := rfl
              refine q_ci (q_runV (As := [.int 6]) (rest := []) E (hml.trans hl.1.symm) hI (c_X12_no l X σ_2 a (6 : Int32) ha) kv_X12_74 ha ⟨rfl, by decide⟩ (show vwCl[11]? = some (RX12, TX12, 46) from rfl) rfl ⟨Nat.le_of_ble_eq_true rfl, Nat.le_of_ble_eq_true rfl⟩ ⟨Nat.le_refl _, Nat.le_refl _⟩ rfl (Nat.le_of_ble_eq_true rfl) dX12_tray_53) hI (by decide) (fun r_29 σ_30 H locs hpσ_30 hkσ_30 hI => ?_)
              obtain ⟨ahpσ_30, bhpσ_30, chpσ_30, dhpσ_30⟩ := hpσ_30
              have fr_σ_30 := fr_σ_2.call dhpσ_30 rfl rfl
              replace hF := q_biX hF chpσ_30
              have ks_σ_30 : q_KS (fun b g => (b = q_rf X a 4 ∨ b = q_rf X a 5) ∧ g = v1.toNatClampNeg) 8 X σ σ_30 := ks_σ_2.K hkσ_30 (by decide)
              have kzσ_30 : q_K 8 X σ σ_30 := kzσ_2.tr (q_K.le hkσ_30 (by decide))
              exact q_retz E hr hlk hI ⟨by omega, by omega⟩ ⟨⟨by omega, by omega⟩, ks_σ_30, (by constructor <;> intro h9 <;> omega), (by intro h9; exfalso; omega), (fun _ => kzσ_30), (hF.trans hout), fr_σ_30⟩ dX12_tray_56
          · skip
            replace hF := q_ifp hF c_16
            refine lv_aload_n hx hb dX12_tray_40 rfl (lv_at hl 0 rfl) ?_
            refine lv_iconst (v := 5) hx hb dX12_tray_41 (by decide) ?_
            have kc_31 : (5 : Int32).toInt = 5 := rfl
            refine q_ci (q_runV (As := [.int 5]) (rest := []) E (hml.trans hl.1.symm) hI (c_X12_no l X σ_2 a (5 : Int32) ha) kv_X12_74 ha ⟨rfl, by decide⟩ (show vwCl[11]? = some (RX12, TX12, 46) from rfl) rfl ⟨Nat.le_of_ble_eq_true rfl, Nat.le_of_ble_eq_true rfl⟩ ⟨Nat.le_refl _, Nat.le_refl _⟩ rfl (Nat.le_of_ble_eq_true rfl) dX12_tray_42) hI (by decide) (fun r_32 σ_33 H locs hpσ_33 hkσ_33 hI => ?_)
            obtain ⟨ahpσ_33, bhpσ_33, chpσ_33, dhpσ_33⟩ := hpσ_33
            have fr_σ_33 := fr_σ_2.call dhpσ_33 rfl rfl
            replace hF := q_biX hF chpσ_33
            have ks_σ_33 : q_KS (fun b g => (b = q_rf X a 4 ∨ b = q_rf X a 5) ∧ g = v1.toNatClampNeg) 8 X σ σ_33 := ks_σ_2.K hkσ_33 (by decide)
            have kzσ_33 : q_K 8 X σ σ_33 := kzσ_2.tr (q_K.le hkσ_33 (by decide))
            exact q_retz E hr hlk hI ⟨by omega, by omega⟩ ⟨⟨by omega, by omega⟩, ks_σ_33, (by constructor <;> intro h9 <;> omega), (by intro h9; exfalso; omega), (fun _ => kzσ_33), (hF.trans hout), fr_σ_33⟩ dX12_tray_45
        · skip
          replace hF := q_ifp hF c_15
          refine lv_aload_n hx hb dX12_tray_28 rfl (lv_at hl 0 rfl) ?_
          refine lv_iconst (v := 1) hx hb dX12_tray_29 (by decide) ?_
          have kc_34 : (1 : Int32).toInt = 1 := rfl
          refine q_ci (q_runV (As := [.int 1]) (rest := []) E (hml.trans hl.1.symm) hI (c_X12_no l X σ_2 a (1 : Int32) ha) kv_X12_74 ha ⟨rfl, by decide⟩ (show vwCl[11]? = some (RX12, TX12, 46) from rfl) rfl ⟨Nat.le_of_ble_eq_true rfl, Nat.le_of_ble_eq_true rfl⟩ ⟨Nat.le_refl _, Nat.le_refl _⟩ rfl (Nat.le_of_ble_eq_true rfl) dX12_tray_30) hI (by decide) (fun r_35 σ_36 H locs hpσ_36 hkσ_36 hI => ?_)
          obtain ⟨ahpσ_36, bhpσ_36, chpσ_36, dhpσ_36⟩ := hpσ_36
          have fr_σ_36 := fr_σ_2.call dhpσ_36 rfl rfl
          replace hF := q_biX hF chpσ_36
          have ks_σ_36 : q_KS (fun b g => (b = q_rf X a 4 ∨ b = q_rf X a 5) ∧ g = v1.toNatClampNeg) 8 X σ σ_36 := ks_σ_2.K hkσ_36 (by decide)
          have kzσ_36 : q_K 8 X σ σ_36 := kzσ_2.tr (q_K.le hkσ_36 (by decide))
          exact q_retz E hr hlk hI ⟨by omega, by omega⟩ ⟨⟨by omega, by omega⟩, ks_σ_36, (by constructor <;> intro h9 <;> omega), (by intro h9; exfalso; omega), (fun _ => kzσ_36), (hF.trans hout), fr_σ_36⟩ dX12_tray_33

set_option maxRecDepth 100000 in
set_option maxHeartbeats 4000000 in
theorem c_X12_write (l : Launch) (X : XW) (σ : ST) (a : Nat) (v1 : Int32) (v2 : Int32) (v3 : Int64) (ha : q_kd X a = 12) : Met l yX12_write (q_ws yX12_write cX12_write 5 (some .boolean)) (q_rm 2 44) (q_P X σ [.ref a, .int v1, .int v2, .long v3]) (q_Qi X 8 σ (fun (r : Int32) (σ' : ST) => (0 ≤ r.toInt ∧ r.toInt ≤ 1) ∧ (r.toInt = 1 ↔ (0 ≤ v1.toInt ∧ v1.toInt < 4 ∧ 0 ≤ v2.toInt ∧ v2.toInt + 1 ≤ (σ.1 (q_rf X a 5) v1.toNatClampNeg).toInt)) ∧ (r, σ') = F_X12_write X σ a v1 v2 v3 ∧ q_ow [(12, 0), (12, 1)] [(32, 99)] X σ σ')) 0 0 (q_reg X) := by
  refine q_met 8 (by first | exact rfl | decide +kernel) rfl (Nat.le_of_ble_eq_true rfl) (fun p e s m below meth c E hml hr hlk hI ls hl => ?_)
  have hx := E.1
  have hb := E.2.1
  have hl : lv_has ls 5 [(0, .ref a), (1, .int v1), (2, .int v2), (3, .long v3)] := hl
  have fr_σ : q_ow [(12, 0), (12, 1)] [(32, 99)] X σ σ := q_ow.rf
  obtain ⟨out, hout⟩ : ∃ o, o = F_X12_write X σ a v1 v2 v3 := ⟨_, rfl⟩
  have hF := hout.symm
  unfold F_X12_write at hF
  refine lv_aload_n hx hb dX12_write_0 rfl (lv_at hl 0 rfl) ?_
  refine lv_iconst (v := 0) hx hb dX12_write_1 (by decide) ?_
  refine ps_X12_59_12 E hI ha (by decide) dX12_write_2 (fun H locs σ_1 hσ_1 hI => ?_)
  replace hF := q_letX hF hσ_1
  have fr_σ_1 := fr_σ.si hσ_1 ha rfl
  have mv0_σ_1 : (σ_1.1 a 0).toInt = (σ.1 a 0).toInt := congrArg Int32.toInt (q_rdn hσ_1 (Or.inr (by decide)))
  have tfσ_1 := m_k31 hI.2.2.2.2.2 hI.1 ha (by decide) v1.toNatClampNeg
  have tbσ_1 := q_bd (f := v1.toNatClampNeg) (lo := -1) (hi := 60) hI (q_tk (f := 5) (k' := 31) hI ha rfl (by decide)) rfl
  refine lv_aload_n hx hb dX12_write_5 rfl (lv_at hl 0 rfl) ?_
  refine lv_aload_n hx hb dX12_write_6 rfl (lv_at hl 0 rfl) ?_
  refine lv_iload_n hx hb dX12_write_7 rfl (lv_at hl 1 rfl) ?_
  refine lv_iload_n hx hb dX12_write_8 rfl (lv_at hl 2 rfl) ?_
  refine q_ci (q_runV (As := [.int v1, .int v2]) (rest := [.ref a]) E (hml.trans hl.1.symm) hI (c_X12_placed l X σ_1 a v1 v2 ha) kv_X12_82 ha ⟨rfl, by decide⟩ (show vwCl[11]? = some (RX12, TX12, 46) from rfl) rfl ⟨Nat.le_of_ble_eq_true rfl, Nat.le_of_ble_eq_true rfl⟩ ⟨Nat.le_refl _, Nat.le_refl _⟩ rfl (Nat.le_of_ble_eq_true rfl) dX12_write_9) hI (by decide) (fun r_2 σ_3 H locs hpσ_3 hkσ_3 hI => ?_)
  obtain ⟨ahpσ_3, bhpσ_3, chpσ_3, dhpσ_3⟩ := hpσ_3
  rw [ahpσ_3] at hI
  replace hF := q_letX hF dhpσ_3
  refine ps_X12_62_12 E hI ha (by decide) dX12_write_12 (fun H locs σ_4 hσ_4 hI => ?_)
  replace hF := q_letX hF hσ_4
  have fr_σ_4 := fr_σ_1.si hσ_4 ha rfl
  have mv0_σ_4 : (σ_4.1 a 0).toInt = r_2.toInt := congrArg Int32.toInt (q_rd hσ_4)
  refine lv_aload_n hx hb dX12_write_15 rfl (lv_at hl 0 rfl) ?_
  refine gs_X12_62_12 E hI ha dX12_write_16 ?_
  refine lv_topi (fun f_5 ef_5 => ?_)
  replace hF := q_letX hF ef_5
  have if_5 : f_5.toInt = (σ_4.1 a 0).toInt := congrArg Int32.toInt ef_5
  refine q_if_le (A := f_5.toInt) E rfl (tgt := 24) dX12_write_19 (by decide) (fun c_6 => ?_) (fun c_6 => ?_)
  · skip
    replace hF := q_ifn hF (Int.not_lt.mpr c_6)
    refine lv_aload_n hx hb dX12_write_24 rfl (lv_at hl 0 rfl) ?_
    refine gs_X12_20_12 E hI ha dX12_write_25 ?_
    refine lv_bipush (v := 60) hx hb dX12_write_28 (by decide) ?_
    refine lv_iload_n hx hb dX12_write_30 rfl (lv_at hl 1 rfl) ?_
    refine lv_imul hx hb dX12_write_31 ?_
    refine lv_topi (fun z_7 ez_7 => ?_)
    replace hF := q_letX hF ez_7
    have iz_7 := q_mulI (A := 60) (B := v1.toInt) ez_7 (by decide) rfl (by first | (clear mv0_σ_1 tfσ_1 tbσ_1 ahpσ_3 dhpσ_3; omega) | omega) (by first | (clear mv0_σ_1 tfσ_1 tbσ_1 ahpσ_3 dhpσ_3; omega) | omega)
    refine lv_iload_n hx hb dX12_write_32 rfl (lv_at hl 2 rfl) ?_
    refine lv_iadd hx hb dX12_write_33 ?_
    refine lv_topi (fun z_8 ez_8 => ?_)
    replace hF := q_letX hF ez_8
    have iz_8 := q_addI (A := (60 * v1.toInt)) (B := v2.toInt) ez_8 iz_7 rfl (by first | (clear mv0_σ_1 ahpσ_3 dhpσ_3 iz_7; omega) | omega) (by first | (clear mv0_σ_1 ahpσ_3 dhpσ_3 iz_7; omega) | omega)
    refine lv_aload_n hx hb dX12_write_34 rfl (lv_at hl 0 rfl) ?_
    refine gs_X12_13_12 E hI ha dX12_write_35 ?_
    refine lv_iload_n hx hb dX12_write_38 rfl (lv_at hl 1 rfl) ?_
    refine q_iald E hI (q_tk (k' := 30) hI ha rfl (by decide)) ⟨by decide, rfl⟩ (by first | (clear mv0_σ_1 tfσ_1 tbσ_1 ahpσ_3 dhpσ_3 iz_7 iz_8; omega) | omega) (by rw [q_lnk (v := 4) hI (q_tk (k' := 30) hI ha rfl (by decide)) rfl (by decide)]; omega) dX12_write_39 ?_
    refine lv_topi (fun f_9 ef_9 => ?_)
    replace hF := q_letX hF ef_9
    have bf_9 : 0 ≤ f_9.toInt ∧ f_9.toInt ≤ 3 := by rw [ef_9]; exact q_bd hI (q_tk (k' := 30) hI ha rfl (by decide)) rfl
    have if_9 : f_9.toInt = (σ_4.1 (q_rf X a 4) (v1 : Int32).toNatClampNeg).toInt := congrArg Int32.toInt ef_9
    refine lv_lload_n hx hb dX12_write_40 rfl (lv_at hl 3 rfl) ?_
    refine q_cl_ (q_runS (As := [.int f_9, .long v3]) (rest := [.int z_8, .ref (q_rf X a 6)]) E (hml.trans hl.1.symm) hI (c_X12_cut l X σ_4 f_9 v3) ks_X12_86 rfl ⟨Nat.le_of_ble_eq_true rfl, Nat.le_of_ble_eq_true rfl⟩ ⟨Nat.le_refl _, Nat.le_refl _⟩ rfl (Nat.le_of_ble_eq_true rfl) dX12_write_41) hI (by decide) (fun r_10 σ_11 H locs hpσ_11 hkσ_11 hI => ?_)
    obtain ⟨ahpσ_11, bhpσ_11⟩ := hpσ_11
    rw [ahpσ_11] at hI
    replace hF := q_letX hF bhpσ_11
    refine q_lastN E hI (q_tk (k' := 32) hI ha rfl (by decide)) ⟨by decide, rfl⟩ (by first | (clear mv0_σ_1 ahpσ_3 dhpσ_3 iz_7 bf_9 if_9 ahpσ_11 bhpσ_11; omega) | omega) (by rw [q_lnk (v := 240) hI (q_tk (k' := 32) hI ha rfl (by decide)) rfl (by decide)]; omega) dX12_write_44 (fun H locs σ_12 hσ_12 hI => ?_)
    replace hF := q_letX hF hσ_12
    have fr_σ_12 := fr_σ_4.sl hσ_12 (q_tk (k' := 32) hI ha rfl (by decide)) rfl
    refine lv_iconst (v := 1) hx hb dX12_write_45 (by decide) ?_
    have hrv : (1 : Int32).toInt = 1 := rfl
    exact q_retz E hr hlk hI ⟨by decide, by decide⟩ ⟨⟨by decide, by decide⟩, (by constructor <;> intro h9 <;> omega), (hF.trans hout), fr_σ_12⟩ dX12_write_46
  · skip
    replace hF := q_ifp hF c_6
    refine lv_iconst (v := 0) hx hb dX12_write_22 (by decide) ?_
    have hrv : (0 : Int32).toInt = 0 := rfl
    exact q_retz E hr hlk hI ⟨by decide, by decide⟩ ⟨⟨by decide, by decide⟩, (by constructor <;> intro h9 <;> omega), (hF.trans hout), fr_σ_4⟩ dX12_write_23

set_option maxRecDepth 100000 in
set_option maxHeartbeats 4000000 in
theorem c_X12_read (l : Launch) (X : XW) (σ : ST) (a : Nat) (v1 : Int32) (v2 : Int32) (ha : q_kd X a = 12) : Met l yX12_read (q_ws yX12_read cX12_read 3 (some .long)) (q_rm 2 44) (q_P X σ [.ref a, .int v1, .int v2]) (q_Ql X 8 σ (fun (r : Int64) (σ' : ST) => (r, σ') = F_X12_read X σ a v1 v2 ∧ q_ow [(12, 0), (12, 1)] [] X σ σ')) 0 0 (q_reg X) := by
  refine q_met 8 (by first | exact rfl | decide +kernel) rfl (Nat.le_of_ble_eq_true rfl) (fun p e s m below meth c E hml hr hlk hI ls hl => ?_)
  have hx := E.1
  have hb := E.2.1
  have hl : lv_has ls 3 [(0, .ref a), (1, .int v1), (2, .int v2)] := hl
  have fr_σ : q_ow [(12, 0), (12, 1)] [] X σ σ := q_ow.rf
  obtain ⟨out, hout⟩ : ∃ o, o = F_X12_read X σ a v1 v2 := ⟨_, rfl⟩
  have hF := hout.symm
  unfold F_X12_read at hF
  refine lv_aload_n hx hb dX12_read_0 rfl (lv_at hl 0 rfl) ?_
  refine lv_iconst (v := 0) hx hb dX12_read_1 (by decide) ?_
  refine ps_X12_59_12 E hI ha (by decide) dX12_read_2 (fun H locs σ_1 hσ_1 hI => ?_)
  replace hF := q_letX hF hσ_1
  have fr_σ_1 := fr_σ.si hσ_1 ha rfl
  have mv0_σ_1 : (σ_1.1 a 0).toInt = (σ.1 a 0).toInt := congrArg Int32.toInt (q_rdn hσ_1 (Or.inr (by decide)))
  have tbσ_1 := q_bd (f := v1.toNatClampNeg) (lo := -1) (hi := 60) hI (q_tk (f := 5) (k' := 31) hI ha rfl (by decide)) rfl
  refine lv_aload_n hx hb dX12_read_5 rfl (lv_at hl 0 rfl) ?_
  refine lv_aload_n hx hb dX12_read_6 rfl (lv_at hl 0 rfl) ?_
  refine lv_iload_n hx hb dX12_read_7 rfl (lv_at hl 1 rfl) ?_
  refine lv_iload_n hx hb dX12_read_8 rfl (lv_at hl 2 rfl) ?_
  refine q_ci (q_runV (As := [.int v1, .int v2]) (rest := [.ref a]) E (hml.trans hl.1.symm) hI (c_X12_placed l X σ_1 a v1 v2 ha) kv_X12_82 ha ⟨rfl, by decide⟩ (show vwCl[11]? = some (RX12, TX12, 46) from rfl) rfl ⟨Nat.le_of_ble_eq_true rfl, Nat.le_of_ble_eq_true rfl⟩ ⟨Nat.le_refl _, Nat.le_refl _⟩ rfl (Nat.le_of_ble_eq_true rfl) dX12_read_9) hI (by decide) (fun r_2 σ_3 H locs hpσ_3 hkσ_3 hI => ?_)
  obtain ⟨ahpσ_3, bhpσ_3, chpσ_3, dhpσ_3⟩ := hpσ_3
  rw [ahpσ_3] at hI
  replace hF := q_letX hF dhpσ_3
  refine ps_X12_62_12 E hI ha (by decide) dX12_read_12 (fun H locs σ_4 hσ_4 hI => ?_)
  replace hF := q_letX hF hσ_4
  have fr_σ_4 := fr_σ_1.si hσ_4 ha rfl
  have mv0_σ_4 : (σ_4.1 a 0).toInt = r_2.toInt := congrArg Int32.toInt (q_rd hσ_4)
  refine lv_aload_n hx hb dX12_read_15 rfl (lv_at hl 0 rfl) ?_
  refine gs_X12_62_12 E hI ha dX12_read_16 ?_
  refine lv_topi (fun f_5 ef_5 => ?_)
  replace hF := q_letX hF ef_5
  have if_5 : f_5.toInt = (σ_4.1 a 0).toInt := congrArg Int32.toInt ef_5
  refine q_if_le (A := f_5.toInt) E rfl (tgt := 28) dX12_read_19 (by decide) (fun c_6 => ?_) (fun c_6 => ?_)
  · skip
    replace hF := q_ifn hF (Int.not_lt.mpr c_6)
    refine lv_aload_n hx hb dX12_read_28 rfl (lv_at hl 0 rfl) ?_
    refine gs_X12_20_12 E hI ha dX12_read_29 ?_
    refine lv_bipush (v := 60) hx hb dX12_read_32 (by decide) ?_
    refine lv_iload_n hx hb dX12_read_34 rfl (lv_at hl 1 rfl) ?_
    refine lv_imul hx hb dX12_read_35 ?_
    refine lv_topi (fun z_7 ez_7 => ?_)
    replace hF := q_letX hF ez_7
    have iz_7 := q_mulI (A := 60) (B := v1.toInt) ez_7 (by decide) rfl (by omega) (by omega)
    refine lv_iload_n hx hb dX12_read_36 rfl (lv_at hl 2 rfl) ?_
    refine lv_iadd hx hb dX12_read_37 ?_
    refine lv_topi (fun z_8 ez_8 => ?_)
    replace hF := q_letX hF ez_8
    have iz_8 := q_addI (A := (60 * v1.toInt)) (B := v2.toInt) ez_8 iz_7 rfl (by first | (clear mv0_σ_1 ahpσ_3 dhpσ_3 iz_7; omega) | omega) (by first | (clear mv0_σ_1 ahpσ_3 dhpσ_3 iz_7; omega) | omega)
    refine q_lald E hI (q_tk (k' := 32) hI ha rfl (by decide)) ⟨by decide, rfl⟩ (by first | (clear mv0_σ_1 ahpσ_3 dhpσ_3 iz_7; omega) | omega) (by rw [q_lnk (v := 240) hI (q_tk (k' := 32) hI ha rfl (by decide)) rfl (by decide)]; omega) dX12_read_38 ?_
    refine lv_topl (fun g_9 eg_9 => ?_)
    replace hF := q_letX hF eg_9
    exact q_retl E hr hlk hI ⟨(hF.trans hout), fr_σ_4⟩ dX12_read_39
  · skip
    replace hF := q_ifp hF c_6
    refine lv_ldc2 (v := (-1)) hx hb E.2.2.1 (E.2.2.2.1 _ (q_in_t7 (i := 163) (by first | rfl | decide +kernel) rfl)) dX12_read_22 ?_
    refine lv_goto (tgt := 39) hx hb dX12_read_25 (by decide) ?_
    exact q_retl E hr hlk hI ⟨(hF.trans hout), fr_σ_4⟩ dX12_read_39

set_option maxRecDepth 100000 in
set_option maxHeartbeats 4000000 in
theorem c_X12_pour (l : Launch) (X : XW) (σ : ST) (a : Nat) (v1 : Int32) (v2 : Int32) (v3 : Int32) (v4 : Int32) (v5 : Int32) (ha : q_kd X a = 12) : Met l yX12_pour (q_ws yX12_pour cX12_pour 9 (some .boolean)) (q_rm 1 21) (q_P X σ [.ref a, .int v1, .int v2, .int v3, .int v4, .int v5]) (q_Qi X 8 σ (fun (r : Int32) (σ' : ST) => (0 ≤ r.toInt ∧ r.toInt ≤ 1) ∧ (r.toInt = 1 ↔ ((0 ≤ v1.toInt ∧ v1.toInt < 4) ∧ (0 ≤ v3.toInt ∧ v3.toInt < 4) ∧ 0 ≤ (σ.1 (q_rf X a 5) v1.toNatClampNeg).toInt ∧ 0 ≤ (σ.1 (q_rf X a 5) v3.toNatClampNeg).toInt ∧ (σ.1 (q_rf X a 4) v1.toNatClampNeg).toInt = (σ.1 (q_rf X a 4) v3.toNatClampNeg).toInt ∧ 0 ≤ v5.toInt ∧ 0 ≤ v2.toInt ∧ v2.toInt + v5.toInt ≤ (σ.1 (q_rf X a 5) v1.toNatClampNeg).toInt ∧ 0 ≤ v4.toInt ∧ v4.toInt + v5.toInt ≤ (σ.1 (q_rf X a 5) v3.toNatClampNeg).toInt)) ∧ (r, σ') = F_X12_pour X σ a v1 v2 v3 v4 v5 ∧ q_ow [(12, 0), (12, 1)] [(32, 99)] X σ σ')) 0 0 (q_reg X) := by
  refine q_met 8 (by first | exact rfl | decide +kernel) rfl (Nat.le_of_ble_eq_true rfl) (fun p e s m below meth c E hml hr hlk hI ls hl => ?_)
  have hx := E.1
  have hb := E.2.1
  have hl : lv_has ls 9 [(0, .ref a), (1, .int v1), (2, .int v2), (3, .int v3), (4, .int v4), (5, .int v5)] := hl
  have fr_σ : q_ow [(12, 0), (12, 1)] [(32, 99)] X σ σ := q_ow.rf
  obtain ⟨out, hout⟩ : ∃ o, o = F_X12_pour X σ a v1 v2 v3 v4 v5 := ⟨_, rfl⟩
  have hF := hout.symm
  unfold F_X12_pour at hF
  refine lv_aload_n hx hb dX12_pour_0 rfl (lv_at hl 0 rfl) ?_
  refine lv_iconst (v := 0) hx hb dX12_pour_1 (by decide) ?_
  refine ps_X12_59_12 E hI ha (by decide) dX12_pour_2 (fun H locs σ_1 hσ_1 hI => ?_)
  replace hF := q_letX hF hσ_1
  have fr_σ_1 := fr_σ.si hσ_1 ha rfl
  refine lv_aload_n hx hb dX12_pour_5 rfl (lv_at hl 0 rfl) ?_
  refine lv_iconst (v := 0) hx hb dX12_pour_6 (by decide) ?_
  refine ps_X12_62_12 E hI ha (by decide) dX12_pour_7 (fun H locs σ_2 hσ_2 hI => ?_)
  replace hF := q_letX hF hσ_2
  have fr_σ_2 := fr_σ_1.si hσ_2 ha rfl
  have tfσ_2 := m_k31 hI.2.2.2.2.2 hI.1 ha (by decide) v1.toNatClampNeg
  have tgσ_2 := m_k31 hI.2.2.2.2.2 hI.1 ha (by decide) v3.toNatClampNeg
  have sfσ_2 := m_k30 hI.2.2.2.2.2 hI.1 ha (by decide) v1.toNatClampNeg
  have sgσ_2 := m_k30 hI.2.2.2.2.2 hI.1 ha (by decide) v3.toNatClampNeg
  refine lv_iload_n hx hb dX12_pour_10 rfl (lv_at hl 1 rfl) ?_
  refine q_if_lt (A := v1.toInt) E rfl (tgt := 28) dX12_pour_11 (by decide) (fun c_3 => ?_) (fun c_3 => ?_)
  · skip
    replace hF := q_ifp hF c_3
    refine lv_aload_n hx hb dX12_pour_28 rfl (lv_at hl 0 rfl) ?_
    refine lv_iconst (v := 1) hx hb dX12_pour_29 (by decide) ?_
    have kc_4 : (1 : Int32).toInt = 1 := rfl
    refine q_ci (q_runV (As := [.int 1]) (rest := []) E (hml.trans hl.1.symm) hI (c_X12_no l X σ_2 a (1 : Int32) ha) kv_X12_74 ha ⟨rfl, by decide⟩ (show vwCl[11]? = some (RX12, TX12, 46) from rfl) rfl ⟨Nat.le_of_ble_eq_true rfl, Nat.le_of_ble_eq_true rfl⟩ ⟨Nat.le_refl _, Nat.le_refl _⟩ rfl (Nat.le_of_ble_eq_true rfl) dX12_pour_30) hI (by decide) (fun r_5 σ_6 H locs hpσ_6 hkσ_6 hI => ?_)
    obtain ⟨ahpσ_6, bhpσ_6, chpσ_6, dhpσ_6⟩ := hpσ_6
    have fr_σ_6 := fr_σ_2.call dhpσ_6 rfl rfl
    replace hF := q_biX hF chpσ_6
    exact q_retz E hr hlk hI ⟨by omega, by omega⟩ ⟨⟨by omega, by omega⟩, (by constructor <;> intro h9 <;> omega), (hF.trans hout), fr_σ_6⟩ dX12_pour_33
  · skip
    replace hF := q_ifn hF (Int.not_lt.mpr c_3)
    refine lv_iload_n hx hb dX12_pour_14 rfl (lv_at hl 1 rfl) ?_
    refine lv_iconst (v := 4) hx hb dX12_pour_15 (by decide) ?_
    have gc_7_v1 := q_rng v1
    refine q_icmp_ge (A := v1.toInt) (B := 4) E rfl (by decide) (tgt := 28) dX12_pour_16 (by decide) (fun c_7 => ?_) (fun c_7 => ?_)
    · skip
      replace hF := q_ifn hF (Int.not_lt.mpr c_7)
      refine lv_aload_n hx hb dX12_pour_28 rfl (lv_at hl 0 rfl) ?_
      refine lv_iconst (v := 1) hx hb dX12_pour_29 (by decide) ?_
      have kc_8 : (1 : Int32).toInt = 1 := rfl
      refine q_ci (q_runV (As := [.int 1]) (rest := []) E (hml.trans hl.1.symm) hI (c_X12_no l X σ_2 a (1 : Int32) ha) kv_X12_74 ha ⟨rfl, by decide⟩ (show vwCl[11]? = some (RX12, TX12, 46) from rfl) rfl ⟨Nat.le_of_ble_eq_true rfl, Nat.le_of_ble_eq_true rfl⟩ ⟨Nat.le_refl _, Nat.le_refl _⟩ rfl (Nat.le_of_ble_eq_true rfl) dX12_pour_30) hI (by decide) (fun r_9 σ_10 H locs hpσ_10 hkσ_10 hI => ?_)
      obtain ⟨ahpσ_10, bhpσ_10, chpσ_10, dhpσ_10⟩ := hpσ_10
      have fr_σ_10 := fr_σ_2.call dhpσ_10 rfl rfl
      replace hF := q_biX hF chpσ_10
      exact q_retz E hr hlk hI ⟨by omega, by omega⟩ ⟨⟨by omega, by omega⟩, (by constructor <;> intro h9 <;> omega), (hF.trans hout), fr_σ_10⟩ dX12_pour_33
    · skip
      replace hF := q_ifp hF c_7
      refine lv_iload_n hx hb dX12_pour_19 rfl (lv_at hl 3 rfl) ?_
      refine q_if_lt (A := v3.toInt) E rfl (tgt := 28) dX12_pour_20 (by decide) (fun c_11 => ?_) (fun c_11 => ?_)
      · skip
        replace hF := q_ifp hF c_11
        refine lv_aload_n hx hb dX12_pour_28 rfl (lv_at hl 0 rfl) ?_
        refine lv_iconst (v := 1) hx hb dX12_pour_29 (by decide) ?_
        have kc_12 : (1 : Int32).toInt = 1 := rfl
        refine q_ci (q_runV (As := [.int 1]) (rest := []) E (hml.trans hl.1.symm) hI (c_X12_no l X σ_2 a (1 : Int32) ha) kv_X12_74 ha ⟨rfl, by decide⟩ (show vwCl[11]? = some (RX12, TX12, 46) from rfl) rfl ⟨Nat.le_of_ble_eq_true rfl, Nat.le_of_ble_eq_true rfl⟩ ⟨Nat.le_refl _, Nat.le_refl _⟩ rfl (Nat.le_of_ble_eq_true rfl) dX12_pour_30) hI (by decide) (fun r_13 σ_14 H locs hpσ_14 hkσ_14 hI => ?_)
        obtain ⟨ahpσ_14, bhpσ_14, chpσ_14, dhpσ_14⟩ := hpσ_14
        have fr_σ_14 := fr_σ_2.call dhpσ_14 rfl rfl
        replace hF := q_biX hF chpσ_14
        exact q_retz E hr hlk hI ⟨by omega, by omega⟩ ⟨⟨by omega, by omega⟩, (by constructor <;> intro h9 <;> omega), (hF.trans hout), fr_σ_14⟩ dX12_pour_33
      · skip
        replace hF := q_ifn hF (Int.not_lt.mpr c_11)
        refine lv_iload_n hx hb dX12_pour_23 rfl (lv_at hl 3 rfl) ?_
        refine lv_iconst (v := 4) hx hb dX12_pour_24 (by decide) ?_
        have gc_15_v3 := q_rng v3
        refine q_icmp_lt (A := v3.toInt) (B := 4) E rfl (by decide) (tgt := 34) dX12_pour_25 (by decide) (fun c_15 => ?_) (fun c_15 => ?_)
        · skip
          replace hF := q_ifp hF c_15
          refine lv_aload_n hx hb dX12_pour_34 rfl (lv_at hl 0 rfl) ?_
          refine gs_X12_17_12 E hI ha dX12_pour_35 ?_
          refine lv_iload_n hx hb dX12_pour_38 rfl (lv_at hl 1 rfl) ?_
          refine q_iald E hI (q_tk (k' := 31) hI ha rfl (by decide)) ⟨by decide, rfl⟩ (by omega) (by rw [q_lnk (v := 4) hI (q_tk (k' := 31) hI ha rfl (by decide)) rfl (by decide)]; omega) dX12_pour_39 ?_
          refine lv_topi (fun f_16 ef_16 => ?_)
          replace hF := q_letX hF ef_16
          have bf_16 : -1 ≤ f_16.toInt ∧ f_16.toInt ≤ 60 := by rw [ef_16]; exact q_bd hI (q_tk (k' := 31) hI ha rfl (by decide)) rfl
          have if_16 : f_16.toInt = (σ_2.1 (q_rf X a 5) (v1 : Int32).toNatClampNeg).toInt := congrArg Int32.toInt ef_16
          refine q_if_lt (A := f_16.toInt) E rfl (tgt := 52) dX12_pour_40 (by decide) (fun c_17 => ?_) (fun c_17 => ?_)
          · skip
            replace hF := q_ifp hF c_17
            refine lv_aload_n hx hb dX12_pour_52 rfl (lv_at hl 0 rfl) ?_
            refine lv_iconst (v := 3) hx hb dX12_pour_53 (by decide) ?_
            have kc_18 : (3 : Int32).toInt = 3 := rfl
            refine q_ci (q_runV (As := [.int 3]) (rest := []) E (hml.trans hl.1.symm) hI (c_X12_no l X σ_2 a (3 : Int32) ha) kv_X12_74 ha ⟨rfl, by decide⟩ (show vwCl[11]? = some (RX12, TX12, 46) from rfl) rfl ⟨Nat.le_of_ble_eq_true rfl, Nat.le_of_ble_eq_true rfl⟩ ⟨Nat.le_refl _, Nat.le_refl _⟩ rfl (Nat.le_of_ble_eq_true rfl) dX12_pour_54) hI (by decide) (fun r_19 σ_20 H locs hpσ_20 hkσ_20 hI => ?_)
            obtain ⟨ahpσ_20, bhpσ_20, chpσ_20, dhpσ_20⟩ := hpσ_20
            have fr_σ_20 := fr_σ_2.call dhpσ_20 rfl rfl
            replace hF := q_biX hF chpσ_20
            exact q_retz E hr hlk hI ⟨by omega, by omega⟩ ⟨⟨by omega, by omega⟩, (by constructor <;> intro h9 <;> omega), (hF.trans hout), fr_σ_20⟩ dX12_pour_57
          · skip
            replace hF := q_ifn hF (Int.not_lt.mpr c_17)
            refine lv_aload_n hx hb dX12_pour_43 rfl (lv_at hl 0 rfl) ?_
            refine gs_X12_17_12 E hI ha dX12_pour_44 ?_
            refine lv_iload_n hx hb dX12_pour_47 rfl (lv_at hl 3 rfl) ?_
            refine q_iald E hI (q_tk (k' := 31) hI ha rfl (by decide)) ⟨by decide, rfl⟩ (by omega) (by rw [q_lnk (v := 4) hI (q_tk (k' := 31) hI ha rfl (by decide)) rfl (by decide)]; omega) dX12_pour_48 ?_
            refine lv_topi (fun f_21 ef_21 => ?_)
            replace hF := q_letX hF ef_21
            have bf_21 : -1 ≤ f_21.toInt ∧ f_21.toInt ≤ 60 := by rw [ef_21]; exact q_bd hI (q_tk (k' := 31) hI ha rfl (by decide)) rfl
            have if_21 : f_21.toInt = (σ_2.1 (q_rf X a 5) (v3 : Int32).toNatClampNeg).toInt := congrArg Int32.toInt ef_21
            refine q_if_ge (A := f_21.toInt) E rfl (tgt := 58) dX12_pour_49 (by decide) (fun c_22 => ?_) (fun c_22 => ?_)
            · skip
              replace hF := q_ifn hF (Int.not_lt.mpr c_22)
              refine lv_aload_n hx hb dX12_pour_58 rfl (lv_at hl 0 rfl) ?_
              refine gs_X12_13_12 E hI ha dX12_pour_59 ?_
              refine lv_iload_n hx hb dX12_pour_62 rfl (lv_at hl 1 rfl) ?_
              refine q_iald E hI (q_tk (k' := 30) hI ha rfl (by decide)) ⟨by decide, rfl⟩ (by omega) (by rw [q_lnk (v := 4) hI (q_tk (k' := 30) hI ha rfl (by decide)) rfl (by decide)]; omega) dX12_pour_63 ?_
              refine lv_topi (fun f_23 ef_23 => ?_)
              replace hF := q_letX hF ef_23
              have bf_23 : 0 ≤ f_23.toInt ∧ f_23.toInt ≤ 3 := by rw [ef_23]; exact q_bd hI (q_tk (k' := 30) hI ha rfl (by decide)) rfl
              have if_23 : f_23.toInt = (σ_2.1 (q_rf X a 4) (v1 : Int32).toNatClampNeg).toInt := congrArg Int32.toInt ef_23
              refine lv_aload_n hx hb dX12_pour_64 rfl (lv_at hl 0 rfl) ?_
              refine gs_X12_13_12 E hI ha dX12_pour_65 ?_
              refine lv_iload_n hx hb dX12_pour_68 rfl (lv_at hl 3 rfl) ?_
              refine q_iald E hI (q_tk (k' := 30) hI ha rfl (by decide)) ⟨by decide, rfl⟩ (by omega) (by rw [q_lnk (v := 4) hI (q_tk (k' := 30) hI ha rfl (by decide)) rfl (by decide)]; omega) dX12_pour_69 ?_
              refine lv_topi (fun f_24 ef_24 => ?_)
              replace hF := q_letX hF ef_24
              have bf_24 : 0 ≤ f_24.toInt ∧ f_24.toInt ≤ 3 := by rw [ef_24]; exact q_bd hI (q_tk (k' := 30) hI ha rfl (by decide)) rfl
              have if_24 : f_24.toInt = (σ_2.1 (q_rf X a 4) (v3 : Int32).toNatClampNeg).toInt := congrArg Int32.toInt ef_24
              have gc_25_f_23 := q_rng f_23
              have gc_25_f_24 := q_rng f_24
              refine q_icmp_eq (A := f_23.toInt) (B := f_24.toInt) E rfl rfl (tgt := 80) dX12_pour_70 (by decide) (fun c_25 => ?_) (fun c_25 => ?_)
              · skip
                replace hF := q_ifp hF c_25
                refine lv_iload hx hb dX12_pour_80 (lv_at hl 5 rfl) ?_
                refine q_if_ge (A := v5.toInt) E rfl (tgt := 92) dX12_pour_82 (by decide) (fun c_26 => ?_) (fun c_26 => ?_)
                · skip
                  replace hF := q_ifn hF (Int.not_lt.mpr c_26)
                  refine lv_iload_n hx hb dX12_pour_92 rfl (lv_at hl 2 rfl) ?_
                  refine q_if_lt (A := v2.toInt) E rfl (tgt := 136) dX12_pour_93 (by decide) (fun c_27 => ?_) (fun c_27 => ?_)
                  · skip
                    replace hF := q_ifp hF c_27
                    refine lv_aload_n hx hb dX12_pour_136 rfl (lv_at hl 0 rfl) ?_
                    refine lv_iconst (v := 4) hx hb dX12_pour_137 (by decide) ?_
                    have kc_28 : (4 : Int32).toInt = 4 := rfl
                    refine q_ci (q_runV (As := [.int 4]) (rest := []) E (hml.trans hl.1.symm) hI (c_X12_no l X σ_2 a (4 : Int32) ha) kv_X12_74 ha ⟨rfl, by decide⟩ (show vwCl[11]? = some (RX12, TX12, 46) from rfl) rfl ⟨Nat.le_of_ble_eq_true rfl, Nat.le_of_ble_eq_true rfl⟩ ⟨Nat.le_refl _, Nat.le_refl _⟩ rfl (Nat.le_of_ble_eq_true rfl) dX12_pour_138) hI (by decide) (fun r_29 σ_30 H locs hpσ_30 hkσ_30 hI => ?_)
                    obtain ⟨ahpσ_30, bhpσ_30, chpσ_30, dhpσ_30⟩ := hpσ_30
                    have fr_σ_30 := fr_σ_2.call dhpσ_30 rfl rfl
                    replace hF := q_biX hF chpσ_30
                    exact q_retz E hr hlk hI ⟨by omega, by omega⟩ ⟨⟨by omega, by omega⟩, (by constructor <;> intro h9 <;> omega), (hF.trans hout), fr_σ_30⟩ dX12_pour_141
                  · skip
                    replace hF := q_ifn hF (Int.not_lt.mpr c_27)
                    refine lv_iload hx hb dX12_pour_96 (lv_at hl 4 rfl) ?_
                    refine q_if_lt (A := v4.toInt) E rfl (tgt := 136) dX12_pour_98 (by decide) (fun c_31 => ?_) (fun c_31 => ?_)
                    · skip
                      replace hF := q_ifp hF c_31
                      refine lv_aload_n hx hb dX12_pour_136 rfl (lv_at hl 0 rfl) ?_
                      refine lv_iconst (v := 4) hx hb dX12_pour_137 (by decide) ?_
                      have kc_32 : (4 : Int32).toInt = 4 := rfl
                      refine q_ci (q_runV (As := [.int 4]) (rest := []) E (hml.trans hl.1.symm) hI (c_X12_no l X σ_2 a (4 : Int32) ha) kv_X12_74 ha ⟨rfl, by decide⟩ (show vwCl[11]? = some (RX12, TX12, 46) from rfl) rfl ⟨Nat.le_of_ble_eq_true rfl, Nat.le_of_ble_eq_true rfl⟩ ⟨Nat.le_refl _, Nat.le_refl _⟩ rfl (Nat.le_of_ble_eq_true rfl) dX12_pour_138) hI (by decide) (fun r_33 σ_34 H locs hpσ_34 hkσ_34 hI => ?_)
                      obtain ⟨ahpσ_34, bhpσ_34, chpσ_34, dhpσ_34⟩ := hpσ_34
                      have fr_σ_34 := fr_σ_2.call dhpσ_34 rfl rfl
                      replace hF := q_biX hF chpσ_34
                      exact q_retz E hr hlk hI ⟨by omega, by omega⟩ ⟨⟨by omega, by omega⟩, (by constructor <;> intro h9 <;> omega), (hF.trans hout), fr_σ_34⟩ dX12_pour_141
                    · skip
                      replace hF := q_ifn hF (Int.not_lt.mpr c_31)
                      refine lv_iload_n hx hb dX12_pour_101 rfl (lv_at hl 2 rfl) ?_
                      refine lv_i2l hx hb dX12_pour_102 rfl ?_
                      refine lv_topl (fun y_35 ey_35 => ?_)
                      replace hF := q_letX hF ey_35
                      have ggy_35 := q_rng v2
                      have iy_35 : y_35.toInt = v2.toInt := by rw [ey_35]; exact (q_i2l _).trans rfl
                      refine lv_iload hx hb dX12_pour_103 (lv_at hl 5 rfl) ?_
                      refine lv_i2l hx hb dX12_pour_105 rfl ?_
                      refine lv_topl (fun y_36 ey_36 => ?_)
                      replace hF := q_letX hF ey_36
                      have ggy_36 := q_rng v5
                      have iy_36 : y_36.toInt = v5.toInt := by rw [ey_36]; exact (q_i2l _).trans rfl
                      refine lv_ladd hx hb dX12_pour_106 ?_
                      refine lv_topl (fun y_37 ey_37 => ?_)
                      replace hF := q_letX hF ey_37
                      have iy_37 := q_addJ (A := y_35.toInt) (B := y_36.toInt) ey_37 rfl rfl (by first | (clear tfσ_2 tgσ_2 sfσ_2 sgσ_2 c_3 gc_7_v1 c_7 c_11 gc_15_v3 c_15 bf_16 if_16 c_17 bf_21 if_21 c_22 bf_23 if_23 bf_24 if_24 gc_25_f_23 gc_25_f_24 c_25 c_31; omega) | omega) (by first | (clear tfσ_2 tgσ_2 sfσ_2 sgσ_2 c_3 gc_7_v1 c_7 c_11 gc_15_v3 c_15 bf_16 if_16 c_17 bf_21 if_21 c_22 bf_23 if_23 bf_24 if_24 gc_25_f_23 gc_25_f_24 c_25 c_31; omega) | omega)
                      refine lv_aload_n hx hb dX12_pour_107 rfl (lv_at hl 0 rfl) ?_
                      refine gs_X12_17_12 E hI ha dX12_pour_108 ?_
                      refine lv_iload_n hx hb dX12_pour_111 rfl (lv_at hl 1 rfl) ?_
                      refine q_iald E hI (q_tk (k' := 31) hI ha rfl (by decide)) ⟨by decide, rfl⟩ (by omega) (by rw [q_lnk (v := 4) hI (q_tk (k' := 31) hI ha rfl (by decide)) rfl (by decide)]; omega) dX12_pour_112 ?_
                      refine lv_topi (fun f_38 ef_38 => ?_)
                      replace hF := q_letX hF ef_38
                      have bf_38 : -1 ≤ f_38.toInt ∧ f_38.toInt ≤ 60 := by rw [ef_38]; exact q_bd hI (q_tk (k' := 31) hI ha rfl (by decide)) rfl
                      have if_38 : f_38.toInt = (σ_2.1 (q_rf X a 5) (v1 : Int32).toNatClampNeg).toInt := congrArg Int32.toInt ef_38
                      refine lv_i2l hx hb dX12_pour_113 rfl ?_
                      refine lv_topl (fun y_39 ey_39 => ?_)
                      replace hF := q_letX hF ey_39
                      have ggy_39 := q_rng f_38
                      have iy_39 : y_39.toInt = f_38.toInt := by rw [ey_39]; exact (q_i2l _).trans rfl
                      refine q_lcmpX E dX12_pour_114 (fun z_40 ez_40 hz_40 => ?_)
                      replace hF := q_letX hF ez_40
                      refine q_if_gt (A := z_40.toInt) E rfl (tgt := 136) dX12_pour_115 (by decide) (fun c_41 => ?_) (fun c_41 => ?_)
                      · skip
                        replace hF := q_ifp hF c_41
                        refine lv_aload_n hx hb dX12_pour_136 rfl (lv_at hl 0 rfl) ?_
                        refine lv_iconst (v := 4) hx hb dX12_pour_137 (by decide) ?_
                        have kc_42 : (4 : Int32).toInt = 4 := rfl
                        refine q_ci (q_runV (As := [.int 4]) (rest := []) E (hml.trans hl.1.symm) hI (c_X12_no l X σ_2 a (4 : Int32) ha) kv_X12_74 ha ⟨rfl, by decide⟩ (show vwCl[11]? = some (RX12, TX12, 46) from rfl) rfl ⟨Nat.le_of_ble_eq_true rfl, Nat.le_of_ble_eq_true rfl⟩ ⟨Nat.le_refl _, Nat.le_refl _⟩ rfl (Nat.le_of_ble_eq_true rfl) dX12_pour_138) hI (by decide) (fun r_43 σ_44 H locs hpσ_44 hkσ_44 hI => ?_)
                        obtain ⟨ahpσ_44, bhpσ_44, chpσ_44, dhpσ_44⟩ := hpσ_44
                        have fr_σ_44 := fr_σ_2.call dhpσ_44 rfl rfl
                        replace hF := q_biX hF chpσ_44
                        exact q_retz E hr hlk hI ⟨by omega, by omega⟩ ⟨⟨by omega, by omega⟩, (by constructor <;> intro h9 <;> omega), (hF.trans hout), fr_σ_44⟩ dX12_pour_141
                      · skip
                        replace hF := q_ifn hF (Int.not_lt.mpr c_41)
                        refine lv_iload hx hb dX12_pour_118 (lv_at hl 4 rfl) ?_
                        refine lv_i2l hx hb dX12_pour_120 rfl ?_
                        refine lv_topl (fun y_45 ey_45 => ?_)
                        replace hF := q_letX hF ey_45
                        have ggy_45 := q_rng v4
                        have iy_45 : y_45.toInt = v4.toInt := by rw [ey_45]; exact (q_i2l _).trans rfl
                        refine lv_iload hx hb dX12_pour_121 (lv_at hl 5 rfl) ?_
                        refine lv_i2l hx hb dX12_pour_123 rfl ?_
                        refine lv_topl (fun y_46 ey_46 => ?_)
                        replace hF := q_letX hF ey_46
                        have ggy_46 := q_rng v5
                        have iy_46 : y_46.toInt = v5.toInt := by rw [ey_46]; exact (q_i2l _).trans rfl
                        refine lv_ladd hx hb dX12_pour_124 ?_
                        refine lv_topl (fun y_47 ey_47 => ?_)
                        replace hF := q_letX hF ey_47
                        have iy_47 := q_addJ (A := y_45.toInt) (B := y_46.toInt) ey_47 rfl rfl (by first | (clear tfσ_2 tgσ_2 sfσ_2 sgσ_2 c_3 gc_7_v1 c_7 c_11 gc_15_v3 c_15 bf_16 if_16 c_17 bf_21 if_21 c_22 bf_23 if_23 bf_24 if_24 gc_25_f_23 gc_25_f_24 c_25 c_27 ggy_35 iy_35 iy_37 bf_38 if_38 ggy_39 iy_39 hz_40 c_41 ggy_46; omega) | omega) (by first | (clear tfσ_2 tgσ_2 sfσ_2 sgσ_2 c_3 gc_7_v1 c_7 c_11 gc_15_v3 c_15 bf_16 if_16 c_17 bf_21 if_21 c_22 bf_23 if_23 bf_24 if_24 gc_25_f_23 gc_25_f_24 c_25 c_27 ggy_35 iy_35 iy_37 bf_38 if_38 ggy_39 iy_39 hz_40 c_41 ggy_46; omega) | omega)
                        refine lv_aload_n hx hb dX12_pour_125 rfl (lv_at hl 0 rfl) ?_
                        refine gs_X12_17_12 E hI ha dX12_pour_126 ?_
                        refine lv_iload_n hx hb dX12_pour_129 rfl (lv_at hl 3 rfl) ?_
                        refine q_iald E hI (q_tk (k' := 31) hI ha rfl (by decide)) ⟨by decide, rfl⟩ (by omega) (by rw [q_lnk (v := 4) hI (q_tk (k' := 31) hI ha rfl (by decide)) rfl (by decide)]; omega) dX12_pour_130 ?_
                        refine lv_topi (fun f_48 ef_48 => ?_)
                        replace hF := q_letX hF ef_48
                        have bf_48 : -1 ≤ f_48.toInt ∧ f_48.toInt ≤ 60 := by rw [ef_48]; exact q_bd hI (q_tk (k' := 31) hI ha rfl (by decide)) rfl
                        have if_48 : f_48.toInt = (σ_2.1 (q_rf X a 5) (v3 : Int32).toNatClampNeg).toInt := congrArg Int32.toInt ef_48
                        refine lv_i2l hx hb dX12_pour_131 rfl ?_
                        refine lv_topl (fun y_49 ey_49 => ?_)
                        replace hF := q_letX hF ey_49
                        have ggy_49 := q_rng f_48
                        have iy_49 : y_49.toInt = f_48.toInt := by rw [ey_49]; exact (q_i2l _).trans rfl
                        refine q_lcmpX E dX12_pour_132 (fun z_50 ez_50 hz_50 => ?_)
                        replace hF := q_letX hF ez_50
                        refine q_if_le (A := z_50.toInt) E rfl (tgt := 142) dX12_pour_133 (by decide) (fun c_51 => ?_) (fun c_51 => ?_)
                        · skip
                          replace hF := q_ifn hF (Int.not_lt.mpr c_51)
                          refine lv_iload_n hx hb dX12_pour_142 rfl (lv_at hl 2 rfl) ?_
                          refine lv_iload hx hb dX12_pour_143 (lv_at hl 4 rfl) ?_
                          have gc_52_v2 := q_rng v2
                          have gc_52_v4 := q_rng v4
                          refine q_icmp_ge (A := v2.toInt) (B := v4.toInt) E rfl rfl (tgt := 152) dX12_pour_145 (by decide) (fun c_52 => ?_) (fun c_52 => ?_)
                          · skip
                            replace hF := q_ifn hF (Int.not_lt.mpr c_52)
                            refine lv_iconst (v := 0) hx hb dX12_pour_152 (by decide) ?_
                            refine lv_istore (lv' := [(6, .int 0), (0, .ref a), (1, .int v1), (2, .int v2), (3, .int v3), (4, .int v4), (5, .int v5)]) hx hb dX12_pour_153 hl (by decide) rfl (fun ls hl => ?_)
                            refine lv_iconst (v := 0) hx hb dX12_pour_155 (by decide) ?_
                            refine lv_istore (lv' := [(7, .int 0), (6, .int 0), (0, .ref a), (1, .int v1), (2, .int v2), (3, .int v3), (4, .int v4), (5, .int v5)]) hx hb dX12_pour_156 hl (by decide) rfl (fun ls hl => ?_)
                            have L_158_55 : ∀ (k_55 : Nat) (x_53 : Int32) (σ_54 : ST) (H : Heap) (locs : List Loc) (ls : Array Slot), (2147483647 - x_53.toInt).toNat < k_55 → (0 ≤ x_53.toInt) → (q_ow [(12, 0), (12, 1)] [(32, 99)] X σ σ_54) → (F_X12_pour_L158_1 X v5 v3 v4 v1 v2 a k_55 x_53 σ_54 = out) → q_I X 8 σ s.heap locs σ_54 H → lv_has ls 9 [(0, .ref a), (1, .int v1), (2, .int v2), (3, .int v3), (4, .int v4), (5, .int v5), (6, .int 0), (7, .int x_53)] → W p l e (q_rm 1 21) s m ([.ref a, .int v1, .int v2, .int v3, .int v4, .int v5] : List Value).toArray below meth c H locs 0 0 (MQ below (q_Qi X 8 σ (fun (r : Int32) (σ' : ST) => (0 ≤ r.toInt ∧ r.toInt ≤ 1) ∧ (r.toInt = 1 ↔ ((0 ≤ v1.toInt ∧ v1.toInt < 4) ∧ (0 ≤ v3.toInt ∧ v3.toInt < 4) ∧ 0 ≤ (σ.1 (q_rf X a 5) v1.toNatClampNeg).toInt ∧ 0 ≤ (σ.1 (q_rf X a 5) v3.toNatClampNeg).toInt ∧ (σ.1 (q_rf X a 4) v1.toNatClampNeg).toInt = (σ.1 (q_rf X a 4) v3.toNatClampNeg).toInt ∧ 0 ≤ v5.toInt ∧ 0 ≤ v2.toInt ∧ v2.toInt + v5.toInt ≤ (σ.1 (q_rf X a 5) v1.toNatClampNeg).toInt ∧ 0 ≤ v4.toInt ∧ v4.toInt + v5.toInt ≤ (σ.1 (q_rf X a 5) v3.toNatClampNeg).toInt)) ∧ (r, σ') = F_X12_pour X σ a v1 v2 v3 v4 v5 ∧ q_ow [(12, 0), (12, 1)] [(32, 99)] X σ σ')) ([.ref a, .int v1, .int v2, .int v3, .int v4, .int v5] : List Value).toArray s 0 0 (q_reg X)) (F0 m 158 ls []) := by
                              clear hF
                              intro k_55
                              induction k_55 with
                              | zero =>
                                intro x_53 σ_54 H locs ls hms
                                exact absurd hms (Nat.not_lt_zero _)
                              | succ k_55 ih158 =>
                                intro x_53 σ_54 H locs ls hm158 hge158 fr_σ_54 hF hI hl
                                replace hF := (F_X12_pour_L158_1_s).symm.trans hF
                                unfold F_X12_pour_B158_1 at hF
                                refine lv_iload hx hb dX12_pour_158 (lv_at hl 7 rfl) ?_
                                refine lv_iload hx hb dX12_pour_160 (lv_at hl 5 rfl) ?_
                                have gc_56_x_53 := q_rng x_53
                                have gc_56_v5 := q_rng v5
                                refine q_icmp_ge (A := x_53.toInt) (B := v5.toInt) E rfl rfl (tgt := 219) dX12_pour_162 (by decide) (fun c_56 => ?_) (fun c_56 => ?_)
                                · skip
                                  replace hF := q_ifn hF (Int.not_lt.mpr c_56)
                                  skip
                                  refine lv_iconst (v := 1) hx hb dX12_pour_219 (by decide) ?_
                                  have hrv : (1 : Int32).toInt = 1 := rfl
                                  exact q_retz E hr hlk hI ⟨by decide, by decide⟩ ⟨⟨by decide, by decide⟩, (by constructor <;> intro h9 <;> omega), (hF.trans hout), fr_σ_54⟩ dX12_pour_220
                                · skip
                                  replace hF := q_ifp hF c_56
                                  refine lv_iload hx hb dX12_pour_165 (lv_at hl 6 rfl) ?_
                                  refine q_if_eq (A := 0) E (by decide) (tgt := 180) dX12_pour_167 (by decide) (fun c_57 => ?_) (fun c_57 => ?_)
                                  · skip
                                    replace hF := q_ifp hF c_57
                                    refine lv_iload hx hb dX12_pour_180 (lv_at hl 7 rfl) ?_
                                    refine lv_istore (lv' := [(8, .int x_53), (0, .ref a), (1, .int v1), (2, .int v2), (3, .int v3), (4, .int v4), (5, .int v5), (6, .int 0), (7, .int x_53)]) hx hb dX12_pour_182 hl (by decide) rfl (fun ls hl => ?_)
                                    refine lv_aload_n hx hb dX12_pour_184 rfl (lv_at hl 1 rfl) ?_
                                    refine gs_X12_20_12 E hI ha dX12_pour_185 ?_
                                    refine lv_bipush (v := 60) hx hb dX12_pour_188 (by decide) ?_
                                    refine lv_iload_n hx hb dX12_pour_190 rfl (lv_at hl 4 rfl) ?_
                                    refine lv_imul hx hb dX12_pour_191 ?_
                                    refine lv_topi (fun z_58 ez_58 => ?_)
                                    replace hF := q_letX hF ez_58
                                    have iz_58 := q_mulI (A := 60) (B := v3.toInt) ez_58 (by decide) rfl (by first | (clear tfσ_2 tgσ_2 sfσ_2 sgσ_2 c_3 gc_7_v1 c_7 bf_16 if_16 c_17 bf_21 if_21 c_22 bf_23 if_23 bf_24 if_24 gc_25_f_23 gc_25_f_24 c_25 c_26 c_27 c_31 ggy_35 iy_35 ggy_36 iy_36 iy_37 bf_38 if_38 ggy_39 iy_39 hz_40 c_41 ggy_45 iy_45 ggy_46 iy_46 iy_47 bf_48 if_48 ggy_49 iy_49 hz_50 c_51 gc_52_v2 gc_52_v4 c_52 hm158 hge158 gc_56_x_53 gc_56_v5 c_56 c_57; omega) | omega) (by first | (clear tfσ_2 tgσ_2 sfσ_2 sgσ_2 c_3 gc_7_v1 c_7 bf_16 if_16 c_17 bf_21 if_21 c_22 bf_23 if_23 bf_24 if_24 gc_25_f_23 gc_25_f_24 c_25 c_26 c_27 c_31 ggy_35 iy_35 ggy_36 iy_36 iy_37 bf_38 if_38 ggy_39 iy_39 hz_40 c_41 ggy_45 iy_45 ggy_46 iy_46 iy_47 bf_48 if_48 ggy_49 iy_49 hz_50 c_51 gc_52_v2 gc_52_v4 c_52 hm158 hge158 gc_56_x_53 gc_56_v5 c_56 c_57; omega) | omega)
                                    refine lv_iload hx hb dX12_pour_192 (lv_at hl 5 rfl) ?_
                                    refine lv_iadd hx hb dX12_pour_194 ?_
                                    refine lv_topi (fun z_59 ez_59 => ?_)
                                    replace hF := q_letX hF ez_59
                                    have iz_59 := q_addI (A := (60 * v3.toInt)) (B := v4.toInt) ez_59 iz_58 rfl (by first | (clear tfσ_2 tgσ_2 sfσ_2 sgσ_2 c_3 gc_7_v1 c_7 bf_16 if_16 c_17 bf_21 if_21 c_22 bf_23 if_23 bf_24 if_24 gc_25_f_23 gc_25_f_24 c_25 c_26 c_27 ggy_35 iy_35 ggy_36 iy_36 iy_37 bf_38 if_38 ggy_39 iy_39 hz_40 c_41 ggy_46 iy_46 bf_48 if_48 ggy_49 iy_49 hz_50 c_51 gc_52_v2 gc_52_v4 c_52 hm158 hge158 gc_56_x_53 gc_56_v5 c_56 c_57 iz_58; omega) | omega) (by first | (clear tfσ_2 sfσ_2 sgσ_2 c_3 gc_7_v1 c_7 bf_16 if_16 c_17 bf_23 if_23 bf_24 if_24 gc_25_f_23 gc_25_f_24 c_25 c_27 ggy_35 iy_35 iy_37 bf_38 if_38 ggy_39 iy_39 hz_40 c_41 ggy_46 bf_48 ggy_49 gc_52_v2 gc_52_v4 c_52 hm158 gc_56_v5 c_57 iz_58; omega) | omega)
                                    refine lv_iload hx hb dX12_pour_195 (lv_at hl 0 rfl) ?_
                                    refine lv_iadd hx hb dX12_pour_197 ?_
                                    refine lv_topi (fun z_60 ez_60 => ?_)
                                    replace hF := q_letX hF ez_60
                                    have iz_60 := q_addI (A := ((60 * v3.toInt) + v4.toInt)) (B := x_53.toInt) ez_60 iz_59 rfl (by first | (clear tfσ_2 tgσ_2 sfσ_2 sgσ_2 c_3 gc_7_v1 c_7 bf_16 if_16 c_17 bf_21 if_21 c_22 bf_23 if_23 bf_24 if_24 gc_25_f_23 gc_25_f_24 c_25 c_26 c_27 ggy_35 iy_35 ggy_36 iy_36 iy_37 bf_38 if_38 ggy_39 iy_39 hz_40 c_41 ggy_46 iy_46 bf_48 if_48 ggy_49 iy_49 hz_50 c_51 gc_52_v2 gc_52_v4 c_52 hm158 gc_56_v5 c_56 c_57 iz_58; omega) | omega) (by first | (clear tfσ_2 sfσ_2 sgσ_2 c_3 gc_7_v1 c_7 bf_16 if_16 c_17 bf_23 if_23 bf_24 if_24 gc_25_f_23 gc_25_f_24 c_25 c_27 ggy_35 iy_35 iy_37 bf_38 if_38 ggy_39 iy_39 hz_40 c_41 ggy_46 bf_48 ggy_49 gc_52_v2 gc_52_v4 c_52 hm158 gc_56_v5 c_57 iz_58; omega) | omega)
                                    refine lv_aload_n hx hb dX12_pour_198 rfl (lv_at hl 1 rfl) ?_
                                    refine gs_X12_20_12 E hI ha dX12_pour_199 ?_
                                    refine lv_bipush (v := 60) hx hb dX12_pour_202 (by decide) ?_
                                    refine lv_iload_n hx hb dX12_pour_204 rfl (lv_at hl 2 rfl) ?_
                                    refine lv_imul hx hb dX12_pour_205 ?_
                                    refine lv_topi (fun z_61 ez_61 => ?_)
                                    replace hF := q_letX hF ez_61
                                    have iz_61 := q_mulI (A := 60) (B := v1.toInt) ez_61 (by decide) rfl (by first | (clear tfσ_2 tgσ_2 sfσ_2 sgσ_2 c_11 gc_15_v3 c_15 bf_16 if_16 c_17 bf_21 if_21 c_22 bf_23 if_23 bf_24 if_24 gc_25_f_23 gc_25_f_24 c_25 c_26 c_27 c_31 ggy_35 iy_35 ggy_36 iy_36 iy_37 bf_38 if_38 ggy_39 iy_39 hz_40 c_41 ggy_45 iy_45 ggy_46 iy_46 iy_47 bf_48 if_48 ggy_49 iy_49 hz_50 c_51 gc_52_v2 gc_52_v4 c_52 hm158 hge158 gc_56_x_53 gc_56_v5 c_56 c_57 iz_58 iz_59 iz_60; omega) | omega) (by first | (clear tfσ_2 tgσ_2 sfσ_2 sgσ_2 c_11 gc_15_v3 c_15 bf_16 if_16 c_17 bf_21 if_21 c_22 bf_23 if_23 bf_24 if_24 gc_25_f_23 gc_25_f_24 c_25 c_26 c_27 c_31 ggy_35 iy_35 ggy_36 iy_36 iy_37 bf_38 if_38 ggy_39 iy_39 hz_40 c_41 ggy_45 iy_45 ggy_46 iy_46 iy_47 bf_48 if_48 ggy_49 iy_49 hz_50 c_51 gc_52_v2 gc_52_v4 c_52 hm158 hge158 gc_56_x_53 gc_56_v5 c_56 c_57 iz_58 iz_59 iz_60; omega) | omega)
                                    refine lv_iload_n hx hb dX12_pour_206 rfl (lv_at hl 3 rfl) ?_
                                    refine lv_iadd hx hb dX12_pour_207 ?_
                                    refine lv_topi (fun z_62 ez_62 => ?_)
                                    replace hF := q_letX hF ez_62
                                    have iz_62 := q_addI (A := (60 * v1.toInt)) (B := v2.toInt) ez_62 iz_61 rfl (by first | (clear tfσ_2 tgσ_2 sfσ_2 sgσ_2 c_11 gc_15_v3 c_15 bf_16 if_16 c_17 bf_21 if_21 c_22 bf_23 if_23 bf_24 if_24 gc_25_f_23 gc_25_f_24 c_25 c_26 c_31 ggy_36 bf_38 if_38 ggy_39 iy_39 hz_40 c_41 ggy_45 ggy_46 bf_48 if_48 ggy_49 iy_49 hz_50 c_51 gc_52_v2 gc_52_v4 c_52 hm158 hge158 gc_56_x_53 gc_56_v5 c_56 c_57 iz_58 iz_60 iz_61; omega) | omega) (by first | (clear tgσ_2 sfσ_2 sgσ_2 c_11 gc_15_v3 c_15 bf_21 if_21 c_22 bf_23 if_23 bf_24 if_24 gc_25_f_23 gc_25_f_24 c_25 c_31 bf_38 ggy_39 ggy_45 ggy_46 bf_48 if_48 ggy_49 iy_49 gc_52_v2 gc_52_v4 c_52 hm158 gc_56_v5 c_57 iz_58 iz_61; omega) | omega)
                                    refine lv_iload hx hb dX12_pour_208 (lv_at hl 0 rfl) ?_
                                    refine lv_iadd hx hb dX12_pour_210 ?_
                                    refine lv_topi (fun z_63 ez_63 => ?_)
                                    replace hF := q_letX hF ez_63
                                    have iz_63 := q_addI (A := ((60 * v1.toInt) + v2.toInt)) (B := x_53.toInt) ez_63 iz_62 rfl (by first | (clear tfσ_2 tgσ_2 sfσ_2 sgσ_2 c_11 gc_15_v3 c_15 bf_16 if_16 c_17 bf_21 if_21 c_22 bf_23 if_23 bf_24 if_24 gc_25_f_23 gc_25_f_24 c_25 c_31 bf_38 if_38 ggy_39 iy_39 hz_40 c_41 ggy_45 ggy_46 bf_48 if_48 ggy_49 iy_49 hz_50 c_51 gc_52_v2 gc_52_v4 c_52 hm158 gc_56_v5 c_57 iz_58 iz_61; omega) | omega) (by first | (clear tgσ_2 sfσ_2 sgσ_2 c_11 gc_15_v3 c_15 bf_21 if_21 c_22 bf_23 if_23 bf_24 if_24 gc_25_f_23 gc_25_f_24 c_25 c_27 c_31 ggy_35 bf_38 ggy_39 ggy_45 ggy_46 bf_48 if_48 ggy_49 iy_49 gc_52_v2 gc_52_v4 c_52 hm158 gc_56_v5 c_57 iz_58 iz_61; omega) | omega)
                                    refine q_lald E hI (q_tk (k' := 32) hI ha rfl (by decide)) ⟨by decide, rfl⟩ (by first | (clear tfσ_2 tgσ_2 sfσ_2 sgσ_2 c_11 gc_15_v3 c_15 bf_16 if_16 c_17 bf_21 if_21 c_22 bf_23 if_23 bf_24 if_24 gc_25_f_23 gc_25_f_24 c_25 c_27 ggy_35 bf_38 if_38 ggy_39 iy_39 hz_40 c_41 ggy_46 bf_48 if_48 ggy_49 iy_49 hz_50 c_51 gc_52_v2 gc_52_v4 hm158 gc_56_v5 c_57 iz_58 iz_61; omega) | omega) (by rw [q_lnk (v := 240) hI (q_tk (k' := 32) hI ha rfl (by decide)) rfl (by decide)]; omega) dX12_pour_211 ?_
                                    refine lv_topl (fun g_64 eg_64 => ?_)
                                    replace hF := q_letX hF eg_64
                                    refine q_lastN E hI (q_tk (k' := 32) hI ha rfl (by decide)) ⟨by decide, rfl⟩ (by first | (clear tfσ_2 tgσ_2 sfσ_2 sgσ_2 c_3 gc_7_v1 c_7 bf_16 if_16 c_17 bf_21 if_21 c_22 bf_23 if_23 bf_24 if_24 gc_25_f_23 gc_25_f_24 c_25 c_27 ggy_35 bf_38 if_38 ggy_39 iy_39 hz_40 c_41 ggy_46 bf_48 if_48 ggy_49 iy_49 hz_50 c_51 gc_52_v2 gc_52_v4 c_52 hm158 gc_56_v5 c_57 iz_58 iz_61; omega) | omega) (by rw [q_lnk (v := 240) hI (q_tk (k' := 32) hI ha rfl (by decide)) rfl (by decide)]; omega) dX12_pour_212 (fun H locs σ_65 hσ_65 hI => ?_)
                                    replace hF := q_letX hF hσ_65
                                    have fr_σ_65 := fr_σ_54.sl hσ_65 (q_tk (k' := 32) hI ha rfl (by decide)) rfl
                                    obtain ⟨z_66, ez_66⟩ : ∃ y : Int32, y = x_53 + 1 := ⟨_, rfl⟩
                                    replace hF := q_letX hF ez_66
                                    refine lv_iinc (v := z_66) (lv' := [(7, .int z_66), (8, .int x_53), (0, .ref a), (1, .int v1), (2, .int v2), (3, .int v3), (4, .int v4), (5, .int v5), (6, .int 0)]) hx hb dX12_pour_213 hl (k := 8) rfl (by rw [ez_66]; rfl) (by decide) rfl (fun ls hl => ?_)
                                    have iz_66 : z_66.toInt = x_53.toInt + 1 := q_inc ez_66 (by first | (clear tfσ_2 tgσ_2 sfσ_2 sgσ_2 c_3 gc_7_v1 c_7 c_11 gc_15_v3 c_15 bf_16 if_16 c_17 bf_21 if_21 c_22 bf_23 if_23 bf_24 if_24 gc_25_f_23 gc_25_f_24 c_25 c_27 c_31 ggy_35 bf_38 if_38 ggy_39 iy_39 hz_40 c_41 ggy_45 ggy_46 bf_48 if_48 ggy_49 iy_49 hz_50 c_51 gc_52_v2 gc_52_v4 c_52 hm158 gc_56_v5 c_57 iz_58 iz_61; omega) | omega)
                                    refine lv_goto (tgt := 158) hx hb dX12_pour_216 (by decide) ?_
                                    exact ih158 z_66 σ_65 _ _ ls (by first | (clear tfσ_2 tgσ_2 sfσ_2 sgσ_2 c_3 gc_7_v1 c_7 c_11 gc_15_v3 c_15 bf_16 if_16 c_17 bf_21 if_21 c_22 bf_23 if_23 bf_24 if_24 gc_25_f_23 gc_25_f_24 c_25 c_27 c_31 ggy_35 bf_38 if_38 ggy_39 iy_39 hz_40 c_41 ggy_45 ggy_46 bf_48 if_48 ggy_49 iy_49 hz_50 c_51 gc_52_v2 gc_52_v4 c_52 gc_56_v5 c_57 iz_58 iz_61; omega) | omega) (by first | (clear tfσ_2 tgσ_2 sfσ_2 sgσ_2 c_3 gc_7_v1 c_7 c_11 gc_15_v3 c_15 bf_16 if_16 c_17 bf_21 if_21 c_22 bf_23 if_23 bf_24 if_24 gc_25_f_23 gc_25_f_24 c_25 c_26 c_27 c_31 ggy_35 ggy_36 bf_38 if_38 ggy_39 iy_39 hz_40 c_41 ggy_45 ggy_46 bf_48 if_48 ggy_49 iy_49 hz_50 c_51 gc_52_v2 gc_52_v4 c_52 hm158 gc_56_v5 c_56 c_57 iz_58 iz_61; omega) | omega) fr_σ_65 hF hI (lv_sub hl [2, 3, 4, 5, 6, 7, 8, 0] rfl)
                                  · skip
                                    replace hF := q_ifn hF c_57
                                    refine lv_iload hx hb dX12_pour_170 (lv_at hl 5 rfl) ?_
                                    refine lv_iconst (v := 1) hx hb dX12_pour_172 (by decide) ?_
                                    refine lv_isub hx hb dX12_pour_173 ?_
                                    refine lv_topi (fun z_67 ez_67 => ?_)
                                    replace hF := q_letX hF ez_67
                                    have iz_67 := q_subI (A := v5.toInt) (B := 1) ez_67 rfl (by decide) (by first | (clear tfσ_2 tgσ_2 sfσ_2 sgσ_2 c_3 gc_7_v1 c_7 c_11 gc_15_v3 c_15 bf_16 if_16 c_17 bf_21 if_21 c_22 bf_23 if_23 bf_24 if_24 gc_25_f_23 gc_25_f_24 c_25 c_27 c_31 ggy_35 iy_35 iy_37 bf_38 if_38 ggy_39 iy_39 hz_40 c_41 ggy_45 iy_45 ggy_46 iy_47 bf_48 if_48 ggy_49 iy_49 hz_50 c_51 gc_52_v2 gc_52_v4 c_52 hm158 hge158 gc_56_x_53 gc_56_v5 c_56 c_57; omega) | omega) (by first | (clear tfσ_2 tgσ_2 sfσ_2 sgσ_2 c_3 gc_7_v1 c_7 c_11 gc_15_v3 c_15 bf_16 if_16 c_17 bf_21 if_21 c_22 bf_23 if_23 bf_24 if_24 gc_25_f_23 gc_25_f_24 c_25 c_27 c_31 ggy_35 iy_35 iy_37 bf_38 if_38 ggy_39 iy_39 hz_40 c_41 ggy_45 iy_45 ggy_46 iy_47 bf_48 if_48 ggy_49 iy_49 hz_50 c_51 gc_52_v2 gc_52_v4 c_52 hm158 hge158 gc_56_x_53 gc_56_v5 c_56 c_57; omega) | omega)
                                    refine lv_iload hx hb dX12_pour_174 (lv_at hl 7 rfl) ?_
                                    refine lv_isub hx hb dX12_pour_176 ?_
                                    refine lv_topi (fun z_68 ez_68 => ?_)
                                    replace hF := q_letX hF ez_68
                                    have iz_68 := q_subI (A := (v5.toInt - 1)) (B := x_53.toInt) ez_68 iz_67 rfl (by first | (clear tfσ_2 tgσ_2 sfσ_2 sgσ_2 c_3 gc_7_v1 c_7 c_11 gc_15_v3 c_15 bf_16 if_16 c_17 bf_21 if_21 c_22 bf_23 if_23 bf_24 if_24 gc_25_f_23 gc_25_f_24 c_25 c_26 c_27 c_31 ggy_35 iy_35 ggy_36 iy_37 bf_38 if_38 ggy_39 iy_39 hz_40 c_41 ggy_45 iy_45 ggy_46 iy_47 bf_48 if_48 ggy_49 iy_49 hz_50 c_51 gc_52_v2 gc_52_v4 c_52 hm158 hge158 gc_56_x_53 gc_56_v5 c_57; omega) | omega) (by first | (clear tfσ_2 tgσ_2 sfσ_2 sgσ_2 c_3 gc_7_v1 c_7 c_11 gc_15_v3 c_15 bf_16 if_16 c_17 bf_21 if_21 c_22 bf_23 if_23 bf_24 if_24 gc_25_f_23 gc_25_f_24 c_25 c_27 c_31 ggy_35 iy_35 iy_37 bf_38 if_38 ggy_39 iy_39 hz_40 c_41 ggy_45 iy_45 ggy_46 iy_47 bf_48 if_48 ggy_49 iy_49 hz_50 c_51 gc_52_v2 gc_52_v4 c_52 hm158 gc_56_v5 c_56 c_57; omega) | omega)
                                    refine lv_goto (tgt := 182) hx hb dX12_pour_177 (by decide) ?_
                                    refine lv_istore (lv' := [(8, .int z_68), (0, .ref a), (1, .int v1), (2, .int v2), (3, .int v3), (4, .int v4), (5, .int v5), (6, .int 0), (7, .int x_53)]) hx hb dX12_pour_182 hl (by decide) rfl (fun ls hl => ?_)
                                    refine lv_aload_n hx hb dX12_pour_184 rfl (lv_at hl 1 rfl) ?_
                                    refine gs_X12_20_12 E hI ha dX12_pour_185 ?_
                                    refine lv_bipush (v := 60) hx hb dX12_pour_188 (by decide) ?_
                                    refine lv_iload_n hx hb dX12_pour_190 rfl (lv_at hl 4 rfl) ?_
                                    refine lv_imul hx hb dX12_pour_191 ?_
                                    refine lv_topi (fun z_69 ez_69 => ?_)
                                    replace hF := q_letX hF ez_69
                                    have iz_69 := q_mulI (A := 60) (B := v3.toInt) ez_69 (by decide) rfl (by first | (clear tfσ_2 tgσ_2 sfσ_2 sgσ_2 c_3 gc_7_v1 c_7 bf_16 if_16 c_17 bf_21 if_21 c_22 bf_23 if_23 bf_24 if_24 gc_25_f_23 gc_25_f_24 c_25 c_26 c_27 c_31 ggy_35 iy_35 ggy_36 iy_36 iy_37 bf_38 if_38 ggy_39 iy_39 hz_40 c_41 ggy_45 iy_45 ggy_46 iy_46 iy_47 bf_48 if_48 ggy_49 iy_49 hz_50 c_51 gc_52_v2 gc_52_v4 c_52 hm158 hge158 gc_56_x_53 gc_56_v5 c_56 c_57 iz_67 iz_68; omega) | omega) (by first | (clear tfσ_2 tgσ_2 sfσ_2 sgσ_2 c_3 gc_7_v1 c_7 bf_16 if_16 c_17 bf_21 if_21 c_22 bf_23 if_23 bf_24 if_24 gc_25_f_23 gc_25_f_24 c_25 c_26 c_27 c_31 ggy_35 iy_35 ggy_36 iy_36 iy_37 bf_38 if_38 ggy_39 iy_39 hz_40 c_41 ggy_45 iy_45 ggy_46 iy_46 iy_47 bf_48 if_48 ggy_49 iy_49 hz_50 c_51 gc_52_v2 gc_52_v4 c_52 hm158 hge158 gc_56_x_53 gc_56_v5 c_56 c_57 iz_67 iz_68; omega) | omega)
                                    refine lv_iload hx hb dX12_pour_192 (lv_at hl 5 rfl) ?_
                                    refine lv_iadd hx hb dX12_pour_194 ?_
                                    refine lv_topi (fun z_70 ez_70 => ?_)
                                    replace hF := q_letX hF ez_70
                                    have iz_70 := q_addI (A := (60 * v3.toInt)) (B := v4.toInt) ez_70 iz_69 rfl (by first | (clear tfσ_2 tgσ_2 sfσ_2 sgσ_2 c_3 gc_7_v1 c_7 bf_16 if_16 c_17 bf_21 if_21 c_22 bf_23 if_23 bf_24 if_24 gc_25_f_23 gc_25_f_24 c_25 c_26 c_27 ggy_35 iy_35 ggy_36 iy_37 bf_38 if_38 ggy_39 iy_39 hz_40 c_41 ggy_46 bf_48 if_48 ggy_49 iy_49 hz_50 c_51 gc_52_v2 gc_52_v4 c_52 hm158 hge158 gc_56_x_53 gc_56_v5 c_56 c_57 iz_68 iz_69; omega) | omega) (by first | (clear tfσ_2 tgσ_2 sfσ_2 sgσ_2 c_3 gc_7_v1 c_7 c_11 gc_15_v3 c_15 bf_16 if_16 c_17 bf_21 if_21 c_22 bf_23 if_23 bf_24 if_24 gc_25_f_23 gc_25_f_24 c_25 c_26 c_27 c_31 ggy_35 iy_35 ggy_36 iy_36 iy_37 bf_38 if_38 ggy_39 iy_39 hz_40 c_41 ggy_45 iy_45 ggy_46 iy_46 iy_47 bf_48 if_48 ggy_49 iy_49 hz_50 c_51 gc_52_v2 gc_52_v4 c_52 hm158 hge158 gc_56_x_53 gc_56_v5 c_56 iz_67 iz_68 iz_69; omega) | omega)
                                    refine lv_iload hx hb dX12_pour_195 (lv_at hl 0 rfl) ?_
                                    refine lv_iadd hx hb dX12_pour_197 ?_
                                    refine lv_topi (fun z_71 ez_71 => ?_)
                                    replace hF := q_letX hF ez_71
                                    have iz_71 := q_addI (A := ((60 * v3.toInt) + v4.toInt)) (B := ((v5.toInt - 1) - x_53.toInt)) ez_71 iz_70 iz_68 (by first | (clear tfσ_2 tgσ_2 sfσ_2 sgσ_2 c_3 gc_7_v1 c_7 bf_16 if_16 c_17 bf_21 if_21 c_22 bf_23 if_23 bf_24 if_24 gc_25_f_23 gc_25_f_24 c_25 c_27 ggy_35 iy_35 iy_37 bf_38 if_38 ggy_39 iy_39 hz_40 c_41 ggy_46 bf_48 if_48 ggy_49 iy_49 hz_50 c_51 gc_52_v2 gc_52_v4 c_52 hm158 gc_56_v5 c_57 iz_69; omega) | omega) (by first | (clear tfσ_2 tgσ_2 sfσ_2 sgσ_2 c_3 gc_7_v1 c_7 c_11 gc_15_v3 c_15 bf_16 if_16 c_17 bf_21 if_21 c_22 bf_23 if_23 bf_24 if_24 gc_25_f_23 gc_25_f_24 c_25 c_26 c_27 c_31 ggy_35 iy_35 ggy_36 iy_36 iy_37 bf_38 if_38 ggy_39 iy_39 hz_40 c_41 ggy_45 iy_45 ggy_46 iy_46 iy_47 bf_48 if_48 ggy_49 iy_49 hz_50 c_51 gc_52_v2 gc_52_v4 c_52 hm158 hge158 gc_56_x_53 gc_56_v5 c_56 iz_67 iz_68 iz_69 iz_70; omega) | omega)
                                    refine lv_aload_n hx hb dX12_pour_198 rfl (lv_at hl 1 rfl) ?_
                                    refine gs_X12_20_12 E hI ha dX12_pour_199 ?_
                                    refine lv_bipush (v := 60) hx hb dX12_pour_202 (by decide) ?_
                                    refine lv_iload_n hx hb dX12_pour_204 rfl (lv_at hl 2 rfl) ?_
                                    refine lv_imul hx hb dX12_pour_205 ?_
                                    refine lv_topi (fun z_72 ez_72 => ?_)
                                    replace hF := q_letX hF ez_72
                                    have iz_72 := q_mulI (A := 60) (B := v1.toInt) ez_72 (by decide) rfl (by first | (clear tfσ_2 tgσ_2 sfσ_2 sgσ_2 c_11 gc_15_v3 c_15 bf_16 if_16 c_17 bf_21 if_21 c_22 bf_23 if_23 bf_24 if_24 gc_25_f_23 gc_25_f_24 c_25 c_26 c_27 c_31 ggy_35 iy_35 ggy_36 iy_36 iy_37 bf_38 if_38 ggy_39 iy_39 hz_40 c_41 ggy_45 iy_45 ggy_46 iy_46 iy_47 bf_48 if_48 ggy_49 iy_49 hz_50 c_51 gc_52_v2 gc_52_v4 c_52 hm158 hge158 gc_56_x_53 gc_56_v5 c_56 c_57 iz_67 iz_68 iz_69 iz_70 iz_71; omega) | omega) (by first | (clear tfσ_2 tgσ_2 sfσ_2 sgσ_2 c_11 gc_15_v3 c_15 bf_16 if_16 c_17 bf_21 if_21 c_22 bf_23 if_23 bf_24 if_24 gc_25_f_23 gc_25_f_24 c_25 c_26 c_27 c_31 ggy_35 iy_35 ggy_36 iy_36 iy_37 bf_38 if_38 ggy_39 iy_39 hz_40 c_41 ggy_45 iy_45 ggy_46 iy_46 iy_47 bf_48 if_48 ggy_49 iy_49 hz_50 c_51 gc_52_v2 gc_52_v4 c_52 hm158 hge158 gc_56_x_53 gc_56_v5 c_56 c_57 iz_67 iz_68 iz_69 iz_70 iz_71; omega) | omega)
                                    refine lv_iload_n hx hb dX12_pour_206 rfl (lv_at hl 3 rfl) ?_
                                    refine lv_iadd hx hb dX12_pour_207 ?_
                                    refine lv_topi (fun z_73 ez_73 => ?_)
                                    replace hF := q_letX hF ez_73
                                    have iz_73 := q_addI (A := (60 * v1.toInt)) (B := v2.toInt) ez_73 iz_72 rfl (by first | (clear tfσ_2 tgσ_2 sfσ_2 sgσ_2 c_11 gc_15_v3 c_15 bf_16 if_16 c_17 bf_21 if_21 c_22 bf_23 if_23 bf_24 if_24 gc_25_f_23 gc_25_f_24 c_25 c_26 c_31 ggy_36 bf_38 if_38 ggy_39 iy_39 hz_40 c_41 ggy_45 iy_45 ggy_46 iy_47 bf_48 if_48 ggy_49 iy_49 hz_50 c_51 gc_52_v2 gc_52_v4 c_52 hm158 hge158 gc_56_x_53 gc_56_v5 c_56 c_57 iz_68 iz_69 iz_70 iz_71 iz_72; omega) | omega) (by first | (clear tfσ_2 tgσ_2 sfσ_2 sgσ_2 c_3 gc_7_v1 c_7 c_11 gc_15_v3 c_15 bf_16 if_16 c_17 bf_21 if_21 c_22 bf_23 if_23 bf_24 if_24 gc_25_f_23 gc_25_f_24 c_25 c_26 c_27 c_31 ggy_35 iy_35 ggy_36 iy_36 iy_37 bf_38 if_38 ggy_39 iy_39 hz_40 c_41 ggy_45 iy_45 ggy_46 iy_46 iy_47 bf_48 if_48 ggy_49 iy_49 hz_50 c_51 gc_52_v2 gc_52_v4 c_52 hm158 hge158 gc_56_x_53 gc_56_v5 c_56 iz_67 iz_68 iz_69 iz_70 iz_71 iz_72; omega) | omega)
                                    refine lv_iload hx hb dX12_pour_208 (lv_at hl 0 rfl) ?_
                                    refine lv_iadd hx hb dX12_pour_210 ?_
                                    refine lv_topi (fun z_74 ez_74 => ?_)
                                    replace hF := q_letX hF ez_74
                                    have iz_74 := q_addI (A := ((60 * v1.toInt) + v2.toInt)) (B := ((v5.toInt - 1) - x_53.toInt)) ez_74 iz_73 iz_68 (by first | (clear tfσ_2 tgσ_2 sfσ_2 sgσ_2 c_11 gc_15_v3 c_15 bf_16 if_16 c_17 bf_21 if_21 c_22 bf_23 if_23 bf_24 if_24 gc_25_f_23 gc_25_f_24 c_25 c_31 bf_38 if_38 ggy_39 iy_39 hz_40 c_41 ggy_45 ggy_46 bf_48 if_48 ggy_49 iy_49 hz_50 c_51 gc_52_v2 gc_52_v4 c_52 hm158 gc_56_v5 c_57 iz_69 iz_72; omega) | omega) (by first | (clear tfσ_2 tgσ_2 sfσ_2 sgσ_2 c_3 gc_7_v1 c_7 c_11 gc_15_v3 c_15 bf_16 if_16 c_17 bf_21 if_21 c_22 bf_23 if_23 bf_24 if_24 gc_25_f_23 gc_25_f_24 c_25 c_26 c_27 c_31 ggy_35 iy_35 ggy_36 iy_36 iy_37 bf_38 if_38 ggy_39 iy_39 hz_40 c_41 ggy_45 iy_45 ggy_46 iy_46 iy_47 bf_48 if_48 ggy_49 iy_49 hz_50 c_51 gc_52_v2 gc_52_v4 c_52 hm158 hge158 gc_56_x_53 gc_56_v5 c_56 iz_67 iz_68 iz_69 iz_70 iz_71 iz_72 iz_73; omega) | omega)
                                    refine q_lald E hI (q_tk (k' := 32) hI ha rfl (by decide)) ⟨by decide, rfl⟩ (by first | (clear tfσ_2 tgσ_2 sfσ_2 sgσ_2 c_11 gc_15_v3 c_15 bf_16 if_16 c_17 bf_21 if_21 c_22 bf_23 if_23 bf_24 if_24 gc_25_f_23 gc_25_f_24 c_25 c_27 ggy_35 bf_38 if_38 ggy_39 iy_39 hz_40 c_41 ggy_46 bf_48 if_48 ggy_49 iy_49 hz_50 c_51 gc_52_v2 gc_52_v4 hm158 gc_56_v5 c_57 iz_69 iz_72; omega) | omega) (by rw [q_lnk (v := 240) hI (q_tk (k' := 32) hI ha rfl (by decide)) rfl (by decide)]; omega) dX12_pour_211 ?_
                                    refine lv_topl (fun g_75 eg_75 => ?_)
                                    replace hF := q_letX hF eg_75
                                    refine q_lastN E hI (q_tk (k' := 32) hI ha rfl (by decide)) ⟨by decide, rfl⟩ (by first | (clear tfσ_2 tgσ_2 sfσ_2 sgσ_2 c_3 gc_7_v1 c_7 bf_16 if_16 c_17 bf_21 if_21 c_22 bf_23 if_23 bf_24 if_24 gc_25_f_23 gc_25_f_24 c_25 c_26 c_27 ggy_35 ggy_36 bf_38 if_38 ggy_39 iy_39 hz_40 c_41 ggy_46 bf_48 if_48 ggy_49 iy_49 hz_50 c_51 gc_52_v2 gc_52_v4 c_52 hm158 hge158 gc_56_x_53 gc_56_v5 c_57 iz_69 iz_72; omega) | omega) (by rw [q_lnk (v := 240) hI (q_tk (k' := 32) hI ha rfl (by decide)) rfl (by decide)]; omega) dX12_pour_212 (fun H locs σ_76 hσ_76 hI => ?_)
                                    replace hF := q_letX hF hσ_76
                                    have fr_σ_76 := fr_σ_54.sl hσ_76 (q_tk (k' := 32) hI ha rfl (by decide)) rfl
                                    obtain ⟨z_77, ez_77⟩ : ∃ y : Int32, y = x_53 + 1 := ⟨_, rfl⟩
                                    replace hF := q_letX hF ez_77
                                    refine lv_iinc (v := z_77) (lv' := [(7, .int z_77), (8, .int z_68), (0, .ref a), (1, .int v1), (2, .int v2), (3, .int v3), (4, .int v4), (5, .int v5), (6, .int 0)]) hx hb dX12_pour_213 hl (k := 8) rfl (by rw [ez_77]; rfl) (by decide) rfl (fun ls hl => ?_)
                                    have iz_77 : z_77.toInt = x_53.toInt + 1 := q_inc ez_77 (by first | (clear tfσ_2 tgσ_2 sfσ_2 sgσ_2 c_3 gc_7_v1 c_7 c_11 gc_15_v3 c_15 bf_16 if_16 c_17 bf_21 if_21 c_22 bf_23 if_23 bf_24 if_24 gc_25_f_23 gc_25_f_24 c_25 c_27 c_31 ggy_35 bf_38 if_38 ggy_39 iy_39 hz_40 c_41 ggy_45 ggy_46 bf_48 if_48 ggy_49 iy_49 hz_50 c_51 gc_52_v2 gc_52_v4 c_52 hm158 gc_56_v5 c_57 iz_69 iz_72; omega) | omega)
                                    refine lv_goto (tgt := 158) hx hb dX12_pour_216 (by decide) ?_
                                    exact ih158 z_77 σ_76 _ _ ls (by first | (clear tfσ_2 tgσ_2 sfσ_2 sgσ_2 c_3 gc_7_v1 c_7 c_11 gc_15_v3 c_15 bf_16 if_16 c_17 bf_21 if_21 c_22 bf_23 if_23 bf_24 if_24 gc_25_f_23 gc_25_f_24 c_25 c_26 c_27 c_31 ggy_35 iy_35 ggy_36 iy_36 iy_37 bf_38 if_38 ggy_39 iy_39 hz_40 c_41 ggy_45 iy_45 ggy_46 iy_46 iy_47 bf_48 if_48 ggy_49 iy_49 hz_50 c_51 gc_52_v2 gc_52_v4 c_52 hm158 hge158 gc_56_x_53 gc_56_v5 c_56 iz_67 iz_68 iz_69 iz_70 iz_71 iz_72 iz_73 iz_74 iz_77; omega) | omega) (by first | (clear tfσ_2 tgσ_2 sfσ_2 sgσ_2 c_3 gc_7_v1 c_7 c_11 gc_15_v3 c_15 bf_16 if_16 c_17 bf_21 if_21 c_22 bf_23 if_23 bf_24 if_24 gc_25_f_23 gc_25_f_24 c_25 c_26 c_27 c_31 ggy_35 ggy_36 bf_38 if_38 ggy_39 iy_39 hz_40 c_41 ggy_45 ggy_46 bf_48 if_48 ggy_49 iy_49 hz_50 c_51 gc_52_v2 gc_52_v4 c_52 hm158 gc_56_v5 c_56 c_57 iz_69 iz_72; omega) | omega) fr_σ_76 hF hI (lv_sub hl [2, 3, 4, 5, 6, 7, 8, 0] rfl)
                            exact L_158_55 ((2147483647 - (0 : Int32).toInt).toNat + 1) 0 σ_2 _ _ ls (Nat.lt_succ_self _) (by decide) fr_σ_2 hF hI (lv_sub hl [2, 3, 4, 5, 6, 7, 1, 0] rfl)
                          · skip
                            replace hF := q_ifp hF c_52
                            refine lv_iconst (v := 1) hx hb dX12_pour_148 (by decide) ?_
                            refine lv_goto (tgt := 153) hx hb dX12_pour_149 (by decide) ?_
                            refine lv_istore (lv' := [(6, .int 1), (0, .ref a), (1, .int v1), (2, .int v2), (3, .int v3), (4, .int v4), (5, .int v5)]) hx hb dX12_pour_153 hl (by decide) rfl (fun ls hl => ?_)
                            refine lv_iconst (v := 0) hx hb dX12_pour_155 (by decide) ?_
                            refine lv_istore (lv' := [(7, .int 0), (6, .int 1), (0, .ref a), (1, .int v1), (2, .int v2), (3, .int v3), (4, .int v4), (5, .int v5)]) hx hb dX12_pour_156 hl (by decide) rfl (fun ls hl => ?_)
                            have L_158_80 : ∀ (k_80 : Nat) (x_78 : Int32) (σ_79 : ST) (H : Heap) (locs : List Loc) (ls : Array Slot), (2147483647 - x_78.toInt).toNat < k_80 → (0 ≤ x_78.toInt) → (q_ow [(12, 0), (12, 1)] [(32, 99)] X σ σ_79) → (F_X12_pour_L158_3 X v5 v3 v4 v1 v2 a k_80 x_78 σ_79 = out) → q_I X 8 σ s.heap locs σ_79 H → lv_has ls 9 [(0, .ref a), (1, .int v1), (2, .int v2), (3, .int v3), (4, .int v4), (5, .int v5), (6, .int 1), (7, .int x_78)] → W p l e (q_rm 1 21) s m ([.ref a, .int v1, .int v2, .int v3, .int v4, .int v5] : List Value).toArray below meth c H locs 0 0 (MQ below (q_Qi X 8 σ (fun (r : Int32) (σ' : ST) => (0 ≤ r.toInt ∧ r.toInt ≤ 1) ∧ (r.toInt = 1 ↔ ((0 ≤ v1.toInt ∧ v1.toInt < 4) ∧ (0 ≤ v3.toInt ∧ v3.toInt < 4) ∧ 0 ≤ (σ.1 (q_rf X a 5) v1.toNatClampNeg).toInt ∧ 0 ≤ (σ.1 (q_rf X a 5) v3.toNatClampNeg).toInt ∧ (σ.1 (q_rf X a 4) v1.toNatClampNeg).toInt = (σ.1 (q_rf X a 4) v3.toNatClampNeg).toInt ∧ 0 ≤ v5.toInt ∧ 0 ≤ v2.toInt ∧ v2.toInt + v5.toInt ≤ (σ.1 (q_rf X a 5) v1.toNatClampNeg).toInt ∧ 0 ≤ v4.toInt ∧ v4.toInt + v5.toInt ≤ (σ.1 (q_rf X a 5) v3.toNatClampNeg).toInt)) ∧ (r, σ') = F_X12_pour X σ a v1 v2 v3 v4 v5 ∧ q_ow [(12, 0), (12, 1)] [(32, 99)] X σ σ')) ([.ref a, .int v1, .int v2, .int v3, .int v4, .int v5] : List Value).toArray s 0 0 (q_reg X)) (F0 m 158 ls []) := by
                              clear hF
                              intro k_80
                              induction k_80 with
                              | zero =>
                                intro x_78 σ_79 H locs ls hms
                                exact absurd hms (Nat.not_lt_zero _)
                              | succ k_80 ih158 =>
                                intro x_78 σ_79 H locs ls hm158 hge158 fr_σ_79 hF hI hl
                                replace hF := (F_X12_pour_L158_3_s).symm.trans hF
                                unfold F_X12_pour_B158_3 at hF
                                refine lv_iload hx hb dX12_pour_158 (lv_at hl 7 rfl) ?_
                                refine lv_iload hx hb dX12_pour_160 (lv_at hl 5 rfl) ?_
                                have gc_81_x_78 := q_rng x_78
                                have gc_81_v5 := q_rng v5
                                refine q_icmp_ge (A := x_78.toInt) (B := v5.toInt) E rfl rfl (tgt := 219) dX12_pour_162 (by decide) (fun c_81 => ?_) (fun c_81 => ?_)
                                · skip
                                  replace hF := q_ifn hF (Int.not_lt.mpr c_81)
                                  skip
                                  refine lv_iconst (v := 1) hx hb dX12_pour_219 (by decide) ?_
                                  have hrv : (1 : Int32).toInt = 1 := rfl
                                  exact q_retz E hr hlk hI ⟨by decide, by decide⟩ ⟨⟨by decide, by decide⟩, (by constructor <;> intro h9 <;> omega), (hF.trans hout), fr_σ_79⟩ dX12_pour_220
                                · skip
                                  replace hF := q_ifp hF c_81
                                  refine lv_iload hx hb dX12_pour_165 (lv_at hl 6 rfl) ?_
                                  refine q_if_eq (A := 1) E (by decide) (tgt := 180) dX12_pour_167 (by decide) (fun c_82 => ?_) (fun c_82 => ?_)
                                  · skip
                                    replace hF := q_ifp hF c_82
                                    refine lv_iload hx hb dX12_pour_180 (lv_at hl 7 rfl) ?_
                                    refine lv_istore (lv' := [(8, .int x_78), (0, .ref a), (1, .int v1), (2, .int v2), (3, .int v3), (4, .int v4), (5, .int v5), (6, .int 1), (7, .int x_78)]) hx hb dX12_pour_182 hl (by decide) rfl (fun ls hl => ?_)
                                    refine lv_aload_n hx hb dX12_pour_184 rfl (lv_at hl 1 rfl) ?_
                                    refine gs_X12_20_12 E hI ha dX12_pour_185 ?_
                                    refine lv_bipush (v := 60) hx hb dX12_pour_188 (by decide) ?_
                                    refine lv_iload_n hx hb dX12_pour_190 rfl (lv_at hl 4 rfl) ?_
                                    refine lv_imul hx hb dX12_pour_191 ?_
                                    refine lv_topi (fun z_83 ez_83 => ?_)
                                    replace hF := q_letX hF ez_83
                                    have iz_83 := q_mulI (A := 60) (B := v3.toInt) ez_83 (by decide) rfl (by first | (clear tfσ_2 tgσ_2 sfσ_2 sgσ_2 c_3 gc_7_v1 c_7 c_11 gc_15_v3 c_15 bf_16 if_16 c_17 bf_21 if_21 c_22 bf_23 if_23 bf_24 if_24 gc_25_f_23 gc_25_f_24 c_25 c_26 c_27 c_31 ggy_35 iy_35 ggy_36 iy_36 iy_37 bf_38 if_38 ggy_39 iy_39 hz_40 c_41 ggy_45 iy_45 ggy_46 iy_46 iy_47 bf_48 if_48 ggy_49 iy_49 hz_50 c_51 gc_52_v2 gc_52_v4 c_52 hm158 hge158 gc_81_x_78 gc_81_v5 c_81; omega) | omega) (by first | (clear tfσ_2 tgσ_2 sfσ_2 sgσ_2 c_3 gc_7_v1 c_7 c_11 gc_15_v3 c_15 bf_16 if_16 c_17 bf_21 if_21 c_22 bf_23 if_23 bf_24 if_24 gc_25_f_23 gc_25_f_24 c_25 c_26 c_27 c_31 ggy_35 iy_35 ggy_36 iy_36 iy_37 bf_38 if_38 ggy_39 iy_39 hz_40 c_41 ggy_45 iy_45 ggy_46 iy_46 iy_47 bf_48 if_48 ggy_49 iy_49 hz_50 c_51 gc_52_v2 gc_52_v4 c_52 hm158 hge158 gc_81_x_78 gc_81_v5 c_81; omega) | omega)
                                    refine lv_iload hx hb dX12_pour_192 (lv_at hl 5 rfl) ?_
                                    refine lv_iadd hx hb dX12_pour_194 ?_
                                    refine lv_topi (fun z_84 ez_84 => ?_)
                                    replace hF := q_letX hF ez_84
                                    have iz_84 := q_addI (A := (60 * v3.toInt)) (B := v4.toInt) ez_84 iz_83 rfl (by first | (clear tfσ_2 tgσ_2 sfσ_2 sgσ_2 c_3 gc_7_v1 c_7 c_11 gc_15_v3 c_15 bf_16 if_16 c_17 bf_21 if_21 c_22 bf_23 if_23 bf_24 if_24 gc_25_f_23 gc_25_f_24 c_25 c_26 c_27 c_31 ggy_35 iy_35 ggy_36 iy_36 iy_37 bf_38 if_38 ggy_39 iy_39 hz_40 c_41 ggy_45 iy_45 ggy_46 iy_46 iy_47 bf_48 if_48 ggy_49 iy_49 hz_50 c_51 gc_52_v2 gc_52_v4 c_52 hm158 hge158 gc_81_x_78 gc_81_v5 c_81 iz_83; omega) | omega) (by first | (clear tfσ_2 tgσ_2 sfσ_2 sgσ_2 c_3 gc_7_v1 c_7 c_11 gc_15_v3 c_15 bf_16 if_16 c_17 bf_21 if_21 c_22 bf_23 if_23 bf_24 if_24 gc_25_f_23 gc_25_f_24 c_25 c_26 c_27 c_31 ggy_35 iy_35 ggy_36 iy_36 iy_37 bf_38 if_38 ggy_39 iy_39 hz_40 c_41 ggy_45 iy_45 ggy_46 iy_46 iy_47 bf_48 if_48 ggy_49 iy_49 hz_50 c_51 gc_52_v2 gc_52_v4 c_52 hm158 hge158 gc_81_x_78 gc_81_v5 c_81 iz_83; omega) | omega)
                                    refine lv_iload hx hb dX12_pour_195 (lv_at hl 0 rfl) ?_
                                    refine lv_iadd hx hb dX12_pour_197 ?_
                                    refine lv_topi (fun z_85 ez_85 => ?_)
                                    replace hF := q_letX hF ez_85
                                    have iz_85 := q_addI (A := ((60 * v3.toInt) + v4.toInt)) (B := x_78.toInt) ez_85 iz_84 rfl (by first | (clear tfσ_2 tgσ_2 sfσ_2 sgσ_2 c_3 gc_7_v1 c_7 c_11 gc_15_v3 c_15 bf_16 if_16 c_17 bf_21 if_21 c_22 bf_23 if_23 bf_24 if_24 gc_25_f_23 gc_25_f_24 c_25 c_26 c_27 c_31 ggy_35 iy_35 ggy_36 iy_36 iy_37 bf_38 if_38 ggy_39 iy_39 hz_40 c_41 ggy_45 iy_45 ggy_46 iy_46 iy_47 bf_48 if_48 ggy_49 iy_49 hz_50 c_51 gc_52_v2 gc_52_v4 c_52 hm158 hge158 gc_81_x_78 gc_81_v5 c_81 iz_83 iz_84; omega) | omega) (by first | (clear tfσ_2 tgσ_2 sfσ_2 sgσ_2 c_3 gc_7_v1 c_7 c_11 gc_15_v3 c_15 bf_16 if_16 c_17 bf_21 if_21 c_22 bf_23 if_23 bf_24 if_24 gc_25_f_23 gc_25_f_24 c_25 c_26 c_27 c_31 ggy_35 iy_35 ggy_36 iy_36 iy_37 bf_38 if_38 ggy_39 iy_39 hz_40 c_41 ggy_45 iy_45 ggy_46 iy_46 iy_47 bf_48 if_48 ggy_49 iy_49 hz_50 c_51 gc_52_v2 gc_52_v4 c_52 hm158 hge158 gc_81_x_78 gc_81_v5 c_81 iz_83 iz_84; omega) | omega)
                                    refine lv_aload_n hx hb dX12_pour_198 rfl (lv_at hl 1 rfl) ?_
                                    refine gs_X12_20_12 E hI ha dX12_pour_199 ?_
                                    refine lv_bipush (v := 60) hx hb dX12_pour_202 (by decide) ?_
                                    refine lv_iload_n hx hb dX12_pour_204 rfl (lv_at hl 2 rfl) ?_
                                    refine lv_imul hx hb dX12_pour_205 ?_
                                    refine lv_topi (fun z_86 ez_86 => ?_)
                                    replace hF := q_letX hF ez_86
                                    have iz_86 := q_mulI (A := 60) (B := v1.toInt) ez_86 (by decide) rfl (by first | (clear tfσ_2 tgσ_2 sfσ_2 sgσ_2 c_3 gc_7_v1 c_7 c_11 gc_15_v3 c_15 bf_16 if_16 c_17 bf_21 if_21 c_22 bf_23 if_23 bf_24 if_24 gc_25_f_23 gc_25_f_24 c_25 c_26 c_27 c_31 ggy_35 iy_35 ggy_36 iy_36 iy_37 bf_38 if_38 ggy_39 iy_39 hz_40 c_41 ggy_45 iy_45 ggy_46 iy_46 iy_47 bf_48 if_48 ggy_49 iy_49 hz_50 c_51 gc_52_v2 gc_52_v4 c_52 hm158 hge158 gc_81_x_78 gc_81_v5 c_81 iz_83 iz_84 iz_85; omega) | omega) (by first | (clear tfσ_2 tgσ_2 sfσ_2 sgσ_2 c_3 gc_7_v1 c_7 c_11 gc_15_v3 c_15 bf_16 if_16 c_17 bf_21 if_21 c_22 bf_23 if_23 bf_24 if_24 gc_25_f_23 gc_25_f_24 c_25 c_26 c_27 c_31 ggy_35 iy_35 ggy_36 iy_36 iy_37 bf_38 if_38 ggy_39 iy_39 hz_40 c_41 ggy_45 iy_45 ggy_46 iy_46 iy_47 bf_48 if_48 ggy_49 iy_49 hz_50 c_51 gc_52_v2 gc_52_v4 c_52 hm158 hge158 gc_81_x_78 gc_81_v5 c_81 iz_83 iz_84 iz_85; omega) | omega)
                                    refine lv_iload_n hx hb dX12_pour_206 rfl (lv_at hl 3 rfl) ?_
                                    refine lv_iadd hx hb dX12_pour_207 ?_
                                    refine lv_topi (fun z_87 ez_87 => ?_)
                                    replace hF := q_letX hF ez_87
                                    have iz_87 := q_addI (A := (60 * v1.toInt)) (B := v2.toInt) ez_87 iz_86 rfl (by first | (clear tfσ_2 tgσ_2 sfσ_2 sgσ_2 c_3 gc_7_v1 c_7 c_11 gc_15_v3 c_15 bf_16 if_16 c_17 bf_21 if_21 c_22 bf_23 if_23 bf_24 if_24 gc_25_f_23 gc_25_f_24 c_25 c_26 c_27 c_31 ggy_35 iy_35 ggy_36 iy_36 iy_37 bf_38 if_38 ggy_39 iy_39 hz_40 c_41 ggy_45 iy_45 ggy_46 iy_46 iy_47 bf_48 if_48 ggy_49 iy_49 hz_50 c_51 gc_52_v2 gc_52_v4 c_52 hm158 hge158 gc_81_x_78 gc_81_v5 c_81 iz_83 iz_84 iz_85 iz_86; omega) | omega) (by first | (clear tfσ_2 tgσ_2 sfσ_2 sgσ_2 c_3 gc_7_v1 c_7 c_11 gc_15_v3 c_15 bf_16 if_16 c_17 bf_21 if_21 c_22 bf_23 if_23 bf_24 if_24 gc_25_f_23 gc_25_f_24 c_25 c_26 c_27 c_31 ggy_35 iy_35 ggy_36 iy_36 iy_37 bf_38 if_38 ggy_39 iy_39 hz_40 c_41 ggy_45 iy_45 ggy_46 iy_46 iy_47 bf_48 if_48 ggy_49 iy_49 hz_50 c_51 gc_52_v2 gc_52_v4 c_52 hm158 hge158 gc_81_x_78 gc_81_v5 c_81 iz_83 iz_84 iz_85 iz_86; omega) | omega)
                                    refine lv_iload hx hb dX12_pour_208 (lv_at hl 0 rfl) ?_
                                    refine lv_iadd hx hb dX12_pour_210 ?_
                                    refine lv_topi (fun z_88 ez_88 => ?_)
                                    replace hF := q_letX hF ez_88
                                    have iz_88 := q_addI (A := ((60 * v1.toInt) + v2.toInt)) (B := x_78.toInt) ez_88 iz_87 rfl (by first | (clear tfσ_2 tgσ_2 sfσ_2 sgσ_2 c_3 gc_7_v1 c_7 c_11 gc_15_v3 c_15 bf_16 if_16 c_17 bf_21 if_21 c_22 bf_23 if_23 bf_24 if_24 gc_25_f_23 gc_25_f_24 c_25 c_26 c_27 c_31 ggy_35 iy_35 ggy_36 iy_36 iy_37 bf_38 if_38 ggy_39 iy_39 hz_40 c_41 ggy_45 iy_45 ggy_46 iy_46 iy_47 bf_48 if_48 ggy_49 iy_49 hz_50 c_51 gc_52_v2 gc_52_v4 c_52 hm158 hge158 gc_81_x_78 gc_81_v5 c_81 iz_83 iz_84 iz_85 iz_86 iz_87; omega) | omega) (by first | (clear tfσ_2 tgσ_2 sfσ_2 sgσ_2 c_3 gc_7_v1 c_7 c_11 gc_15_v3 c_15 bf_16 if_16 c_17 bf_21 if_21 c_22 bf_23 if_23 bf_24 if_24 gc_25_f_23 gc_25_f_24 c_25 c_26 c_27 c_31 ggy_35 iy_35 ggy_36 iy_36 iy_37 bf_38 if_38 ggy_39 iy_39 hz_40 c_41 ggy_45 iy_45 ggy_46 iy_46 iy_47 bf_48 if_48 ggy_49 iy_49 hz_50 c_51 gc_52_v2 gc_52_v4 c_52 hm158 hge158 gc_81_x_78 gc_81_v5 c_81 iz_83 iz_84 iz_85 iz_86 iz_87; omega) | omega)
                                    refine q_lald E hI (q_tk (k' := 32) hI ha rfl (by decide)) ⟨by decide, rfl⟩ (by first | (clear tfσ_2 tgσ_2 sfσ_2 sgσ_2 c_3 gc_7_v1 c_7 c_11 gc_15_v3 c_15 bf_16 if_16 c_17 bf_21 if_21 c_22 bf_23 if_23 bf_24 if_24 gc_25_f_23 gc_25_f_24 c_25 c_26 c_27 c_31 ggy_35 iy_35 ggy_36 iy_36 iy_37 bf_38 if_38 ggy_39 iy_39 hz_40 c_41 ggy_45 iy_45 ggy_46 iy_46 iy_47 bf_48 if_48 ggy_49 iy_49 hz_50 c_51 gc_52_v2 gc_52_v4 c_52 hm158 hge158 gc_81_x_78 gc_81_v5 c_81 iz_83 iz_84 iz_85 iz_86 iz_87 iz_88; omega) | omega) (by rw [q_lnk (v := 240) hI (q_tk (k' := 32) hI ha rfl (by decide)) rfl (by decide)]; omega) dX12_pour_211 ?_
                                    refine lv_topl (fun g_89 eg_89 => ?_)
                                    replace hF := q_letX hF eg_89
                                    refine q_lastN E hI (q_tk (k' := 32) hI ha rfl (by decide)) ⟨by decide, rfl⟩ (by first | (clear tfσ_2 tgσ_2 sfσ_2 sgσ_2 c_3 gc_7_v1 c_7 c_11 gc_15_v3 c_15 bf_16 if_16 c_17 bf_21 if_21 c_22 bf_23 if_23 bf_24 if_24 gc_25_f_23 gc_25_f_24 c_25 c_26 c_27 c_31 ggy_35 iy_35 ggy_36 iy_36 iy_37 bf_38 if_38 ggy_39 iy_39 hz_40 c_41 ggy_45 iy_45 ggy_46 iy_46 iy_47 bf_48 if_48 ggy_49 iy_49 hz_50 c_51 gc_52_v2 gc_52_v4 c_52 hm158 hge158 gc_81_x_78 gc_81_v5 c_81 iz_83 iz_84 iz_85 iz_86 iz_87 iz_88; omega) | omega) (by rw [q_lnk (v := 240) hI (q_tk (k' := 32) hI ha rfl (by decide)) rfl (by decide)]; omega) dX12_pour_212 (fun H locs σ_90 hσ_90 hI => ?_)
                                    replace hF := q_letX hF hσ_90
                                    have fr_σ_90 := fr_σ_79.sl hσ_90 (q_tk (k' := 32) hI ha rfl (by decide)) rfl
                                    obtain ⟨z_91, ez_91⟩ : ∃ y : Int32, y = x_78 + 1 := ⟨_, rfl⟩
                                    replace hF := q_letX hF ez_91
                                    refine lv_iinc (v := z_91) (lv' := [(7, .int z_91), (8, .int x_78), (0, .ref a), (1, .int v1), (2, .int v2), (3, .int v3), (4, .int v4), (5, .int v5), (6, .int 1)]) hx hb dX12_pour_213 hl (k := 8) rfl (by rw [ez_91]; rfl) (by decide) rfl (fun ls hl => ?_)
                                    have iz_91 : z_91.toInt = x_78.toInt + 1 := q_inc ez_91 (by first | (clear tfσ_2 tgσ_2 sfσ_2 sgσ_2 c_3 gc_7_v1 c_7 c_11 gc_15_v3 c_15 bf_16 if_16 c_17 bf_21 if_21 c_22 bf_23 if_23 bf_24 if_24 gc_25_f_23 gc_25_f_24 c_25 c_26 c_27 c_31 ggy_35 iy_35 ggy_36 iy_36 iy_37 bf_38 if_38 ggy_39 iy_39 hz_40 c_41 ggy_45 iy_45 ggy_46 iy_46 iy_47 bf_48 if_48 ggy_49 iy_49 hz_50 c_51 gc_52_v2 gc_52_v4 c_52 hm158 hge158 gc_81_x_78 gc_81_v5 c_81 iz_83 iz_84 iz_85 iz_86 iz_87 iz_88; omega) | omega)
                                    refine lv_goto (tgt := 158) hx hb dX12_pour_216 (by decide) ?_
                                    exact ih158 z_91 σ_90 _ _ ls (by first | (clear tfσ_2 tgσ_2 sfσ_2 sgσ_2 c_3 gc_7_v1 c_7 c_11 gc_15_v3 c_15 bf_16 if_16 c_17 bf_21 if_21 c_22 bf_23 if_23 bf_24 if_24 gc_25_f_23 gc_25_f_24 c_25 c_26 c_27 c_31 ggy_35 iy_35 ggy_36 iy_36 iy_37 bf_38 if_38 ggy_39 iy_39 hz_40 c_41 ggy_45 iy_45 ggy_46 iy_46 iy_47 bf_48 if_48 ggy_49 iy_49 hz_50 c_51 gc_52_v2 gc_52_v4 c_52 hm158 hge158 gc_81_x_78 gc_81_v5 c_81 iz_83 iz_84 iz_85 iz_86 iz_87 iz_88 iz_91; omega) | omega) (by first | (clear tfσ_2 tgσ_2 sfσ_2 sgσ_2 c_3 gc_7_v1 c_7 c_11 gc_15_v3 c_15 bf_16 if_16 c_17 bf_21 if_21 c_22 bf_23 if_23 bf_24 if_24 gc_25_f_23 gc_25_f_24 c_25 c_26 c_27 c_31 ggy_35 iy_35 ggy_36 iy_36 iy_37 bf_38 if_38 ggy_39 iy_39 hz_40 c_41 ggy_45 iy_45 ggy_46 iy_46 iy_47 bf_48 if_48 ggy_49 iy_49 hz_50 c_51 gc_52_v2 gc_52_v4 c_52 hm158 hge158 gc_81_x_78 gc_81_v5 c_81 iz_83 iz_84 iz_85 iz_86 iz_87 iz_88 iz_91; omega) | omega) fr_σ_90 hF hI (lv_sub hl [2, 3, 4, 5, 6, 7, 8, 0] rfl)
                                  · skip
                                    replace hF := q_ifn hF c_82
                                    refine lv_iload hx hb dX12_pour_170 (lv_at hl 5 rfl) ?_
                                    refine lv_iconst (v := 1) hx hb dX12_pour_172 (by decide) ?_
                                    refine lv_isub hx hb dX12_pour_173 ?_
                                    refine lv_topi (fun z_92 ez_92 => ?_)
                                    replace hF := q_letX hF ez_92
                                    have iz_92 := q_subI (A := v5.toInt) (B := 1) ez_92 rfl (by decide) (by first | (clear tfσ_2 tgσ_2 sfσ_2 sgσ_2 c_3 gc_7_v1 c_7 c_11 gc_15_v3 c_15 bf_16 if_16 c_17 bf_21 if_21 c_22 bf_23 if_23 bf_24 if_24 gc_25_f_23 gc_25_f_24 c_25 c_27 c_31 ggy_35 iy_35 iy_37 bf_38 if_38 ggy_39 iy_39 hz_40 c_41 ggy_45 iy_45 ggy_46 iy_47 bf_48 if_48 ggy_49 iy_49 hz_50 c_51 gc_52_v2 gc_52_v4 c_52 hm158 hge158 gc_81_x_78 gc_81_v5 c_81 c_82; omega) | omega) (by first | (clear tfσ_2 tgσ_2 sfσ_2 sgσ_2 c_3 gc_7_v1 c_7 c_11 gc_15_v3 c_15 bf_16 if_16 c_17 bf_21 if_21 c_22 bf_23 if_23 bf_24 if_24 gc_25_f_23 gc_25_f_24 c_25 c_27 c_31 ggy_35 iy_35 iy_37 bf_38 if_38 ggy_39 iy_39 hz_40 c_41 ggy_45 iy_45 ggy_46 iy_47 bf_48 if_48 ggy_49 iy_49 hz_50 c_51 gc_52_v2 gc_52_v4 c_52 hm158 hge158 gc_81_x_78 gc_81_v5 c_81 c_82; omega) | omega)
                                    refine lv_iload hx hb dX12_pour_174 (lv_at hl 7 rfl) ?_
                                    refine lv_isub hx hb dX12_pour_176 ?_
                                    refine lv_topi (fun z_93 ez_93 => ?_)
                                    replace hF := q_letX hF ez_93
                                    have iz_93 := q_subI (A := (v5.toInt - 1)) (B := x_78.toInt) ez_93 iz_92 rfl (by first | (clear tfσ_2 tgσ_2 sfσ_2 sgσ_2 c_3 gc_7_v1 c_7 c_11 gc_15_v3 c_15 bf_16 if_16 c_17 bf_21 if_21 c_22 bf_23 if_23 bf_24 if_24 gc_25_f_23 gc_25_f_24 c_25 c_26 c_27 c_31 ggy_35 iy_35 ggy_36 iy_37 bf_38 if_38 ggy_39 iy_39 hz_40 c_41 ggy_45 iy_45 ggy_46 iy_47 bf_48 if_48 ggy_49 iy_49 hz_50 c_51 gc_52_v2 gc_52_v4 c_52 hm158 hge158 gc_81_x_78 gc_81_v5 c_82; omega) | omega) (by first | (clear tfσ_2 tgσ_2 sfσ_2 sgσ_2 c_3 gc_7_v1 c_7 c_11 gc_15_v3 c_15 bf_16 if_16 c_17 bf_21 if_21 c_22 bf_23 if_23 bf_24 if_24 gc_25_f_23 gc_25_f_24 c_25 c_27 c_31 ggy_35 iy_35 iy_37 bf_38 if_38 ggy_39 iy_39 hz_40 c_41 ggy_45 iy_45 ggy_46 iy_47 bf_48 if_48 ggy_49 iy_49 hz_50 c_51 gc_52_v2 gc_52_v4 c_52 hm158 gc_81_v5 c_81 c_82; omega) | omega)
                                    refine lv_goto (tgt := 182) hx hb dX12_pour_177 (by decide) ?_
                                    refine lv_istore (lv' := [(8, .int z_93), (0, .ref a), (1, .int v1), (2, .int v2), (3, .int v3), (4, .int v4), (5, .int v5), (6, .int 1), (7, .int x_78)]) hx hb dX12_pour_182 hl (by decide) rfl (fun ls hl => ?_)
                                    refine lv_aload_n hx hb dX12_pour_184 rfl (lv_at hl 1 rfl) ?_
                                    refine gs_X12_20_12 E hI ha dX12_pour_185 ?_
                                    refine lv_bipush (v := 60) hx hb dX12_pour_188 (by decide) ?_
                                    refine lv_iload_n hx hb dX12_pour_190 rfl (lv_at hl 4 rfl) ?_
                                    refine lv_imul hx hb dX12_pour_191 ?_
                                    refine lv_topi (fun z_94 ez_94 => ?_)
                                    replace hF := q_letX hF ez_94
                                    have iz_94 := q_mulI (A := 60) (B := v3.toInt) ez_94 (by decide) rfl (by first | (clear tfσ_2 tgσ_2 sfσ_2 sgσ_2 c_3 gc_7_v1 c_7 bf_16 if_16 c_17 bf_21 if_21 c_22 bf_23 if_23 bf_24 if_24 gc_25_f_23 gc_25_f_24 c_25 c_26 c_27 c_31 ggy_35 iy_35 ggy_36 iy_36 iy_37 bf_38 if_38 ggy_39 iy_39 hz_40 c_41 ggy_45 iy_45 ggy_46 iy_46 iy_47 bf_48 if_48 ggy_49 iy_49 hz_50 c_51 gc_52_v2 gc_52_v4 c_52 hm158 hge158 gc_81_x_78 gc_81_v5 c_81 c_82 iz_92 iz_93; omega) | omega) (by first | (clear tfσ_2 tgσ_2 sfσ_2 sgσ_2 c_3 gc_7_v1 c_7 bf_16 if_16 c_17 bf_21 if_21 c_22 bf_23 if_23 bf_24 if_24 gc_25_f_23 gc_25_f_24 c_25 c_26 c_27 c_31 ggy_35 iy_35 ggy_36 iy_36 iy_37 bf_38 if_38 ggy_39 iy_39 hz_40 c_41 ggy_45 iy_45 ggy_46 iy_46 iy_47 bf_48 if_48 ggy_49 iy_49 hz_50 c_51 gc_52_v2 gc_52_v4 c_52 hm158 hge158 gc_81_x_78 gc_81_v5 c_81 c_82 iz_92 iz_93; omega) | omega)
                                    refine lv_iload hx hb dX12_pour_192 (lv_at hl 5 rfl) ?_
                                    refine lv_iadd hx hb dX12_pour_194 ?_
                                    refine lv_topi (fun z_95 ez_95 => ?_)
                                    replace hF := q_letX hF ez_95
                                    have iz_95 := q_addI (A := (60 * v3.toInt)) (B := v4.toInt) ez_95 iz_94 rfl (by first | (clear tfσ_2 tgσ_2 sfσ_2 sgσ_2 c_3 gc_7_v1 c_7 bf_16 if_16 c_17 bf_21 if_21 c_22 bf_23 if_23 bf_24 if_24 gc_25_f_23 gc_25_f_24 c_25 c_26 c_27 ggy_35 iy_35 ggy_36 iy_37 bf_38 if_38 ggy_39 iy_39 hz_40 c_41 ggy_46 bf_48 if_48 ggy_49 iy_49 hz_50 c_51 gc_52_v2 gc_52_v4 c_52 hm158 hge158 gc_81_x_78 gc_81_v5 c_81 c_82 iz_93 iz_94; omega) | omega) (by first | (clear tfσ_2 sfσ_2 sgσ_2 c_3 gc_7_v1 c_7 bf_16 if_16 c_17 bf_23 if_23 bf_24 if_24 gc_25_f_23 gc_25_f_24 c_25 c_27 ggy_35 iy_35 iy_37 bf_38 if_38 ggy_39 iy_39 hz_40 c_41 ggy_46 bf_48 ggy_49 gc_52_v2 gc_52_v4 c_52 hm158 gc_81_v5 iz_94; omega) | omega)
                                    refine lv_iload hx hb dX12_pour_195 (lv_at hl 0 rfl) ?_
                                    refine lv_iadd hx hb dX12_pour_197 ?_
                                    refine lv_topi (fun z_96 ez_96 => ?_)
                                    replace hF := q_letX hF ez_96
                                    have iz_96 := q_addI (A := ((60 * v3.toInt) + v4.toInt)) (B := ((v5.toInt - 1) - x_78.toInt)) ez_96 iz_95 iz_93 (by first | (clear tfσ_2 tgσ_2 sfσ_2 sgσ_2 c_3 gc_7_v1 c_7 bf_16 if_16 c_17 bf_21 if_21 c_22 bf_23 if_23 bf_24 if_24 gc_25_f_23 gc_25_f_24 c_25 bf_38 if_38 ggy_39 iy_39 hz_40 c_41 ggy_46 bf_48 if_48 ggy_49 iy_49 hz_50 c_51 gc_52_v2 gc_52_v4 hm158 gc_81_v5 c_82 iz_94; omega) | omega) (by first | (clear tfσ_2 sfσ_2 sgσ_2 c_3 gc_7_v1 c_7 bf_16 if_16 c_17 bf_23 if_23 bf_24 if_24 gc_25_f_23 gc_25_f_24 c_25 c_27 c_31 ggy_35 iy_35 iy_37 bf_38 if_38 ggy_39 iy_39 hz_40 c_41 ggy_45 ggy_46 bf_48 ggy_49 gc_52_v2 gc_52_v4 c_52 hm158 gc_81_v5 iz_94; omega) | omega)
                                    refine lv_aload_n hx hb dX12_pour_198 rfl (lv_at hl 1 rfl) ?_
                                    refine gs_X12_20_12 E hI ha dX12_pour_199 ?_
                                    refine lv_bipush (v := 60) hx hb dX12_pour_202 (by decide) ?_
                                    refine lv_iload_n hx hb dX12_pour_204 rfl (lv_at hl 2 rfl) ?_
                                    refine lv_imul hx hb dX12_pour_205 ?_
                                    refine lv_topi (fun z_97 ez_97 => ?_)
                                    replace hF := q_letX hF ez_97
                                    have iz_97 := q_mulI (A := 60) (B := v1.toInt) ez_97 (by decide) rfl (by first | (clear tfσ_2 tgσ_2 sfσ_2 sgσ_2 c_11 gc_15_v3 c_15 bf_16 if_16 c_17 bf_21 if_21 c_22 bf_23 if_23 bf_24 if_24 gc_25_f_23 gc_25_f_24 c_25 c_26 c_27 c_31 ggy_35 iy_35 ggy_36 iy_36 iy_37 bf_38 if_38 ggy_39 iy_39 hz_40 c_41 ggy_45 iy_45 ggy_46 iy_46 iy_47 bf_48 if_48 ggy_49 iy_49 hz_50 c_51 gc_52_v2 gc_52_v4 c_52 hm158 hge158 gc_81_x_78 gc_81_v5 c_81 c_82 iz_92 iz_93 iz_94 iz_95 iz_96; omega) | omega) (by first | (clear tfσ_2 tgσ_2 sfσ_2 sgσ_2 c_11 gc_15_v3 c_15 bf_16 if_16 c_17 bf_21 if_21 c_22 bf_23 if_23 bf_24 if_24 gc_25_f_23 gc_25_f_24 c_25 c_26 c_27 c_31 ggy_35 iy_35 ggy_36 iy_36 iy_37 bf_38 if_38 ggy_39 iy_39 hz_40 c_41 ggy_45 iy_45 ggy_46 iy_46 iy_47 bf_48 if_48 ggy_49 iy_49 hz_50 c_51 gc_52_v2 gc_52_v4 c_52 hm158 hge158 gc_81_x_78 gc_81_v5 c_81 c_82 iz_92 iz_93 iz_94 iz_95 iz_96; omega) | omega)
                                    refine lv_iload_n hx hb dX12_pour_206 rfl (lv_at hl 3 rfl) ?_
                                    refine lv_iadd hx hb dX12_pour_207 ?_
                                    refine lv_topi (fun z_98 ez_98 => ?_)
                                    replace hF := q_letX hF ez_98
                                    have iz_98 := q_addI (A := (60 * v1.toInt)) (B := v2.toInt) ez_98 iz_97 rfl (by first | (clear tfσ_2 tgσ_2 sfσ_2 sgσ_2 c_11 gc_15_v3 c_15 bf_16 if_16 c_17 bf_21 if_21 c_22 bf_23 if_23 bf_24 if_24 gc_25_f_23 gc_25_f_24 c_25 c_26 c_31 ggy_36 bf_38 if_38 ggy_39 iy_39 hz_40 c_41 ggy_45 iy_45 ggy_46 iy_47 bf_48 if_48 ggy_49 iy_49 hz_50 c_51 gc_52_v2 gc_52_v4 c_52 hm158 hge158 gc_81_x_78 gc_81_v5 c_81 c_82 iz_93 iz_94 iz_95 iz_96 iz_97; omega) | omega) (by first | (clear tfσ_2 sfσ_2 sgσ_2 c_11 gc_15_v3 c_15 bf_16 if_16 c_17 bf_23 if_23 bf_24 if_24 gc_25_f_23 gc_25_f_24 c_25 bf_38 if_38 ggy_39 iy_39 hz_40 c_41 ggy_46 bf_48 ggy_49 gc_52_v2 gc_52_v4 hm158 gc_81_v5 iz_94 iz_97; omega) | omega)
                                    refine lv_iload hx hb dX12_pour_208 (lv_at hl 0 rfl) ?_
                                    refine lv_iadd hx hb dX12_pour_210 ?_
                                    refine lv_topi (fun z_99 ez_99 => ?_)
                                    replace hF := q_letX hF ez_99
                                    have iz_99 := q_addI (A := ((60 * v1.toInt) + v2.toInt)) (B := ((v5.toInt - 1) - x_78.toInt)) ez_99 iz_98 iz_93 (by first | (clear tfσ_2 tgσ_2 sfσ_2 sgσ_2 c_11 gc_15_v3 c_15 bf_16 if_16 c_17 bf_21 if_21 c_22 bf_23 if_23 bf_24 if_24 gc_25_f_23 gc_25_f_24 c_25 c_31 bf_38 if_38 ggy_39 iy_39 hz_40 c_41 ggy_45 ggy_46 bf_48 if_48 ggy_49 iy_49 hz_50 c_51 gc_52_v2 gc_52_v4 c_52 hm158 gc_81_v5 c_82 iz_94 iz_97; omega) | omega) (by first | (clear tfσ_2 sfσ_2 sgσ_2 c_11 gc_15_v3 c_15 bf_16 if_16 c_17 bf_23 if_23 bf_24 if_24 gc_25_f_23 gc_25_f_24 c_25 c_27 c_31 ggy_35 bf_38 if_38 ggy_39 iy_39 hz_40 c_41 ggy_45 ggy_46 bf_48 ggy_49 gc_52_v2 gc_52_v4 hm158 gc_81_v5 iz_94 iz_97; omega) | omega)
                                    refine q_lald E hI (q_tk (k' := 32) hI ha rfl (by decide)) ⟨by decide, rfl⟩ (by first | (clear tfσ_2 tgσ_2 sfσ_2 sgσ_2 c_11 gc_15_v3 c_15 bf_16 if_16 c_17 bf_21 if_21 c_22 bf_23 if_23 bf_24 if_24 gc_25_f_23 gc_25_f_24 c_25 c_31 bf_38 if_38 ggy_39 iy_39 hz_40 c_41 ggy_45 ggy_46 bf_48 if_48 ggy_49 iy_49 hz_50 c_51 gc_52_v2 gc_52_v4 c_52 hm158 gc_81_v5 c_82 iz_94 iz_97; omega) | omega) (by rw [q_lnk (v := 240) hI (q_tk (k' := 32) hI ha rfl (by decide)) rfl (by decide)]; omega) dX12_pour_211 ?_
                                    refine lv_topl (fun g_100 eg_100 => ?_)
                                    replace hF := q_letX hF eg_100
                                    refine q_lastN E hI (q_tk (k' := 32) hI ha rfl (by decide)) ⟨by decide, rfl⟩ (by first | (clear tfσ_2 tgσ_2 sfσ_2 sgσ_2 c_3 gc_7_v1 c_7 bf_16 if_16 c_17 bf_21 if_21 c_22 bf_23 if_23 bf_24 if_24 gc_25_f_23 gc_25_f_24 c_25 c_27 ggy_35 bf_38 if_38 ggy_39 iy_39 hz_40 c_41 ggy_46 bf_48 if_48 ggy_49 iy_49 hz_50 c_51 gc_52_v2 gc_52_v4 c_52 hm158 gc_81_v5 c_82 iz_94 iz_97; omega) | omega) (by rw [q_lnk (v := 240) hI (q_tk (k' := 32) hI ha rfl (by decide)) rfl (by decide)]; omega) dX12_pour_212 (fun H locs σ_101 hσ_101 hI => ?_)
                                    replace hF := q_letX hF hσ_101
                                    have fr_σ_101 := fr_σ_79.sl hσ_101 (q_tk (k' := 32) hI ha rfl (by decide)) rfl
                                    obtain ⟨z_102, ez_102⟩ : ∃ y : Int32, y = x_78 + 1 := ⟨_, rfl⟩
                                    replace hF := q_letX hF ez_102
                                    refine lv_iinc (v := z_102) (lv' := [(7, .int z_102), (8, .int z_93), (0, .ref a), (1, .int v1), (2, .int v2), (3, .int v3), (4, .int v4), (5, .int v5), (6, .int 1)]) hx hb dX12_pour_213 hl (k := 8) rfl (by rw [ez_102]; rfl) (by decide) rfl (fun ls hl => ?_)
                                    have iz_102 : z_102.toInt = x_78.toInt + 1 := q_inc ez_102 (by first | (clear tfσ_2 tgσ_2 sfσ_2 sgσ_2 c_3 gc_7_v1 c_7 c_11 gc_15_v3 c_15 bf_16 if_16 c_17 bf_21 if_21 c_22 bf_23 if_23 bf_24 if_24 gc_25_f_23 gc_25_f_24 c_25 c_27 c_31 ggy_35 bf_38 if_38 ggy_39 iy_39 hz_40 c_41 ggy_45 ggy_46 bf_48 if_48 ggy_49 iy_49 hz_50 c_51 gc_52_v2 gc_52_v4 c_52 hm158 gc_81_v5 c_82 iz_94 iz_97; omega) | omega)
                                    refine lv_goto (tgt := 158) hx hb dX12_pour_216 (by decide) ?_
                                    exact ih158 z_102 σ_101 _ _ ls (by first | (clear tfσ_2 tgσ_2 sfσ_2 sgσ_2 c_3 gc_7_v1 c_7 c_11 gc_15_v3 c_15 bf_16 if_16 c_17 bf_21 if_21 c_22 bf_23 if_23 bf_24 if_24 gc_25_f_23 gc_25_f_24 c_25 c_27 c_31 ggy_35 bf_38 if_38 ggy_39 iy_39 hz_40 c_41 ggy_45 ggy_46 bf_48 if_48 ggy_49 iy_49 hz_50 c_51 gc_52_v2 gc_52_v4 c_52 gc_81_v5 iz_94 iz_97; omega) | omega) (by first | (clear tfσ_2 tgσ_2 sfσ_2 sgσ_2 c_3 gc_7_v1 c_7 c_11 gc_15_v3 c_15 bf_16 if_16 c_17 bf_21 if_21 c_22 bf_23 if_23 bf_24 if_24 gc_25_f_23 gc_25_f_24 c_25 c_26 c_27 c_31 ggy_35 ggy_36 bf_38 if_38 ggy_39 iy_39 hz_40 c_41 ggy_45 ggy_46 bf_48 if_48 ggy_49 iy_49 hz_50 c_51 gc_52_v2 gc_52_v4 c_52 hm158 gc_81_v5 c_81 c_82 iz_94 iz_97; omega) | omega) fr_σ_101 hF hI (lv_sub hl [2, 3, 4, 5, 6, 7, 8, 0] rfl)
                            exact L_158_80 ((2147483647 - (0 : Int32).toInt).toNat + 1) 0 σ_2 _ _ ls (Nat.lt_succ_self _) (by decide) fr_σ_2 hF hI (lv_sub hl [2, 3, 4, 5, 6, 7, 1, 0] rfl)
                        · skip
                          replace hF := q_ifp hF c_51
                          refine lv_aload_n hx hb dX12_pour_136 rfl (lv_at hl 0 rfl) ?_
                          refine lv_iconst (v := 4) hx hb dX12_pour_137 (by decide) ?_
                          have kc_103 : (4 : Int32).toInt = 4 := rfl
                          refine q_ci (q_runV (As := [.int 4]) (rest := []) E (hml.trans hl.1.symm) hI (c_X12_no l X σ_2 a (4 : Int32) ha) kv_X12_74 ha ⟨rfl, by decide⟩ (show vwCl[11]? = some (RX12, TX12, 46) from rfl) rfl ⟨Nat.le_of_ble_eq_true rfl, Nat.le_of_ble_eq_true rfl⟩ ⟨Nat.le_refl _, Nat.le_refl _⟩ rfl (Nat.le_of_ble_eq_true rfl) dX12_pour_138) hI (by decide) (fun r_104 σ_105 H locs hpσ_105 hkσ_105 hI => ?_)
                          obtain ⟨ahpσ_105, bhpσ_105, chpσ_105, dhpσ_105⟩ := hpσ_105
                          have fr_σ_105 := fr_σ_2.call dhpσ_105 rfl rfl
                          replace hF := q_biX hF chpσ_105
                          exact q_retz E hr hlk hI ⟨by omega, by omega⟩ ⟨⟨by omega, by omega⟩, (by constructor <;> intro h9 <;> omega), (hF.trans hout), fr_σ_105⟩ dX12_pour_141
                · skip
                  replace hF := q_ifp hF c_26
                  refine lv_aload_n hx hb dX12_pour_85 rfl (lv_at hl 0 rfl) ?_
                  refine lv_bipush (v := 6) hx hb dX12_pour_86 (by decide) ?_
                  have kc_106 : (6 : Int32).toInt = 6 := rfl
                  refine q_ci (q_runV (As := [.int 6]) (rest := []) E (hml.trans hl.1.symm) hI (c_X12_no l X σ_2 a (6 : Int32) ha) kv_X12_74 ha ⟨rfl, by decide⟩ (show vwCl[11]? = some (RX12, TX12, 46) from rfl) rfl ⟨Nat.le_of_ble_eq_true rfl, Nat.le_of_ble_eq_true rfl⟩ ⟨Nat.le_refl _, Nat.le_refl _⟩ rfl (Nat.le_of_ble_eq_true rfl) dX12_pour_88) hI (by decide) (fun r_107 σ_108 H locs hpσ_108 hkσ_108 hI => ?_)
                  obtain ⟨ahpσ_108, bhpσ_108, chpσ_108, dhpσ_108⟩ := hpσ_108
                  have fr_σ_108 := fr_σ_2.call dhpσ_108 rfl rfl
                  replace hF := q_biX hF chpσ_108
                  exact q_retz E hr hlk hI ⟨by omega, by omega⟩ ⟨⟨by omega, by omega⟩, (by constructor <;> intro h9 <;> omega), (hF.trans hout), fr_σ_108⟩ dX12_pour_91
              · skip
                replace hF := q_ifn hF c_25
                refine lv_aload_n hx hb dX12_pour_73 rfl (lv_at hl 0 rfl) ?_
                refine lv_bipush (v := 11) hx hb dX12_pour_74 (by decide) ?_
                have kc_109 : (11 : Int32).toInt = 11 := rfl
                refine q_ci (q_runV (As := [.int 11]) (rest := []) E (hml.trans hl.1.symm) hI (c_X12_no l X σ_2 a (11 : Int32) ha) kv_X12_74 ha ⟨rfl, by decide⟩ (show vwCl[11]? = some (RX12, TX12, 46) from rfl) rfl ⟨Nat.le_of_ble_eq_true rfl, Nat.le_of_ble_eq_true rfl⟩ ⟨Nat.le_refl _, Nat.le_refl _⟩ rfl (Nat.le_of_ble_eq_true rfl) dX12_pour_76) hI (by decide) (fun r_110 σ_111 H locs hpσ_111 hkσ_111 hI => ?_)
                obtain ⟨ahpσ_111, bhpσ_111, chpσ_111, dhpσ_111⟩ := hpσ_111
                have fr_σ_111 := fr_σ_2.call dhpσ_111 rfl rfl
                replace hF := q_biX hF chpσ_111
                exact q_retz E hr hlk hI ⟨by omega, by omega⟩ ⟨⟨by omega, by omega⟩, (by constructor <;> intro h9 <;> omega), (hF.trans hout), fr_σ_111⟩ dX12_pour_79
            · skip
              replace hF := q_ifp hF c_22
              refine lv_aload_n hx hb dX12_pour_52 rfl (lv_at hl 0 rfl) ?_
              refine lv_iconst (v := 3) hx hb dX12_pour_53 (by decide) ?_
              have kc_112 : (3 : Int32).toInt = 3 := rfl
              refine q_ci (q_runV (As := [.int 3]) (rest := []) E (hml.trans hl.1.symm) hI (c_X12_no l X σ_2 a (3 : Int32) ha) kv_X12_74 ha ⟨rfl, by decide⟩ (show vwCl[11]? = some (RX12, TX12, 46) from rfl) rfl ⟨Nat.le_of_ble_eq_true rfl, Nat.le_of_ble_eq_true rfl⟩ ⟨Nat.le_refl _, Nat.le_refl _⟩ rfl (Nat.le_of_ble_eq_true rfl) dX12_pour_54) hI (by decide) (fun r_113 σ_114 H locs hpσ_114 hkσ_114 hI => ?_)
              obtain ⟨ahpσ_114, bhpσ_114, chpσ_114, dhpσ_114⟩ := hpσ_114
              have fr_σ_114 := fr_σ_2.call dhpσ_114 rfl rfl
              replace hF := q_biX hF chpσ_114
              exact q_retz E hr hlk hI ⟨by omega, by omega⟩ ⟨⟨by omega, by omega⟩, (by constructor <;> intro h9 <;> omega), (hF.trans hout), fr_σ_114⟩ dX12_pour_57
        · skip
          replace hF := q_ifn hF (Int.not_lt.mpr c_15)
          refine lv_aload_n hx hb dX12_pour_28 rfl (lv_at hl 0 rfl) ?_
          refine lv_iconst (v := 1) hx hb dX12_pour_29 (by decide) ?_
          have kc_115 : (1 : Int32).toInt = 1 := rfl
          refine q_ci (q_runV (As := [.int 1]) (rest := []) E (hml.trans hl.1.symm) hI (c_X12_no l X σ_2 a (1 : Int32) ha) kv_X12_74 ha ⟨rfl, by decide⟩ (show vwCl[11]? = some (RX12, TX12, 46) from rfl) rfl ⟨Nat.le_of_ble_eq_true rfl, Nat.le_of_ble_eq_true rfl⟩ ⟨Nat.le_refl _, Nat.le_refl _⟩ rfl (Nat.le_of_ble_eq_true rfl) dX12_pour_30) hI (by decide) (fun r_116 σ_117 H locs hpσ_117 hkσ_117 hI => ?_)
          obtain ⟨ahpσ_117, bhpσ_117, chpσ_117, dhpσ_117⟩ := hpσ_117
          have fr_σ_117 := fr_σ_2.call dhpσ_117 rfl rfl
          replace hF := q_biX hF chpσ_117
          exact q_retz E hr hlk hI ⟨by omega, by omega⟩ ⟨⟨by omega, by omega⟩, (by constructor <;> intro h9 <;> omega), (hF.trans hout), fr_σ_117⟩ dX12_pour_33

set_option maxRecDepth 100000 in
set_option maxHeartbeats 4000000 in
theorem c_X12_lays (l : Launch) (X : XW) (σ : ST) (a : Nat) (v1 : Int32) (ha : q_kd X a = 12) (h0 : (σ.1 a 8).toInt ≤ 896) : Met l yX12_lays (q_ws yX12_lays cX12_lays 3 none) (q_rm 0 0) (q_P X σ [.ref a, .int v1]) (q_Qv X 0 σ (fun (σ' : ST) => (q_KS (fun b g => b = a ∧ g = 8) 8 X σ σ') ∧ ((σ'.1 a 8).toInt = (σ.1 a 8).toInt + 4) ∧ σ' = F_X12_lays X σ a v1 ∧ q_ow [(12, 8), (33, 99)] [] X σ σ')) 0 0 (q_reg X) := by
  refine q_met 0 (by first | exact rfl | decide +kernel) rfl (Nat.le_of_ble_eq_true rfl) (fun p e s m below meth c E hml hr hlk hI ls hl => ?_)
  have hx := E.1
  have hb := E.2.1
  have hl : lv_has ls 3 [(0, .ref a), (1, .int v1)] := hl
  have ks_σ : q_KS (fun b g => b = a ∧ g = 8) 8 X σ σ := q_KS.rf
  have fr_σ : q_ow [(12, 8), (33, 99)] [] X σ σ := q_ow.rf
  obtain ⟨out, hout⟩ : ∃ o, o = F_X12_lays X σ a v1 := ⟨_, rfl⟩
  have hF := hout.symm
  unfold F_X12_lays at hF
  refine lv_iconst (v := 3) hx hb dX12_lays_0 (by decide) ?_
  refine lv_istore_n (lv' := [(2, .int 3), (0, .ref a), (1, .int v1)]) hx hb dX12_lays_1 rfl hl (by decide) rfl (fun ls hl => ?_)
  have L_2_3 : ∀ (k_3 : Nat) (x_1 : Int32) (σ_2 : ST) (H : Heap) (locs : List Loc) (ls : Array Slot), (x_1.toInt + 2147483656).toNat < k_3 → ((σ_2.1 a 8).toInt - (σ.1 a 8).toInt = 3 - x_1.toInt) → (-1 ≤ x_1.toInt) → (q_KS (fun b g => b = a ∧ g = 8) 8 X σ σ_2) → (q_ow [(12, 8), (33, 99)] [] X σ σ_2) → (F_X12_lays_L2_1 X a v1 k_3 x_1 σ_2 = out) → q_I X 0 σ s.heap locs σ_2 H → lv_has ls 3 [(0, .ref a), (1, .int v1), (2, .int x_1)] → W p l e (q_rm 0 0) s m ([.ref a, .int v1] : List Value).toArray below meth c H locs 0 0 (MQ below (q_Qv X 0 σ (fun (σ' : ST) => (q_KS (fun b g => b = a ∧ g = 8) 8 X σ σ') ∧ ((σ'.1 a 8).toInt = (σ.1 a 8).toInt + 4) ∧ σ' = F_X12_lays X σ a v1 ∧ q_ow [(12, 8), (33, 99)] [] X σ σ')) ([.ref a, .int v1] : List Value).toArray s 0 0 (q_reg X)) (F0 m 2 ls []) := by
    clear hF
    intro k_3
    induction k_3 with
    | zero =>
      intro x_1 σ_2 H locs ls hms
      try clear fr_σ
      exact absurd hms (Nat.not_lt_zero _)
    | succ k_3 ih2 =>
      intro x_1 σ_2 H locs ls hm2 hsh hs8 ks_σ_2 fr_σ_2 hF hI hl
      replace hF := (F_X12_lays_L2_1_s).symm.trans hF
      unfold F_X12_lays_B2_1 at hF
      refine lv_iload_n hx hb dX12_lays_2 rfl (lv_at hl 2 rfl) ?_
      refine q_if_lt (A := x_1.toInt) E rfl (tgt := 38) dX12_lays_3 (by decide) (fun c_4 => ?_) (fun c_4 => ?_)
      · skip
        replace hF := q_ifp hF c_4
        skip
        exact q_retv E hr hlk hI ⟨ks_σ_2, (by first | (clear h0 hm2; omega) | omega), (hF.trans hout), fr_σ_2⟩ dX12_lays_38
      · skip
        replace hF := q_ifn hF (Int.not_lt.mpr c_4)
        refine lv_aload_n hx hb dX12_lays_6 rfl (lv_at hl 0 rfl) ?_
        refine gs_X12_24_12 E hI ha dX12_lays_7 ?_
        refine lv_aload_n hx hb dX12_lays_10 rfl (lv_at hl 0 rfl) ?_
        refine gs_X12_203_12 E hI ha dX12_lays_11 ?_
        refine lv_topi (fun f_5 ef_5 => ?_)
        replace hF := q_letX hF ef_5
        have if_5 : f_5.toInt = (σ_2.1 a 8).toInt := congrArg Int32.toInt ef_5
        have bf_5 : 0 ≤ f_5.toInt ∧ f_5.toInt ≤ 900 := by rw [ef_5]; exact q_bd hI ha rfl
        refine lv_iload_n hx hb dX12_lays_14 rfl (lv_at hl 1 rfl) ?_
        refine lv_bipush (v := 8) hx hb dX12_lays_15 (by decide) ?_
        refine lv_iload_n hx hb dX12_lays_17 rfl (lv_at hl 2 rfl) ?_
        refine lv_imul hx hb dX12_lays_18 ?_
        refine lv_topi (fun z_6 ez_6 => ?_)
        replace hF := q_letX hF ez_6
        refine lv_ishr hx hb dX12_lays_19 ?_
        refine lv_topi (fun z_7 ez_7 => ?_)
        replace hF := q_letX hF ez_7
        refine lv_i2b hx hb dX12_lays_20 rfl ?_
        refine lv_topi (fun z_8 ez_8 => ?_)
        replace hF := q_letX hF ez_8
        refine q_bastN E hI (q_tk (k' := 33) hI ha rfl (by decide)) ⟨by decide, rfl⟩ (by first | (clear h0 hm2 hsh hs8 c_4 if_5; omega) | omega) (by rw [q_lnk (v := 900) hI (q_tk (k' := 33) hI ha rfl (by decide)) rfl (by decide)]; omega) (show 0 < 9 by decide) rfl dX12_lays_21 (fun H locs σ_9 hσ_9 hI => ?_)
        replace hF := q_letX hF hσ_9
        have fr_σ_9 := fr_σ_2.si hσ_9 (q_tk (k' := 33) hI ha rfl (by decide)) rfl
        have mv8_σ_9 : (σ_9.1 a 8).toInt = (σ_2.1 a 8).toInt := congrArg Int32.toInt ((hσ_9 ▸ (q_K.si (q_tk (k' := 33) hI ha rfl (by decide)) (show 8 < 9 by decide) : q_K 8 X σ_2 (q_si σ_2 (q_rf X a 7) (f_5 : Int32).toNatClampNeg _))) a 8 (by rw [ha]; decide))
        have ks_σ_9 : q_KS (fun b g => b = a ∧ g = 8) 8 X σ σ_9 := ks_σ_2.si hσ_9 (q_tk (k' := 33) hI ha rfl (by decide)) (show 8 < 9 by decide)
        refine lv_aload_n hx hb dX12_lays_22 rfl (lv_at hl 0 rfl) ?_
        refine lv_dup hx hb dX12_lays_23 rfl ?_
        refine gs_X12_203_12 E hI ha dX12_lays_24 ?_
        refine lv_topi (fun f_10 ef_10 => ?_)
        replace hF := q_letX hF ef_10
        have if_10 : f_10.toInt = (σ_9.1 a 8).toInt := congrArg Int32.toInt ef_10
        have bf_10 : 0 ≤ f_10.toInt ∧ f_10.toInt ≤ 900 := by rw [ef_10]; exact q_bd hI ha rfl
        refine lv_iconst (v := 1) hx hb dX12_lays_27 (by decide) ?_
        refine lv_iadd hx hb dX12_lays_28 ?_
        refine lv_topi (fun z_11 ez_11 => ?_)
        replace hF := q_letX hF ez_11
        have iz_11 := q_addI (A := f_10.toInt) (B := 1) ez_11 rfl (by decide) (by first | (clear h0 hm2 hsh hs8 c_4 bf_10; omega) | omega) (by first | (clear h0 hm2 hsh hs8 c_4 bf_10; omega) | omega)
        refine ps_X12_203_12 E hI ha (by decide) (by first | (clear h0 hm2 hsh hs8 c_4 bf_10; omega) | omega) (by first | (clear h0 hm2 hs8 bf_10; omega) | omega) dX12_lays_29 (fun H locs σ_12 hσ_12 hI => ?_)
        replace hF := q_letX hF hσ_12
        have fr_σ_12 := fr_σ_9.si hσ_12 ha rfl
        have ks_σ_12 : q_KS (fun b g => b = a ∧ g = 8) 8 X σ σ_12 := ks_σ_9.siS hσ_12 ⟨rfl, rfl⟩
        have mv8_σ_12 : (σ_12.1 a 8).toInt = z_11.toInt := congrArg Int32.toInt (q_rd hσ_12)
        obtain ⟨z_13, ez_13⟩ : ∃ y : Int32, y = x_1 + (-1) := ⟨_, rfl⟩
        replace hF := q_letX hF ez_13
        refine lv_iinc (v := z_13) (lv' := [(2, .int z_13), (0, .ref a), (1, .int v1)]) hx hb dX12_lays_32 hl (k := 2) rfl (by rw [ez_13]; rfl) (by decide) rfl (fun ls hl => ?_)
        have iz_13 : z_13.toInt = x_1.toInt - 1 := q_dec ez_13 (by first | (clear h0 hm2 hsh hs8 if_5 bf_5 mv8_σ_9 if_10 bf_10 iz_11 mv8_σ_12; omega) | omega)
        refine lv_goto (tgt := 2) hx hb dX12_lays_35 (by decide) ?_
        exact ih2 z_13 σ_12 _ _ ls (by first | (clear h0 hsh hs8 if_5 bf_5 mv8_σ_9 if_10 bf_10 iz_11 mv8_σ_12; omega) | omega) (by first | (clear h0 hm2 hs8 c_4 bf_5 bf_10; omega) | omega) (by first | (clear h0 hm2 hsh hs8 if_5 bf_5 mv8_σ_9 if_10 bf_10 iz_11 mv8_σ_12; omega) | omega) ks_σ_12 fr_σ_12 hF hI (lv_sub hl [1, 2, 0] rfl)
  exact L_2_3 (((3 : Int32).toInt + 2147483656).toNat + 1) 3 σ _ _ ls (Nat.lt_succ_self _) (by have h3 : (3 : Int32).toInt = 3 := rfl; omega) (by decide) ks_σ fr_σ hF hI (lv_sub hl [1, 2, 0] rfl)

set_option maxRecDepth 100000 in
set_option maxHeartbeats 4000000 in
theorem c_X12_feed (l : Launch) (X : XW) (σ : ST) (a : Nat) (v1 : Int32) (v2 : Int32) (v3 : Int32) (v4 : Int32) (v5 : Int32) (ha : q_kd X a = 12) : Met l yX12_feed (q_ws yX12_feed cX12_feed 6 (some .int)) (q_rm 1 22) (q_P X σ [.ref a, .int v1, .int v2, .int v3, .int v4, .int v5]) (q_Qi X 0 σ (fun (r : Int32) (σ' : ST) => (q_KS (fun b g => b = a ∧ g = 8) 8 X σ σ') ∧ ((σ.1 a 8).toInt + 20 > 900 → r.toInt = -1 ∧ (σ'.1 a 8).toInt = (σ.1 a 8).toInt) ∧ ((σ.1 a 8).toInt + 20 ≤ 900 → r.toInt = (σ.1 a 8).toInt + 20 ∧ (σ'.1 a 8).toInt = (σ.1 a 8).toInt + 20) ∧ (r, σ') = F_X12_feed X σ a v1 v2 v3 v4 v5 ∧ q_ow [(12, 1), (12, 8), (33, 99)] [] X σ σ')) 0 0 (q_reg X) := by
  refine q_met 0 (by first | exact rfl | decide +kernel) rfl (Nat.le_of_ble_eq_true rfl) (fun p e s m below meth c E hml hr hlk hI ls hl => ?_)
  have hx := E.1
  have hb := E.2.1
  have hl : lv_has ls 6 [(0, .ref a), (1, .int v1), (2, .int v2), (3, .int v3), (4, .int v4), (5, .int v5)] := hl
  have ks_σ : q_KS (fun b g => b = a ∧ g = 8) 8 X σ σ := q_KS.rf
  have fr_σ : q_ow [(12, 1), (12, 8), (33, 99)] [] X σ σ := q_ow.rf
  obtain ⟨out, hout⟩ : ∃ o, o = F_X12_feed X σ a v1 v2 v3 v4 v5 := ⟨_, rfl⟩
  have hF := hout.symm
  unfold F_X12_feed at hF
  refine lv_aload_n hx hb dX12_feed_0 rfl (lv_at hl 0 rfl) ?_
  refine lv_iconst (v := 0) hx hb dX12_feed_1 (by decide) ?_
  refine ps_X12_59_12 E hI ha (by decide) dX12_feed_2 (fun H locs σ_1 hσ_1 hI => ?_)
  replace hF := q_letX hF hσ_1
  have fr_σ_1 := fr_σ.si hσ_1 ha rfl
  have ks_σ_1 : q_KS (fun b g => b = a ∧ g = 8) 8 X σ σ_1 := ks_σ.si hσ_1 ha (show 8 < 9 by decide)
  have mv8_σ_1 : (σ_1.1 a 8).toInt = (σ.1 a 8).toInt := congrArg Int32.toInt (q_rdn hσ_1 (Or.inr (by decide)))
  refine lv_aload_n hx hb dX12_feed_5 rfl (lv_at hl 0 rfl) ?_
  refine gs_X12_203_12 E hI ha dX12_feed_6 ?_
  refine lv_topi (fun f_2 ef_2 => ?_)
  replace hF := q_letX hF ef_2
  have if_2 : f_2.toInt = (σ_1.1 a 8).toInt := congrArg Int32.toInt ef_2
  have bf_2 : 0 ≤ f_2.toInt ∧ f_2.toInt ≤ 900 := by rw [ef_2]; exact q_bd hI ha rfl
  refine lv_bipush (v := 20) hx hb dX12_feed_9 (by decide) ?_
  refine lv_iadd hx hb dX12_feed_11 ?_
  refine lv_topi (fun z_3 ez_3 => ?_)
  replace hF := q_letX hF ez_3
  have iz_3 := q_addI (A := f_2.toInt) (B := 20) ez_3 rfl (by decide) (by first | (clear mv8_σ_1 if_2; omega) | omega) (by first | (clear mv8_σ_1 if_2; omega) | omega)
  refine lv_sipush (v := 900) hx hb dX12_feed_12 (by decide) ?_
  refine q_icmp_le (A := z_3.toInt) (B := 900) E rfl (by decide) (tgt := 20) dX12_feed_15 (by decide) (fun c_4 => ?_) (fun c_4 => ?_)
  · skip
    replace hF := q_ifn hF (Int.not_lt.mpr c_4)
    refine lv_aload_n hx hb dX12_feed_20 rfl (lv_at hl 0 rfl) ?_
    refine lv_iload_n hx hb dX12_feed_21 rfl (lv_at hl 1 rfl) ?_
    refine q_cv (q_runV (As := [.int v1]) (rest := []) E (hml.trans hl.1.symm) hI (c_X12_lays l X σ_1 a v1 ha (by omega)) kv_X12_206 ha ⟨rfl, by decide⟩ (show vwCl[11]? = some (RX12, TX12, 46) from rfl) rfl ⟨Nat.le_of_ble_eq_true rfl, Nat.le_of_ble_eq_true rfl⟩ ⟨Nat.le_refl _, Nat.le_refl _⟩ rfl (Nat.le_of_ble_eq_true rfl) dX12_feed_22) hI (by decide) (fun σ_6 H locs hpσ_6 hkσ_6 hI => ?_)
    obtain ⟨ahpσ_6, bhpσ_6, chpσ_6, dhpσ_6⟩ := hpσ_6
    have fr_σ_6 := fr_σ_1.call dhpσ_6 rfl rfl
    replace hF := q_letX hF chpσ_6
    have ks_σ_6 : q_KS (fun b g => b = a ∧ g = 8) 8 X σ σ_6 := ks_σ_1.KS ahpσ_6 (by decide) (fun _ _ h => h)
    refine lv_aload_n hx hb dX12_feed_25 rfl (lv_at hl 0 rfl) ?_
    refine lv_iload_n hx hb dX12_feed_26 rfl (lv_at hl 2 rfl) ?_
    refine q_cv (q_runV (As := [.int v2]) (rest := []) E (hml.trans hl.1.symm) hI (c_X12_lays l X σ_6 a v2 ha (by first | (clear ahpσ_6 chpσ_6 dhpσ_6; omega) | omega)) kv_X12_206 ha ⟨rfl, by decide⟩ (show vwCl[11]? = some (RX12, TX12, 46) from rfl) rfl ⟨Nat.le_of_ble_eq_true rfl, Nat.le_of_ble_eq_true rfl⟩ ⟨Nat.le_refl _, Nat.le_refl _⟩ rfl (Nat.le_of_ble_eq_true rfl) dX12_feed_27) hI (by decide) (fun σ_8 H locs hpσ_8 hkσ_8 hI => ?_)
    obtain ⟨ahpσ_8, bhpσ_8, chpσ_8, dhpσ_8⟩ := hpσ_8
    have fr_σ_8 := fr_σ_6.call dhpσ_8 rfl rfl
    replace hF := q_letX hF chpσ_8
    have ks_σ_8 : q_KS (fun b g => b = a ∧ g = 8) 8 X σ σ_8 := ks_σ_6.KS ahpσ_8 (by decide) (fun _ _ h => h)
    refine lv_aload_n hx hb dX12_feed_30 rfl (lv_at hl 0 rfl) ?_
    refine lv_iload_n hx hb dX12_feed_31 rfl (lv_at hl 3 rfl) ?_
    refine q_cv (q_runV (As := [.int v3]) (rest := []) E (hml.trans hl.1.symm) hI (c_X12_lays l X σ_8 a v3 ha (by first | (clear ahpσ_6 chpσ_6 dhpσ_6 ahpσ_8 chpσ_8 dhpσ_8; omega) | omega)) kv_X12_206 ha ⟨rfl, by decide⟩ (show vwCl[11]? = some (RX12, TX12, 46) from rfl) rfl ⟨Nat.le_of_ble_eq_true rfl, Nat.le_of_ble_eq_true rfl⟩ ⟨Nat.le_refl _, Nat.le_refl _⟩ rfl (Nat.le_of_ble_eq_true rfl) dX12_feed_32) hI (by decide) (fun σ_10 H locs hpσ_10 hkσ_10 hI => ?_)
    obtain ⟨ahpσ_10, bhpσ_10, chpσ_10, dhpσ_10⟩ := hpσ_10
    have fr_σ_10 := fr_σ_8.call dhpσ_10 rfl rfl
    replace hF := q_letX hF chpσ_10
    have ks_σ_10 : q_KS (fun b g => b = a ∧ g = 8) 8 X σ σ_10 := ks_σ_8.KS ahpσ_10 (by decide) (fun _ _ h => h)
    refine lv_aload_n hx hb dX12_feed_35 rfl (lv_at hl 0 rfl) ?_
    refine lv_iload hx hb dX12_feed_36 (lv_at hl 4 rfl) ?_
    refine q_cv (q_runV (As := [.int v4]) (rest := []) E (hml.trans hl.1.symm) hI (c_X12_lays l X σ_10 a v4 ha (by first | (clear ahpσ_6 chpσ_6 dhpσ_6 ahpσ_8 chpσ_8 dhpσ_8 ahpσ_10 chpσ_10 dhpσ_10; omega) | omega)) kv_X12_206 ha ⟨rfl, by decide⟩ (show vwCl[11]? = some (RX12, TX12, 46) from rfl) rfl ⟨Nat.le_of_ble_eq_true rfl, Nat.le_of_ble_eq_true rfl⟩ ⟨Nat.le_refl _, Nat.le_refl _⟩ rfl (Nat.le_of_ble_eq_true rfl) dX12_feed_38) hI (by decide) (fun σ_12 H locs hpσ_12 hkσ_12 hI => ?_)
    obtain ⟨ahpσ_12, bhpσ_12, chpσ_12, dhpσ_12⟩ := hpσ_12
    have fr_σ_12 := fr_σ_10.call dhpσ_12 rfl rfl
    replace hF := q_letX hF chpσ_12
    have ks_σ_12 : q_KS (fun b g => b = a ∧ g = 8) 8 X σ σ_12 := ks_σ_10.KS ahpσ_12 (by decide) (fun _ _ h => h)
    refine lv_aload_n hx hb dX12_feed_41 rfl (lv_at hl 0 rfl) ?_
    refine lv_iload hx hb dX12_feed_42 (lv_at hl 5 rfl) ?_
    refine q_cv (q_runV (As := [.int v5]) (rest := []) E (hml.trans hl.1.symm) hI (c_X12_lays l X σ_12 a v5 ha (by first | (clear ahpσ_6 chpσ_6 dhpσ_6 ahpσ_8 chpσ_8 dhpσ_8 ahpσ_10 chpσ_10 dhpσ_10 ahpσ_12 chpσ_12 dhpσ_12; omega) | omega)) kv_X12_206 ha ⟨rfl, by decide⟩ (show vwCl[11]? = some (RX12, TX12, 46) from rfl) rfl ⟨Nat.le_of_ble_eq_true rfl, Nat.le_of_ble_eq_true rfl⟩ ⟨Nat.le_refl _, Nat.le_refl _⟩ rfl (Nat.le_of_ble_eq_true rfl) dX12_feed_44) hI (by decide) (fun σ_14 H locs hpσ_14 hkσ_14 hI => ?_)
    obtain ⟨ahpσ_14, bhpσ_14, chpσ_14, dhpσ_14⟩ := hpσ_14
    have fr_σ_14 := fr_σ_12.call dhpσ_14 rfl rfl
    replace hF := q_letX hF chpσ_14
    have ks_σ_14 : q_KS (fun b g => b = a ∧ g = 8) 8 X σ σ_14 := ks_σ_12.KS ahpσ_14 (by decide) (fun _ _ h => h)
    refine lv_aload_n hx hb dX12_feed_47 rfl (lv_at hl 0 rfl) ?_
    refine gs_X12_203_12 E hI ha dX12_feed_48 ?_
    refine lv_topi (fun f_15 ef_15 => ?_)
    replace hF := q_letX hF ef_15
    have if_15 : f_15.toInt = (σ_14.1 a 8).toInt := congrArg Int32.toInt ef_15
    have bf_15 : 0 ≤ f_15.toInt ∧ f_15.toInt ≤ 900 := by rw [ef_15]; exact q_bd hI ha rfl
    exact q_reti E hr hlk hI ⟨ks_σ_14, (by first | (clear ahpσ_6 chpσ_6 dhpσ_6 ahpσ_8 chpσ_8 dhpσ_8 ahpσ_10 chpσ_10 dhpσ_10 ahpσ_12 chpσ_12 dhpσ_12 ahpσ_14 chpσ_14 dhpσ_14 bf_15; omega) | omega), (by first | (clear bf_2 c_4 ahpσ_6 chpσ_6 dhpσ_6 ahpσ_8 chpσ_8 dhpσ_8 ahpσ_10 chpσ_10 dhpσ_10 ahpσ_12 chpσ_12 dhpσ_12 ahpσ_14 chpσ_14 dhpσ_14 bf_15; omega) | omega), (hF.trans hout), fr_σ_14⟩ dX12_feed_51
  · skip
    replace hF := q_ifp hF c_4
    refine lv_iconst (v := (-1)) hx hb dX12_feed_18 (by decide) ?_
    have hrv : ((-1) : Int32).toInt = (-1) := rfl
    exact q_reti E hr hlk hI ⟨ks_σ_1, (by first | (clear if_2 bf_2 iz_3 c_4; omega) | omega), (by first | (clear hrv; omega) | omega), (hF.trans hout), fr_σ_1⟩ dX12_feed_19

set_option maxRecDepth 100000 in
set_option maxHeartbeats 4000000 in
theorem c_X12_fault (l : Launch) (X : XW) (σ : ST) (a : Nat) (v1 : Int32) (ha : q_kd X a = 12) : Met l yX12_fault (q_ws yX12_fault cX12_fault 2 (some .int)) (q_rm 0 0) (q_P X σ [.ref a, .int v1]) (q_Qi X 8 σ (fun (r : Int32) (σ' : ST) => (r, σ') = F_X12_fault X σ a v1 ∧ q_ow [(12, 1)] [] X σ σ')) 0 0 (q_reg X) := by
  refine q_met 8 (by first | exact rfl | decide +kernel) rfl (Nat.le_of_ble_eq_true rfl) (fun p e s m below meth c E hml hr hlk hI ls hl => ?_)
  have hx := E.1
  have hb := E.2.1
  have hl : lv_has ls 2 [(0, .ref a), (1, .int v1)] := hl
  have fr_σ : q_ow [(12, 1)] [] X σ σ := q_ow.rf
  obtain ⟨out, hout⟩ : ∃ o, o = F_X12_fault X σ a v1 := ⟨_, rfl⟩
  have hF := hout.symm
  unfold F_X12_fault at hF
  refine lv_aload_n hx hb dX12_fault_0 rfl (lv_at hl 0 rfl) ?_
  refine lv_iconst (v := 0) hx hb dX12_fault_1 (by decide) ?_
  refine ps_X12_59_12 E hI ha (by decide) dX12_fault_2 (fun H locs σ_1 hσ_1 hI => ?_)
  replace hF := q_letX hF hσ_1
  have fr_σ_1 := fr_σ.si hσ_1 ha rfl
  refine lv_iload_n hx hb dX12_fault_5 rfl (lv_at hl 1 rfl) ?_
  refine q_if_ne (A := v1.toInt) E rfl (tgt := 16) dX12_fault_6 (by decide) (fun c_2 => ?_) (fun c_2 => ?_)
  · skip
    replace hF := q_ifn hF c_2
    refine lv_iload_n hx hb dX12_fault_16 rfl (lv_at hl 1 rfl) ?_
    refine lv_iconst (v := 1) hx hb dX12_fault_17 (by decide) ?_
    refine q_icmp_ne (A := v1.toInt) (B := 1) E rfl (by decide) (tgt := 28) dX12_fault_18 (by decide) (fun c_3 => ?_) (fun c_3 => ?_)
    · skip
      replace hF := q_ifn hF c_3
      refine lv_iconst (v := (-1)) hx hb dX12_fault_28 (by decide) ?_
      exact q_reti E hr hlk hI ⟨(hF.trans hout), fr_σ_1⟩ dX12_fault_29
    · skip
      replace hF := q_ifp hF c_3
      refine lv_aload_n hx hb dX12_fault_21 rfl (lv_at hl 0 rfl) ?_
      refine gs_X12_32_12 E hI ha dX12_fault_22 ?_
      refine lv_topi (fun f_4 ef_4 => ?_)
      replace hF := q_letX hF ef_4
      refine lv_goto (tgt := 29) hx hb dX12_fault_25 (by decide) ?_
      exact q_reti E hr hlk hI ⟨(hF.trans hout), fr_σ_1⟩ dX12_fault_29
  · skip
    replace hF := q_ifp hF c_2
    refine lv_aload_n hx hb dX12_fault_9 rfl (lv_at hl 0 rfl) ?_
    refine gs_X12_28_12 E hI ha dX12_fault_10 ?_
    refine lv_topi (fun f_5 ef_5 => ?_)
    replace hF := q_letX hF ef_5
    refine lv_goto (tgt := 29) hx hb dX12_fault_13 (by decide) ?_
    exact q_reti E hr hlk hI ⟨(hF.trans hout), fr_σ_1⟩ dX12_fault_29
end
/-! FROM 31.scan.a.lean.txt -/
section
section QS
variable {p : Program} {l : Launch} {e : Env} {R : Room} {s : State} {m : MethodId} {args : Array Value} {below : List Frame} {meth : Method} {c : Code} {H : Heap} {locs : List Loc} {cells slots : Nat} {Q : State → Prop} {cc : ByteArray} {X : XW} {n : Nat} {σ0 σ : ST} {H0 : Heap} {pc : Nat} {ls : Array Slot} {rest : List Value} {a : Nat}
theorem gs_X12_98_12 (E : q_E p c cc s m args RX12 X) (hI : q_I X n σ0 H0 locs σ H) (ha : q_kd X a = 12) (hdg : decode cc pc = .ok (.getfield 98, 3)) (kk : W p l e R s m args below meth c H locs cells slots Q (F0 m (pc + 3) ls (.int (σ.1 a 9) :: rest))) : W p l e R s m args below meth c H locs cells slots Q (F0 m pc ls (.ref a :: rest)) :=
  q_getf (ref := "CheatHeapModel") E hI ha ⟨rfl, by decide⟩ (show vwCl[11]? = some (RX12, TX12, 46) from rfl) q_inX12 (f := 9) (by decide) (q_in_t6 (i := 234) (by first | rfl | decide +kernel) rfl) (Or.inl rfl) rfl hdg kk
theorem gs_X12_110_12 (E : q_E p c cc s m args RX12 X) (hI : q_I X n σ0 H0 locs σ H) (ha : q_kd X a = 12) (hdg : decode cc pc = .ok (.getfield 110, 3)) (kk : W p l e R s m args below meth c H locs cells slots Q (F0 m (pc + 3) ls (.int (σ.1 a 14) :: rest))) : W p l e R s m args below meth c H locs cells slots Q (F0 m pc ls (.ref a :: rest)) :=
  q_getf (ref := "CheatHeapModel") E hI ha ⟨rfl, by decide⟩ (show vwCl[11]? = some (RX12, TX12, 46) from rfl) q_inX12 (f := 14) (by decide) (q_in_t6 (i := 239) (by first | rfl | decide +kernel) rfl) (Or.inl rfl) rfl hdg kk
theorem gs_X12_129_12 (E : q_E p c cc s m args RX12 X) (hI : q_I X n σ0 H0 locs σ H) (ha : q_kd X a = 12) (hdg : decode cc pc = .ok (.getfield 129, 3)) (kk : W p l e R s m args below meth c H locs cells slots Q (F0 m (pc + 3) ls (.int (σ.1 a 17) :: rest))) : W p l e R s m args below meth c H locs cells slots Q (F0 m pc ls (.ref a :: rest)) :=
  q_getf (ref := "CheatHeapModel") E hI ha ⟨rfl, by decide⟩ (show vwCl[11]? = some (RX12, TX12, 46) from rfl) q_inX12 (f := 17) (by decide) (q_in_t7 (i := 2) (by first | rfl | decide +kernel) rfl) (Or.inl rfl) rfl hdg kk
theorem gs_X12_116_12 (E : q_E p c cc s m args RX12 X) (hI : q_I X n σ0 H0 locs σ H) (ha : q_kd X a = 12) (hdg : decode cc pc = .ok (.getfield 116, 3)) (kk : W p l e R s m args below meth c H locs cells slots Q (F0 m (pc + 3) ls (.long (σ.2.1 a 19) :: rest))) : W p l e R s m args below meth c H locs cells slots Q (F0 m pc ls (.ref a :: rest)) :=
  q_getf (ref := "CheatHeapModel") E hI ha ⟨rfl, by decide⟩ (show vwCl[11]? = some (RX12, TX12, 46) from rfl) q_inX12 (f := 19) (by decide) (q_in_t7 (i := 4) (by first | rfl | decide +kernel) rfl) (Or.inl rfl) rfl hdg kk
theorem gs_X12_187_12 (E : q_E p c cc s m args RX12 X) (hI : q_I X n σ0 H0 locs σ H) (ha : q_kd X a = 12) (hdg : decode cc pc = .ok (.getfield 187, 3)) (kk : W p l e R s m args below meth c H locs cells slots Q (F0 m (pc + 3) ls (.int (σ.1 a 12) :: rest))) : W p l e R s m args below meth c H locs cells slots Q (F0 m pc ls (.ref a :: rest)) :=
  q_getf (ref := "CheatHeapModel") E hI ha ⟨rfl, by decide⟩ (show vwCl[11]? = some (RX12, TX12, 46) from rfl) q_inX12 (f := 12) (by decide) (q_in_t6 (i := 237) (by first | rfl | decide +kernel) rfl) (Or.inl rfl) rfl hdg kk
theorem ps_X12_187_12 (E : q_E p c cc s m args RX12 X) (hI : q_I X n σ0 H0 locs σ H) (ha : q_kd X a = 12) {v : Int32} (hcl : n < 3) (hdg : decode cc pc = .ok (.putfield 187, 3)) (kk : ∀ (H1 : Heap) (locs1 : List Loc) (σ1 : ST), σ1 = q_si σ a 12 v → q_I X n σ0 H0 locs1 σ1 H1 → W p l e R s m args below meth c H1 locs1 cells slots Q (F0 m (pc + 3) ls rest)) : W p l e R s m args below meth c H locs cells slots Q (F0 m pc ls (.int v :: .ref a :: rest)) :=
  q_puti (ref := "CheatHeapModel") E hI ha ⟨rfl, by decide⟩ (show vwCl[11]? = some (RX12, TX12, 46) from rfl) q_inX12 tyX12_ok nmX12 (f := 12) (by decide) (q_in_t6 (i := 237) (by first | rfl | decide +kernel) rfl) (Or.inl rfl) rfl rfl hcl hdg (q_inU rfl) (Or.inl rfl) (fun H1 l1 h => kk H1 l1 _ rfl h)
theorem ps_X12_190_12 (E : q_E p c cc s m args RX12 X) (hI : q_I X n σ0 H0 locs σ H) (ha : q_kd X a = 12) {v : Int32} (hcl : n < 3) (hdg : decode cc pc = .ok (.putfield 190, 3)) (kk : ∀ (H1 : Heap) (locs1 : List Loc) (σ1 : ST), σ1 = q_si σ a 13 v → q_I X n σ0 H0 locs1 σ1 H1 → W p l e R s m args below meth c H1 locs1 cells slots Q (F0 m (pc + 3) ls rest)) : W p l e R s m args below meth c H locs cells slots Q (F0 m pc ls (.int v :: .ref a :: rest)) :=
  q_puti (ref := "CheatHeapModel") E hI ha ⟨rfl, by decide⟩ (show vwCl[11]? = some (RX12, TX12, 46) from rfl) q_inX12 tyX12_ok nmX12 (f := 13) (by decide) (q_in_t6 (i := 238) (by first | rfl | decide +kernel) rfl) (Or.inl rfl) rfl rfl hcl hdg (q_inU rfl) (Or.inl rfl) (fun H1 l1 h => kk H1 l1 _ rfl h)
theorem gs_X12_104_12 (E : q_E p c cc s m args RX12 X) (hI : q_I X n σ0 H0 locs σ H) (ha : q_kd X a = 12) (hdg : decode cc pc = .ok (.getfield 104, 3)) (kk : W p l e R s m args below meth c H locs cells slots Q (F0 m (pc + 3) ls (.int (σ.1 a 15) :: rest))) : W p l e R s m args below meth c H locs cells slots Q (F0 m pc ls (.ref a :: rest)) :=
  q_getf (ref := "CheatHeapModel") E hI ha ⟨rfl, by decide⟩ (show vwCl[11]? = some (RX12, TX12, 46) from rfl) q_inX12 (f := 15) (by decide) (q_in_t7 (i := 0) (by first | rfl | decide +kernel) rfl) (Or.inl rfl) rfl hdg kk
theorem kv_X12_193 : q_okV RX12 193 RX12 yX12_fail cX12_fail 3 none 2 := ⟨(q_in_t7 (i := 227) (by first | rfl | decide +kernel) rfl), (q_in_t7 (i := 229) (by first | rfl | decide +kernel) rfl), (q_in_p (i := 49) (by decide +kernel) rfl), (q_in_t1 (i := 14) (by first | rfl | decide +kernel) rfl), (q_in_t7 (i := 230) (by first | rfl | decide +kernel) rfl), ⟨rfl, by decide, by decide, rfl⟩⟩
end QS
end
