/-! FROM 13.game.a.lean.txt -/
section
section QS
variable {p : Program} {l : Launch} {e : Env} {R : Room} {s : State} {m : MethodId} {args : Array Value} {below : List Frame} {meth : Method} {c : Code} {H : Heap} {locs : List Loc} {cells slots : Nat} {Q : State → Prop} {cc : ByteArray} {X : XW} {n : Nat} {σ0 σ : ST} {H0 : Heap} {pc : Nat} {ls : Array Slot} {rest : List Value} {a : Nat}
theorem gs_X0_12_1 (E : q_E p c cc s m args RX0 X) (hI : q_I X n σ0 H0 locs σ H) (ha : q_kd X a = 1) (hdg : decode cc pc = .ok (.getfield 12, 3)) (kk : W p l e R s m args below meth c H locs cells slots Q (F0 m (pc + 3) ls (.ref (q_rf X a 0) :: rest))) : W p l e R s m args below meth c H locs cells slots Q (F0 m pc ls (.ref a :: rest)) :=
  q_getf (ref := "CheatHeap$Game") E hI ha ⟨rfl, by decide⟩ (show vwCl[0]? = some (RX0, TX0, 15) from rfl) q_inX0 (f := 0) (by decide) (q_in_t1 (i := 228) (by first | rfl | decide +kernel) rfl) (Or.inl rfl) rfl hdg kk
theorem kv_X0_80 : q_okV RX0 80 RX6 yX6_reset cX6_reset 1 none 0 := ⟨(q_in_t3 (i := 117) (by first | rfl | decide +kernel) rfl), (q_in_t3 (i := 118) (by first | rfl | decide +kernel) rfl), (q_in_t3 (i := 119) (by first | rfl | decide +kernel) rfl), (q_in_t1 (i := 3) (by first | rfl | decide +kernel) rfl), (q_in_t3 (i := 120) (by first | rfl | decide +kernel) rfl), ⟨rfl, by decide, by decide, rfl⟩⟩
theorem gs_X0_21_1 (E : q_E p c cc s m args RX0 X) (hI : q_I X n σ0 H0 locs σ H) (ha : q_kd X a = 1) (hdg : decode cc pc = .ok (.getfield 21, 3)) (kk : W p l e R s m args below meth c H locs cells slots Q (F0 m (pc + 3) ls (.ref (q_rf X a 1) :: rest))) : W p l e R s m args below meth c H locs cells slots Q (F0 m pc ls (.ref a :: rest)) :=
  q_getf (ref := "CheatHeap$Game") E hI ha ⟨rfl, by decide⟩ (show vwCl[0]? = some (RX0, TX0, 15) from rfl) q_inX0 (f := 1) (by decide) (q_in_t1 (i := 232) (by first | rfl | decide +kernel) rfl) (Or.inl rfl) rfl hdg kk
theorem kv_X0_83 : q_okV RX0 83 RX1 yX1_reset cX1_reset 1 none 0 := ⟨(q_in_t3 (i := 125) (by first | rfl | decide +kernel) rfl), (q_in_t3 (i := 126) (by first | rfl | decide +kernel) rfl), (q_in_t3 (i := 127) (by first | rfl | decide +kernel) rfl), (q_in_t1 (i := 6) (by first | rfl | decide +kernel) rfl), (q_in_t3 (i := 128) (by first | rfl | decide +kernel) rfl), ⟨rfl, by decide, by decide, rfl⟩⟩
theorem gs_X0_28_1 (E : q_E p c cc s m args RX0 X) (hI : q_I X n σ0 H0 locs σ H) (ha : q_kd X a = 1) (hdg : decode cc pc = .ok (.getfield 28, 3)) (kk : W p l e R s m args below meth c H locs cells slots Q (F0 m (pc + 3) ls (.ref (q_rf X a 2) :: rest))) : W p l e R s m args below meth c H locs cells slots Q (F0 m pc ls (.ref a :: rest)) :=
  q_getf (ref := "CheatHeap$Game") E hI ha ⟨rfl, by decide⟩ (show vwCl[0]? = some (RX0, TX0, 15) from rfl) q_inX0 (f := 2) (by decide) (q_in_t1 (i := 236) (by first | rfl | decide +kernel) rfl) (Or.inl rfl) rfl hdg kk
theorem kv_X0_84 : q_okV RX0 84 RX2 yX2_clear cX2_clear 1 none 0 := ⟨(q_in_t3 (i := 130) (by first | rfl | decide +kernel) rfl), (q_in_t3 (i := 131) (by first | rfl | decide +kernel) rfl), (q_in_t3 (i := 132) (by first | rfl | decide +kernel) rfl), (q_in_t1 (i := 7) (by first | rfl | decide +kernel) rfl), (q_in_t3 (i := 133) (by first | rfl | decide +kernel) rfl), ⟨rfl, by decide, by decide, rfl⟩⟩
theorem gs_X0_35_1 (E : q_E p c cc s m args RX0 X) (hI : q_I X n σ0 H0 locs σ H) (ha : q_kd X a = 1) (hdg : decode cc pc = .ok (.getfield 35, 3)) (kk : W p l e R s m args below meth c H locs cells slots Q (F0 m (pc + 3) ls (.ref (q_rf X a 3) :: rest))) : W p l e R s m args below meth c H locs cells slots Q (F0 m pc ls (.ref a :: rest)) :=
  q_getf (ref := "CheatHeap$Game") E hI ha ⟨rfl, by decide⟩ (show vwCl[0]? = some (RX0, TX0, 15) from rfl) q_inX0 (f := 3) (by decide) (q_in_t1 (i := 239) (by first | rfl | decide +kernel) rfl) (Or.inl rfl) rfl hdg kk
theorem kv_X0_87 : q_okV RX0 87 RX8 yX8_clear cX8_clear 1 none 0 := ⟨(q_in_t3 (i := 134) (by first | rfl | decide +kernel) rfl), (q_in_t3 (i := 135) (by first | rfl | decide +kernel) rfl), (q_in_t3 (i := 136) (by first | rfl | decide +kernel) rfl), (q_in_t1 (i := 8) (by first | rfl | decide +kernel) rfl), (q_in_t3 (i := 137) (by first | rfl | decide +kernel) rfl), ⟨rfl, by decide, by decide, rfl⟩⟩
theorem ps_X0_39_1 (E : q_E p c cc s m args RX0 X) (hI : q_I X n σ0 H0 locs σ H) (ha : q_kd X a = 1) {v : Int32} (hcl : n < 9) (hdg : decode cc pc = .ok (.putfield 39, 3)) (kk : ∀ (H1 : Heap) (locs1 : List Loc) (σ1 : ST), σ1 = q_si σ a 4 v → q_I X n σ0 H0 locs1 σ1 H1 → W p l e R s m args below meth c H1 locs1 cells slots Q (F0 m (pc + 3) ls rest)) : W p l e R s m args below meth c H locs cells slots Q (F0 m pc ls (.int v :: .ref a :: rest)) :=
  q_puti (ref := "CheatHeap$Game") E hI ha ⟨rfl, by decide⟩ (show vwCl[0]? = some (RX0, TX0, 15) from rfl) q_inX0 tyX0_ok nmX0 (f := 4) (by decide) (q_in_t2 (i := 2) (by first | rfl | decide +kernel) rfl) (Or.inl rfl) rfl rfl hcl hdg (q_inU rfl) (Or.inl rfl) (fun H1 l1 h => kk H1 l1 _ rfl h)
theorem ps_X0_43_1 (E : q_E p c cc s m args RX0 X) (hI : q_I X n σ0 H0 locs σ H) (ha : q_kd X a = 1) {v : Int32} (hcl : n < 9) (hdg : decode cc pc = .ok (.putfield 43, 3)) (kk : ∀ (H1 : Heap) (locs1 : List Loc) (σ1 : ST), σ1 = q_si σ a 5 v → q_I X n σ0 H0 locs1 σ1 H1 → W p l e R s m args below meth c H1 locs1 cells slots Q (F0 m (pc + 3) ls rest)) : W p l e R s m args below meth c H locs cells slots Q (F0 m pc ls (.int v :: .ref a :: rest)) :=
  q_puti (ref := "CheatHeap$Game") E hI ha ⟨rfl, by decide⟩ (show vwCl[0]? = some (RX0, TX0, 15) from rfl) q_inX0 tyX0_ok nmX0 (f := 5) (by decide) (q_in_t2 (i := 5) (by first | rfl | decide +kernel) rfl) (Or.inl rfl) rfl rfl hcl hdg (q_inU rfl) (Or.inl rfl) (fun H1 l1 h => kk H1 l1 _ rfl h)
theorem ps_X0_46_1 (E : q_E p c cc s m args RX0 X) (hI : q_I X n σ0 H0 locs σ H) (ha : q_kd X a = 1) {v : Int32} (hcl : n < 9) (hdg : decode cc pc = .ok (.putfield 46, 3)) (kk : ∀ (H1 : Heap) (locs1 : List Loc) (σ1 : ST), σ1 = q_si σ a 6 v → q_I X n σ0 H0 locs1 σ1 H1 → W p l e R s m args below meth c H1 locs1 cells slots Q (F0 m (pc + 3) ls rest)) : W p l e R s m args below meth c H locs cells slots Q (F0 m pc ls (.int v :: .ref a :: rest)) :=
  q_puti (ref := "CheatHeap$Game") E hI ha ⟨rfl, by decide⟩ (show vwCl[0]? = some (RX0, TX0, 15) from rfl) q_inX0 tyX0_ok nmX0 (f := 6) (by decide) (q_in_t2 (i := 8) (by first | rfl | decide +kernel) rfl) (Or.inl rfl) rfl rfl hcl hdg (q_inU rfl) (Or.inl rfl) (fun H1 l1 h => kk H1 l1 _ rfl h)
theorem ps_X0_49_1 (E : q_E p c cc s m args RX0 X) (hI : q_I X n σ0 H0 locs σ H) (ha : q_kd X a = 1) {v : Int32} (hcl : n < 9) (h1 : 0 ≤ v.toInt) (h2 : v.toInt ≤ 1) (hdg : decode cc pc = .ok (.putfield 49, 3)) (kk : ∀ (H1 : Heap) (locs1 : List Loc) (σ1 : ST), σ1 = q_si σ a 7 v → q_I X n σ0 H0 locs1 σ1 H1 → W p l e R s m args below meth c H1 locs1 cells slots Q (F0 m (pc + 3) ls rest)) : W p l e R s m args below meth c H locs cells slots Q (F0 m pc ls (.int v :: .ref a :: rest)) :=
  q_puti (ref := "CheatHeap$Game") E hI ha ⟨rfl, by decide⟩ (show vwCl[0]? = some (RX0, TX0, 15) from rfl) q_inX0 tyX0_ok nmX0 (f := 7) (by decide) (q_in_t2 (i := 11) (by first | rfl | decide +kernel) rfl) (Or.inl rfl) rfl rfl hcl hdg (q_inB rfl h1 h2) (Or.inr ⟨rfl, h1, h2⟩) (fun H1 l1 h => kk H1 l1 _ rfl h)
theorem kv_X0_88 : q_okV RX0 88 RX6 yX6_copyFrom cX6_copyFrom 2 none 1 := ⟨(q_in_t4 (i := 129) (by first | rfl | decide +kernel) rfl), (q_in_t4 (i := 130) (by first | rfl | decide +kernel) rfl), (q_in_t4 (i := 131) (by first | rfl | decide +kernel) rfl), (q_in_t1 (i := 3) (by first | rfl | decide +kernel) rfl), (q_in_t4 (i := 132) (by first | rfl | decide +kernel) rfl), ⟨rfl, by decide, by decide, rfl⟩⟩
theorem kv_X0_92 : q_okV RX0 92 RX1 yX1_copyFrom cX1_copyFrom 2 none 1 := ⟨(q_in_t4 (i := 137) (by first | rfl | decide +kernel) rfl), (q_in_t4 (i := 138) (by first | rfl | decide +kernel) rfl), (q_in_t4 (i := 139) (by first | rfl | decide +kernel) rfl), (q_in_t1 (i := 6) (by first | rfl | decide +kernel) rfl), (q_in_t4 (i := 140) (by first | rfl | decide +kernel) rfl), ⟨rfl, by decide, by decide, rfl⟩⟩
theorem kv_X0_95 : q_okV RX0 95 RX2 yX2_copyFrom cX2_copyFrom 2 none 1 := ⟨(q_in_t4 (i := 142) (by first | rfl | decide +kernel) rfl), (q_in_t4 (i := 143) (by first | rfl | decide +kernel) rfl), (q_in_t4 (i := 144) (by first | rfl | decide +kernel) rfl), (q_in_t1 (i := 7) (by first | rfl | decide +kernel) rfl), (q_in_t4 (i := 145) (by first | rfl | decide +kernel) rfl), ⟨rfl, by decide, by decide, rfl⟩⟩
theorem kv_X0_98 : q_okV RX0 98 RX8 yX8_copyFrom cX8_copyFrom 2 none 1 := ⟨(q_in_t4 (i := 147) (by first | rfl | decide +kernel) rfl), (q_in_t4 (i := 148) (by first | rfl | decide +kernel) rfl), (q_in_t4 (i := 149) (by first | rfl | decide +kernel) rfl), (q_in_t1 (i := 8) (by first | rfl | decide +kernel) rfl), (q_in_t4 (i := 150) (by first | rfl | decide +kernel) rfl), ⟨rfl, by decide, by decide, rfl⟩⟩
theorem gs_X0_39_1 (E : q_E p c cc s m args RX0 X) (hI : q_I X n σ0 H0 locs σ H) (ha : q_kd X a = 1) (hdg : decode cc pc = .ok (.getfield 39, 3)) (kk : W p l e R s m args below meth c H locs cells slots Q (F0 m (pc + 3) ls (.int (σ.1 a 4) :: rest))) : W p l e R s m args below meth c H locs cells slots Q (F0 m pc ls (.ref a :: rest)) :=
  q_getf (ref := "CheatHeap$Game") E hI ha ⟨rfl, by decide⟩ (show vwCl[0]? = some (RX0, TX0, 15) from rfl) q_inX0 (f := 4) (by decide) (q_in_t2 (i := 2) (by first | rfl | decide +kernel) rfl) (Or.inl rfl) rfl hdg kk
theorem gs_X0_43_1 (E : q_E p c cc s m args RX0 X) (hI : q_I X n σ0 H0 locs σ H) (ha : q_kd X a = 1) (hdg : decode cc pc = .ok (.getfield 43, 3)) (kk : W p l e R s m args below meth c H locs cells slots Q (F0 m (pc + 3) ls (.int (σ.1 a 5) :: rest))) : W p l e R s m args below meth c H locs cells slots Q (F0 m pc ls (.ref a :: rest)) :=
  q_getf (ref := "CheatHeap$Game") E hI ha ⟨rfl, by decide⟩ (show vwCl[0]? = some (RX0, TX0, 15) from rfl) q_inX0 (f := 5) (by decide) (q_in_t2 (i := 5) (by first | rfl | decide +kernel) rfl) (Or.inl rfl) rfl hdg kk
theorem gs_X0_46_1 (E : q_E p c cc s m args RX0 X) (hI : q_I X n σ0 H0 locs σ H) (ha : q_kd X a = 1) (hdg : decode cc pc = .ok (.getfield 46, 3)) (kk : W p l e R s m args below meth c H locs cells slots Q (F0 m (pc + 3) ls (.int (σ.1 a 6) :: rest))) : W p l e R s m args below meth c H locs cells slots Q (F0 m pc ls (.ref a :: rest)) :=
  q_getf (ref := "CheatHeap$Game") E hI ha ⟨rfl, by decide⟩ (show vwCl[0]? = some (RX0, TX0, 15) from rfl) q_inX0 (f := 6) (by decide) (q_in_t2 (i := 8) (by first | rfl | decide +kernel) rfl) (Or.inl rfl) rfl hdg kk
theorem gs_X0_49_1 (E : q_E p c cc s m args RX0 X) (hI : q_I X n σ0 H0 locs σ H) (ha : q_kd X a = 1) (hdg : decode cc pc = .ok (.getfield 49, 3)) (kk : W p l e R s m args below meth c H locs cells slots Q (F0 m (pc + 3) ls (.int (σ.1 a 7) :: rest))) : W p l e R s m args below meth c H locs cells slots Q (F0 m pc ls (.ref a :: rest)) :=
  q_getf (ref := "CheatHeap$Game") E hI ha ⟨rfl, by decide⟩ (show vwCl[0]? = some (RX0, TX0, 15) from rfl) q_inX0 (f := 7) (by decide) (q_in_t2 (i := 11) (by first | rfl | decide +kernel) rfl) (Or.inl rfl) rfl hdg kk
theorem gs_X0_58_1 (E : q_E p c cc s m args RX0 X) (hI : q_I X n σ0 H0 locs σ H) (ha : q_kd X a = 1) (hdg : decode cc pc = .ok (.getfield 58, 3)) (kk : W p l e R s m args below meth c H locs cells slots Q (F0 m (pc + 3) ls (.ref (q_rf X a 8) :: rest))) : W p l e R s m args below meth c H locs cells slots Q (F0 m pc ls (.ref a :: rest)) :=
  q_getf (ref := "CheatHeap$Game") E hI ha ⟨rfl, by decide⟩ (show vwCl[0]? = some (RX0, TX0, 15) from rfl) q_inX0 (f := 8) (by decide) (q_in_t2 (i := 14) (by first | rfl | decide +kernel) rfl) (Or.inl rfl) rfl hdg kk
theorem kv_X0_101 : q_okV RX0 101 RX5 yX5_clear cX5_clear 2 none 0 := ⟨(q_in_t5 (i := 78) (by first | rfl | decide +kernel) rfl), (q_in_t3 (i := 122) (by first | rfl | decide +kernel) rfl), (q_in_t3 (i := 123) (by first | rfl | decide +kernel) rfl), (q_in_t1 (i := 4) (by first | rfl | decide +kernel) rfl), (q_in_t3 (i := 124) (by first | rfl | decide +kernel) rfl), ⟨rfl, by decide, by decide, rfl⟩⟩
theorem ps_X0_62_1 (E : q_E p c cc s m args RX0 X) (hI : q_I X n σ0 H0 locs σ H) (ha : q_kd X a = 1) {v : Int32} (hcl : n < 9) (hdg : decode cc pc = .ok (.putfield 62, 3)) (kk : ∀ (H1 : Heap) (locs1 : List Loc) (σ1 : ST), σ1 = q_si σ a 9 v → q_I X n σ0 H0 locs1 σ1 H1 → W p l e R s m args below meth c H1 locs1 cells slots Q (F0 m (pc + 3) ls rest)) : W p l e R s m args below meth c H locs cells slots Q (F0 m pc ls (.int v :: .ref a :: rest)) :=
  q_puti (ref := "CheatHeap$Game") E hI ha ⟨rfl, by decide⟩ (show vwCl[0]? = some (RX0, TX0, 15) from rfl) q_inX0 tyX0_ok nmX0 (f := 9) (by decide) (q_in_t2 (i := 15) (by first | rfl | decide +kernel) rfl) (Or.inl rfl) rfl rfl hcl hdg (q_inU rfl) (Or.inl rfl) (fun H1 l1 h => kk H1 l1 _ rfl h)
theorem kv_X0_102 : q_okV RX0 102 RX5 yX5_add cX5_add 3 none 2 := ⟨(q_in_t5 (i := 83) (by first | rfl | decide +kernel) rfl), (q_in_t4 (i := 113) (by first | rfl | decide +kernel) rfl), (q_in_t4 (i := 114) (by first | rfl | decide +kernel) rfl), (q_in_t1 (i := 4) (by first | rfl | decide +kernel) rfl), (q_in_t4 (i := 115) (by first | rfl | decide +kernel) rfl), ⟨rfl, by decide, by decide, rfl⟩⟩
theorem gs_X0_62_1 (E : q_E p c cc s m args RX0 X) (hI : q_I X n σ0 H0 locs σ H) (ha : q_kd X a = 1) (hdg : decode cc pc = .ok (.getfield 62, 3)) (kk : W p l e R s m args below meth c H locs cells slots Q (F0 m (pc + 3) ls (.int (σ.1 a 9) :: rest))) : W p l e R s m args below meth c H locs cells slots Q (F0 m pc ls (.ref a :: rest)) :=
  q_getf (ref := "CheatHeap$Game") E hI ha ⟨rfl, by decide⟩ (show vwCl[0]? = some (RX0, TX0, 15) from rfl) q_inX0 (f := 9) (by decide) (q_in_t2 (i := 15) (by first | rfl | decide +kernel) rfl) (Or.inl rfl) rfl hdg kk
theorem gs_X0_106_6 (E : q_E p c cc s m args RX0 X) (hI : q_I X n σ0 H0 locs σ H) (ha : q_kd X a = 6) (hdg : decode cc pc = .ok (.getfield 106, 3)) (kk : W p l e R s m args below meth c H locs cells slots Q (F0 m (pc + 3) ls (.int (σ.1 a 0) :: rest))) : W p l e R s m args below meth c H locs cells slots Q (F0 m pc ls (.ref a :: rest)) :=
  q_getf (ref := "CheatHeap$Rules") E hI ha ⟨rfl, by decide⟩ (show vwCl[5]? = some (RX6, TX6, 8) from rfl) q_inX6 (f := 0) (by decide) (q_in_t1 (i := 59) (by first | rfl | decide +kernel) rfl) (Or.inl rfl) rfl hdg kk
theorem kv_X0_109 : q_okV RX0 109 RX1 yX1_heldBy cX1_heldBy 3 (some .int) 2 := ⟨(q_in_t5 (i := 88) (by first | rfl | decide +kernel) rfl), (q_in_t5 (i := 37) (by first | rfl | decide +kernel) rfl), (q_in_t5 (i := 38) (by first | rfl | decide +kernel) rfl), (q_in_t1 (i := 6) (by first | rfl | decide +kernel) rfl), (q_in_t5 (i := 39) (by first | rfl | decide +kernel) rfl), ⟨rfl, by decide, by decide, rfl⟩⟩
theorem kv_X0_113 : q_okV RX0 113 RX5 yX5_get cX5_get 2 (some .int) 1 := ⟨(q_in_t5 (i := 89) (by first | rfl | decide +kernel) rfl), (q_in_t4 (i := 73) (by first | rfl | decide +kernel) rfl), (q_in_t4 (i := 74) (by first | rfl | decide +kernel) rfl), (q_in_t1 (i := 4) (by first | rfl | decide +kernel) rfl), (q_in_t4 (i := 75) (by first | rfl | decide +kernel) rfl), ⟨rfl, by decide, by decide, rfl⟩⟩
theorem kv_X0_117 : q_okV RX0 117 RX2 yX2_begin cX2_begin 3 none 2 := ⟨(q_in_t5 (i := 94) (by first | rfl | decide +kernel) rfl), (q_in_t5 (i := 95) (by first | rfl | decide +kernel) rfl), (q_in_t5 (i := 96) (by first | rfl | decide +kernel) rfl), (q_in_t1 (i := 7) (by first | rfl | decide +kernel) rfl), (q_in_t5 (i := 97) (by first | rfl | decide +kernel) rfl), ⟨rfl, by decide, by decide, rfl⟩⟩
theorem kv_X0_120 : q_okV RX0 120 RX1 yX1_moveToHeap cX1_moveToHeap 4 none 3 := ⟨(q_in_t5 (i := 99) (by first | rfl | decide +kernel) rfl), (q_in_t5 (i := 100) (by first | rfl | decide +kernel) rfl), (q_in_t5 (i := 101) (by first | rfl | decide +kernel) rfl), (q_in_t1 (i := 6) (by first | rfl | decide +kernel) rfl), (q_in_t5 (i := 102) (by first | rfl | decide +kernel) rfl), ⟨rfl, by decide, by decide, rfl⟩⟩
theorem kv_X0_124 : q_okV RX0 124 RX2 yX2_add cX2_add 5 none 2 := ⟨(q_in_t5 (i := 104) (by first | rfl | decide +kernel) rfl), (q_in_t5 (i := 105) (by first | rfl | decide +kernel) rfl), (q_in_t5 (i := 106) (by first | rfl | decide +kernel) rfl), (q_in_t1 (i := 7) (by first | rfl | decide +kernel) rfl), (q_in_t5 (i := 107) (by first | rfl | decide +kernel) rfl), ⟨rfl, by decide, by decide, rfl⟩⟩
theorem gs_X0_150_2 (E : q_E p c cc s m args RX0 X) (hI : q_I X n σ0 H0 locs σ H) (ha : q_kd X a = 2) (hdg : decode cc pc = .ok (.getfield 150, 3)) (kk : W p l e R s m args below meth c H locs cells slots Q (F0 m (pc + 3) ls (.ref (q_rf X a 2) :: rest))) : W p l e R s m args below meth c H locs cells slots Q (F0 m pc ls (.ref a :: rest)) :=
  q_getf (ref := "CheatHeap$Hands") E hI ha ⟨rfl, by decide⟩ (show vwCl[1]? = some (RX1, TX1, 7) from rfl) q_inX1 (f := 2) (by decide) (q_in_t1 (i := 113) (by first | rfl | decide +kernel) rfl) (Or.inl rfl) rfl hdg kk
theorem kv_X0_125 : q_okV RX0 125 RX0 yX0_winIfRid cX0_winIfRid 1 none 0 := ⟨(q_in_t5 (i := 117) (by first | rfl | decide +kernel) rfl), (q_in_t5 (i := 119) (by first | rfl | decide +kernel) rfl), (q_in_p (i := 24) (by decide +kernel) rfl), (q_in_t1 (i := 2) (by first | rfl | decide +kernel) rfl), (q_in_t5 (i := 120) (by first | rfl | decide +kernel) rfl), ⟨rfl, by decide, by decide, rfl⟩⟩
theorem kv_X0_128 : q_okV RX0 128 RX6 yX6_kindAfter cX6_kindAfter 3 (some .int) 2 := ⟨(q_in_t5 (i := 121) (by first | rfl | decide +kernel) rfl), (q_in_t5 (i := 122) (by first | rfl | decide +kernel) rfl), (q_in_t5 (i := 123) (by first | rfl | decide +kernel) rfl), (q_in_t1 (i := 3) (by first | rfl | decide +kernel) rfl), (q_in_t5 (i := 124) (by first | rfl | decide +kernel) rfl), ⟨rfl, by decide, by decide, rfl⟩⟩
theorem kv_X0_131 : q_okV RX0 131 RX6 yX6_playerAfter cX6_playerAfter 3 (some .int) 2 := ⟨(q_in_t5 (i := 128) (by first | rfl | decide +kernel) rfl), (q_in_t5 (i := 129) (by first | rfl | decide +kernel) rfl), (q_in_t5 (i := 130) (by first | rfl | decide +kernel) rfl), (q_in_t1 (i := 3) (by first | rfl | decide +kernel) rfl), (q_in_t5 (i := 131) (by first | rfl | decide +kernel) rfl), ⟨rfl, by decide, by decide, rfl⟩⟩
theorem kv_X0_134 : q_okV RX0 134 RX2 yX2_topTruth cX2_topTruth 1 (some .int) 0 := ⟨(q_in_t5 (i := 144) (by first | rfl | decide +kernel) rfl), (q_in_t5 (i := 145) (by first | rfl | decide +kernel) rfl), (q_in_t5 (i := 146) (by first | rfl | decide +kernel) rfl), (q_in_t1 (i := 7) (by first | rfl | decide +kernel) rfl), (q_in_t5 (i := 147) (by first | rfl | decide +kernel) rfl), ⟨rfl, by decide, by decide, rfl⟩⟩
theorem gs_X0_138_2 (E : q_E p c cc s m args RX0 X) (hI : q_I X n σ0 H0 locs σ H) (ha : q_kd X a = 2) (hdg : decode cc pc = .ok (.getfield 138, 3)) (kk : W p l e R s m args below meth c H locs cells slots Q (F0 m (pc + 3) ls (.ref (q_rf X a 5) :: rest))) : W p l e R s m args below meth c H locs cells slots Q (F0 m pc ls (.ref a :: rest)) :=
  q_getf (ref := "CheatHeap$Hands") E hI ha ⟨rfl, by decide⟩ (show vwCl[1]? = some (RX1, TX1, 7) from rfl) q_inX1 (f := 5) (by decide) (q_in_t1 (i := 125) (by first | rfl | decide +kernel) rfl) (Or.inl rfl) rfl hdg kk
theorem gs_X0_141_2 (E : q_E p c cc s m args RX0 X) (hI : q_I X n σ0 H0 locs σ H) (ha : q_kd X a = 2) (hdg : decode cc pc = .ok (.getfield 141, 3)) (kk : W p l e R s m args below meth c H locs cells slots Q (F0 m (pc + 3) ls (.ref (q_rf X a 6) :: rest))) : W p l e R s m args below meth c H locs cells slots Q (F0 m pc ls (.ref a :: rest)) :=
  q_getf (ref := "CheatHeap$Hands") E hI ha ⟨rfl, by decide⟩ (show vwCl[1]? = some (RX1, TX1, 7) from rfl) q_inX1 (f := 6) (by decide) (q_in_t1 (i := 128) (by first | rfl | decide +kernel) rfl) (Or.inl rfl) rfl hdg kk
theorem kv_X0_144 : q_okV RX0 144 RX1 yX1_takeHeap cX1_takeHeap 4 none 1 := ⟨(q_in_t5 (i := 149) (by first | rfl | decide +kernel) rfl), (q_in_t5 (i := 150) (by first | rfl | decide +kernel) rfl), (q_in_t5 (i := 151) (by first | rfl | decide +kernel) rfl), (q_in_t1 (i := 6) (by first | rfl | decide +kernel) rfl), (q_in_t5 (i := 152) (by first | rfl | decide +kernel) rfl), ⟨rfl, by decide, by decide, rfl⟩⟩
theorem kv_X0_147 : q_okV RX0 147 RX6 yX6_kindAfterDoubt cX6_kindAfterDoubt 2 (some .int) 1 := ⟨(q_in_t5 (i := 157) (by first | rfl | decide +kernel) rfl), (q_in_t5 (i := 158) (by first | rfl | decide +kernel) rfl), (q_in_t5 (i := 159) (by first | rfl | decide +kernel) rfl), (q_in_t1 (i := 3) (by first | rfl | decide +kernel) rfl), (q_in_t5 (i := 160) (by first | rfl | decide +kernel) rfl), ⟨rfl, by decide, by decide, rfl⟩⟩
theorem gs_X0_153_6 (E : q_E p c cc s m args RX0 X) (hI : q_I X n σ0 H0 locs σ H) (ha : q_kd X a = 6) (hdg : decode cc pc = .ok (.getfield 153, 3)) (kk : W p l e R s m args below meth c H locs cells slots Q (F0 m (pc + 3) ls (.ref (q_rf X a 5) :: rest))) : W p l e R s m args below meth c H locs cells slots Q (F0 m pc ls (.ref a :: rest)) :=
  q_getf (ref := "CheatHeap$Rules") E hI ha ⟨rfl, by decide⟩ (show vwCl[5]? = some (RX6, TX6, 8) from rfl) q_inX6 (f := 5) (by decide) (q_in_t1 (i := 80) (by first | rfl | decide +kernel) rfl) (Or.inl rfl) rfl hdg kk
theorem kv_X0_156 : q_okV RX0 156 RX1 yX1_knownTo cX1_knownTo 4 (some .int) 2 := ⟨(q_in_t5 (i := 189) (by first | rfl | decide +kernel) rfl), (q_in_t5 (i := 174) (by first | rfl | decide +kernel) rfl), (q_in_t5 (i := 175) (by first | rfl | decide +kernel) rfl), (q_in_t1 (i := 6) (by first | rfl | decide +kernel) rfl), (q_in_t5 (i := 176) (by first | rfl | decide +kernel) rfl), ⟨rfl, by decide, by decide, rfl⟩⟩
theorem kv_X0_159 : q_okV RX0 159 RX0 yX0_unknownTo cX0_unknownTo 3 (some .int) 2 := ⟨(q_in_t5 (i := 185) (by first | rfl | decide +kernel) rfl), (q_in_t5 (i := 186) (by first | rfl | decide +kernel) rfl), (q_in_t5 (i := 187) (by first | rfl | decide +kernel) rfl), (q_in_t1 (i := 2) (by first | rfl | decide +kernel) rfl), (q_in_t5 (i := 188) (by first | rfl | decide +kernel) rfl), ⟨rfl, by decide, by decide, rfl⟩⟩
theorem kv_X0_162 : q_okV RX0 162 RX2 yX2_topSize cX2_topSize 1 (some .int) 0 := ⟨(q_in_t5 (i := 199) (by first | rfl | decide +kernel) rfl), (q_in_t5 (i := 200) (by first | rfl | decide +kernel) rfl), (q_in_t5 (i := 201) (by first | rfl | decide +kernel) rfl), (q_in_t1 (i := 7) (by first | rfl | decide +kernel) rfl), (q_in_t5 (i := 202) (by first | rfl | decide +kernel) rfl), ⟨rfl, by decide, by decide, rfl⟩⟩
theorem ks_X0_165 : q_okN RX0 165 "CheatHeap" yX11_waysToTake cX11_waysToTake 5 (some .long) 2 := ⟨List.mem_of_getElem? (i := 13) rfl, (q_in_t5 (i := 212) (by first | rfl | decide +kernel) rfl), (q_in_t1 (i := 1) (by first | rfl | decide +kernel) rfl), (q_in_t5 (i := 213) (by first | rfl | decide +kernel) rfl), ⟨by decide, by decide, rfl⟩⟩
theorem kv_X0_169 : q_okV RX0 169 RX0 yX0_allUnknownTo cX0_allUnknownTo 4 (some .int) 1 := ⟨(q_in_t5 (i := 218) (by first | rfl | decide +kernel) rfl), (q_in_t5 (i := 182) (by first | rfl | decide +kernel) rfl), (q_in_t5 (i := 183) (by first | rfl | decide +kernel) rfl), (q_in_t1 (i := 2) (by first | rfl | decide +kernel) rfl), (q_in_t5 (i := 184) (by first | rfl | decide +kernel) rfl), ⟨rfl, by decide, by decide, rfl⟩⟩
theorem gs_X0_172_3 (E : q_E p c cc s m args RX0 X) (hI : q_I X n σ0 H0 locs σ H) (ha : q_kd X a = 3) (hdg : decode cc pc = .ok (.getfield 172, 3)) (kk : W p l e R s m args below meth c H locs cells slots Q (F0 m (pc + 3) ls (.int (σ.1 a 1) :: rest))) : W p l e R s m args below meth c H locs cells slots Q (F0 m pc ls (.ref a :: rest)) :=
  q_getf (ref := "CheatHeap$Pile") E hI ha ⟨rfl, by decide⟩ (show vwCl[2]? = some (RX2, TX2, 6) from rfl) q_inX2 (f := 1) (by decide) (q_in_t1 (i := 157) (by first | rfl | decide +kernel) rfl) (Or.inl rfl) rfl hdg kk
theorem kv_X0_174 : q_okV RX0 174 RX0 yX0_allWays cX0_allWays 2 (some .long) 1 := ⟨(q_in_t6 (i := 14) (by first | rfl | decide +kernel) rfl), (q_in_t5 (i := 215) (by first | rfl | decide +kernel) rfl), (q_in_t5 (i := 216) (by first | rfl | decide +kernel) rfl), (q_in_t1 (i := 2) (by first | rfl | decide +kernel) rfl), (q_in_t5 (i := 217) (by first | rfl | decide +kernel) rfl), ⟨rfl, by decide, by decide, rfl⟩⟩
theorem kv_X0_180 : q_okV RX0 180 RX0 yX0_trueWays cX0_trueWays 2 (some .long) 1 := ⟨(q_in_t6 (i := 16) (by first | rfl | decide +kernel) rfl), (q_in_t5 (i := 208) (by first | rfl | decide +kernel) rfl), (q_in_t5 (i := 209) (by first | rfl | decide +kernel) rfl), (q_in_t1 (i := 2) (by first | rfl | decide +kernel) rfl), (q_in_t5 (i := 210) (by first | rfl | decide +kernel) rfl), ⟨rfl, by decide, by decide, rfl⟩⟩
theorem gs_X0_183_6 (E : q_E p c cc s m args RX0 X) (hI : q_I X n σ0 H0 locs σ H) (ha : q_kd X a = 6) (hdg : decode cc pc = .ok (.getfield 183, 3)) (kk : W p l e R s m args below meth c H locs cells slots Q (F0 m (pc + 3) ls (.int (σ.1 a 4) :: rest))) : W p l e R s m args below meth c H locs cells slots Q (F0 m pc ls (.ref a :: rest)) :=
  q_getf (ref := "CheatHeap$Rules") E hI ha ⟨rfl, by decide⟩ (show vwCl[5]? = some (RX6, TX6, 8) from rfl) q_inX6 (f := 4) (by decide) (q_in_t1 (i := 77) (by first | rfl | decide +kernel) rfl) (Or.inl rfl) rfl hdg kk
theorem kv_X0_189 : q_okV RX0 189 RX0 yX0_turnsAhead cX0_turnsAhead 3 (some .int) 1 := ⟨(q_in_t6 (i := 55) (by first | rfl | decide +kernel) rfl), (q_in_t6 (i := 40) (by first | rfl | decide +kernel) rfl), (q_in_t6 (i := 41) (by first | rfl | decide +kernel) rfl), (q_in_t1 (i := 2) (by first | rfl | decide +kernel) rfl), (q_in_t6 (i := 42) (by first | rfl | decide +kernel) rfl), ⟨rfl, by decide, by decide, rfl⟩⟩
theorem ps_X0_68_1 (E : q_E p c cc s m args RX0 X) (hI : q_I X n σ0 H0 locs σ H) (ha : q_kd X a = 1) {v : Int32} (hcl : n < 9) (hdg : decode cc pc = .ok (.putfield 68, 3)) (kk : ∀ (H1 : Heap) (locs1 : List Loc) (σ1 : ST), σ1 = q_si σ a 11 v → q_I X n σ0 H0 locs1 σ1 H1 → W p l e R s m args below meth c H1 locs1 cells slots Q (F0 m (pc + 3) ls rest)) : W p l e R s m args below meth c H locs cells slots Q (F0 m pc ls (.int v :: .ref a :: rest)) :=
  q_puti (ref := "CheatHeap$Game") E hI ha ⟨rfl, by decide⟩ (show vwCl[0]? = some (RX0, TX0, 15) from rfl) q_inX0 tyX0_ok nmX0 (f := 11) (by decide) (q_in_t2 (i := 18) (by first | rfl | decide +kernel) rfl) (Or.inl rfl) rfl rfl hcl hdg (q_inU rfl) (Or.inl rfl) (fun H1 l1 h => kk H1 l1 _ rfl h)
theorem ps_X0_71_1 (E : q_E p c cc s m args RX0 X) (hI : q_I X n σ0 H0 locs σ H) (ha : q_kd X a = 1) {v : Int32} (hcl : n < 9) (hdg : decode cc pc = .ok (.putfield 71, 3)) (kk : ∀ (H1 : Heap) (locs1 : List Loc) (σ1 : ST), σ1 = q_si σ a 12 v → q_I X n σ0 H0 locs1 σ1 H1 → W p l e R s m args below meth c H1 locs1 cells slots Q (F0 m (pc + 3) ls rest)) : W p l e R s m args below meth c H locs cells slots Q (F0 m pc ls (.int v :: .ref a :: rest)) :=
  q_puti (ref := "CheatHeap$Game") E hI ha ⟨rfl, by decide⟩ (show vwCl[0]? = some (RX0, TX0, 15) from rfl) q_inX0 tyX0_ok nmX0 (f := 12) (by decide) (q_in_t2 (i := 20) (by first | rfl | decide +kernel) rfl) (Or.inl rfl) rfl rfl hcl hdg (q_inU rfl) (Or.inl rfl) (fun H1 l1 h => kk H1 l1 _ rfl h)
theorem ps_X0_74_1 (E : q_E p c cc s m args RX0 X) (hI : q_I X n σ0 H0 locs σ H) (ha : q_kd X a = 1) {v : Int32} (hcl : n < 9) (hdg : decode cc pc = .ok (.putfield 74, 3)) (kk : ∀ (H1 : Heap) (locs1 : List Loc) (σ1 : ST), σ1 = q_si σ a 13 v → q_I X n σ0 H0 locs1 σ1 H1 → W p l e R s m args below meth c H1 locs1 cells slots Q (F0 m (pc + 3) ls rest)) : W p l e R s m args below meth c H locs cells slots Q (F0 m pc ls (.int v :: .ref a :: rest)) :=
  q_puti (ref := "CheatHeap$Game") E hI ha ⟨rfl, by decide⟩ (show vwCl[0]? = some (RX0, TX0, 15) from rfl) q_inX0 tyX0_ok nmX0 (f := 13) (by decide) (q_in_t2 (i := 22) (by first | rfl | decide +kernel) rfl) (Or.inl rfl) rfl rfl hcl hdg (q_inU rfl) (Or.inl rfl) (fun H1 l1 h => kk H1 l1 _ rfl h)
theorem ps_X0_77_1 (E : q_E p c cc s m args RX0 X) (hI : q_I X n σ0 H0 locs σ H) (ha : q_kd X a = 1) {v : Int32} (hcl : n < 9) (hdg : decode cc pc = .ok (.putfield 77, 3)) (kk : ∀ (H1 : Heap) (locs1 : List Loc) (σ1 : ST), σ1 = q_si σ a 14 v → q_I X n σ0 H0 locs1 σ1 H1 → W p l e R s m args below meth c H1 locs1 cells slots Q (F0 m (pc + 3) ls rest)) : W p l e R s m args below meth c H locs cells slots Q (F0 m pc ls (.int v :: .ref a :: rest)) :=
  q_puti (ref := "CheatHeap$Game") E hI ha ⟨rfl, by decide⟩ (show vwCl[0]? = some (RX0, TX0, 15) from rfl) q_inX0 tyX0_ok nmX0 (f := 14) (by decide) (q_in_t2 (i := 24) (by first | rfl | decide +kernel) rfl) (Or.inl rfl) rfl rfl hcl hdg (q_inU rfl) (Or.inl rfl) (fun H1 l1 h => kk H1 l1 _ rfl h)
theorem gs_X0_71_1 (E : q_E p c cc s m args RX0 X) (hI : q_I X n σ0 H0 locs σ H) (ha : q_kd X a = 1) (hdg : decode cc pc = .ok (.getfield 71, 3)) (kk : W p l e R s m args below meth c H locs cells slots Q (F0 m (pc + 3) ls (.int (σ.1 a 12) :: rest))) : W p l e R s m args below meth c H locs cells slots Q (F0 m pc ls (.ref a :: rest)) :=
  q_getf (ref := "CheatHeap$Game") E hI ha ⟨rfl, by decide⟩ (show vwCl[0]? = some (RX0, TX0, 15) from rfl) q_inX0 (f := 12) (by decide) (q_in_t2 (i := 20) (by first | rfl | decide +kernel) rfl) (Or.inl rfl) rfl hdg kk
theorem kv_X0_195 : q_okV RX0 195 RX0 yX0_fallingKind cX0_fallingKind 3 (some .int) 2 := ⟨(q_in_t6 (i := 65) (by first | rfl | decide +kernel) rfl), (q_in_t6 (i := 52) (by first | rfl | decide +kernel) rfl), (q_in_t6 (i := 53) (by first | rfl | decide +kernel) rfl), (q_in_t1 (i := 2) (by first | rfl | decide +kernel) rfl), (q_in_t6 (i := 54) (by first | rfl | decide +kernel) rfl), ⟨rfl, by decide, by decide, rfl⟩⟩
theorem gs_X0_65_1 (E : q_E p c cc s m args RX0 X) (hI : q_I X n σ0 H0 locs σ H) (ha : q_kd X a = 1) (hdg : decode cc pc = .ok (.getfield 65, 3)) (kk : W p l e R s m args below meth c H locs cells slots Q (F0 m (pc + 3) ls (.ref (q_rf X a 10) :: rest))) : W p l e R s m args below meth c H locs cells slots Q (F0 m pc ls (.ref a :: rest)) :=
  q_getf (ref := "CheatHeap$Game") E hI ha ⟨rfl, by decide⟩ (show vwCl[0]? = some (RX0, TX0, 15) from rfl) q_inX0 (f := 10) (by decide) (q_in_t2 (i := 17) (by first | rfl | decide +kernel) rfl) (Or.inl rfl) rfl hdg kk
theorem gs_X0_198_6 (E : q_E p c cc s m args RX0 X) (hI : q_I X n σ0 H0 locs σ H) (ha : q_kd X a = 6) (hdg : decode cc pc = .ok (.getfield 198, 3)) (kk : W p l e R s m args below meth c H locs cells slots Q (F0 m (pc + 3) ls (.int (σ.1 a 3) :: rest))) : W p l e R s m args below meth c H locs cells slots Q (F0 m pc ls (.ref a :: rest)) :=
  q_getf (ref := "CheatHeap$Rules") E hI ha ⟨rfl, by decide⟩ (show vwCl[5]? = some (RX6, TX6, 8) from rfl) q_inX6 (f := 3) (by decide) (q_in_t1 (i := 72) (by first | rfl | decide +kernel) rfl) (Or.inl rfl) rfl hdg kk
theorem ks_X0_201 : q_okS RX0 201 yJ9_min_7cf53 cJ9_min_7cf53 2 (some .int) 2 := ⟨(q_in_t6 (i := 66) (by first | rfl | decide +kernel) rfl), (q_in_t3 (i := 43) (by first | rfl | decide +kernel) rfl), (q_in_t1 (i := 5) (by first | rfl | decide +kernel) rfl), (q_in_t3 (i := 44) (by first | rfl | decide +kernel) rfl), ⟨by decide, by decide, rfl⟩⟩
theorem gs_X0_68_1 (E : q_E p c cc s m args RX0 X) (hI : q_I X n σ0 H0 locs σ H) (ha : q_kd X a = 1) (hdg : decode cc pc = .ok (.getfield 68, 3)) (kk : W p l e R s m args below meth c H locs cells slots Q (F0 m (pc + 3) ls (.int (σ.1 a 11) :: rest))) : W p l e R s m args below meth c H locs cells slots Q (F0 m pc ls (.ref a :: rest)) :=
  q_getf (ref := "CheatHeap$Game") E hI ha ⟨rfl, by decide⟩ (show vwCl[0]? = some (RX0, TX0, 15) from rfl) q_inX0 (f := 11) (by decide) (q_in_t2 (i := 18) (by first | rfl | decide +kernel) rfl) (Or.inl rfl) rfl hdg kk
theorem gs_X0_77_1 (E : q_E p c cc s m args RX0 X) (hI : q_I X n σ0 H0 locs σ H) (ha : q_kd X a = 1) (hdg : decode cc pc = .ok (.getfield 77, 3)) (kk : W p l e R s m args below meth c H locs cells slots Q (F0 m (pc + 3) ls (.int (σ.1 a 14) :: rest))) : W p l e R s m args below meth c H locs cells slots Q (F0 m pc ls (.ref a :: rest)) :=
  q_getf (ref := "CheatHeap$Game") E hI ha ⟨rfl, by decide⟩ (show vwCl[0]? = some (RX0, TX0, 15) from rfl) q_inX0 (f := 14) (by decide) (q_in_t2 (i := 24) (by first | rfl | decide +kernel) rfl) (Or.inl rfl) rfl hdg kk
theorem kv_X0_192 : q_okV RX0 192 RX5 yX5_set cX5_set 3 none 2 := ⟨(q_in_t6 (i := 64) (by first | rfl | decide +kernel) rfl), (q_in_t4 (i := 83) (by first | rfl | decide +kernel) rfl), (q_in_t4 (i := 84) (by first | rfl | decide +kernel) rfl), (q_in_t1 (i := 4) (by first | rfl | decide +kernel) rfl), (q_in_t4 (i := 85) (by first | rfl | decide +kernel) rfl), ⟨rfl, by decide, by decide, rfl⟩⟩
theorem kv_X0_186 : q_okV RX0 186 RX1 yX1_laidBy cX1_laidBy 3 (some .int) 2 := ⟨(q_in_t6 (i := 114) (by first | rfl | decide +kernel) rfl), (q_in_t5 (i := 154) (by first | rfl | decide +kernel) rfl), (q_in_t5 (i := 155) (by first | rfl | decide +kernel) rfl), (q_in_t1 (i := 6) (by first | rfl | decide +kernel) rfl), (q_in_t5 (i := 156) (by first | rfl | decide +kernel) rfl), ⟨rfl, by decide, by decide, rfl⟩⟩
end QS
end
/-! FROM 13.game.b00.lean.txt -/
section
set_option maxRecDepth 100000 in
set_option maxHeartbeats 4000000 in
theorem c_X0_reset (l : Launch) (X : XW) (σ : ST) (a : Nat) (ha : q_kd X a = 1) : Met l yX0_reset (q_ws yX0_reset cX0_reset 1 none) (q_rm 2 41) (q_P X σ [.ref a]) (q_Qv X 8 σ (fun (σ' : ST) => σ' = F_X0_reset X σ a ∧ q_ow [(1, 4), (1, 5), (1, 6), (1, 7), (3, 0), (3, 1), (6, 0), (6, 1), (6, 2), (6, 3), (6, 4), (8, 0), (8, 1), (8, 2), (20, 99)] [] X σ σ')) 0 0 (q_reg X) := by
  refine q_met 8 (by first | exact rfl | decide +kernel) rfl (Nat.le_of_ble_eq_true rfl) (fun p e s m below meth c E hml hr hlk hI ls hl => ?_)
  have hx := E.1
  have hb := E.2.1
  have hl : lv_has ls 1 [(0, .ref a)] := hl
  have fr_σ : q_ow [(1, 4), (1, 5), (1, 6), (1, 7), (3, 0), (3, 1), (6, 0), (6, 1), (6, 2), (6, 3), (6, 4), (8, 0), (8, 1), (8, 2), (20, 99)] [] X σ σ := q_ow.rf
  obtain ⟨out, hout⟩ : ∃ o, o = F_X0_reset X σ a := ⟨_, rfl⟩
  have hF := hout.symm
  unfold F_X0_reset at hF
  refine lv_aload_n hx hb dX0_reset_0 rfl (lv_at hl 0 rfl) ?_
  refine gs_X0_12_1 E hI ha dX0_reset_1 ?_
  refine q_cv (q_runV (As := []) (rest := []) E (hml.trans hl.1.symm) hI (c_X6_reset l X σ (q_rf X a 0) (q_tk (k' := 6) hI ha rfl (by decide))) kv_X0_80 (q_tk (k' := 6) hI ha rfl (by decide)) ⟨rfl, by decide⟩ (show vwCl[5]? = some (RX6, TX6, 8) from rfl) rfl ⟨Nat.le_of_ble_eq_true rfl, Nat.le_of_ble_eq_true rfl⟩ ⟨Nat.le_refl _, Nat.le_refl _⟩ rfl (Nat.le_of_ble_eq_true rfl) dX0_reset_4) hI (by decide) (fun σ_2 H locs hpσ_2 hkσ_2 hI => ?_)
  obtain ⟨ahpσ_2, bhpσ_2⟩ := hpσ_2
  have fr_σ_2 := fr_σ.call bhpσ_2 rfl rfl
  replace hF := q_letX hF ahpσ_2
  refine lv_aload_n hx hb dX0_reset_7 rfl (lv_at hl 0 rfl) ?_
  refine gs_X0_21_1 E hI ha dX0_reset_8 ?_
  refine q_cv (q_runV (As := []) (rest := []) E (hml.trans hl.1.symm) hI (c_X1_reset l X σ_2 (q_rf X a 1) (q_tk (k' := 2) hI ha rfl (by decide))) kv_X0_83 (q_tk (k' := 2) hI ha rfl (by decide)) ⟨rfl, by decide⟩ (show vwCl[1]? = some (RX1, TX1, 7) from rfl) rfl ⟨Nat.le_of_ble_eq_true rfl, Nat.le_of_ble_eq_true rfl⟩ ⟨Nat.le_refl _, Nat.le_refl _⟩ rfl (Nat.le_of_ble_eq_true rfl) dX0_reset_11) hI (by decide) (fun σ_4 H locs hpσ_4 hkσ_4 hI => ?_)
  obtain ⟨ahpσ_4, bhpσ_4⟩ := hpσ_4
  have fr_σ_4 := fr_σ_2.call bhpσ_4 rfl rfl
  replace hF := q_letX hF ahpσ_4
  refine lv_aload_n hx hb dX0_reset_14 rfl (lv_at hl 0 rfl) ?_
  refine gs_X0_28_1 E hI ha dX0_reset_15 ?_
  refine q_cv (q_runV (As := []) (rest := []) E (hml.trans hl.1.symm) hI (c_X2_clear l X σ_4 (q_rf X a 2) (q_tk (k' := 3) hI ha rfl (by decide))) kv_X0_84 (q_tk (k' := 3) hI ha rfl (by decide)) ⟨rfl, by decide⟩ (show vwCl[2]? = some (RX2, TX2, 6) from rfl) rfl ⟨Nat.le_of_ble_eq_true rfl, Nat.le_of_ble_eq_true rfl⟩ ⟨Nat.le_refl _, Nat.le_refl _⟩ rfl (Nat.le_of_ble_eq_true rfl) dX0_reset_18) hI (by decide) (fun σ_6 H locs hpσ_6 hkσ_6 hI => ?_)
  obtain ⟨ahpσ_6, bhpσ_6⟩ := hpσ_6
  have fr_σ_6 := fr_σ_4.call bhpσ_6 rfl rfl
  replace hF := q_letX hF ahpσ_6
  refine lv_aload_n hx hb dX0_reset_21 rfl (lv_at hl 0 rfl) ?_
  refine gs_X0_35_1 E hI ha dX0_reset_22 ?_
  refine q_cv (q_runV (As := []) (rest := []) E (hml.trans hl.1.symm) hI (c_X8_clear l X σ_6 (q_rf X a 3) (q_tk (k' := 8) hI ha rfl (by decide))) kv_X0_87 (q_tk (k' := 8) hI ha rfl (by decide)) ⟨rfl, by decide⟩ (show vwCl[7]? = some (RX8, TX8, 8) from rfl) rfl ⟨Nat.le_of_ble_eq_true rfl, Nat.le_of_ble_eq_true rfl⟩ ⟨Nat.le_refl _, Nat.le_refl _⟩ rfl (Nat.le_of_ble_eq_true rfl) dX0_reset_25) hI (by decide) (fun σ_8 H locs hpσ_8 hkσ_8 hI => ?_)
  obtain ⟨ahpσ_8, bhpσ_8⟩ := hpσ_8
  have fr_σ_8 := fr_σ_6.call bhpσ_8 rfl rfl
  replace hF := q_letX hF ahpσ_8
  refine lv_aload_n hx hb dX0_reset_28 rfl (lv_at hl 0 rfl) ?_
  refine lv_iconst (v := 0) hx hb dX0_reset_29 (by decide) ?_
  refine ps_X0_39_1 E hI ha (by decide) dX0_reset_30 (fun H locs σ_9 hσ_9 hI => ?_)
  replace hF := q_letX hF hσ_9
  have fr_σ_9 := fr_σ_8.si hσ_9 ha rfl
  refine lv_aload_n hx hb dX0_reset_33 rfl (lv_at hl 0 rfl) ?_
  refine lv_iconst (v := 0) hx hb dX0_reset_34 (by decide) ?_
  refine ps_X0_43_1 E hI ha (by decide) dX0_reset_35 (fun H locs σ_10 hσ_10 hI => ?_)
  replace hF := q_letX hF hσ_10
  have fr_σ_10 := fr_σ_9.si hσ_10 ha rfl
  refine lv_aload_n hx hb dX0_reset_38 rfl (lv_at hl 0 rfl) ?_
  refine lv_iconst (v := (-1)) hx hb dX0_reset_39 (by decide) ?_
  refine ps_X0_46_1 E hI ha (by decide) dX0_reset_40 (fun H locs σ_11 hσ_11 hI => ?_)
  replace hF := q_letX hF hσ_11
  have fr_σ_11 := fr_σ_10.si hσ_11 ha rfl
  refine lv_aload_n hx hb dX0_reset_43 rfl (lv_at hl 0 rfl) ?_
  refine lv_iconst (v := 0) hx hb dX0_reset_44 (by decide) ?_
  refine ps_X0_49_1 E hI ha (by decide) (by decide) (by decide) dX0_reset_45 (fun H locs σ_12 hσ_12 hI => ?_)
  replace hF := q_letX hF hσ_12
  have fr_σ_12 := fr_σ_11.si hσ_12 ha rfl
  exact q_retv E hr hlk hI ⟨(hF.trans hout), fr_σ_12⟩ dX0_reset_48

set_option maxRecDepth 100000 in
set_option maxHeartbeats 4000000 in
theorem c_X0_copyFrom (l : Launch) (X : XW) (σ : ST) (a : Nat) (r1 : Nat) (ha : q_kd X a = 1) (hr1 : q_kd X r1 = 1) : Met l yX0_copyFrom (q_ws yX0_copyFrom cX0_copyFrom 2 none) (q_rm 2 43) (q_P X σ [.ref a, .ref r1]) (q_Qv X 8 σ (fun (σ' : ST) => σ' = F_X0_copyFrom X σ a r1 ∧ q_ow [(1, 4), (1, 5), (1, 6), (1, 7), (3, 0), (3, 1), (6, 0), (6, 1), (6, 2), (6, 3), (6, 4), (8, 0), (8, 1), (8, 2), (20, 99)] [] X σ σ')) 0 0 (q_reg X) := by
  refine q_met 8 (by first | exact rfl | decide +kernel) rfl (Nat.le_of_ble_eq_true rfl) (fun p e s m below meth c E hml hr hlk hI ls hl => ?_)
  have hx := E.1
  have hb := E.2.1
  have hl : lv_has ls 2 [(0, .ref a), (1, .ref r1)] := hl
  have fr_σ : q_ow [(1, 4), (1, 5), (1, 6), (1, 7), (3, 0), (3, 1), (6, 0), (6, 1), (6, 2), (6, 3), (6, 4), (8, 0), (8, 1), (8, 2), (20, 99)] [] X σ σ := q_ow.rf
  obtain ⟨out, hout⟩ : ∃ o, o = F_X0_copyFrom X σ a r1 := ⟨_, rfl⟩
  have hF := hout.symm
  unfold F_X0_copyFrom at hF
  refine lv_aload_n hx hb dX0_copyFrom_0 rfl (lv_at hl 0 rfl) ?_
  refine gs_X0_12_1 E hI ha dX0_copyFrom_1 ?_
  refine lv_aload_n hx hb dX0_copyFrom_4 rfl (lv_at hl 1 rfl) ?_
  refine gs_X0_12_1 E hI hr1 dX0_copyFrom_5 ?_
  refine q_cv (q_runV (As := [.ref (q_rf X r1 0)]) (rest := []) E (hml.trans hl.1.symm) hI (c_X6_copyFrom l X σ (q_rf X a 0) (q_rf X r1 0) (q_tk (k' := 6) hI ha rfl (by decide)) (q_tk (k' := 6) hI hr1 rfl (by decide))) kv_X0_88 (q_tk (k' := 6) hI ha rfl (by decide)) ⟨rfl, by decide⟩ (show vwCl[5]? = some (RX6, TX6, 8) from rfl) rfl ⟨Nat.le_of_ble_eq_true rfl, Nat.le_of_ble_eq_true rfl⟩ ⟨Nat.le_refl _, Nat.le_refl _⟩ rfl (Nat.le_of_ble_eq_true rfl) dX0_copyFrom_8) hI (by decide) (fun σ_2 H locs hpσ_2 hkσ_2 hI => ?_)
  obtain ⟨ahpσ_2, bhpσ_2⟩ := hpσ_2
  have fr_σ_2 := fr_σ.call bhpσ_2 rfl rfl
  replace hF := q_letX hF ahpσ_2
  refine lv_aload_n hx hb dX0_copyFrom_11 rfl (lv_at hl 0 rfl) ?_
  refine gs_X0_21_1 E hI ha dX0_copyFrom_12 ?_
  refine lv_aload_n hx hb dX0_copyFrom_15 rfl (lv_at hl 1 rfl) ?_
  refine gs_X0_21_1 E hI hr1 dX0_copyFrom_16 ?_
  refine q_cv (q_runV (As := [.ref (q_rf X r1 1)]) (rest := []) E (hml.trans hl.1.symm) hI (c_X1_copyFrom l X σ_2 (q_rf X a 1) (q_rf X r1 1) (q_tk (k' := 2) hI ha rfl (by decide)) (q_tk (k' := 2) hI hr1 rfl (by decide))) kv_X0_92 (q_tk (k' := 2) hI ha rfl (by decide)) ⟨rfl, by decide⟩ (show vwCl[1]? = some (RX1, TX1, 7) from rfl) rfl ⟨Nat.le_of_ble_eq_true rfl, Nat.le_of_ble_eq_true rfl⟩ ⟨Nat.le_refl _, Nat.le_refl _⟩ rfl (Nat.le_of_ble_eq_true rfl) dX0_copyFrom_19) hI (by decide) (fun σ_4 H locs hpσ_4 hkσ_4 hI => ?_)
  obtain ⟨ahpσ_4, bhpσ_4⟩ := hpσ_4
  have fr_σ_4 := fr_σ_2.call bhpσ_4 rfl rfl
  replace hF := q_letX hF ahpσ_4
  refine lv_aload_n hx hb dX0_copyFrom_22 rfl (lv_at hl 0 rfl) ?_
  refine gs_X0_28_1 E hI ha dX0_copyFrom_23 ?_
  refine lv_aload_n hx hb dX0_copyFrom_26 rfl (lv_at hl 1 rfl) ?_
  refine gs_X0_28_1 E hI hr1 dX0_copyFrom_27 ?_
  refine q_cv (q_runV (As := [.ref (q_rf X r1 2)]) (rest := []) E (hml.trans hl.1.symm) hI (c_X2_copyFrom l X σ_4 (q_rf X a 2) (q_rf X r1 2) (q_tk (k' := 3) hI ha rfl (by decide)) (q_tk (k' := 3) hI hr1 rfl (by decide))) kv_X0_95 (q_tk (k' := 3) hI ha rfl (by decide)) ⟨rfl, by decide⟩ (show vwCl[2]? = some (RX2, TX2, 6) from rfl) rfl ⟨Nat.le_of_ble_eq_true rfl, Nat.le_of_ble_eq_true rfl⟩ ⟨Nat.le_refl _, Nat.le_refl _⟩ rfl (Nat.le_of_ble_eq_true rfl) dX0_copyFrom_30) hI (by decide) (fun σ_6 H locs hpσ_6 hkσ_6 hI => ?_)
  obtain ⟨ahpσ_6, bhpσ_6⟩ := hpσ_6
  have fr_σ_6 := fr_σ_4.call bhpσ_6 rfl rfl
  replace hF := q_letX hF ahpσ_6
  refine lv_aload_n hx hb dX0_copyFrom_33 rfl (lv_at hl 0 rfl) ?_
  refine gs_X0_35_1 E hI ha dX0_copyFrom_34 ?_
  refine lv_aload_n hx hb dX0_copyFrom_37 rfl (lv_at hl 1 rfl) ?_
  refine gs_X0_35_1 E hI hr1 dX0_copyFrom_38 ?_
  refine q_cv (q_runV (As := [.ref (q_rf X r1 3)]) (rest := []) E (hml.trans hl.1.symm) hI (c_X8_copyFrom l X σ_6 (q_rf X a 3) (q_rf X r1 3) (q_tk (k' := 8) hI ha rfl (by decide)) (q_tk (k' := 8) hI hr1 rfl (by decide))) kv_X0_98 (q_tk (k' := 8) hI ha rfl (by decide)) ⟨rfl, by decide⟩ (show vwCl[7]? = some (RX8, TX8, 8) from rfl) rfl ⟨Nat.le_of_ble_eq_true rfl, Nat.le_of_ble_eq_true rfl⟩ ⟨Nat.le_refl _, Nat.le_refl _⟩ rfl (Nat.le_of_ble_eq_true rfl) dX0_copyFrom_41) hI (by decide) (fun σ_8 H locs hpσ_8 hkσ_8 hI => ?_)
  obtain ⟨ahpσ_8, bhpσ_8⟩ := hpσ_8
  have fr_σ_8 := fr_σ_6.call bhpσ_8 rfl rfl
  replace hF := q_letX hF ahpσ_8
  refine lv_aload_n hx hb dX0_copyFrom_44 rfl (lv_at hl 0 rfl) ?_
  refine lv_aload_n hx hb dX0_copyFrom_45 rfl (lv_at hl 1 rfl) ?_
  refine gs_X0_39_1 E hI hr1 dX0_copyFrom_46 ?_
  refine lv_topi (fun f_9 ef_9 => ?_)
  replace hF := q_letX hF ef_9
  refine ps_X0_39_1 E hI ha (by decide) dX0_copyFrom_49 (fun H locs σ_10 hσ_10 hI => ?_)
  replace hF := q_letX hF hσ_10
  have fr_σ_10 := fr_σ_8.si hσ_10 ha rfl
  refine lv_aload_n hx hb dX0_copyFrom_52 rfl (lv_at hl 0 rfl) ?_
  refine lv_aload_n hx hb dX0_copyFrom_53 rfl (lv_at hl 1 rfl) ?_
  refine gs_X0_43_1 E hI hr1 dX0_copyFrom_54 ?_
  refine lv_topi (fun f_11 ef_11 => ?_)
  replace hF := q_letX hF ef_11
  refine ps_X0_43_1 E hI ha (by decide) dX0_copyFrom_57 (fun H locs σ_12 hσ_12 hI => ?_)
  replace hF := q_letX hF hσ_12
  have fr_σ_12 := fr_σ_10.si hσ_12 ha rfl
  refine lv_aload_n hx hb dX0_copyFrom_60 rfl (lv_at hl 0 rfl) ?_
  refine lv_aload_n hx hb dX0_copyFrom_61 rfl (lv_at hl 1 rfl) ?_
  refine gs_X0_46_1 E hI hr1 dX0_copyFrom_62 ?_
  refine lv_topi (fun f_13 ef_13 => ?_)
  replace hF := q_letX hF ef_13
  refine ps_X0_46_1 E hI ha (by decide) dX0_copyFrom_65 (fun H locs σ_14 hσ_14 hI => ?_)
  replace hF := q_letX hF hσ_14
  have fr_σ_14 := fr_σ_12.si hσ_14 ha rfl
  refine lv_aload_n hx hb dX0_copyFrom_68 rfl (lv_at hl 0 rfl) ?_
  refine lv_aload_n hx hb dX0_copyFrom_69 rfl (lv_at hl 1 rfl) ?_
  refine gs_X0_49_1 E hI hr1 dX0_copyFrom_70 ?_
  refine lv_topi (fun f_15 ef_15 => ?_)
  replace hF := q_letX hF ef_15
  have bf_15 : 0 ≤ f_15.toInt ∧ f_15.toInt ≤ 1 := by rw [ef_15]; exact q_bd hI hr1 rfl
  refine ps_X0_49_1 E hI ha (by decide) (by omega) (by omega) dX0_copyFrom_73 (fun H locs σ_16 hσ_16 hI => ?_)
  replace hF := q_letX hF hσ_16
  have fr_σ_16 := fr_σ_14.si hσ_16 ha rfl
  exact q_retv E hr hlk hI ⟨(hF.trans hout), fr_σ_16⟩ dX0_copyFrom_76

set_option maxRecDepth 100000 in
set_option maxHeartbeats 4000000 in
theorem c_X0_clearWanted (l : Launch) (X : XW) (σ : ST) (a : Nat) (ha : q_kd X a = 1) : Met l yX0_clearWanted (q_ws yX0_clearWanted cX0_clearWanted 1 none) (q_rm 1 21) (q_P X σ [.ref a]) (q_Qv X 8 σ (fun (σ' : ST) => σ' = F_X0_clearWanted X σ a ∧ q_ow [(1, 9), (20, 99)] [] X σ σ')) 0 0 (q_reg X) := by
  refine q_met 8 (by first | exact rfl | decide +kernel) rfl (Nat.le_of_ble_eq_true rfl) (fun p e s m below meth c E hml hr hlk hI ls hl => ?_)
  have hx := E.1
  have hb := E.2.1
  have hl : lv_has ls 1 [(0, .ref a)] := hl
  have fr_σ : q_ow [(1, 9), (20, 99)] [] X σ σ := q_ow.rf
  obtain ⟨out, hout⟩ : ∃ o, o = F_X0_clearWanted X σ a := ⟨_, rfl⟩
  have hF := hout.symm
  unfold F_X0_clearWanted at hF
  refine lv_aload_n hx hb dX0_clearWanted_0 rfl (lv_at hl 0 rfl) ?_
  refine gs_X0_58_1 E hI ha dX0_clearWanted_1 ?_
  refine q_cv (q_runV (As := []) (rest := []) E (hml.trans hl.1.symm) hI (c_X5_clear l X σ (q_rf X a 8) (q_tk (k' := 5) hI ha rfl (by decide))) kv_X0_101 (q_tk (k' := 5) hI ha rfl (by decide)) ⟨rfl, by decide⟩ (show vwCl[4]? = some (RX5, TX5, 1) from rfl) rfl ⟨Nat.le_of_ble_eq_true rfl, Nat.le_of_ble_eq_true rfl⟩ ⟨Nat.le_refl _, Nat.le_refl _⟩ rfl (Nat.le_of_ble_eq_true rfl) dX0_clearWanted_4) hI (by decide) (fun σ_2 H locs hpσ_2 hkσ_2 hI => ?_)
  obtain ⟨ahpσ_2, bhpσ_2⟩ := hpσ_2
  have fr_σ_2 := fr_σ.call bhpσ_2 rfl rfl
  replace hF := q_letX hF ahpσ_2
  refine lv_aload_n hx hb dX0_clearWanted_7 rfl (lv_at hl 0 rfl) ?_
  refine lv_iconst (v := 0) hx hb dX0_clearWanted_8 (by decide) ?_
  refine ps_X0_62_1 E hI ha (by decide) dX0_clearWanted_9 (fun H locs σ_3 hσ_3 hI => ?_)
  replace hF := q_letX hF hσ_3
  have fr_σ_3 := fr_σ_2.si hσ_3 ha rfl
  exact q_retv E hr hlk hI ⟨(hF.trans hout), fr_σ_3⟩ dX0_clearWanted_12

set_option maxRecDepth 100000 in
set_option maxHeartbeats 4000000 in
theorem c_X0_want (l : Launch) (X : XW) (σ : ST) (a : Nat) (v1 : Int32) (v2 : Int32) (ha : q_kd X a = 1) : Met l yX0_want (q_ws yX0_want cX0_want 3 none) (q_rm 1 22) (q_P X σ [.ref a, .int v1, .int v2]) (q_Qv X 8 σ (fun (σ' : ST) => σ' = F_X0_want X σ a v1 v2 ∧ q_ow [(1, 9), (20, 99)] [] X σ σ')) 0 0 (q_reg X) := by
  refine q_met 8 (by first | exact rfl | decide +kernel) rfl (Nat.le_of_ble_eq_true rfl) (fun p e s m below meth c E hml hr hlk hI ls hl => ?_)
  have hx := E.1
  have hb := E.2.1
  have hl : lv_has ls 3 [(0, .ref a), (1, .int v1), (2, .int v2)] := hl
  have fr_σ : q_ow [(1, 9), (20, 99)] [] X σ σ := q_ow.rf
  obtain ⟨out, hout⟩ : ∃ o, o = F_X0_want X σ a v1 v2 := ⟨_, rfl⟩
  have hF := hout.symm
  unfold F_X0_want at hF
  refine lv_iload_n hx hb dX0_want_0 rfl (lv_at hl 1 rfl) ?_
  refine lv_iconst (v := (-1)) hx hb dX0_want_1 (by decide) ?_
  refine q_icmp_eq (A := v1.toInt) (B := (-1)) E rfl (by decide) (tgt := 24) dX0_want_2 (by decide) (fun c_1 => ?_) (fun c_1 => ?_)
  · skip
    replace hF := q_ifp hF c_1
    exact q_retv E hr hlk hI ⟨(hF.trans hout), fr_σ⟩ dX0_want_24
  · skip
    replace hF := q_ifn hF c_1
    refine lv_aload_n hx hb dX0_want_5 rfl (lv_at hl 0 rfl) ?_
    refine gs_X0_58_1 E hI ha dX0_want_6 ?_
    refine lv_iload_n hx hb dX0_want_9 rfl (lv_at hl 1 rfl) ?_
    refine lv_iload_n hx hb dX0_want_10 rfl (lv_at hl 2 rfl) ?_
    refine q_cv (q_runV (As := [.int v1, .int v2]) (rest := []) E (hml.trans hl.1.symm) hI (c_X5_add l X σ (q_rf X a 8) v1 v2 (q_tk (k' := 5) hI ha rfl (by decide))) kv_X0_102 (q_tk (k' := 5) hI ha rfl (by decide)) ⟨rfl, by decide⟩ (show vwCl[4]? = some (RX5, TX5, 1) from rfl) rfl ⟨Nat.le_of_ble_eq_true rfl, Nat.le_of_ble_eq_true rfl⟩ ⟨Nat.le_refl _, Nat.le_refl _⟩ rfl (Nat.le_of_ble_eq_true rfl) dX0_want_11) hI (by decide) (fun σ_3 H locs hpσ_3 hkσ_3 hI => ?_)
    obtain ⟨ahpσ_3, bhpσ_3⟩ := hpσ_3
    have fr_σ_3 := fr_σ.call bhpσ_3 rfl rfl
    replace hF := q_letX hF ahpσ_3
    refine lv_aload_n hx hb dX0_want_14 rfl (lv_at hl 0 rfl) ?_
    refine lv_dup hx hb dX0_want_15 rfl ?_
    refine gs_X0_62_1 E hI ha dX0_want_16 ?_
    refine lv_topi (fun f_4 ef_4 => ?_)
    replace hF := q_letX hF ef_4
    refine lv_iload_n hx hb dX0_want_19 rfl (lv_at hl 2 rfl) ?_
    refine lv_iadd hx hb dX0_want_20 ?_
    refine lv_topi (fun z_5 ez_5 => ?_)
    replace hF := q_letX hF ez_5
    refine ps_X0_62_1 E hI ha (by decide) dX0_want_21 (fun H locs σ_6 hσ_6 hI => ?_)
    replace hF := q_letX hF hσ_6
    have fr_σ_6 := fr_σ_3.si hσ_6 ha rfl
    exact q_retv E hr hlk hI ⟨(hF.trans hout), fr_σ_6⟩ dX0_want_24

set_option maxRecDepth 100000 in
set_option maxHeartbeats 4000000 in
theorem c_X0_holdsWanted (l : Launch) (X : XW) (σ : ST) (a : Nat) (ha : q_kd X a = 1) : Met l yX0_holdsWanted (q_ws yX0_holdsWanted cX0_holdsWanted 2 (some .boolean)) (q_rm 2 43) (q_P X σ [.ref a]) (q_Qi X 9 σ (fun (r : Int32) (σ' : ST) => σ' = σ ∧ (0 ≤ r.toInt ∧ r.toInt ≤ 1) ∧ r = F_X0_holdsWanted X σ a)) 0 0 (q_reg X) := by
  refine q_met 9 (by first | exact rfl | decide +kernel) rfl (Nat.le_of_ble_eq_true rfl) (fun p e s m below meth c E hml hr hlk hI ls hl => ?_)
  have hx := E.1
  have hb := E.2.1
  have hl : lv_has ls 2 [(0, .ref a)] := hl
  obtain ⟨out, hout⟩ : ∃ o, o = F_X0_holdsWanted X σ a := ⟨_, rfl⟩
  have hF := hout.symm
  unfold F_X0_holdsWanted at hF
  refine lv_iconst (v := 0) hx hb dX0_holdsWanted_0 (by decide) ?_
  refine lv_istore_n (lv' := [(1, .int 0), (0, .ref a)]) hx hb dX0_holdsWanted_1 rfl hl (by decide) rfl (fun ls hl => ?_)
  have L_2_2 : ∀ (k_2 : Nat) (x_1 : Int32) (H : Heap) (locs : List Loc) (ls : Array Slot), (2147483647 - x_1.toInt).toNat < k_2 → (0 ≤ x_1.toInt) → (F_X0_holdsWanted_L2_1 X σ a k_2 x_1 = out) → q_I X 9 σ s.heap locs σ H → lv_has ls 2 [(0, .ref a), (1, .int x_1)] → W p l e (q_rm 2 43) s m ([.ref a] : List Value).toArray below meth c H locs 0 0 (MQ below (q_Qi X 9 σ (fun (r : Int32) (σ' : ST) => σ' = σ ∧ (0 ≤ r.toInt ∧ r.toInt ≤ 1) ∧ r = F_X0_holdsWanted X σ a)) ([.ref a] : List Value).toArray s 0 0 (q_reg X)) (F0 m 2 ls []) := by
    clear hF
    intro k_2
    induction k_2 with
    | zero =>
      intro x_1 H locs ls hms
      exact absurd hms (Nat.not_lt_zero _)
    | succ k_2 ih2 =>
      intro x_1 H locs ls hm2 hge2 hF hI hl
      replace hF := (F_X0_holdsWanted_L2_1_s).symm.trans hF
      unfold F_X0_holdsWanted_B2_1 at hF
      refine lv_iload_n hx hb dX0_holdsWanted_2 rfl (lv_at hl 1 rfl) ?_
      refine lv_aload_n hx hb dX0_holdsWanted_3 rfl (lv_at hl 0 rfl) ?_
      refine gs_X0_12_1 E hI ha dX0_holdsWanted_4 ?_
      refine gs_X0_106_6 E hI (q_tk (k' := 6) hI ha rfl (by decide)) dX0_holdsWanted_7 ?_
      refine lv_topi (fun f_3 ef_3 => ?_)
      replace hF := q_letX hF ef_3
      have bf_3 : -2147483648 ≤ f_3.toInt ∧ f_3.toInt ≤ 10 := by rw [ef_3]; exact q_bd hI (q_tk (k' := 6) hI ha rfl (by decide)) rfl
      have gc_4_x_1 := q_rng x_1
      have gc_4_f_3 := q_rng f_3
      refine q_icmp_ge (A := x_1.toInt) (B := f_3.toInt) E rfl rfl (tgt := 44) dX0_holdsWanted_10 (by decide) (fun c_4 => ?_) (fun c_4 => ?_)
      · skip
        replace hF := q_ifn hF (Int.not_lt.mpr c_4)
        skip
        refine lv_iconst (v := 1) hx hb dX0_holdsWanted_44 (by decide) ?_
        have hrv : (1 : Int32).toInt = 1 := rfl
        exact q_retz E hr hlk hI ⟨by decide, by decide⟩ ⟨rfl, ⟨by decide, by decide⟩, (hF.trans hout)⟩ dX0_holdsWanted_45
      · skip
        replace hF := q_ifp hF c_4
        refine lv_aload_n hx hb dX0_holdsWanted_13 rfl (lv_at hl 0 rfl) ?_
        refine gs_X0_21_1 E hI ha dX0_holdsWanted_14 ?_
        refine lv_aload_n hx hb dX0_holdsWanted_17 rfl (lv_at hl 0 rfl) ?_
        refine gs_X0_43_1 E hI ha dX0_holdsWanted_18 ?_
        refine lv_topi (fun f_5 ef_5 => ?_)
        replace hF := q_letX hF ef_5
        refine lv_iload_n hx hb dX0_holdsWanted_21 rfl (lv_at hl 1 rfl) ?_
        refine q_ci (q_runV (As := [.int f_5, .int x_1]) (rest := []) E (hml.trans hl.1.symm) hI (c_X1_heldBy l X σ (q_rf X a 1) f_5 x_1 (q_tk (k' := 2) hI ha rfl (by decide))) kv_X0_109 (q_tk (k' := 2) hI ha rfl (by decide)) ⟨rfl, by decide⟩ (show vwCl[1]? = some (RX1, TX1, 7) from rfl) rfl ⟨Nat.le_of_ble_eq_true rfl, Nat.le_of_ble_eq_true rfl⟩ ⟨Nat.le_refl _, Nat.le_refl _⟩ rfl (Nat.le_of_ble_eq_true rfl) dX0_holdsWanted_22) hI (by decide) (fun r_6 σ_7 H locs hpσ_7 hkσ_7 hI => ?_)
        obtain ⟨ahpσ_7, bhpσ_7⟩ := hpσ_7
        rw [ahpσ_7] at hI
        replace hF := q_letX hF bhpσ_7
        refine lv_aload_n hx hb dX0_holdsWanted_25 rfl (lv_at hl 0 rfl) ?_
        refine gs_X0_58_1 E hI ha dX0_holdsWanted_26 ?_
        refine lv_iload_n hx hb dX0_holdsWanted_29 rfl (lv_at hl 1 rfl) ?_
        refine q_ci (q_runV (As := [.int x_1]) (rest := [.int r_6]) E (hml.trans hl.1.symm) hI (c_X5_get l X σ (q_rf X a 8) x_1 (q_tk (k' := 5) hI ha rfl (by decide))) kv_X0_113 (q_tk (k' := 5) hI ha rfl (by decide)) ⟨rfl, by decide⟩ (show vwCl[4]? = some (RX5, TX5, 1) from rfl) rfl ⟨Nat.le_of_ble_eq_true rfl, Nat.le_of_ble_eq_true rfl⟩ ⟨Nat.le_refl _, Nat.le_refl _⟩ rfl (Nat.le_of_ble_eq_true rfl) dX0_holdsWanted_30) hI (by decide) (fun r_8 σ_9 H locs hpσ_9 hkσ_9 hI => ?_)
        obtain ⟨ahpσ_9, bhpσ_9⟩ := hpσ_9
        rw [ahpσ_9] at hI
        replace hF := q_letX hF bhpσ_9
        have gc_10_r_6 := q_rng r_6
        have gc_10_r_8 := q_rng r_8
        refine q_icmp_ge (A := r_6.toInt) (B := r_8.toInt) E rfl rfl (tgt := 38) dX0_holdsWanted_33 (by decide) (fun c_10 => ?_) (fun c_10 => ?_)
        · skip
          replace hF := q_ifn hF (Int.not_lt.mpr c_10)
          obtain ⟨z_11, ez_11⟩ : ∃ y : Int32, y = x_1 + 1 := ⟨_, rfl⟩
          replace hF := q_letX hF ez_11
          refine lv_iinc (v := z_11) (lv' := [(1, .int z_11), (0, .ref a)]) hx hb dX0_holdsWanted_38 hl (k := 1) rfl (by rw [ez_11]; rfl) (by decide) rfl (fun ls hl => ?_)
          have iz_11 : z_11.toInt = x_1.toInt + 1 := q_inc ez_11 (by first | (clear hm2 gc_4_f_3 ahpσ_7 bhpσ_7 ahpσ_9 bhpσ_9 gc_10_r_6 gc_10_r_8 c_10; omega) | omega)
          refine lv_goto (tgt := 2) hx hb dX0_holdsWanted_41 (by decide) ?_
          exact ih2 z_11 _ _ ls (by first | (clear gc_4_f_3 ahpσ_7 bhpσ_7 ahpσ_9 bhpσ_9 gc_10_r_6 gc_10_r_8 c_10; omega) | omega) (by omega) hF hI (lv_sub hl [1, 0] rfl)
        · skip
          replace hF := q_ifp hF c_10
          skip
          refine lv_iconst (v := 0) hx hb dX0_holdsWanted_36 (by decide) ?_
          have hrv : (0 : Int32).toInt = 0 := rfl
          exact q_retz E hr hlk hI ⟨by decide, by decide⟩ ⟨rfl, ⟨by decide, by decide⟩, (hF.trans hout)⟩ dX0_holdsWanted_37
  exact L_2_2 ((2147483647 - (0 : Int32).toInt).toNat + 1) 0 _ _ ls (Nat.lt_succ_self _) (by decide) hF hI (lv_sub hl [1, 0] rfl)

set_option maxRecDepth 100000 in
set_option maxHeartbeats 4000000 in
theorem c_X0_layWanted (l : Launch) (X : XW) (σ : ST) (a : Nat) (ha : q_kd X a = 1) : Met l yX0_layWanted (q_ws yX0_layWanted cX0_layWanted 2 none) (q_rm 3 68) (q_P X σ [.ref a]) (q_Qv X 8 σ (fun (σ' : ST) => σ' = F_X0_layWanted X σ a ∧ q_ow [(1, 7), (3, 0), (3, 1), (20, 99)] [] X σ σ')) 0 0 (q_reg X) := by
  refine q_met 8 (by first | exact rfl | decide +kernel) rfl (Nat.le_of_ble_eq_true rfl) (fun p e s m below meth c E hml hr hlk hI ls hl => ?_)
  have hx := E.1
  have hb := E.2.1
  have hl : lv_has ls 2 [(0, .ref a)] := hl
  have fr_σ : q_ow [(1, 7), (3, 0), (3, 1), (20, 99)] [] X σ σ := q_ow.rf
  obtain ⟨out, hout⟩ : ∃ o, o = F_X0_layWanted X σ a := ⟨_, rfl⟩
  have hF := hout.symm
  unfold F_X0_layWanted at hF
  refine lv_aload_n hx hb dX0_layWanted_0 rfl (lv_at hl 0 rfl) ?_
  refine gs_X0_28_1 E hI ha dX0_layWanted_1 ?_
  refine lv_aload_n hx hb dX0_layWanted_4 rfl (lv_at hl 0 rfl) ?_
  refine gs_X0_43_1 E hI ha dX0_layWanted_5 ?_
  refine lv_topi (fun f_1 ef_1 => ?_)
  replace hF := q_letX hF ef_1
  refine lv_aload_n hx hb dX0_layWanted_8 rfl (lv_at hl 0 rfl) ?_
  refine gs_X0_39_1 E hI ha dX0_layWanted_9 ?_
  refine lv_topi (fun f_2 ef_2 => ?_)
  replace hF := q_letX hF ef_2
  refine q_cv (q_runV (As := [.int f_1, .int f_2]) (rest := []) E (hml.trans hl.1.symm) hI (c_X2_begin l X σ (q_rf X a 2) f_1 f_2 (q_tk (k' := 3) hI ha rfl (by decide))) kv_X0_117 (q_tk (k' := 3) hI ha rfl (by decide)) ⟨rfl, by decide⟩ (show vwCl[2]? = some (RX2, TX2, 6) from rfl) rfl ⟨Nat.le_of_ble_eq_true rfl, Nat.le_of_ble_eq_true rfl⟩ ⟨Nat.le_refl _, Nat.le_refl _⟩ rfl (Nat.le_of_ble_eq_true rfl) dX0_layWanted_12) hI (by decide) (fun σ_4 H locs hpσ_4 hkσ_4 hI => ?_)
  obtain ⟨ahpσ_4, bhpσ_4⟩ := hpσ_4
  have fr_σ_4 := fr_σ.call bhpσ_4 rfl rfl
  replace hF := q_letX hF ahpσ_4
  refine lv_iconst (v := 0) hx hb dX0_layWanted_15 (by decide) ?_
  refine lv_istore_n (lv' := [(1, .int 0), (0, .ref a)]) hx hb dX0_layWanted_16 rfl hl (by decide) rfl (fun ls hl => ?_)
  have L_17_7 : ∀ (k_7 : Nat) (x_5 : Int32) (σ_6 : ST) (H : Heap) (locs : List Loc) (ls : Array Slot), (2147483647 - x_5.toInt).toNat < k_7 → (0 ≤ x_5.toInt) → (q_ow [(1, 7), (3, 0), (3, 1), (20, 99)] [] X σ σ_6) → (F_X0_layWanted_L17_1 X a k_7 x_5 σ_6 = out) → q_I X 8 σ s.heap locs σ_6 H → lv_has ls 2 [(0, .ref a), (1, .int x_5)] → W p l e (q_rm 3 68) s m ([.ref a] : List Value).toArray below meth c H locs 0 0 (MQ below (q_Qv X 8 σ (fun (σ' : ST) => σ' = F_X0_layWanted X σ a ∧ q_ow [(1, 7), (3, 0), (3, 1), (20, 99)] [] X σ σ')) ([.ref a] : List Value).toArray s 0 0 (q_reg X)) (F0 m 17 ls []) := by
    clear hF
    intro k_7
    induction k_7 with
    | zero =>
      intro x_5 σ_6 H locs ls hms
      exact absurd hms (Nat.not_lt_zero _)
    | succ k_7 ih17 =>
      intro x_5 σ_6 H locs ls hm17 hge17 fr_σ_6 hF hI hl
      replace hF := (F_X0_layWanted_L17_1_s).symm.trans hF
      unfold F_X0_layWanted_B17_1 at hF
      refine lv_iload_n hx hb dX0_layWanted_17 rfl (lv_at hl 1 rfl) ?_
      refine lv_aload_n hx hb dX0_layWanted_18 rfl (lv_at hl 0 rfl) ?_
      refine gs_X0_12_1 E hI ha dX0_layWanted_19 ?_
      refine gs_X0_106_6 E hI (q_tk (k' := 6) hI ha rfl (by decide)) dX0_layWanted_22 ?_
      refine lv_topi (fun f_8 ef_8 => ?_)
      replace hF := q_letX hF ef_8
      have bf_8 : -2147483648 ≤ f_8.toInt ∧ f_8.toInt ≤ 10 := by rw [ef_8]; exact q_bd hI (q_tk (k' := 6) hI ha rfl (by decide)) rfl
      have gc_9_x_5 := q_rng x_5
      have gc_9_f_8 := q_rng f_8
      refine q_icmp_ge (A := x_5.toInt) (B := f_8.toInt) E rfl rfl (tgt := 70) dX0_layWanted_25 (by decide) (fun c_9 => ?_) (fun c_9 => ?_)
      · skip
        replace hF := q_ifn hF (Int.not_lt.mpr c_9)
        unfold F_X0_layWanted_E70_2 at hF
        refine lv_aload_n hx hb dX0_layWanted_70 rfl (lv_at hl 0 rfl) ?_
        refine lv_iconst (v := 1) hx hb dX0_layWanted_71 (by decide) ?_
        refine ps_X0_49_1 E hI ha (by decide) (by decide) (by decide) dX0_layWanted_72 (fun H locs σ_10 hσ_10 hI => ?_)
        replace hF := q_letX hF hσ_10
        have fr_σ_10 := fr_σ_6.si hσ_10 ha rfl
        exact q_retv E hr hlk hI ⟨(hF.trans hout), fr_σ_10⟩ dX0_layWanted_75
      · skip
        replace hF := q_ifp hF c_9
        refine lv_aload_n hx hb dX0_layWanted_28 rfl (lv_at hl 0 rfl) ?_
        refine gs_X0_21_1 E hI ha dX0_layWanted_29 ?_
        refine lv_aload_n hx hb dX0_layWanted_32 rfl (lv_at hl 0 rfl) ?_
        refine gs_X0_43_1 E hI ha dX0_layWanted_33 ?_
        refine lv_topi (fun f_11 ef_11 => ?_)
        replace hF := q_letX hF ef_11
        refine lv_iload_n hx hb dX0_layWanted_36 rfl (lv_at hl 1 rfl) ?_
        refine lv_aload_n hx hb dX0_layWanted_37 rfl (lv_at hl 0 rfl) ?_
        refine gs_X0_58_1 E hI ha dX0_layWanted_38 ?_
        refine lv_iload_n hx hb dX0_layWanted_41 rfl (lv_at hl 1 rfl) ?_
        refine q_ci (q_runV (As := [.int x_5]) (rest := [.int x_5, .int f_11, .ref (q_rf X a 1)]) E (hml.trans hl.1.symm) hI (c_X5_get l X σ_6 (q_rf X a 8) x_5 (q_tk (k' := 5) hI ha rfl (by decide))) kv_X0_113 (q_tk (k' := 5) hI ha rfl (by decide)) ⟨rfl, by decide⟩ (show vwCl[4]? = some (RX5, TX5, 1) from rfl) rfl ⟨Nat.le_of_ble_eq_true rfl, Nat.le_of_ble_eq_true rfl⟩ ⟨Nat.le_refl _, Nat.le_refl _⟩ rfl (Nat.le_of_ble_eq_true rfl) dX0_layWanted_42) hI (by decide) (fun r_12 σ_13 H locs hpσ_13 hkσ_13 hI => ?_)
        obtain ⟨ahpσ_13, bhpσ_13⟩ := hpσ_13
        rw [ahpσ_13] at hI
        replace hF := q_letX hF bhpσ_13
        refine q_cv (q_runV (As := [.int f_11, .int x_5, .int r_12]) (rest := []) E (hml.trans hl.1.symm) hI (c_X1_moveToHeap l X σ_6 (q_rf X a 1) f_11 x_5 r_12 (q_tk (k' := 2) hI ha rfl (by decide))) kv_X0_120 (q_tk (k' := 2) hI ha rfl (by decide)) ⟨rfl, by decide⟩ (show vwCl[1]? = some (RX1, TX1, 7) from rfl) rfl ⟨Nat.le_of_ble_eq_true rfl, Nat.le_of_ble_eq_true rfl⟩ ⟨Nat.le_refl _, Nat.le_refl _⟩ rfl (Nat.le_of_ble_eq_true rfl) dX0_layWanted_45) hI (by decide) (fun σ_15 H locs hpσ_15 hkσ_15 hI => ?_)
        obtain ⟨ahpσ_15, bhpσ_15⟩ := hpσ_15
        have fr_σ_15 := fr_σ_6.call bhpσ_15 rfl rfl
        replace hF := q_letX hF ahpσ_15
        refine lv_aload_n hx hb dX0_layWanted_48 rfl (lv_at hl 0 rfl) ?_
        refine gs_X0_28_1 E hI ha dX0_layWanted_49 ?_
        refine lv_iload_n hx hb dX0_layWanted_52 rfl (lv_at hl 1 rfl) ?_
        refine lv_aload_n hx hb dX0_layWanted_53 rfl (lv_at hl 0 rfl) ?_
        refine gs_X0_58_1 E hI ha dX0_layWanted_54 ?_
        refine lv_iload_n hx hb dX0_layWanted_57 rfl (lv_at hl 1 rfl) ?_
        refine q_ci (q_runV (As := [.int x_5]) (rest := [.int x_5, .ref (q_rf X a 2)]) E (hml.trans hl.1.symm) hI (c_X5_get l X σ_15 (q_rf X a 8) x_5 (q_tk (k' := 5) hI ha rfl (by decide))) kv_X0_113 (q_tk (k' := 5) hI ha rfl (by decide)) ⟨rfl, by decide⟩ (show vwCl[4]? = some (RX5, TX5, 1) from rfl) rfl ⟨Nat.le_of_ble_eq_true rfl, Nat.le_of_ble_eq_true rfl⟩ ⟨Nat.le_refl _, Nat.le_refl _⟩ rfl (Nat.le_of_ble_eq_true rfl) dX0_layWanted_58) hI (by decide) (fun r_16 σ_17 H locs hpσ_17 hkσ_17 hI => ?_)
        obtain ⟨ahpσ_17, bhpσ_17⟩ := hpσ_17
        rw [ahpσ_17] at hI
        replace hF := q_letX hF bhpσ_17
        refine q_cv (q_runV (As := [.int x_5, .int r_16]) (rest := []) E (hml.trans hl.1.symm) hI (c_X2_add l X σ_15 (q_rf X a 2) x_5 r_16 (q_tk (k' := 3) hI ha rfl (by decide))) kv_X0_124 (q_tk (k' := 3) hI ha rfl (by decide)) ⟨rfl, by decide⟩ (show vwCl[2]? = some (RX2, TX2, 6) from rfl) rfl ⟨Nat.le_of_ble_eq_true rfl, Nat.le_of_ble_eq_true rfl⟩ ⟨Nat.le_refl _, Nat.le_refl _⟩ rfl (Nat.le_of_ble_eq_true rfl) dX0_layWanted_61) hI (by decide) (fun σ_19 H locs hpσ_19 hkσ_19 hI => ?_)
        obtain ⟨ahpσ_19, bhpσ_19⟩ := hpσ_19
        have fr_σ_19 := fr_σ_15.call bhpσ_19 rfl rfl
        replace hF := q_letX hF ahpσ_19
        obtain ⟨z_20, ez_20⟩ : ∃ y : Int32, y = x_5 + 1 := ⟨_, rfl⟩
        replace hF := q_letX hF ez_20
        refine lv_iinc (v := z_20) (lv' := [(1, .int z_20), (0, .ref a)]) hx hb dX0_layWanted_64 hl (k := 1) rfl (by rw [ez_20]; rfl) (by decide) rfl (fun ls hl => ?_)
        have iz_20 : z_20.toInt = x_5.toInt + 1 := q_inc ez_20 (by first | (clear ahpσ_4 bhpσ_4 hm17 gc_9_f_8 ahpσ_13 bhpσ_13 ahpσ_15 bhpσ_15 ahpσ_17 bhpσ_17 ahpσ_19 bhpσ_19; omega) | omega)
        refine lv_goto (tgt := 17) hx hb dX0_layWanted_67 (by decide) ?_
        exact ih17 z_20 σ_19 _ _ ls (by first | (clear ahpσ_4 bhpσ_4 gc_9_f_8 ahpσ_13 bhpσ_13 ahpσ_15 bhpσ_15 ahpσ_17 bhpσ_17 ahpσ_19 bhpσ_19; omega) | omega) (by omega) fr_σ_19 hF hI (lv_sub hl [1, 0] rfl)
  exact L_17_7 ((2147483647 - (0 : Int32).toInt).toNat + 1) 0 σ_4 _ _ ls (Nat.lt_succ_self _) (by decide) fr_σ_4 hF hI (lv_sub hl [1, 0] rfl)

set_option maxRecDepth 100000 in
set_option maxHeartbeats 4000000 in
theorem c_X0_winIfRid (l : Launch) (X : XW) (σ : ST) (a : Nat) (ha : q_kd X a = 1) : Met l yX0_winIfRid (q_ws yX0_winIfRid cX0_winIfRid 1 none) (q_rm 1 21) (q_P X σ [.ref a]) (q_Qv X 8 σ (fun (σ' : ST) => σ' = F_X0_winIfRid X σ a ∧ q_ow [(1, 6)] [] X σ σ')) 0 0 (q_reg X) := by
  refine q_met 8 (by first | exact rfl | decide +kernel) rfl (Nat.le_of_ble_eq_true rfl) (fun p e s m below meth c E hml hr hlk hI ls hl => ?_)
  have hx := E.1
  have hb := E.2.1
  have hl : lv_has ls 1 [(0, .ref a)] := hl
  have fr_σ : q_ow [(1, 6)] [] X σ σ := q_ow.rf
  obtain ⟨out, hout⟩ : ∃ o, o = F_X0_winIfRid X σ a := ⟨_, rfl⟩
  have hF := hout.symm
  unfold F_X0_winIfRid at hF
  refine lv_aload_n hx hb dX0_winIfRid_0 rfl (lv_at hl 0 rfl) ?_
  refine gs_X0_21_1 E hI ha dX0_winIfRid_1 ?_
  refine gs_X0_150_2 E hI (q_tk (k' := 2) hI ha rfl (by decide)) dX0_winIfRid_4 ?_
  refine lv_aload_n hx hb dX0_winIfRid_7 rfl (lv_at hl 0 rfl) ?_
  refine gs_X0_43_1 E hI ha dX0_winIfRid_8 ?_
  refine lv_topi (fun f_1 ef_1 => ?_)
  replace hF := q_letX hF ef_1
  refine q_ci (q_runV (As := [.int f_1]) (rest := []) E (hml.trans hl.1.symm) hI (c_X5_get l X σ (q_rf X (q_rf X a 1) 2) f_1 (q_tk (k' := 5) hI (q_tk (k' := 2) hI ha rfl (by decide)) rfl (by decide))) kv_X0_113 (q_tk (k' := 5) hI (q_tk (k' := 2) hI ha rfl (by decide)) rfl (by decide)) ⟨rfl, by decide⟩ (show vwCl[4]? = some (RX5, TX5, 1) from rfl) rfl ⟨Nat.le_of_ble_eq_true rfl, Nat.le_of_ble_eq_true rfl⟩ ⟨Nat.le_refl _, Nat.le_refl _⟩ rfl (Nat.le_of_ble_eq_true rfl) dX0_winIfRid_11) hI (by decide) (fun r_2 σ_3 H locs hpσ_3 hkσ_3 hI => ?_)
  obtain ⟨ahpσ_3, bhpσ_3⟩ := hpσ_3
  rw [ahpσ_3] at hI
  replace hF := q_letX hF bhpσ_3
  refine q_if_ne (A := r_2.toInt) E rfl (tgt := 25) dX0_winIfRid_14 (by decide) (fun c_4 => ?_) (fun c_4 => ?_)
  · skip
    replace hF := q_ifn hF c_4
    exact q_retv E hr hlk hI ⟨(hF.trans hout), fr_σ⟩ dX0_winIfRid_25
  · skip
    replace hF := q_ifp hF c_4
    refine lv_aload_n hx hb dX0_winIfRid_17 rfl (lv_at hl 0 rfl) ?_
    refine lv_aload_n hx hb dX0_winIfRid_18 rfl (lv_at hl 0 rfl) ?_
    refine gs_X0_43_1 E hI ha dX0_winIfRid_19 ?_
    refine lv_topi (fun f_5 ef_5 => ?_)
    replace hF := q_letX hF ef_5
    refine ps_X0_46_1 E hI ha (by decide) dX0_winIfRid_22 (fun H locs σ_6 hσ_6 hI => ?_)
    replace hF := q_letX hF hσ_6
    have fr_σ_6 := fr_σ.si hσ_6 ha rfl
    exact q_retv E hr hlk hI ⟨(hF.trans hout), fr_σ_6⟩ dX0_winIfRid_25

set_option maxRecDepth 100000 in
set_option maxHeartbeats 4000000 in
theorem c_X0_letLie (l : Launch) (X : XW) (σ : ST) (a : Nat) (ha : q_kd X a = 1) : Met l yX0_letLie (q_ws yX0_letLie cX0_letLie 1 none) (q_rm 2 44) (q_P X σ [.ref a]) (q_Qv X 8 σ (fun (σ' : ST) => σ' = F_X0_letLie X σ a ∧ q_ow [(1, 4), (1, 5), (1, 6), (1, 7)] [] X σ σ')) 0 0 (q_reg X) := by
  refine q_met 8 (by first | exact rfl | decide +kernel) rfl (Nat.le_of_ble_eq_true rfl) (fun p e s m below meth c E hml hr hlk hI ls hl => ?_)
  have hx := E.1
  have hb := E.2.1
  have hl : lv_has ls 1 [(0, .ref a)] := hl
  have fr_σ : q_ow [(1, 4), (1, 5), (1, 6), (1, 7)] [] X σ σ := q_ow.rf
  obtain ⟨out, hout⟩ : ∃ o, o = F_X0_letLie X σ a := ⟨_, rfl⟩
  have hF := hout.symm
  unfold F_X0_letLie at hF
  refine lv_aload_n hx hb dX0_letLie_0 rfl (lv_at hl 0 rfl) ?_
  refine lv_iconst (v := 0) hx hb dX0_letLie_1 (by decide) ?_
  refine ps_X0_49_1 E hI ha (by decide) (by decide) (by decide) dX0_letLie_2 (fun H locs σ_1 hσ_1 hI => ?_)
  replace hF := q_letX hF hσ_1
  have fr_σ_1 := fr_σ.si hσ_1 ha rfl
  refine lv_aload_n hx hb dX0_letLie_5 rfl (lv_at hl 0 rfl) ?_
  refine q_cv (q_runV (As := []) (rest := []) E (hml.trans hl.1.symm) hI (c_X0_winIfRid l X σ_1 a ha) kv_X0_125 ha ⟨rfl, by decide⟩ (show vwCl[0]? = some (RX0, TX0, 15) from rfl) rfl ⟨Nat.le_of_ble_eq_true rfl, Nat.le_of_ble_eq_true rfl⟩ ⟨Nat.le_refl _, Nat.le_refl _⟩ rfl (Nat.le_of_ble_eq_true rfl) dX0_letLie_6) hI (by decide) (fun σ_3 H locs hpσ_3 hkσ_3 hI => ?_)
  obtain ⟨ahpσ_3, bhpσ_3⟩ := hpσ_3
  have fr_σ_3 := fr_σ_1.call bhpσ_3 rfl rfl
  replace hF := q_letX hF ahpσ_3
  refine lv_aload_n hx hb dX0_letLie_9 rfl (lv_at hl 0 rfl) ?_
  refine lv_aload_n hx hb dX0_letLie_10 rfl (lv_at hl 0 rfl) ?_
  refine gs_X0_12_1 E hI ha dX0_letLie_11 ?_
  refine lv_aload_n hx hb dX0_letLie_14 rfl (lv_at hl 0 rfl) ?_
  refine gs_X0_39_1 E hI ha dX0_letLie_15 ?_
  refine lv_topi (fun f_4 ef_4 => ?_)
  replace hF := q_letX hF ef_4
  refine lv_iconst (v := 1) hx hb dX0_letLie_18 (by decide) ?_
  have kc_5 : (1 : Int32).toInt = 1 := rfl
  refine q_ci (q_runV (As := [.int f_4, .int 1]) (rest := [.ref a]) E (hml.trans hl.1.symm) hI (c_X6_kindAfter l X σ_3 (q_rf X a 0) f_4 (1 : Int32) (q_tk (k' := 6) hI ha rfl (by decide))) kv_X0_128 (q_tk (k' := 6) hI ha rfl (by decide)) ⟨rfl, by decide⟩ (show vwCl[5]? = some (RX6, TX6, 8) from rfl) rfl ⟨Nat.le_of_ble_eq_true rfl, Nat.le_of_ble_eq_true rfl⟩ ⟨Nat.le_refl _, Nat.le_refl _⟩ rfl (Nat.le_of_ble_eq_true rfl) dX0_letLie_19) hI (by decide) (fun r_6 σ_7 H locs hpσ_7 hkσ_7 hI => ?_)
  obtain ⟨ahpσ_7, bhpσ_7⟩ := hpσ_7
  rw [ahpσ_7] at hI
  replace hF := q_letX hF bhpσ_7
  refine ps_X0_39_1 E hI ha (by decide) dX0_letLie_22 (fun H locs σ_8 hσ_8 hI => ?_)
  replace hF := q_letX hF hσ_8
  have fr_σ_8 := fr_σ_3.si hσ_8 ha rfl
  refine lv_aload_n hx hb dX0_letLie_25 rfl (lv_at hl 0 rfl) ?_
  refine lv_aload_n hx hb dX0_letLie_26 rfl (lv_at hl 0 rfl) ?_
  refine gs_X0_12_1 E hI ha dX0_letLie_27 ?_
  refine lv_aload_n hx hb dX0_letLie_30 rfl (lv_at hl 0 rfl) ?_
  refine gs_X0_43_1 E hI ha dX0_letLie_31 ?_
  refine lv_topi (fun f_9 ef_9 => ?_)
  replace hF := q_letX hF ef_9
  refine lv_iconst (v := 1) hx hb dX0_letLie_34 (by decide) ?_
  have kc_10 : (1 : Int32).toInt = 1 := rfl
  refine q_ci (q_runV (As := [.int f_9, .int 1]) (rest := [.ref a]) E (hml.trans hl.1.symm) hI (c_X6_playerAfter l X σ_8 (q_rf X a 0) f_9 (1 : Int32) (q_tk (k' := 6) hI ha rfl (by decide))) kv_X0_131 (q_tk (k' := 6) hI ha rfl (by decide)) ⟨rfl, by decide⟩ (show vwCl[5]? = some (RX6, TX6, 8) from rfl) rfl ⟨Nat.le_of_ble_eq_true rfl, Nat.le_of_ble_eq_true rfl⟩ ⟨Nat.le_refl _, Nat.le_refl _⟩ rfl (Nat.le_of_ble_eq_true rfl) dX0_letLie_35) hI (by decide) (fun r_11 σ_12 H locs hpσ_12 hkσ_12 hI => ?_)
  obtain ⟨ahpσ_12, bhpσ_12⟩ := hpσ_12
  rw [ahpσ_12] at hI
  replace hF := q_letX hF bhpσ_12
  refine ps_X0_43_1 E hI ha (by decide) dX0_letLie_38 (fun H locs σ_13 hσ_13 hI => ?_)
  replace hF := q_letX hF hσ_13
  have fr_σ_13 := fr_σ_8.si hσ_13 ha rfl
  exact q_retv E hr hlk hI ⟨(hF.trans hout), fr_σ_13⟩ dX0_letLie_41

set_option maxRecDepth 100000 in
set_option maxHeartbeats 4000000 in
theorem c_X0_challenge (l : Launch) (X : XW) (σ : ST) (a : Nat) (v1 : Int32) (ha : q_kd X a = 1) : Met l yX0_challenge (q_ws yX0_challenge cX0_challenge 5 (some .int)) (q_rm 3 68) (q_P X σ [.ref a, .int v1]) (q_Qi X 8 σ (fun (r : Int32) (σ' : ST) => (r, σ') = F_X0_challenge X σ a v1 ∧ q_ow [(1, 4), (1, 5), (1, 6), (1, 7), (3, 0), (3, 1), (20, 99)] [] X σ σ')) 0 0 (q_reg X) := by
  refine q_met 8 (by first | exact rfl | decide +kernel) rfl (Nat.le_of_ble_eq_true rfl) (fun p e s m below meth c E hml hr hlk hI ls hl => ?_)
  have hx := E.1
  have hb := E.2.1
  have hl : lv_has ls 5 [(0, .ref a), (1, .int v1)] := hl
  have fr_σ : q_ow [(1, 4), (1, 5), (1, 6), (1, 7), (3, 0), (3, 1), (20, 99)] [] X σ σ := q_ow.rf
  obtain ⟨out, hout⟩ : ∃ o, o = F_X0_challenge X σ a v1 := ⟨_, rfl⟩
  have hF := hout.symm
  unfold F_X0_challenge at hF
  refine lv_aload_n hx hb dX0_challenge_0 rfl (lv_at hl 0 rfl) ?_
  refine gs_X0_28_1 E hI ha dX0_challenge_1 ?_
  refine q_ci (q_runV (As := []) (rest := []) E (hml.trans hl.1.symm) hI (c_X2_topTruth l X σ (q_rf X a 2) (q_tk (k' := 3) hI ha rfl (by decide))) kv_X0_134 (q_tk (k' := 3) hI ha rfl (by decide)) ⟨rfl, by decide⟩ (show vwCl[2]? = some (RX2, TX2, 6) from rfl) rfl ⟨Nat.le_of_ble_eq_true rfl, Nat.le_of_ble_eq_true rfl⟩ ⟨Nat.le_refl _, Nat.le_refl _⟩ rfl (Nat.le_of_ble_eq_true rfl) dX0_challenge_4) hI (by decide) (fun r_1 σ_2 H locs hpσ_2 hkσ_2 hI => ?_)
  obtain ⟨ahpσ_2, bhpσ_2⟩ := hpσ_2
  rw [ahpσ_2] at hI
  replace hF := q_letX hF bhpσ_2
  have J_15_3 : ∀ (x_3 : Int32) (H : Heap) (locs : List Loc) (ls : Array Slot), (F_X0_challenge_J15_1 X σ a v1 x_3 = out) → q_I X 8 σ s.heap locs σ H → lv_has ls 5 [(0, .ref a), (1, .int v1)] → W p l e (q_rm 3 68) s m ([.ref a, .int v1] : List Value).toArray below meth c H locs 0 0 (MQ below (q_Qi X 8 σ (fun (r : Int32) (σ' : ST) => (r, σ') = F_X0_challenge X σ a v1 ∧ q_ow [(1, 4), (1, 5), (1, 6), (1, 7), (3, 0), (3, 1), (20, 99)] [] X σ σ')) ([.ref a, .int v1] : List Value).toArray s 0 0 (q_reg X)) (F0 m 15 ls [.int x_3]) := by
    clear hF
    intro x_3 H locs ls  hF hI hl
    unfold F_X0_challenge_J15_1 at hF
    refine lv_istore_n (lv' := [(2, .int x_3), (0, .ref a), (1, .int v1)]) hx hb dX0_challenge_15 rfl hl (by decide) rfl (fun ls hl => ?_)
    refine lv_iload_n hx hb dX0_challenge_16 rfl (lv_at hl 0 rfl) ?_
    have J_28_4 : ∀ (x_4 : Int32) (H : Heap) (locs : List Loc) (ls : Array Slot), (F_X0_challenge_J28_2 X x_3 σ a v1 x_4 = out) → q_I X 8 σ s.heap locs σ H → lv_has ls 5 [(0, .ref a), (1, .int v1), (2, .int x_3)] → W p l e (q_rm 3 68) s m ([.ref a, .int v1] : List Value).toArray below meth c H locs 0 0 (MQ below (q_Qi X 8 σ (fun (r : Int32) (σ' : ST) => (r, σ') = F_X0_challenge X σ a v1 ∧ q_ow [(1, 4), (1, 5), (1, 6), (1, 7), (3, 0), (3, 1), (20, 99)] [] X σ σ')) ([.ref a, .int v1] : List Value).toArray s 0 0 (q_reg X)) (F0 m 28 ls [.int x_4]) := by
      clear hF
      intro x_4 H locs ls  hF hI hl
      unfold F_X0_challenge_J28_2 at hF
      refine lv_istore_n (lv' := [(3, .int x_4), (0, .ref a), (1, .int v1), (2, .int x_3)]) hx hb dX0_challenge_28 rfl hl (by decide) rfl (fun ls hl => ?_)
      refine lv_iload_n hx hb dX0_challenge_29 rfl (lv_at hl 3 rfl) ?_
      have J_41_5 : ∀ (x_5 : Int32) (H : Heap) (locs : List Loc) (ls : Array Slot), (F_X0_challenge_J41_3 X σ a x_3 x_4 x_5 = out) → q_I X 8 σ s.heap locs σ H → lv_has ls 5 [(0, .ref a), (1, .int v1), (2, .int x_3), (3, .int x_4)] → W p l e (q_rm 3 68) s m ([.ref a, .int v1] : List Value).toArray below meth c H locs 0 0 (MQ below (q_Qi X 8 σ (fun (r : Int32) (σ' : ST) => (r, σ') = F_X0_challenge X σ a v1 ∧ q_ow [(1, 4), (1, 5), (1, 6), (1, 7), (3, 0), (3, 1), (20, 99)] [] X σ σ')) ([.ref a, .int v1] : List Value).toArray s 0 0 (q_reg X)) (F0 m 41 ls [.int x_5]) := by
        clear hF
        intro x_5 H locs ls  hF hI hl
        unfold F_X0_challenge_J41_3 at hF
        refine lv_istore (lv' := [(4, .int x_5), (0, .ref a), (1, .int v1), (2, .int x_3), (3, .int x_4)]) hx hb dX0_challenge_41 hl (by decide) rfl (fun ls hl => ?_)
        refine lv_aload_n hx hb dX0_challenge_43 rfl (lv_at hl 1 rfl) ?_
        refine gs_X0_21_1 E hI ha dX0_challenge_44 ?_
        refine gs_X0_138_2 E hI (q_tk (k' := 2) hI ha rfl (by decide)) dX0_challenge_47 ?_
        refine lv_aload_n hx hb dX0_challenge_50 rfl (lv_at hl 1 rfl) ?_
        refine gs_X0_43_1 E hI ha dX0_challenge_51 ?_
        refine lv_topi (fun f_6 ef_6 => ?_)
        replace hF := q_letX hF ef_6
        refine lv_iconst (v := 1) hx hb dX0_challenge_54 (by decide) ?_
        have kc_7 : (1 : Int32).toInt = 1 := rfl
        refine q_cv (q_runV (As := [.int f_6, .int 1]) (rest := []) E (hml.trans hl.1.symm) hI (c_X5_add l X σ (q_rf X (q_rf X a 1) 5) f_6 (1 : Int32) (q_tk (k' := 5) hI (q_tk (k' := 2) hI ha rfl (by decide)) rfl (by decide))) kv_X0_102 (q_tk (k' := 5) hI (q_tk (k' := 2) hI ha rfl (by decide)) rfl (by decide)) ⟨rfl, by decide⟩ (show vwCl[4]? = some (RX5, TX5, 1) from rfl) rfl ⟨Nat.le_of_ble_eq_true rfl, Nat.le_of_ble_eq_true rfl⟩ ⟨Nat.le_refl _, Nat.le_refl _⟩ rfl (Nat.le_of_ble_eq_true rfl) dX0_challenge_55) hI (by decide) (fun σ_9 H locs hpσ_9 hkσ_9 hI => ?_)
        obtain ⟨ahpσ_9, bhpσ_9⟩ := hpσ_9
        have fr_σ_9 := fr_σ.call bhpσ_9 rfl rfl
        replace hF := q_letX hF ahpσ_9
        refine lv_iload_n hx hb dX0_challenge_58 rfl (lv_at hl 3 rfl) ?_
        refine q_if_eq (A := x_3.toInt) E rfl (tgt := 69) dX0_challenge_59 (by decide) (fun c_10 => ?_) (fun c_10 => ?_)
        · skip
          replace hF := q_ifp hF c_10
          refine lv_aload_n hx hb dX0_challenge_69 rfl (lv_at hl 1 rfl) ?_
          refine gs_X0_21_1 E hI ha dX0_challenge_70 ?_
          refine gs_X0_141_2 E hI (q_tk (k' := 2) hI ha rfl (by decide)) dX0_challenge_73 ?_
          refine lv_aload_n hx hb dX0_challenge_76 rfl (lv_at hl 1 rfl) ?_
          refine gs_X0_43_1 E hI ha dX0_challenge_77 ?_
          refine lv_topi (fun f_11 ef_11 => ?_)
          replace hF := q_letX hF ef_11
          refine lv_iconst (v := 1) hx hb dX0_challenge_80 (by decide) ?_
          have kc_12 : (1 : Int32).toInt = 1 := rfl
          refine q_cv (q_runV (As := [.int f_11, .int 1]) (rest := []) E (hml.trans hl.1.symm) hI (c_X5_add l X σ_9 (q_rf X (q_rf X a 1) 6) f_11 (1 : Int32) (q_tk (k' := 5) hI (q_tk (k' := 2) hI ha rfl (by decide)) rfl (by decide))) kv_X0_102 (q_tk (k' := 5) hI (q_tk (k' := 2) hI ha rfl (by decide)) rfl (by decide)) ⟨rfl, by decide⟩ (show vwCl[4]? = some (RX5, TX5, 1) from rfl) rfl ⟨Nat.le_of_ble_eq_true rfl, Nat.le_of_ble_eq_true rfl⟩ ⟨Nat.le_refl _, Nat.le_refl _⟩ rfl (Nat.le_of_ble_eq_true rfl) dX0_challenge_81) hI (by decide) (fun σ_14 H locs hpσ_14 hkσ_14 hI => ?_)
          obtain ⟨ahpσ_14, bhpσ_14⟩ := hpσ_14
          have fr_σ_14 := fr_σ_9.call bhpσ_14 rfl rfl
          replace hF := q_letX hF ahpσ_14
          refine lv_aload_n hx hb dX0_challenge_84 rfl (lv_at hl 1 rfl) ?_
          refine gs_X0_21_1 E hI ha dX0_challenge_85 ?_
          refine lv_iload_n hx hb dX0_challenge_88 rfl (lv_at hl 4 rfl) ?_
          refine q_cv (q_runV (As := [.int x_4]) (rest := []) E (hml.trans hl.1.symm) hI (c_X1_takeHeap l X σ_14 (q_rf X a 1) x_4 (q_tk (k' := 2) hI ha rfl (by decide))) kv_X0_144 (q_tk (k' := 2) hI ha rfl (by decide)) ⟨rfl, by decide⟩ (show vwCl[1]? = some (RX1, TX1, 7) from rfl) rfl ⟨Nat.le_of_ble_eq_true rfl, Nat.le_of_ble_eq_true rfl⟩ ⟨Nat.le_refl _, Nat.le_refl _⟩ rfl (Nat.le_of_ble_eq_true rfl) dX0_challenge_89) hI (by decide) (fun σ_16 H locs hpσ_16 hkσ_16 hI => ?_)
          obtain ⟨ahpσ_16, bhpσ_16⟩ := hpσ_16
          have fr_σ_16 := fr_σ_14.call bhpσ_16 rfl rfl
          replace hF := q_letX hF ahpσ_16
          refine lv_aload_n hx hb dX0_challenge_92 rfl (lv_at hl 1 rfl) ?_
          refine gs_X0_28_1 E hI ha dX0_challenge_93 ?_
          refine q_cv (q_runV (As := []) (rest := []) E (hml.trans hl.1.symm) hI (c_X2_clear l X σ_16 (q_rf X a 2) (q_tk (k' := 3) hI ha rfl (by decide))) kv_X0_84 (q_tk (k' := 3) hI ha rfl (by decide)) ⟨rfl, by decide⟩ (show vwCl[2]? = some (RX2, TX2, 6) from rfl) rfl ⟨Nat.le_of_ble_eq_true rfl, Nat.le_of_ble_eq_true rfl⟩ ⟨Nat.le_refl _, Nat.le_refl _⟩ rfl (Nat.le_of_ble_eq_true rfl) dX0_challenge_96) hI (by decide) (fun σ_18 H locs hpσ_18 hkσ_18 hI => ?_)
          obtain ⟨ahpσ_18, bhpσ_18⟩ := hpσ_18
          have fr_σ_18 := fr_σ_16.call bhpσ_18 rfl rfl
          replace hF := q_letX hF ahpσ_18
          refine lv_aload_n hx hb dX0_challenge_99 rfl (lv_at hl 1 rfl) ?_
          refine lv_iconst (v := 0) hx hb dX0_challenge_100 (by decide) ?_
          refine ps_X0_49_1 E hI ha (by decide) (by decide) (by decide) dX0_challenge_101 (fun H locs σ_19 hσ_19 hI => ?_)
          replace hF := q_letX hF hσ_19
          have fr_σ_19 := fr_σ_18.si hσ_19 ha rfl
          refine lv_aload_n hx hb dX0_challenge_104 rfl (lv_at hl 1 rfl) ?_
          refine lv_aload_n hx hb dX0_challenge_105 rfl (lv_at hl 1 rfl) ?_
          refine gs_X0_12_1 E hI ha dX0_challenge_106 ?_
          refine lv_aload_n hx hb dX0_challenge_109 rfl (lv_at hl 1 rfl) ?_
          refine gs_X0_39_1 E hI ha dX0_challenge_110 ?_
          refine lv_topi (fun f_20 ef_20 => ?_)
          replace hF := q_letX hF ef_20
          refine q_ci (q_runV (As := [.int f_20]) (rest := [.ref a]) E (hml.trans hl.1.symm) hI (c_X6_kindAfterDoubt l X σ_19 (q_rf X a 0) f_20 (q_tk (k' := 6) hI ha rfl (by decide))) kv_X0_147 (q_tk (k' := 6) hI ha rfl (by decide)) ⟨rfl, by decide⟩ (show vwCl[5]? = some (RX6, TX6, 8) from rfl) rfl ⟨Nat.le_of_ble_eq_true rfl, Nat.le_of_ble_eq_true rfl⟩ ⟨Nat.le_refl _, Nat.le_refl _⟩ rfl (Nat.le_of_ble_eq_true rfl) dX0_challenge_113) hI (by decide) (fun r_21 σ_22 H locs hpσ_22 hkσ_22 hI => ?_)
          obtain ⟨ahpσ_22, bhpσ_22⟩ := hpσ_22
          rw [ahpσ_22] at hI
          replace hF := q_letX hF bhpσ_22
          refine ps_X0_39_1 E hI ha (by decide) dX0_challenge_116 (fun H locs σ_23 hσ_23 hI => ?_)
          replace hF := q_letX hF hσ_23
          have fr_σ_23 := fr_σ_19.si hσ_23 ha rfl
          refine lv_aload_n hx hb dX0_challenge_119 rfl (lv_at hl 1 rfl) ?_
          refine lv_iload hx hb dX0_challenge_120 (lv_at hl 0 rfl) ?_
          refine ps_X0_43_1 E hI ha (by decide) dX0_challenge_122 (fun H locs σ_24 hσ_24 hI => ?_)
          replace hF := q_letX hF hσ_24
          have fr_σ_24 := fr_σ_23.si hσ_24 ha rfl
          refine lv_iload_n hx hb dX0_challenge_125 rfl (lv_at hl 4 rfl) ?_
          exact q_reti E hr hlk hI ⟨(hF.trans hout), fr_σ_24⟩ dX0_challenge_126
        · skip
          replace hF := q_ifn hF c_10
          refine lv_aload_n hx hb dX0_challenge_62 rfl (lv_at hl 1 rfl) ?_
          refine q_cv (q_runV (As := []) (rest := []) E (hml.trans hl.1.symm) hI (c_X0_winIfRid l X σ_9 a ha) kv_X0_125 ha ⟨rfl, by decide⟩ (show vwCl[0]? = some (RX0, TX0, 15) from rfl) rfl ⟨Nat.le_of_ble_eq_true rfl, Nat.le_of_ble_eq_true rfl⟩ ⟨Nat.le_refl _, Nat.le_refl _⟩ rfl (Nat.le_of_ble_eq_true rfl) dX0_challenge_63) hI (by decide) (fun σ_26 H locs hpσ_26 hkσ_26 hI => ?_)
          obtain ⟨ahpσ_26, bhpσ_26⟩ := hpσ_26
          have fr_σ_26 := fr_σ_9.call bhpσ_26 rfl rfl
          replace hF := q_letX hF ahpσ_26
          refine lv_goto (tgt := 84) hx hb dX0_challenge_66 (by decide) ?_
          refine lv_aload_n hx hb dX0_challenge_84 rfl (lv_at hl 1 rfl) ?_
          refine gs_X0_21_1 E hI ha dX0_challenge_85 ?_
          refine lv_iload_n hx hb dX0_challenge_88 rfl (lv_at hl 4 rfl) ?_
          refine q_cv (q_runV (As := [.int x_4]) (rest := []) E (hml.trans hl.1.symm) hI (c_X1_takeHeap l X σ_26 (q_rf X a 1) x_4 (q_tk (k' := 2) hI ha rfl (by decide))) kv_X0_144 (q_tk (k' := 2) hI ha rfl (by decide)) ⟨rfl, by decide⟩ (show vwCl[1]? = some (RX1, TX1, 7) from rfl) rfl ⟨Nat.le_of_ble_eq_true rfl, Nat.le_of_ble_eq_true rfl⟩ ⟨Nat.le_refl _, Nat.le_refl _⟩ rfl (Nat.le_of_ble_eq_true rfl) dX0_challenge_89) hI (by decide) (fun σ_28 H locs hpσ_28 hkσ_28 hI => ?_)
          obtain ⟨ahpσ_28, bhpσ_28⟩ := hpσ_28
          have fr_σ_28 := fr_σ_26.call bhpσ_28 rfl rfl
          replace hF := q_letX hF ahpσ_28
          refine lv_aload_n hx hb dX0_challenge_92 rfl (lv_at hl 1 rfl) ?_
          refine gs_X0_28_1 E hI ha dX0_challenge_93 ?_
          refine q_cv (q_runV (As := []) (rest := []) E (hml.trans hl.1.symm) hI (c_X2_clear l X σ_28 (q_rf X a 2) (q_tk (k' := 3) hI ha rfl (by decide))) kv_X0_84 (q_tk (k' := 3) hI ha rfl (by decide)) ⟨rfl, by decide⟩ (show vwCl[2]? = some (RX2, TX2, 6) from rfl) rfl ⟨Nat.le_of_ble_eq_true rfl, Nat.le_of_ble_eq_true rfl⟩ ⟨Nat.le_refl _, Nat.le_refl _⟩ rfl (Nat.le_of_ble_eq_true rfl) dX0_challenge_96) hI (by decide) (fun σ_30 H locs hpσ_30 hkσ_30 hI => ?_)
          obtain ⟨ahpσ_30, bhpσ_30⟩ := hpσ_30
          have fr_σ_30 := fr_σ_28.call bhpσ_30 rfl rfl
          replace hF := q_letX hF ahpσ_30
          refine lv_aload_n hx hb dX0_challenge_99 rfl (lv_at hl 1 rfl) ?_
          refine lv_iconst (v := 0) hx hb dX0_challenge_100 (by decide) ?_
          refine ps_X0_49_1 E hI ha (by decide) (by decide) (by decide) dX0_challenge_101 (fun H locs σ_31 hσ_31 hI => ?_)
          replace hF := q_letX hF hσ_31
          have fr_σ_31 := fr_σ_30.si hσ_31 ha rfl
          refine lv_aload_n hx hb dX0_challenge_104 rfl (lv_at hl 1 rfl) ?_
          refine lv_aload_n hx hb dX0_challenge_105 rfl (lv_at hl 1 rfl) ?_
          refine gs_X0_12_1 E hI ha dX0_challenge_106 ?_
          refine lv_aload_n hx hb dX0_challenge_109 rfl (lv_at hl 1 rfl) ?_
          refine gs_X0_39_1 E hI ha dX0_challenge_110 ?_
          refine lv_topi (fun f_32 ef_32 => ?_)
          replace hF := q_letX hF ef_32
          refine q_ci (q_runV (As := [.int f_32]) (rest := [.ref a]) E (hml.trans hl.1.symm) hI (c_X6_kindAfterDoubt l X σ_31 (q_rf X a 0) f_32 (q_tk (k' := 6) hI ha rfl (by decide))) kv_X0_147 (q_tk (k' := 6) hI ha rfl (by decide)) ⟨rfl, by decide⟩ (show vwCl[5]? = some (RX6, TX6, 8) from rfl) rfl ⟨Nat.le_of_ble_eq_true rfl, Nat.le_of_ble_eq_true rfl⟩ ⟨Nat.le_refl _, Nat.le_refl _⟩ rfl (Nat.le_of_ble_eq_true rfl) dX0_challenge_113) hI (by decide) (fun r_33 σ_34 H locs hpσ_34 hkσ_34 hI => ?_)
          obtain ⟨ahpσ_34, bhpσ_34⟩ := hpσ_34
          rw [ahpσ_34] at hI
          replace hF := q_letX hF bhpσ_34
          refine ps_X0_39_1 E hI ha (by decide) dX0_challenge_116 (fun H locs σ_35 hσ_35 hI => ?_)
          replace hF := q_letX hF hσ_35
          have fr_σ_35 := fr_σ_31.si hσ_35 ha rfl
          refine lv_aload_n hx hb dX0_challenge_119 rfl (lv_at hl 1 rfl) ?_
          refine lv_iload hx hb dX0_challenge_120 (lv_at hl 0 rfl) ?_
          refine ps_X0_43_1 E hI ha (by decide) dX0_challenge_122 (fun H locs σ_36 hσ_36 hI => ?_)
          replace hF := q_letX hF hσ_36
          have fr_σ_36 := fr_σ_35.si hσ_36 ha rfl
          refine lv_iload_n hx hb dX0_challenge_125 rfl (lv_at hl 4 rfl) ?_
          exact q_reti E hr hlk hI ⟨(hF.trans hout), fr_σ_36⟩ dX0_challenge_126
      refine q_if_eq (A := x_3.toInt) E rfl (tgt := 40) dX0_challenge_30 (by decide) (fun c_37 => ?_) (fun c_37 => ?_)
      · skip
        replace hF := q_ifp hF c_37
        refine lv_iload_n hx hb dX0_challenge_40 rfl (lv_at hl 2 rfl) ?_
        exact J_41_5 v1 _ _ ls hF hI (lv_sub hl [1, 2, 3, 0] rfl)
      · skip
        replace hF := q_ifn hF c_37
        refine lv_aload_n hx hb dX0_challenge_33 rfl (lv_at hl 1 rfl) ?_
        refine gs_X0_43_1 E hI ha dX0_challenge_34 ?_
        refine lv_topi (fun f_38 ef_38 => ?_)
        replace hF := q_letX hF ef_38
        refine lv_goto (tgt := 41) hx hb dX0_challenge_37 (by decide) ?_
        exact J_41_5 f_38 _ _ ls hF hI (lv_sub hl [1, 2, 3, 0] rfl)
    refine q_if_eq (A := x_3.toInt) E rfl (tgt := 24) dX0_challenge_17 (by decide) (fun c_39 => ?_) (fun c_39 => ?_)
    · skip
      replace hF := q_ifp hF c_39
      refine lv_aload_n hx hb dX0_challenge_24 rfl (lv_at hl 1 rfl) ?_
      refine gs_X0_43_1 E hI ha dX0_challenge_25 ?_
      refine lv_topi (fun f_40 ef_40 => ?_)
      replace hF := q_letX hF ef_40
      exact J_28_4 f_40 _ _ ls hF hI (lv_sub hl [1, 2, 0] rfl)
    · skip
      replace hF := q_ifn hF c_39
      refine lv_iload_n hx hb dX0_challenge_20 rfl (lv_at hl 2 rfl) ?_
      refine lv_goto (tgt := 28) hx hb dX0_challenge_21 (by decide) ?_
      exact J_28_4 v1 _ _ ls hF hI (lv_sub hl [1, 2, 0] rfl)
  refine q_if_ne (A := r_1.toInt) E rfl (tgt := 14) dX0_challenge_7 (by decide) (fun c_41 => ?_) (fun c_41 => ?_)
  · skip
    replace hF := q_ifn hF c_41
    refine lv_iconst (v := 0) hx hb dX0_challenge_14 (by decide) ?_
    exact J_15_3 0 _ _ ls hF hI (lv_sub hl [0, 1] rfl)
  · skip
    replace hF := q_ifp hF c_41
    refine lv_iconst (v := 1) hx hb dX0_challenge_10 (by decide) ?_
    refine lv_goto (tgt := 15) hx hb dX0_challenge_11 (by decide) ?_
    exact J_15_3 1 _ _ ls hF hI (lv_sub hl [0, 1] rfl)

set_option maxRecDepth 100000 in
set_option maxHeartbeats 4000000 in
theorem c_X0_unknownTo (l : Launch) (X : XW) (σ : ST) (a : Nat) (v1 : Int32) (v2 : Int32) (ha : q_kd X a = 1) : Met l yX0_unknownTo (q_ws yX0_unknownTo cX0_unknownTo 3 (some .int)) (q_rm 2 44) (q_P X σ [.ref a, .int v1, .int v2]) (q_Qi X 9 σ (fun (r : Int32) (σ' : ST) => σ' = σ ∧ r = F_X0_unknownTo X σ a v1 v2)) 0 0 (q_reg X) := by
  refine q_met 9 (by first | exact rfl | decide +kernel) rfl (Nat.le_of_ble_eq_true rfl) (fun p e s m below meth c E hml hr hlk hI ls hl => ?_)
  have hx := E.1
  have hb := E.2.1
  have hl : lv_has ls 3 [(0, .ref a), (1, .int v1), (2, .int v2)] := hl
  obtain ⟨out, hout⟩ : ∃ o, o = F_X0_unknownTo X σ a v1 v2 := ⟨_, rfl⟩
  have hF := hout.symm
  unfold F_X0_unknownTo at hF
  refine lv_aload_n hx hb dX0_unknownTo_0 rfl (lv_at hl 0 rfl) ?_
  refine gs_X0_12_1 E hI ha dX0_unknownTo_1 ?_
  refine gs_X0_153_6 E hI (q_tk (k' := 6) hI ha rfl (by decide)) dX0_unknownTo_4 ?_
  refine lv_iload_n hx hb dX0_unknownTo_7 rfl (lv_at hl 2 rfl) ?_
  refine q_ci (q_runV (As := [.int v2]) (rest := []) E (hml.trans hl.1.symm) hI (c_X5_get l X σ (q_rf X (q_rf X a 0) 5) v2 (q_tk (k' := 5) hI (q_tk (k' := 6) hI ha rfl (by decide)) rfl (by decide))) kv_X0_113 (q_tk (k' := 5) hI (q_tk (k' := 6) hI ha rfl (by decide)) rfl (by decide)) ⟨rfl, by decide⟩ (show vwCl[4]? = some (RX5, TX5, 1) from rfl) rfl ⟨Nat.le_of_ble_eq_true rfl, Nat.le_of_ble_eq_true rfl⟩ ⟨Nat.le_refl _, Nat.le_refl _⟩ rfl (Nat.le_of_ble_eq_true rfl) dX0_unknownTo_8) hI (by decide) (fun r_1 σ_2 H locs hpσ_2 hkσ_2 hI => ?_)
  obtain ⟨ahpσ_2, bhpσ_2⟩ := hpσ_2
  rw [ahpσ_2] at hI
  replace hF := q_letX hF bhpσ_2
  refine lv_aload_n hx hb dX0_unknownTo_11 rfl (lv_at hl 0 rfl) ?_
  refine gs_X0_21_1 E hI ha dX0_unknownTo_12 ?_
  refine lv_iload_n hx hb dX0_unknownTo_15 rfl (lv_at hl 1 rfl) ?_
  refine lv_iload_n hx hb dX0_unknownTo_16 rfl (lv_at hl 2 rfl) ?_
  refine q_ci (q_runV (As := [.int v1, .int v2]) (rest := [.int r_1]) E (hml.trans hl.1.symm) hI (c_X1_knownTo l X σ (q_rf X a 1) v1 v2 (q_tk (k' := 2) hI ha rfl (by decide))) kv_X0_156 (q_tk (k' := 2) hI ha rfl (by decide)) ⟨rfl, by decide⟩ (show vwCl[1]? = some (RX1, TX1, 7) from rfl) rfl ⟨Nat.le_of_ble_eq_true rfl, Nat.le_of_ble_eq_true rfl⟩ ⟨Nat.le_refl _, Nat.le_refl _⟩ rfl (Nat.le_of_ble_eq_true rfl) dX0_unknownTo_17) hI (by decide) (fun r_3 σ_4 H locs hpσ_4 hkσ_4 hI => ?_)
  obtain ⟨ahpσ_4, bhpσ_4⟩ := hpσ_4
  rw [ahpσ_4] at hI
  replace hF := q_letX hF bhpσ_4
  refine lv_isub hx hb dX0_unknownTo_20 ?_
  refine lv_topi (fun z_5 ez_5 => ?_)
  replace hF := q_letX hF ez_5
  exact q_reti E hr hlk hI ⟨rfl, (hF.trans hout)⟩ dX0_unknownTo_21

set_option maxRecDepth 100000 in
set_option maxHeartbeats 4000000 in
theorem c_X0_allUnknownTo (l : Launch) (X : XW) (σ : ST) (a : Nat) (v1 : Int32) (ha : q_kd X a = 1) : Met l yX0_allUnknownTo (q_ws yX0_allUnknownTo cX0_allUnknownTo 4 (some .int)) (q_rm 3 66) (q_P X σ [.ref a, .int v1]) (q_Qi X 9 σ (fun (r : Int32) (σ' : ST) => σ' = σ ∧ r = F_X0_allUnknownTo X σ a v1)) 0 0 (q_reg X) := by
  refine q_met 9 (by first | exact rfl | decide +kernel) rfl (Nat.le_of_ble_eq_true rfl) (fun p e s m below meth c E hml hr hlk hI ls hl => ?_)
  have hx := E.1
  have hb := E.2.1
  have hl : lv_has ls 4 [(0, .ref a), (1, .int v1)] := hl
  obtain ⟨out, hout⟩ : ∃ o, o = F_X0_allUnknownTo X σ a v1 := ⟨_, rfl⟩
  have hF := hout.symm
  unfold F_X0_allUnknownTo at hF
  refine lv_iconst (v := 0) hx hb dX0_allUnknownTo_0 (by decide) ?_
  refine lv_istore_n (lv' := [(2, .int 0), (0, .ref a), (1, .int v1)]) hx hb dX0_allUnknownTo_1 rfl hl (by decide) rfl (fun ls hl => ?_)
  refine lv_iconst (v := 0) hx hb dX0_allUnknownTo_2 (by decide) ?_
  refine lv_istore_n (lv' := [(3, .int 0), (2, .int 0), (0, .ref a), (1, .int v1)]) hx hb dX0_allUnknownTo_3 rfl hl (by decide) rfl (fun ls hl => ?_)
  have L_4_3 : ∀ (k_3 : Nat) (x_1 : Int32) (x_2 : Int32) (H : Heap) (locs : List Loc) (ls : Array Slot), (2147483647 - x_2.toInt).toNat < k_3 → (0 ≤ x_2.toInt) → (F_X0_allUnknownTo_L4_1 X σ a v1 k_3 x_1 x_2 = out) → q_I X 9 σ s.heap locs σ H → lv_has ls 4 [(0, .ref a), (1, .int v1), (2, .int x_1), (3, .int x_2)] → W p l e (q_rm 3 66) s m ([.ref a, .int v1] : List Value).toArray below meth c H locs 0 0 (MQ below (q_Qi X 9 σ (fun (r : Int32) (σ' : ST) => σ' = σ ∧ r = F_X0_allUnknownTo X σ a v1)) ([.ref a, .int v1] : List Value).toArray s 0 0 (q_reg X)) (F0 m 4 ls []) := by
    clear hF
    intro k_3
    induction k_3 with
    | zero =>
      intro x_1 x_2 H locs ls hms
      exact absurd hms (Nat.not_lt_zero _)
    | succ k_3 ih4 =>
      intro x_1 x_2 H locs ls hm4 hge4 hF hI hl
      replace hF := (F_X0_allUnknownTo_L4_1_s).symm.trans hF
      unfold F_X0_allUnknownTo_B4_1 at hF
      refine lv_iload_n hx hb dX0_allUnknownTo_4 rfl (lv_at hl 3 rfl) ?_
      refine lv_aload_n hx hb dX0_allUnknownTo_5 rfl (lv_at hl 0 rfl) ?_
      refine gs_X0_12_1 E hI ha dX0_allUnknownTo_6 ?_
      refine gs_X0_106_6 E hI (q_tk (k' := 6) hI ha rfl (by decide)) dX0_allUnknownTo_9 ?_
      refine lv_topi (fun f_4 ef_4 => ?_)
      replace hF := q_letX hF ef_4
      have bf_4 : -2147483648 ≤ f_4.toInt ∧ f_4.toInt ≤ 10 := by rw [ef_4]; exact q_bd hI (q_tk (k' := 6) hI ha rfl (by decide)) rfl
      have gc_5_x_2 := q_rng x_2
      have gc_5_f_4 := q_rng f_4
      refine q_icmp_ge (A := x_2.toInt) (B := f_4.toInt) E rfl rfl (tgt := 30) dX0_allUnknownTo_12 (by decide) (fun c_5 => ?_) (fun c_5 => ?_)
      · skip
        replace hF := q_ifn hF (Int.not_lt.mpr c_5)
        skip
        refine lv_iload_n hx hb dX0_allUnknownTo_30 rfl (lv_at hl 2 rfl) ?_
        exact q_reti E hr hlk hI ⟨rfl, (hF.trans hout)⟩ dX0_allUnknownTo_31
      · skip
        replace hF := q_ifp hF c_5
        refine lv_iload_n hx hb dX0_allUnknownTo_15 rfl (lv_at hl 2 rfl) ?_
        refine lv_aload_n hx hb dX0_allUnknownTo_16 rfl (lv_at hl 0 rfl) ?_
        refine lv_iload_n hx hb dX0_allUnknownTo_17 rfl (lv_at hl 1 rfl) ?_
        refine lv_iload_n hx hb dX0_allUnknownTo_18 rfl (lv_at hl 3 rfl) ?_
        refine q_ci (q_runV (As := [.int v1, .int x_2]) (rest := [.int x_1]) E (hml.trans hl.1.symm) hI (c_X0_unknownTo l X σ a v1 x_2 ha) kv_X0_159 ha ⟨rfl, by decide⟩ (show vwCl[0]? = some (RX0, TX0, 15) from rfl) rfl ⟨Nat.le_of_ble_eq_true rfl, Nat.le_of_ble_eq_true rfl⟩ ⟨Nat.le_refl _, Nat.le_refl _⟩ rfl (Nat.le_of_ble_eq_true rfl) dX0_allUnknownTo_19) hI (by decide) (fun r_6 σ_7 H locs hpσ_7 hkσ_7 hI => ?_)
        obtain ⟨ahpσ_7, bhpσ_7⟩ := hpσ_7
        rw [ahpσ_7] at hI
        replace hF := q_letX hF bhpσ_7
        refine lv_iadd hx hb dX0_allUnknownTo_22 ?_
        refine lv_topi (fun z_8 ez_8 => ?_)
        replace hF := q_letX hF ez_8
        refine lv_istore_n (lv' := [(2, .int z_8), (0, .ref a), (1, .int v1), (3, .int x_2)]) hx hb dX0_allUnknownTo_23 rfl hl (by decide) rfl (fun ls hl => ?_)
        obtain ⟨z_9, ez_9⟩ : ∃ y : Int32, y = x_2 + 1 := ⟨_, rfl⟩
        replace hF := q_letX hF ez_9
        refine lv_iinc (v := z_9) (lv' := [(3, .int z_9), (2, .int z_8), (0, .ref a), (1, .int v1)]) hx hb dX0_allUnknownTo_24 hl (k := 3) rfl (by rw [ez_9]; rfl) (by decide) rfl (fun ls hl => ?_)
        have iz_9 : z_9.toInt = x_2.toInt + 1 := q_inc ez_9 (by omega)
        refine lv_goto (tgt := 4) hx hb dX0_allUnknownTo_27 (by decide) ?_
        exact ih4 z_8 z_9 _ _ ls (by omega) (by omega) hF hI (lv_sub hl [2, 3, 1, 0] rfl)
  exact L_4_3 ((2147483647 - (0 : Int32).toInt).toNat + 1) 0 0 _ _ ls (Nat.lt_succ_self _) (by decide) hF hI (lv_sub hl [2, 3, 1, 0] rfl)

set_option maxRecDepth 100000 in
set_option maxHeartbeats 4000000 in
theorem c_X0_isImpossibleFor (l : Launch) (X : XW) (σ : ST) (a : Nat) (v1 : Int32) (ha : q_kd X a = 1) : Met l yX0_isImpossibleFor (q_ws yX0_isImpossibleFor cX0_isImpossibleFor 2 (some .boolean)) (q_rm 2 44) (q_P X σ [.ref a, .int v1]) (q_Qi X 9 σ (fun (r : Int32) (σ' : ST) => σ' = σ ∧ (0 ≤ r.toInt ∧ r.toInt ≤ 1) ∧ r = F_X0_isImpossibleFor X σ a v1)) 0 0 (q_reg X) := by
  refine q_met 9 (by first | exact rfl | decide +kernel) rfl (Nat.le_of_ble_eq_true rfl) (fun p e s m below meth c E hml hr hlk hI ls hl => ?_)
  have hx := E.1
  have hb := E.2.1
  have hl : lv_has ls 2 [(0, .ref a), (1, .int v1)] := hl
  obtain ⟨out, hout⟩ : ∃ o, o = F_X0_isImpossibleFor X σ a v1 := ⟨_, rfl⟩
  have hF := hout.symm
  unfold F_X0_isImpossibleFor at hF
  refine lv_aload_n hx hb dX0_isImpossibleFor_0 rfl (lv_at hl 0 rfl) ?_
  refine gs_X0_12_1 E hI ha dX0_isImpossibleFor_1 ?_
  refine gs_X0_153_6 E hI (q_tk (k' := 6) hI ha rfl (by decide)) dX0_isImpossibleFor_4 ?_
  refine lv_aload_n hx hb dX0_isImpossibleFor_7 rfl (lv_at hl 0 rfl) ?_
  refine gs_X0_39_1 E hI ha dX0_isImpossibleFor_8 ?_
  refine lv_topi (fun f_1 ef_1 => ?_)
  replace hF := q_letX hF ef_1
  refine q_ci (q_runV (As := [.int f_1]) (rest := []) E (hml.trans hl.1.symm) hI (c_X5_get l X σ (q_rf X (q_rf X a 0) 5) f_1 (q_tk (k' := 5) hI (q_tk (k' := 6) hI ha rfl (by decide)) rfl (by decide))) kv_X0_113 (q_tk (k' := 5) hI (q_tk (k' := 6) hI ha rfl (by decide)) rfl (by decide)) ⟨rfl, by decide⟩ (show vwCl[4]? = some (RX5, TX5, 1) from rfl) rfl ⟨Nat.le_of_ble_eq_true rfl, Nat.le_of_ble_eq_true rfl⟩ ⟨Nat.le_refl _, Nat.le_refl _⟩ rfl (Nat.le_of_ble_eq_true rfl) dX0_isImpossibleFor_11) hI (by decide) (fun r_2 σ_3 H locs hpσ_3 hkσ_3 hI => ?_)
  obtain ⟨ahpσ_3, bhpσ_3⟩ := hpσ_3
  rw [ahpσ_3] at hI
  replace hF := q_letX hF bhpσ_3
  refine lv_aload_n hx hb dX0_isImpossibleFor_14 rfl (lv_at hl 0 rfl) ?_
  refine gs_X0_21_1 E hI ha dX0_isImpossibleFor_15 ?_
  refine lv_iload_n hx hb dX0_isImpossibleFor_18 rfl (lv_at hl 1 rfl) ?_
  refine lv_aload_n hx hb dX0_isImpossibleFor_19 rfl (lv_at hl 0 rfl) ?_
  refine gs_X0_39_1 E hI ha dX0_isImpossibleFor_20 ?_
  refine lv_topi (fun f_4 ef_4 => ?_)
  replace hF := q_letX hF ef_4
  refine q_ci (q_runV (As := [.int v1, .int f_4]) (rest := [.int r_2]) E (hml.trans hl.1.symm) hI (c_X1_knownTo l X σ (q_rf X a 1) v1 f_4 (q_tk (k' := 2) hI ha rfl (by decide))) kv_X0_156 (q_tk (k' := 2) hI ha rfl (by decide)) ⟨rfl, by decide⟩ (show vwCl[1]? = some (RX1, TX1, 7) from rfl) rfl ⟨Nat.le_of_ble_eq_true rfl, Nat.le_of_ble_eq_true rfl⟩ ⟨Nat.le_refl _, Nat.le_refl _⟩ rfl (Nat.le_of_ble_eq_true rfl) dX0_isImpossibleFor_23) hI (by decide) (fun r_5 σ_6 H locs hpσ_6 hkσ_6 hI => ?_)
  obtain ⟨ahpσ_6, bhpσ_6⟩ := hpσ_6
  rw [ahpσ_6] at hI
  replace hF := q_letX hF bhpσ_6
  refine lv_isub hx hb dX0_isImpossibleFor_26 ?_
  refine lv_topi (fun z_7 ez_7 => ?_)
  replace hF := q_letX hF ez_7
  refine lv_aload_n hx hb dX0_isImpossibleFor_27 rfl (lv_at hl 0 rfl) ?_
  refine gs_X0_28_1 E hI ha dX0_isImpossibleFor_28 ?_
  refine q_ci (q_runV (As := []) (rest := [.int z_7]) E (hml.trans hl.1.symm) hI (c_X2_topSize l X σ (q_rf X a 2) (q_tk (k' := 3) hI ha rfl (by decide))) kv_X0_162 (q_tk (k' := 3) hI ha rfl (by decide)) ⟨rfl, by decide⟩ (show vwCl[2]? = some (RX2, TX2, 6) from rfl) rfl ⟨Nat.le_of_ble_eq_true rfl, Nat.le_of_ble_eq_true rfl⟩ ⟨Nat.le_refl _, Nat.le_refl _⟩ rfl (Nat.le_of_ble_eq_true rfl) dX0_isImpossibleFor_31) hI (by decide) (fun r_8 σ_9 H locs hpσ_9 hkσ_9 hI => ?_)
  obtain ⟨ahpσ_9, bhpσ_9⟩ := hpσ_9
  rw [ahpσ_9] at hI
  replace hF := q_letX hF bhpσ_9
  refine q_icmp_ge (A := z_7.toInt) (B := r_8.toInt) E rfl rfl (tgt := 41) dX0_isImpossibleFor_34 (by decide) (fun c_10 => ?_) (fun c_10 => ?_)
  · skip
    replace hF := q_ifn hF (Int.not_lt.mpr c_10)
    refine lv_iconst (v := 0) hx hb dX0_isImpossibleFor_41 (by decide) ?_
    have hrv : (0 : Int32).toInt = 0 := rfl
    exact q_retz E hr hlk hI ⟨by decide, by decide⟩ ⟨rfl, ⟨by decide, by decide⟩, (hF.trans hout)⟩ dX0_isImpossibleFor_42
  · skip
    replace hF := q_ifp hF c_10
    refine lv_iconst (v := 1) hx hb dX0_isImpossibleFor_37 (by decide) ?_
    refine lv_goto (tgt := 42) hx hb dX0_isImpossibleFor_38 (by decide) ?_
    have hrv : (1 : Int32).toInt = 1 := rfl
    exact q_retz E hr hlk hI ⟨by decide, by decide⟩ ⟨rfl, ⟨by decide, by decide⟩, (hF.trans hout)⟩ dX0_isImpossibleFor_42

set_option maxRecDepth 100000 in
set_option maxHeartbeats 4000000 in
theorem c_X11_waysToTake (l : Launch) (X : XW) (σ : ST) (v0 : Int32) (v1 : Int32) : Met l yX11_waysToTake (q_ws yX11_waysToTake cX11_waysToTake 5 (some .long)) (q_rm 0 0) (q_P X σ [.int v0, .int v1]) (q_Ql X 9 σ (fun (r : Int64) (σ' : ST) => σ' = σ ∧ r = F_X11_waysToTake X σ v0 v1)) 0 0 (q_reg X) := by
  refine q_met 9 (by first | exact rfl | decide +kernel) rfl (Nat.le_of_ble_eq_true rfl) (fun p e s m below meth c E hml hr hlk hI ls hl => ?_)
  have hx := E.1
  have hb := E.2.1
  have hl : lv_has ls 5 [(0, .int v0), (1, .int v1)] := hl
  obtain ⟨out, hout⟩ : ∃ o, o = F_X11_waysToTake X σ v0 v1 := ⟨_, rfl⟩
  have hF := hout.symm
  unfold F_X11_waysToTake at hF
  refine lv_iload_n hx hb dX11_waysToTake_0 rfl (lv_at hl 1 rfl) ?_
  refine lv_iload_n hx hb dX11_waysToTake_1 rfl (lv_at hl 0 rfl) ?_
  have gc_1_v1 := q_rng v1
  have gc_1_v0 := q_rng v0
  refine q_icmp_le (A := v1.toInt) (B := v0.toInt) E rfl rfl (tgt := 7) dX11_waysToTake_2 (by decide) (fun c_1 => ?_) (fun c_1 => ?_)
  · skip
    replace hF := q_ifn hF (Int.not_lt.mpr c_1)
    refine lv_lconst (v := 1) hx hb dX11_waysToTake_7 (by decide) ?_
    refine lv_lstore_n (lv' := [(2, .long 1), (0, .int v0), (1, .int v1)]) hx hb dX11_waysToTake_8 rfl hl (by decide) rfl (fun ls hl => ?_)
    refine lv_iconst (v := 0) hx hb dX11_waysToTake_9 (by decide) ?_
    refine lv_istore (lv' := [(4, .int 0), (2, .long 1), (0, .int v0), (1, .int v1)]) hx hb dX11_waysToTake_10 hl (by decide) rfl (fun ls hl => ?_)
    have L_12_4 : ∀ (k_4 : Nat) (w_2 : Int64) (x_3 : Int32) (H : Heap) (locs : List Loc) (ls : Array Slot), (2147483647 - x_3.toInt).toNat < k_4 → (0 ≤ x_3.toInt) → (F_X11_waysToTake_L12_1 X v1 v0 k_4 w_2 x_3 = out) → q_I X 9 σ s.heap locs σ H → lv_has ls 5 [(0, .int v0), (1, .int v1), (2, .long w_2), (4, .int x_3)] → W p l e (q_rm 0 0) s m ([.int v0, .int v1] : List Value).toArray below meth c H locs 0 0 (MQ below (q_Ql X 9 σ (fun (r : Int64) (σ' : ST) => σ' = σ ∧ r = F_X11_waysToTake X σ v0 v1)) ([.int v0, .int v1] : List Value).toArray s 0 0 (q_reg X)) (F0 m 12 ls []) := by
      clear hF
      intro k_4
      induction k_4 with
      | zero =>
        intro w_2 x_3 H locs ls hms
        exact absurd hms (Nat.not_lt_zero _)
      | succ k_4 ih12 =>
        intro w_2 x_3 H locs ls hm12 hge12 hF hI hl
        replace hF := (F_X11_waysToTake_L12_1_s).symm.trans hF
        unfold F_X11_waysToTake_B12_1 at hF
        refine lv_iload hx hb dX11_waysToTake_12 (lv_at hl 3 rfl) ?_
        refine lv_iload_n hx hb dX11_waysToTake_14 rfl (lv_at hl 1 rfl) ?_
        have gc_5_x_3 := q_rng x_3
        have gc_5_v1 := q_rng v1
        refine q_icmp_ge (A := x_3.toInt) (B := v1.toInt) E rfl rfl (tgt := 38) dX11_waysToTake_15 (by decide) (fun c_5 => ?_) (fun c_5 => ?_)
        · skip
          replace hF := q_ifn hF (Int.not_lt.mpr c_5)
          skip
          refine lv_lload_n hx hb dX11_waysToTake_38 rfl (lv_at hl 2 rfl) ?_
          exact q_retl E hr hlk hI ⟨rfl, (hF.trans hout)⟩ dX11_waysToTake_39
        · skip
          replace hF := q_ifp hF c_5
          refine lv_lload_n hx hb dX11_waysToTake_18 rfl (lv_at hl 2 rfl) ?_
          refine lv_iload_n hx hb dX11_waysToTake_19 rfl (lv_at hl 0 rfl) ?_
          refine lv_iload hx hb dX11_waysToTake_20 (lv_at hl 3 rfl) ?_
          refine lv_isub hx hb dX11_waysToTake_22 ?_
          refine lv_topi (fun z_6 ez_6 => ?_)
          replace hF := q_letX hF ez_6
          refine lv_i2l hx hb dX11_waysToTake_23 rfl ?_
          refine lv_topl (fun y_7 ey_7 => ?_)
          replace hF := q_letX hF ey_7
          have ggy_7 := q_rng z_6
          have iy_7 : y_7.toInt = z_6.toInt := by rw [ey_7]; exact (q_i2l _).trans rfl
          refine lv_lmul hx hb dX11_waysToTake_24 ?_
          refine lv_topl (fun y_8 ey_8 => ?_)
          replace hF := q_letX hF ey_8
          refine lv_iload hx hb dX11_waysToTake_25 (lv_at hl 3 rfl) ?_
          refine lv_iconst (v := 1) hx hb dX11_waysToTake_27 (by decide) ?_
          refine lv_iadd hx hb dX11_waysToTake_28 ?_
          refine lv_topi (fun z_9 ez_9 => ?_)
          replace hF := q_letX hF ez_9
          have kc_10 : (1 : Int32).toInt = 1 := rfl
          have iz_9 := q_add ez_9 (by first | (clear gc_1_v1 gc_1_v0 c_1 w_2 hm12 gc_5_v1 c_5 ggy_7 iy_7; omega) | omega) (by first | (clear gc_1_v0 c_1 w_2 hm12 gc_5_v1 ggy_7 iy_7; omega) | omega)
          refine lv_i2l hx hb dX11_waysToTake_29 rfl ?_
          refine lv_topl (fun y_11 ey_11 => ?_)
          replace hF := q_letX hF ey_11
          have ggy_11 := q_rng z_9
          have iy_11 : y_11.toInt = z_9.toInt := by rw [ey_11]; exact (q_i2l _).trans rfl
          refine lv_ldiv hx hb dX11_waysToTake_30 (q_ne0l (by first | (clear gc_1_v1 gc_1_v0 c_1 w_2 hm12 gc_5_v1 c_5 ggy_7 iy_7; omega) | omega)) ?_
          refine lv_topl (fun y_12 ey_12 => ?_)
          replace hF := q_letX hF ey_12
          refine lv_lstore_n (lv' := [(2, .long y_12), (0, .int v0), (1, .int v1), (4, .int x_3)]) hx hb dX11_waysToTake_31 rfl hl (by decide) rfl (fun ls hl => ?_)
          obtain ⟨z_13, ez_13⟩ : ∃ y : Int32, y = x_3 + 1 := ⟨_, rfl⟩
          replace hF := q_letX hF ez_13
          refine lv_iinc (v := z_13) (lv' := [(4, .int z_13), (2, .long y_12), (0, .int v0), (1, .int v1)]) hx hb dX11_waysToTake_32 hl (k := 3) rfl (by rw [ez_13]; rfl) (by decide) rfl (fun ls hl => ?_)
          have iz_13 : z_13.toInt = x_3.toInt + 1 := q_inc ez_13 (by first | (clear gc_1_v1 gc_1_v0 c_1 w_2 hm12 gc_5_v1 c_5 ggy_7 iy_7; omega) | omega)
          refine lv_goto (tgt := 12) hx hb dX11_waysToTake_35 (by decide) ?_
          exact ih12 y_12 z_13 _ _ ls (by first | (clear gc_1_v1 gc_1_v0 c_1 w_2 gc_5_v1 c_5 ggy_7 iy_7; omega) | omega) (by first | (clear gc_1_v1 gc_1_v0 c_1 w_2 hm12 gc_5_v1 c_5 ggy_7 iy_7; omega) | omega) hF hI (lv_sub hl [2, 3, 1, 0] rfl)
    exact L_12_4 ((2147483647 - (0 : Int32).toInt).toNat + 1) 1 0 _ _ ls (Nat.lt_succ_self _) (by decide) hF hI (lv_sub hl [2, 3, 1, 0] rfl)
  · skip
    replace hF := q_ifp hF c_1
    refine lv_lconst (v := 0) hx hb dX11_waysToTake_5 (by decide) ?_
    exact q_retl E hr hlk hI ⟨rfl, (hF.trans hout)⟩ dX11_waysToTake_6

set_option maxRecDepth 100000 in
set_option maxHeartbeats 4000000 in
theorem c_X0_trueWays (l : Launch) (X : XW) (σ : ST) (a : Nat) (v1 : Int32) (ha : q_kd X a = 1) : Met l yX0_trueWays (q_ws yX0_trueWays cX0_trueWays 2 (some .long)) (q_rm 3 66) (q_P X σ [.ref a, .int v1]) (q_Ql X 9 σ (fun (r : Int64) (σ' : ST) => σ' = σ ∧ r = F_X0_trueWays X σ a v1)) 0 0 (q_reg X) := by
  refine q_met 9 (by first | exact rfl | decide +kernel) rfl (Nat.le_of_ble_eq_true rfl) (fun p e s m below meth c E hml hr hlk hI ls hl => ?_)
  have hx := E.1
  have hb := E.2.1
  have hl : lv_has ls 2 [(0, .ref a), (1, .int v1)] := hl
  obtain ⟨out, hout⟩ : ∃ o, o = F_X0_trueWays X σ a v1 := ⟨_, rfl⟩
  have hF := hout.symm
  unfold F_X0_trueWays at hF
  refine lv_aload_n hx hb dX0_trueWays_0 rfl (lv_at hl 0 rfl) ?_
  refine lv_iload_n hx hb dX0_trueWays_1 rfl (lv_at hl 1 rfl) ?_
  refine lv_aload_n hx hb dX0_trueWays_2 rfl (lv_at hl 0 rfl) ?_
  refine gs_X0_39_1 E hI ha dX0_trueWays_3 ?_
  refine lv_topi (fun f_1 ef_1 => ?_)
  replace hF := q_letX hF ef_1
  refine q_ci (q_runV (As := [.int v1, .int f_1]) (rest := []) E (hml.trans hl.1.symm) hI (c_X0_unknownTo l X σ a v1 f_1 ha) kv_X0_159 ha ⟨rfl, by decide⟩ (show vwCl[0]? = some (RX0, TX0, 15) from rfl) rfl ⟨Nat.le_of_ble_eq_true rfl, Nat.le_of_ble_eq_true rfl⟩ ⟨Nat.le_refl _, Nat.le_refl _⟩ rfl (Nat.le_of_ble_eq_true rfl) dX0_trueWays_6) hI (by decide) (fun r_2 σ_3 H locs hpσ_3 hkσ_3 hI => ?_)
  obtain ⟨ahpσ_3, bhpσ_3⟩ := hpσ_3
  rw [ahpσ_3] at hI
  replace hF := q_letX hF bhpσ_3
  refine lv_aload_n hx hb dX0_trueWays_9 rfl (lv_at hl 0 rfl) ?_
  refine gs_X0_28_1 E hI ha dX0_trueWays_10 ?_
  refine q_ci (q_runV (As := []) (rest := [.int r_2]) E (hml.trans hl.1.symm) hI (c_X2_topSize l X σ (q_rf X a 2) (q_tk (k' := 3) hI ha rfl (by decide))) kv_X0_162 (q_tk (k' := 3) hI ha rfl (by decide)) ⟨rfl, by decide⟩ (show vwCl[2]? = some (RX2, TX2, 6) from rfl) rfl ⟨Nat.le_of_ble_eq_true rfl, Nat.le_of_ble_eq_true rfl⟩ ⟨Nat.le_refl _, Nat.le_refl _⟩ rfl (Nat.le_of_ble_eq_true rfl) dX0_trueWays_13) hI (by decide) (fun r_4 σ_5 H locs hpσ_5 hkσ_5 hI => ?_)
  obtain ⟨ahpσ_5, bhpσ_5⟩ := hpσ_5
  rw [ahpσ_5] at hI
  replace hF := q_letX hF bhpσ_5
  refine q_cl_ (q_runN (As := [.int r_2, .int r_4]) (rest := []) E (hml.trans hl.1.symm) hI (c_X11_waysToTake l X σ r_2 r_4) ks_X0_165 rfl ⟨Nat.le_of_ble_eq_true rfl, Nat.le_of_ble_eq_true rfl⟩ ⟨Nat.le_refl _, Nat.le_refl _⟩ rfl (Nat.le_of_ble_eq_true rfl) dX0_trueWays_16) hI (by decide) (fun r_6 σ_7 H locs hpσ_7 hkσ_7 hI => ?_)
  obtain ⟨ahpσ_7, bhpσ_7⟩ := hpσ_7
  rw [ahpσ_7] at hI
  replace hF := q_letX hF bhpσ_7
  exact q_retl E hr hlk hI ⟨rfl, (hF.trans hout)⟩ dX0_trueWays_19

set_option maxRecDepth 100000 in
set_option maxHeartbeats 4000000 in
theorem c_X0_allWays (l : Launch) (X : XW) (σ : ST) (a : Nat) (v1 : Int32) (ha : q_kd X a = 1) : Met l yX0_allWays (q_ws yX0_allWays cX0_allWays 2 (some .long)) (q_rm 4 89) (q_P X σ [.ref a, .int v1]) (q_Ql X 9 σ (fun (r : Int64) (σ' : ST) => σ' = σ ∧ r = F_X0_allWays X σ a v1)) 0 0 (q_reg X) := by
  refine q_met 9 (by first | exact rfl | decide +kernel) rfl (Nat.le_of_ble_eq_true rfl) (fun p e s m below meth c E hml hr hlk hI ls hl => ?_)
  have hx := E.1
  have hb := E.2.1
  have hl : lv_has ls 2 [(0, .ref a), (1, .int v1)] := hl
  obtain ⟨out, hout⟩ : ∃ o, o = F_X0_allWays X σ a v1 := ⟨_, rfl⟩
  have hF := hout.symm
  unfold F_X0_allWays at hF
  refine lv_aload_n hx hb dX0_allWays_0 rfl (lv_at hl 0 rfl) ?_
  refine lv_iload_n hx hb dX0_allWays_1 rfl (lv_at hl 1 rfl) ?_
  refine q_ci (q_runV (As := [.int v1]) (rest := []) E (hml.trans hl.1.symm) hI (c_X0_allUnknownTo l X σ a v1 ha) kv_X0_169 ha ⟨rfl, by decide⟩ (show vwCl[0]? = some (RX0, TX0, 15) from rfl) rfl ⟨Nat.le_of_ble_eq_true rfl, Nat.le_of_ble_eq_true rfl⟩ ⟨Nat.le_refl _, Nat.le_refl _⟩ rfl (Nat.le_of_ble_eq_true rfl) dX0_allWays_2) hI (by decide) (fun r_1 σ_2 H locs hpσ_2 hkσ_2 hI => ?_)
  obtain ⟨ahpσ_2, bhpσ_2⟩ := hpσ_2
  rw [ahpσ_2] at hI
  replace hF := q_letX hF bhpσ_2
  refine lv_aload_n hx hb dX0_allWays_5 rfl (lv_at hl 0 rfl) ?_
  refine gs_X0_28_1 E hI ha dX0_allWays_6 ?_
  refine q_ci (q_runV (As := []) (rest := [.int r_1]) E (hml.trans hl.1.symm) hI (c_X2_topSize l X σ (q_rf X a 2) (q_tk (k' := 3) hI ha rfl (by decide))) kv_X0_162 (q_tk (k' := 3) hI ha rfl (by decide)) ⟨rfl, by decide⟩ (show vwCl[2]? = some (RX2, TX2, 6) from rfl) rfl ⟨Nat.le_of_ble_eq_true rfl, Nat.le_of_ble_eq_true rfl⟩ ⟨Nat.le_refl _, Nat.le_refl _⟩ rfl (Nat.le_of_ble_eq_true rfl) dX0_allWays_9) hI (by decide) (fun r_3 σ_4 H locs hpσ_4 hkσ_4 hI => ?_)
  obtain ⟨ahpσ_4, bhpσ_4⟩ := hpσ_4
  rw [ahpσ_4] at hI
  replace hF := q_letX hF bhpσ_4
  refine q_cl_ (q_runN (As := [.int r_1, .int r_3]) (rest := []) E (hml.trans hl.1.symm) hI (c_X11_waysToTake l X σ r_1 r_3) ks_X0_165 rfl ⟨Nat.le_of_ble_eq_true rfl, Nat.le_of_ble_eq_true rfl⟩ ⟨Nat.le_refl _, Nat.le_refl _⟩ rfl (Nat.le_of_ble_eq_true rfl) dX0_allWays_12) hI (by decide) (fun r_5 σ_6 H locs hpσ_6 hkσ_6 hI => ?_)
  obtain ⟨ahpσ_6, bhpσ_6⟩ := hpσ_6
  rw [ahpσ_6] at hI
  replace hF := q_letX hF bhpσ_6
  exact q_retl E hr hlk hI ⟨rfl, (hF.trans hout)⟩ dX0_allWays_15

set_option maxRecDepth 100000 in
set_option maxHeartbeats 4000000 in
theorem c_X0_worthTop (l : Launch) (X : XW) (σ : ST) (a : Nat) (v1 : Int32) (ha : q_kd X a = 1) : Met l yX0_worthTop (q_ws yX0_worthTop cX0_worthTop 2 (some .long)) (q_rm 5 110) (q_P X σ [.ref a, .int v1]) (q_Ql X 9 σ (fun (r : Int64) (σ' : ST) => σ' = σ ∧ r = F_X0_worthTop X σ a v1)) 0 0 (q_reg X) := by
  refine q_met 9 (by first | exact rfl | decide +kernel) rfl (Nat.le_of_ble_eq_true rfl) (fun p e s m below meth c E hml hr hlk hI ls hl => ?_)
  have hx := E.1
  have hb := E.2.1
  have hl : lv_has ls 2 [(0, .ref a), (1, .int v1)] := hl
  obtain ⟨out, hout⟩ : ∃ o, o = F_X0_worthTop X σ a v1 := ⟨_, rfl⟩
  have hF := hout.symm
  unfold F_X0_worthTop at hF
  refine lv_aload_n hx hb dX0_worthTop_0 rfl (lv_at hl 0 rfl) ?_
  refine gs_X0_28_1 E hI ha dX0_worthTop_1 ?_
  refine gs_X0_172_3 E hI (q_tk (k' := 3) hI ha rfl (by decide)) dX0_worthTop_4 ?_
  refine lv_topi (fun f_1 ef_1 => ?_)
  replace hF := q_letX hF ef_1
  refine lv_i2l hx hb dX0_worthTop_7 rfl ?_
  refine lv_topl (fun y_2 ey_2 => ?_)
  replace hF := q_letX hF ey_2
  refine lv_aload_n hx hb dX0_worthTop_8 rfl (lv_at hl 0 rfl) ?_
  refine lv_iload_n hx hb dX0_worthTop_9 rfl (lv_at hl 1 rfl) ?_
  refine q_cl_ (q_runV (As := [.int v1]) (rest := [.long y_2]) E (hml.trans hl.1.symm) hI (c_X0_allWays l X σ a v1 ha) kv_X0_174 ha ⟨rfl, by decide⟩ (show vwCl[0]? = some (RX0, TX0, 15) from rfl) rfl ⟨Nat.le_of_ble_eq_true rfl, Nat.le_of_ble_eq_true rfl⟩ ⟨Nat.le_refl _, Nat.le_refl _⟩ rfl (Nat.le_of_ble_eq_true rfl) dX0_worthTop_10) hI (by decide) (fun r_3 σ_4 H locs hpσ_4 hkσ_4 hI => ?_)
  obtain ⟨ahpσ_4, bhpσ_4⟩ := hpσ_4
  rw [ahpσ_4] at hI
  replace hF := q_letX hF bhpσ_4
  refine lv_ldc2 (v := 2) hx hb E.2.2.1 (E.2.2.2.1 _ (q_in_t6 (i := 15) (by first | rfl | decide +kernel) rfl)) dX0_worthTop_13 ?_
  refine lv_aload_n hx hb dX0_worthTop_16 rfl (lv_at hl 0 rfl) ?_
  refine lv_iload_n hx hb dX0_worthTop_17 rfl (lv_at hl 1 rfl) ?_
  refine q_cl_ (q_runV (As := [.int v1]) (rest := [.long 2, .long r_3, .long y_2]) E (hml.trans hl.1.symm) hI (c_X0_trueWays l X σ a v1 ha) kv_X0_180 ha ⟨rfl, by decide⟩ (show vwCl[0]? = some (RX0, TX0, 15) from rfl) rfl ⟨Nat.le_of_ble_eq_true rfl, Nat.le_of_ble_eq_true rfl⟩ ⟨Nat.le_refl _, Nat.le_refl _⟩ rfl (Nat.le_of_ble_eq_true rfl) dX0_worthTop_18) hI (by decide) (fun r_5 σ_6 H locs hpσ_6 hkσ_6 hI => ?_)
  obtain ⟨ahpσ_6, bhpσ_6⟩ := hpσ_6
  rw [ahpσ_6] at hI
  replace hF := q_letX hF bhpσ_6
  refine lv_lmul hx hb dX0_worthTop_21 ?_
  refine lv_topl (fun y_7 ey_7 => ?_)
  replace hF := q_letX hF ey_7
  refine lv_lsub hx hb dX0_worthTop_22 ?_
  refine lv_topl (fun y_8 ey_8 => ?_)
  replace hF := q_letX hF ey_8
  refine lv_lmul hx hb dX0_worthTop_23 ?_
  refine lv_topl (fun y_9 ey_9 => ?_)
  replace hF := q_letX hF ey_9
  exact q_retl E hr hlk hI ⟨rfl, (hF.trans hout)⟩ dX0_worthTop_24

set_option maxRecDepth 100000 in
set_option maxHeartbeats 4000000 in
theorem c_X0_turnsAhead (l : Launch) (X : XW) (σ : ST) (a : Nat) (v1 : Int32) (ha : q_kd X a = 1) : Met l yX0_turnsAhead (q_ws yX0_turnsAhead cX0_turnsAhead 3 (some .int)) (q_rm 2 44) (q_P X σ [.ref a, .int v1]) (q_Qi X 9 σ (fun (r : Int32) (σ' : ST) => σ' = σ ∧ r = F_X0_turnsAhead X σ a v1)) 0 0 (q_reg X) := by
  refine q_met 9 (by first | exact rfl | decide +kernel) rfl (Nat.le_of_ble_eq_true rfl) (fun p e s m below meth c E hml hr hlk hI ls hl => ?_)
  have hx := E.1
  have hb := E.2.1
  have hl : lv_has ls 3 [(0, .ref a), (1, .int v1)] := hl
  obtain ⟨out, hout⟩ : ∃ o, o = F_X0_turnsAhead X σ a v1 := ⟨_, rfl⟩
  have hF := hout.symm
  unfold F_X0_turnsAhead at hF
  refine lv_aload_n hx hb dX0_turnsAhead_0 rfl (lv_at hl 0 rfl) ?_
  refine gs_X0_12_1 E hI ha dX0_turnsAhead_1 ?_
  refine lv_iload_n hx hb dX0_turnsAhead_4 rfl (lv_at hl 1 rfl) ?_
  refine lv_aload_n hx hb dX0_turnsAhead_5 rfl (lv_at hl 0 rfl) ?_
  refine gs_X0_43_1 E hI ha dX0_turnsAhead_6 ?_
  refine lv_topi (fun f_1 ef_1 => ?_)
  replace hF := q_letX hF ef_1
  refine lv_isub hx hb dX0_turnsAhead_9 ?_
  refine lv_topi (fun z_2 ez_2 => ?_)
  replace hF := q_letX hF ez_2
  refine lv_iconst (v := 0) hx hb dX0_turnsAhead_10 (by decide) ?_
  have kc_3 : (0 : Int32).toInt = 0 := rfl
  refine q_ci (q_runV (As := [.int z_2, .int 0]) (rest := []) E (hml.trans hl.1.symm) hI (c_X6_playerAfter l X σ (q_rf X a 0) z_2 (0 : Int32) (q_tk (k' := 6) hI ha rfl (by decide))) kv_X0_131 (q_tk (k' := 6) hI ha rfl (by decide)) ⟨rfl, by decide⟩ (show vwCl[5]? = some (RX6, TX6, 8) from rfl) rfl ⟨Nat.le_of_ble_eq_true rfl, Nat.le_of_ble_eq_true rfl⟩ ⟨Nat.le_refl _, Nat.le_refl _⟩ rfl (Nat.le_of_ble_eq_true rfl) dX0_turnsAhead_11) hI (by decide) (fun r_4 σ_5 H locs hpσ_5 hkσ_5 hI => ?_)
  obtain ⟨ahpσ_5, bhpσ_5⟩ := hpσ_5
  rw [ahpσ_5] at hI
  replace hF := q_letX hF bhpσ_5
  refine lv_istore_n (lv' := [(2, .int r_4), (0, .ref a), (1, .int v1)]) hx hb dX0_turnsAhead_14 rfl hl (by decide) rfl (fun ls hl => ?_)
  refine lv_iload_n hx hb dX0_turnsAhead_15 rfl (lv_at hl 0 rfl) ?_
  refine q_if_ne (A := r_4.toInt) E rfl (tgt := 36) dX0_turnsAhead_16 (by decide) (fun c_6 => ?_) (fun c_6 => ?_)
  · skip
    replace hF := q_ifn hF c_6
    refine lv_iload_n hx hb dX0_turnsAhead_36 rfl (lv_at hl 0 rfl) ?_
    exact q_reti E hr hlk hI ⟨rfl, (hF.trans hout)⟩ dX0_turnsAhead_37
  · skip
    replace hF := q_ifp hF c_6
    refine lv_aload_n hx hb dX0_turnsAhead_19 rfl (lv_at hl 1 rfl) ?_
    refine gs_X0_49_1 E hI ha dX0_turnsAhead_20 ?_
    refine lv_topi (fun f_7 ef_7 => ?_)
    replace hF := q_letX hF ef_7
    have bf_7 : 0 ≤ f_7.toInt ∧ f_7.toInt ≤ 1 := by rw [ef_7]; exact q_bd hI ha rfl
    refine q_if_eq (A := f_7.toInt) E rfl (tgt := 36) dX0_turnsAhead_23 (by decide) (fun c_8 => ?_) (fun c_8 => ?_)
    · skip
      replace hF := q_ifp hF c_8
      refine lv_iload_n hx hb dX0_turnsAhead_36 rfl (lv_at hl 0 rfl) ?_
      exact q_reti E hr hlk hI ⟨rfl, (hF.trans hout)⟩ dX0_turnsAhead_37
    · skip
      replace hF := q_ifn hF c_8
      refine lv_aload_n hx hb dX0_turnsAhead_26 rfl (lv_at hl 1 rfl) ?_
      refine gs_X0_12_1 E hI ha dX0_turnsAhead_27 ?_
      refine gs_X0_183_6 E hI (q_tk (k' := 6) hI ha rfl (by decide)) dX0_turnsAhead_30 ?_
      refine lv_topi (fun f_9 ef_9 => ?_)
      replace hF := q_letX hF ef_9
      refine lv_goto (tgt := 37) hx hb dX0_turnsAhead_33 (by decide) ?_
      exact q_reti E hr hlk hI ⟨rfl, (hF.trans hout)⟩ dX0_turnsAhead_37

set_option maxRecDepth 100000 in
set_option maxHeartbeats 4000000 in
theorem c_X0_fallingKind (l : Launch) (X : XW) (σ : ST) (a : Nat) (v1 : Int32) (v2 : Int32) (ha : q_kd X a = 1) : Met l yX0_fallingKind (q_ws yX0_fallingKind cX0_fallingKind 3 (some .int)) (q_rm 3 66) (q_P X σ [.ref a, .int v1, .int v2]) (q_Qi X 9 σ (fun (r : Int32) (σ' : ST) => σ' = σ ∧ r = F_X0_fallingKind X σ a v1 v2)) 0 0 (q_reg X) := by
  refine q_met 9 (by first | exact rfl | decide +kernel) rfl (Nat.le_of_ble_eq_true rfl) (fun p e s m below meth c E hml hr hlk hI ls hl => ?_)
  have hx := E.1
  have hb := E.2.1
  have hl : lv_has ls 3 [(0, .ref a), (1, .int v1), (2, .int v2)] := hl
  obtain ⟨out, hout⟩ : ∃ o, o = F_X0_fallingKind X σ a v1 v2 := ⟨_, rfl⟩
  have hF := hout.symm
  unfold F_X0_fallingKind at hF
  refine lv_aload_n hx hb dX0_fallingKind_0 rfl (lv_at hl 0 rfl) ?_
  refine gs_X0_12_1 E hI ha dX0_fallingKind_1 ?_
  refine lv_aload_n hx hb dX0_fallingKind_4 rfl (lv_at hl 0 rfl) ?_
  refine gs_X0_39_1 E hI ha dX0_fallingKind_5 ?_
  refine lv_topi (fun f_1 ef_1 => ?_)
  replace hF := q_letX hF ef_1
  refine lv_aload_n hx hb dX0_fallingKind_8 rfl (lv_at hl 0 rfl) ?_
  refine lv_iload_n hx hb dX0_fallingKind_9 rfl (lv_at hl 1 rfl) ?_
  refine q_ci (q_runV (As := [.int v1]) (rest := [.int f_1, .ref (q_rf X a 0)]) E (hml.trans hl.1.symm) hI (c_X0_turnsAhead l X σ a v1 ha) kv_X0_189 ha ⟨rfl, by decide⟩ (show vwCl[0]? = some (RX0, TX0, 15) from rfl) rfl ⟨Nat.le_of_ble_eq_true rfl, Nat.le_of_ble_eq_true rfl⟩ ⟨Nat.le_refl _, Nat.le_refl _⟩ rfl (Nat.le_of_ble_eq_true rfl) dX0_fallingKind_10) hI (by decide) (fun r_2 σ_3 H locs hpσ_3 hkσ_3 hI => ?_)
  obtain ⟨ahpσ_3, bhpσ_3⟩ := hpσ_3
  rw [ahpσ_3] at hI
  replace hF := q_letX hF bhpσ_3
  refine lv_iload_n hx hb dX0_fallingKind_13 rfl (lv_at hl 2 rfl) ?_
  refine lv_aload_n hx hb dX0_fallingKind_14 rfl (lv_at hl 0 rfl) ?_
  refine gs_X0_12_1 E hI ha dX0_fallingKind_15 ?_
  refine gs_X0_183_6 E hI (q_tk (k' := 6) hI ha rfl (by decide)) dX0_fallingKind_18 ?_
  refine lv_topi (fun f_4 ef_4 => ?_)
  replace hF := q_letX hF ef_4
  refine lv_imul hx hb dX0_fallingKind_21 ?_
  refine lv_topi (fun z_5 ez_5 => ?_)
  replace hF := q_letX hF ez_5
  refine lv_iadd hx hb dX0_fallingKind_22 ?_
  refine lv_topi (fun z_6 ez_6 => ?_)
  replace hF := q_letX hF ez_6
  refine q_ci (q_runV (As := [.int f_1, .int z_6]) (rest := []) E (hml.trans hl.1.symm) hI (c_X6_kindAfter l X σ (q_rf X a 0) f_1 z_6 (q_tk (k' := 6) hI ha rfl (by decide))) kv_X0_128 (q_tk (k' := 6) hI ha rfl (by decide)) ⟨rfl, by decide⟩ (show vwCl[5]? = some (RX6, TX6, 8) from rfl) rfl ⟨Nat.le_of_ble_eq_true rfl, Nat.le_of_ble_eq_true rfl⟩ ⟨Nat.le_refl _, Nat.le_refl _⟩ rfl (Nat.le_of_ble_eq_true rfl) dX0_fallingKind_23) hI (by decide) (fun r_7 σ_8 H locs hpσ_8 hkσ_8 hI => ?_)
  obtain ⟨ahpσ_8, bhpσ_8⟩ := hpσ_8
  rw [ahpσ_8] at hI
  replace hF := q_letX hF bhpσ_8
  exact q_reti E hr hlk hI ⟨rfl, (hF.trans hout)⟩ dX0_fallingKind_26

set_option maxRecDepth 100000 in
set_option maxHeartbeats 4000000 in
theorem c_X0_foresee (l : Launch) (X : XW) (σ : ST) (a : Nat) (v1 : Int32) (v2 : Int32) (ha : q_kd X a = 1) : Met l yX0_foresee (q_ws yX0_foresee cX0_foresee 7 none) (q_rm 4 88) (q_P X σ [.ref a, .int v1, .int v2]) (q_Qv X 8 σ (fun (σ' : ST) => σ' = F_X0_foresee X σ a v1 v2 ∧ q_ow [(1, 11), (1, 12), (1, 13), (1, 14), (20, 99)] [] X σ σ')) 0 0 (q_reg X) := by
  refine q_met 8 (by first | exact rfl | decide +kernel) rfl (Nat.le_of_ble_eq_true rfl) (fun p e s m below meth c E hml hr hlk hI ls hl => ?_)
  have hx := E.1
  have hb := E.2.1
  have hl : lv_has ls 7 [(0, .ref a), (1, .int v1), (2, .int v2)] := hl
  have fr_σ : q_ow [(1, 11), (1, 12), (1, 13), (1, 14), (20, 99)] [] X σ σ := q_ow.rf
  obtain ⟨out, hout⟩ : ∃ o, o = F_X0_foresee X σ a v1 v2 := ⟨_, rfl⟩
  have hF := hout.symm
  unfold F_X0_foresee at hF
  refine lv_aload_n hx hb dX0_foresee_0 rfl (lv_at hl 0 rfl) ?_
  refine gs_X0_21_1 E hI ha dX0_foresee_1 ?_
  refine gs_X0_150_2 E hI (q_tk (k' := 2) hI ha rfl (by decide)) dX0_foresee_4 ?_
  refine lv_iload_n hx hb dX0_foresee_7 rfl (lv_at hl 1 rfl) ?_
  refine q_ci (q_runV (As := [.int v1]) (rest := []) E (hml.trans hl.1.symm) hI (c_X5_get l X σ (q_rf X (q_rf X a 1) 2) v1 (q_tk (k' := 5) hI (q_tk (k' := 2) hI ha rfl (by decide)) rfl (by decide))) kv_X0_113 (q_tk (k' := 5) hI (q_tk (k' := 2) hI ha rfl (by decide)) rfl (by decide)) ⟨rfl, by decide⟩ (show vwCl[4]? = some (RX5, TX5, 1) from rfl) rfl ⟨Nat.le_of_ble_eq_true rfl, Nat.le_of_ble_eq_true rfl⟩ ⟨Nat.le_refl _, Nat.le_refl _⟩ rfl (Nat.le_of_ble_eq_true rfl) dX0_foresee_8) hI (by decide) (fun r_1 σ_2 H locs hpσ_2 hkσ_2 hI => ?_)
  obtain ⟨ahpσ_2, bhpσ_2⟩ := hpσ_2
  rw [ahpσ_2] at hI
  replace hF := q_letX hF bhpσ_2
  refine lv_istore_n (lv' := [(3, .int r_1), (0, .ref a), (1, .int v1), (2, .int v2)]) hx hb dX0_foresee_11 rfl hl (by decide) rfl (fun ls hl => ?_)
  refine lv_iconst (v := 0) hx hb dX0_foresee_12 (by decide) ?_
  refine lv_istore (lv' := [(4, .int 0), (3, .int r_1), (0, .ref a), (1, .int v1), (2, .int v2)]) hx hb dX0_foresee_13 hl (by decide) rfl (fun ls hl => ?_)
  have L_15_5 : ∀ (k_5 : Nat) (x_3 : Int32) (σ_4 : ST) (H : Heap) (locs : List Loc) (ls : Array Slot), (2147483647 - x_3.toInt).toNat < k_5 → (0 ≤ x_3.toInt) → (q_ow [(1, 11), (1, 12), (1, 13), (1, 14), (20, 99)] [] X σ σ_4) → (F_X0_foresee_L15_1 X a v1 r_1 v2 k_5 x_3 σ_4 = out) → q_I X 8 σ s.heap locs σ_4 H → lv_has ls 7 [(0, .ref a), (1, .int v1), (2, .int v2), (3, .int r_1), (4, .int x_3)] → W p l e (q_rm 4 88) s m ([.ref a, .int v1, .int v2] : List Value).toArray below meth c H locs 0 0 (MQ below (q_Qv X 8 σ (fun (σ' : ST) => σ' = F_X0_foresee X σ a v1 v2 ∧ q_ow [(1, 11), (1, 12), (1, 13), (1, 14), (20, 99)] [] X σ σ')) ([.ref a, .int v1, .int v2] : List Value).toArray s 0 0 (q_reg X)) (F0 m 15 ls []) := by
    clear hF
    intro k_5
    induction k_5 with
    | zero =>
      intro x_3 σ_4 H locs ls hms
      exact absurd hms (Nat.not_lt_zero _)
    | succ k_5 ih15 =>
      intro x_3 σ_4 H locs ls hm15 hge15 fr_σ_4 hF hI hl
      replace hF := (F_X0_foresee_L15_1_s).symm.trans hF
      unfold F_X0_foresee_B15_1 at hF
      refine lv_iload hx hb dX0_foresee_15 (lv_at hl 4 rfl) ?_
      refine lv_aload_n hx hb dX0_foresee_17 rfl (lv_at hl 0 rfl) ?_
      refine gs_X0_12_1 E hI ha dX0_foresee_18 ?_
      refine gs_X0_106_6 E hI (q_tk (k' := 6) hI ha rfl (by decide)) dX0_foresee_21 ?_
      refine lv_topi (fun f_6 ef_6 => ?_)
      replace hF := q_letX hF ef_6
      have bf_6 : -2147483648 ≤ f_6.toInt ∧ f_6.toInt ≤ 10 := by rw [ef_6]; exact q_bd hI (q_tk (k' := 6) hI ha rfl (by decide)) rfl
      have gc_7_x_3 := q_rng x_3
      have gc_7_f_6 := q_rng f_6
      refine q_icmp_ge (A := x_3.toInt) (B := f_6.toInt) E rfl rfl (tgt := 52) dX0_foresee_24 (by decide) (fun c_7 => ?_) (fun c_7 => ?_)
      · skip
        replace hF := q_ifn hF (Int.not_lt.mpr c_7)
        unfold F_X0_foresee_E52_6 at hF
        refine lv_aload_n hx hb dX0_foresee_52 rfl (lv_at hl 0 rfl) ?_
        refine lv_iconst (v := 0) hx hb dX0_foresee_53 (by decide) ?_
        refine ps_X0_68_1 E hI ha (by decide) dX0_foresee_54 (fun H locs σ_8 hσ_8 hI => ?_)
        replace hF := q_letX hF hσ_8
        have fr_σ_8 := fr_σ_4.si hσ_8 ha rfl
        refine lv_aload_n hx hb dX0_foresee_57 rfl (lv_at hl 0 rfl) ?_
        refine lv_iload_n hx hb dX0_foresee_58 rfl (lv_at hl 3 rfl) ?_
        have J_67_9 : ∀ (x_9 : Int32) (H : Heap) (locs : List Loc) (ls : Array Slot), (F_X0_foresee_J67_3 X σ_8 a v2 v1 r_1 x_9 = out) → q_I X 8 σ s.heap locs σ_8 H → lv_has ls 7 [(0, .ref a), (1, .int v1), (2, .int v2), (3, .int r_1), (4, .int x_3)] → W p l e (q_rm 4 88) s m ([.ref a, .int v1, .int v2] : List Value).toArray below meth c H locs 0 0 (MQ below (q_Qv X 8 σ (fun (σ' : ST) => σ' = F_X0_foresee X σ a v1 v2 ∧ q_ow [(1, 11), (1, 12), (1, 13), (1, 14), (20, 99)] [] X σ σ')) ([.ref a, .int v1, .int v2] : List Value).toArray s 0 0 (q_reg X)) (F0 m 67 ls [.int x_9, .ref a]) := by
          clear hF
          intro x_9 H locs ls  hF hI hl
          unfold F_X0_foresee_J67_3 at hF
          refine ps_X0_71_1 E hI ha (by decide) dX0_foresee_67 (fun H locs σ_10 hσ_10 hI => ?_)
          replace hF := q_letX hF hσ_10
          have fr_σ_10 := fr_σ_8.si hσ_10 ha rfl
          refine lv_aload_n hx hb dX0_foresee_70 rfl (lv_at hl 0 rfl) ?_
          refine lv_iconst (v := (-1)) hx hb dX0_foresee_71 (by decide) ?_
          refine ps_X0_74_1 E hI ha (by decide) dX0_foresee_72 (fun H locs σ_11 hσ_11 hI => ?_)
          replace hF := q_letX hF hσ_11
          have fr_σ_11 := fr_σ_10.si hσ_11 ha rfl
          refine lv_aload_n hx hb dX0_foresee_75 rfl (lv_at hl 0 rfl) ?_
          refine lv_iconst (v := (-1)) hx hb dX0_foresee_76 (by decide) ?_
          refine ps_X0_77_1 E hI ha (by decide) dX0_foresee_77 (fun H locs σ_12 hσ_12 hI => ?_)
          replace hF := q_letX hF hσ_12
          have fr_σ_12 := fr_σ_11.si hσ_12 ha rfl
          refine lv_iconst (v := 0) hx hb dX0_foresee_80 (by decide) ?_
          refine lv_istore (lv' := [(4, .int 0), (0, .ref a), (1, .int v1), (2, .int v2), (3, .int r_1)]) hx hb dX0_foresee_81 hl (by decide) rfl (fun ls hl => ?_)
          have L_83_15 : ∀ (k_15 : Nat) (x_13 : Int32) (σ_14 : ST) (H : Heap) (locs : List Loc) (ls : Array Slot), (2147483647 - x_13.toInt).toNat < k_15 → (0 ≤ x_13.toInt) → (q_ow [(1, 11), (1, 12), (1, 13), (1, 14), (20, 99)] [] X σ σ_14) → (F_X0_foresee_L83_4 X v2 a v1 r_1 k_15 x_13 σ_14 = out) → q_I X 8 σ s.heap locs σ_14 H → lv_has ls 7 [(0, .ref a), (1, .int v1), (2, .int v2), (3, .int r_1), (4, .int x_13)] → W p l e (q_rm 4 88) s m ([.ref a, .int v1, .int v2] : List Value).toArray below meth c H locs 0 0 (MQ below (q_Qv X 8 σ (fun (σ' : ST) => σ' = F_X0_foresee X σ a v1 v2 ∧ q_ow [(1, 11), (1, 12), (1, 13), (1, 14), (20, 99)] [] X σ σ')) ([.ref a, .int v1, .int v2] : List Value).toArray s 0 0 (q_reg X)) (F0 m 83 ls []) := by
            clear hF
            intro k_15
            induction k_15 with
            | zero =>
              intro x_13 σ_14 H locs ls hms
              exact absurd hms (Nat.not_lt_zero _)
            | succ k_15 ih83 =>
              intro x_13 σ_14 H locs ls hm83 hge83 fr_σ_14 hF hI hl
              replace hF := (F_X0_foresee_L83_4_s).symm.trans hF
              unfold F_X0_foresee_B83_4 at hF
              refine lv_iload hx hb dX0_foresee_83 (lv_at hl 4 rfl) ?_
              refine lv_iload_n hx hb dX0_foresee_85 rfl (lv_at hl 2 rfl) ?_
              have gc_16_x_13 := q_rng x_13
              have gc_16_v2 := q_rng v2
              refine q_icmp_ge (A := x_13.toInt) (B := v2.toInt) E rfl rfl (tgt := 200) dX0_foresee_86 (by decide) (fun c_16 => ?_) (fun c_16 => ?_)
              · skip
                replace hF := q_ifn hF (Int.not_lt.mpr c_16)
                skip
                exact q_retv E hr hlk hI ⟨(hF.trans hout), fr_σ_14⟩ dX0_foresee_200
              · skip
                replace hF := q_ifp hF c_16
                refine lv_aload_n hx hb dX0_foresee_89 rfl (lv_at hl 0 rfl) ?_
                refine gs_X0_71_1 E hI ha dX0_foresee_90 ?_
                refine lv_topi (fun f_17 ef_17 => ?_)
                replace hF := q_letX hF ef_17
                refine lv_iconst (v := (-1)) hx hb dX0_foresee_93 (by decide) ?_
                have gc_18_f_17 := q_rng f_17
                refine q_icmp_ne (A := f_17.toInt) (B := (-1)) E rfl (by decide) (tgt := 200) dX0_foresee_94 (by decide) (fun c_18 => ?_) (fun c_18 => ?_)
                · skip
                  replace hF := q_ifn hF c_18
                  skip
                  exact q_retv E hr hlk hI ⟨(hF.trans hout), fr_σ_14⟩ dX0_foresee_200
                · skip
                  replace hF := q_ifp hF c_18
                  refine lv_aload_n hx hb dX0_foresee_97 rfl (lv_at hl 0 rfl) ?_
                  refine lv_iload_n hx hb dX0_foresee_98 rfl (lv_at hl 1 rfl) ?_
                  refine lv_iload hx hb dX0_foresee_99 (lv_at hl 4 rfl) ?_
                  refine q_ci (q_runV (As := [.int v1, .int x_13]) (rest := []) E (hml.trans hl.1.symm) hI (c_X0_fallingKind l X σ_14 a v1 x_13 ha) kv_X0_195 ha ⟨rfl, by decide⟩ (show vwCl[0]? = some (RX0, TX0, 15) from rfl) rfl ⟨Nat.le_of_ble_eq_true rfl, Nat.le_of_ble_eq_true rfl⟩ ⟨Nat.le_refl _, Nat.le_refl _⟩ rfl (Nat.le_of_ble_eq_true rfl) dX0_foresee_101) hI (by decide) (fun r_19 σ_20 H locs hpσ_20 hkσ_20 hI => ?_)
                  obtain ⟨ahpσ_20, bhpσ_20⟩ := hpσ_20
                  rw [ahpσ_20] at hI
                  replace hF := q_letX hF bhpσ_20
                  refine lv_istore (lv' := [(5, .int r_19), (0, .ref a), (1, .int v1), (2, .int v2), (3, .int r_1), (4, .int x_13)]) hx hb dX0_foresee_104 hl (by decide) rfl (fun ls hl => ?_)
                  refine lv_aload_n hx hb dX0_foresee_106 rfl (lv_at hl 1 rfl) ?_
                  refine gs_X0_65_1 E hI ha dX0_foresee_107 ?_
                  refine lv_iload hx hb dX0_foresee_110 (lv_at hl 0 rfl) ?_
                  refine q_ci (q_runV (As := [.int r_19]) (rest := []) E (hml.trans hl.1.symm) hI (c_X5_get l X σ_14 (q_rf X a 10) r_19 (q_tk (k' := 5) hI ha rfl (by decide))) kv_X0_113 (q_tk (k' := 5) hI ha rfl (by decide)) ⟨rfl, by decide⟩ (show vwCl[4]? = some (RX5, TX5, 1) from rfl) rfl ⟨Nat.le_of_ble_eq_true rfl, Nat.le_of_ble_eq_true rfl⟩ ⟨Nat.le_refl _, Nat.le_refl _⟩ rfl (Nat.le_of_ble_eq_true rfl) dX0_foresee_112) hI (by decide) (fun r_21 σ_22 H locs hpσ_22 hkσ_22 hI => ?_)
                  obtain ⟨ahpσ_22, bhpσ_22⟩ := hpσ_22
                  rw [ahpσ_22] at hI
                  replace hF := q_letX hF bhpσ_22
                  refine lv_aload_n hx hb dX0_foresee_115 rfl (lv_at hl 1 rfl) ?_
                  refine gs_X0_12_1 E hI ha dX0_foresee_116 ?_
                  refine gs_X0_198_6 E hI (q_tk (k' := 6) hI ha rfl (by decide)) dX0_foresee_119 ?_
                  refine lv_topi (fun f_23 ef_23 => ?_)
                  replace hF := q_letX hF ef_23
                  have bf_23 : -2147483648 ≤ f_23.toInt ∧ f_23.toInt ≤ 4 := by rw [ef_23]; exact q_bd hI (q_tk (k' := 6) hI ha rfl (by decide)) rfl
                  refine q_ci (q_runS (As := [.int r_21, .int f_23]) (rest := []) E (hml.trans hl.1.symm) hI (c_J9_min_7cf53 l X σ_14 r_21 f_23) ks_X0_201 rfl ⟨Nat.le_of_ble_eq_true rfl, Nat.le_of_ble_eq_true rfl⟩ ⟨Nat.le_refl _, Nat.le_refl _⟩ rfl (Nat.le_of_ble_eq_true rfl) dX0_foresee_122) hI (by decide) (fun r_24 σ_25 H locs hpσ_25 hkσ_25 hI => ?_)
                  obtain ⟨ahpσ_25, bhpσ_25, chpσ_25⟩ := hpσ_25
                  rw [ahpσ_25] at hI
                  replace hF := q_letX hF chpσ_25
                  refine lv_istore (lv' := [(6, .int r_24), (5, .int r_19), (0, .ref a), (1, .int v1), (2, .int v2), (3, .int r_1), (4, .int x_13)]) hx hb dX0_foresee_125 hl (by decide) rfl (fun ls hl => ?_)
                  refine lv_aload_n hx hb dX0_foresee_127 rfl (lv_at hl 2 rfl) ?_
                  refine gs_X0_65_1 E hI ha dX0_foresee_128 ?_
                  refine lv_iload hx hb dX0_foresee_131 (lv_at hl 1 rfl) ?_
                  refine lv_iload hx hb dX0_foresee_133 (lv_at hl 0 rfl) ?_
                  refine lv_ineg hx hb dX0_foresee_135 ?_
                  refine lv_topi (fun z_26 ez_26 => ?_)
                  replace hF := q_letX hF ez_26
                  refine q_cv (q_runV (As := [.int r_19, .int z_26]) (rest := []) E (hml.trans hl.1.symm) hI (c_X5_add l X σ_14 (q_rf X a 10) r_19 z_26 (q_tk (k' := 5) hI ha rfl (by decide))) kv_X0_102 (q_tk (k' := 5) hI ha rfl (by decide)) ⟨rfl, by decide⟩ (show vwCl[4]? = some (RX5, TX5, 1) from rfl) rfl ⟨Nat.le_of_ble_eq_true rfl, Nat.le_of_ble_eq_true rfl⟩ ⟨Nat.le_refl _, Nat.le_refl _⟩ rfl (Nat.le_of_ble_eq_true rfl) dX0_foresee_136) hI (by decide) (fun σ_28 H locs hpσ_28 hkσ_28 hI => ?_)
                  obtain ⟨ahpσ_28, bhpσ_28⟩ := hpσ_28
                  have fr_σ_28 := fr_σ_14.call bhpσ_28 rfl rfl
                  replace hF := q_letX hF ahpσ_28
                  refine lv_aload_n hx hb dX0_foresee_139 rfl (lv_at hl 2 rfl) ?_
                  refine lv_dup hx hb dX0_foresee_140 rfl ?_
                  refine gs_X0_68_1 E hI ha dX0_foresee_141 ?_
                  refine lv_topi (fun f_29 ef_29 => ?_)
                  replace hF := q_letX hF ef_29
                  refine lv_iload hx hb dX0_foresee_144 (lv_at hl 0 rfl) ?_
                  refine lv_iadd hx hb dX0_foresee_146 ?_
                  refine lv_topi (fun z_30 ez_30 => ?_)
                  replace hF := q_letX hF ez_30
                  refine ps_X0_68_1 E hI ha (by decide) dX0_foresee_147 (fun H locs σ_31 hσ_31 hI => ?_)
                  replace hF := q_letX hF hσ_31
                  have fr_σ_31 := fr_σ_28.si hσ_31 ha rfl
                  refine lv_iload hx hb dX0_foresee_150 (lv_at hl 0 rfl) ?_
                  refine q_if_le (A := r_24.toInt) E rfl (tgt := 164) dX0_foresee_152 (by decide) (fun c_32 => ?_) (fun c_32 => ?_)
                  · skip
                    replace hF := q_ifn hF (Int.not_lt.mpr c_32)
                    refine lv_aload_n hx hb dX0_foresee_164 rfl (lv_at hl 2 rfl) ?_
                    refine gs_X0_77_1 E hI ha dX0_foresee_165 ?_
                    refine lv_topi (fun f_33 ef_33 => ?_)
                    replace hF := q_letX hF ef_33
                    refine lv_iconst (v := (-1)) hx hb dX0_foresee_168 (by decide) ?_
                    have gc_34_f_33 := q_rng f_33
                    refine q_icmp_ne (A := f_33.toInt) (B := (-1)) E rfl (by decide) (tgt := 178) dX0_foresee_169 (by decide) (fun c_34 => ?_) (fun c_34 => ?_)
                    · skip
                      replace hF := q_ifn hF c_34
                      refine lv_aload_n hx hb dX0_foresee_178 rfl (lv_at hl 2 rfl) ?_
                      refine gs_X0_68_1 E hI ha dX0_foresee_179 ?_
                      refine lv_topi (fun f_35 ef_35 => ?_)
                      replace hF := q_letX hF ef_35
                      refine lv_iload_n hx hb dX0_foresee_182 rfl (lv_at hl 5 rfl) ?_
                      have gc_36_f_35 := q_rng f_35
                      have gc_36_r_1 := q_rng r_1
                      refine q_icmp_ne (A := f_35.toInt) (B := r_1.toInt) E rfl rfl (tgt := 194) dX0_foresee_183 (by decide) (fun c_36 => ?_) (fun c_36 => ?_)
                      · skip
                        replace hF := q_ifn hF c_36
                        obtain ⟨z_37, ez_37⟩ : ∃ y : Int32, y = x_13 + 1 := ⟨_, rfl⟩
                        replace hF := q_letX hF ez_37
                        refine lv_iinc (v := z_37) (lv' := [(4, .int z_37), (6, .int r_24), (5, .int r_19), (0, .ref a), (1, .int v1), (2, .int v2), (3, .int r_1)]) hx hb dX0_foresee_194 hl (k := 6) rfl (by rw [ez_37]; rfl) (by decide) rfl (fun ls hl => ?_)
                        have iz_37 : z_37.toInt = x_13.toInt + 1 := q_inc ez_37 (by first | (clear ahpσ_2 bhpσ_2 hm15 hge15 bf_6 gc_7_x_3 gc_7_f_6 c_7 hm83 gc_18_f_17 c_18 ahpσ_20 bhpσ_20 ahpσ_22 bhpσ_22 bf_23 ahpσ_25 bhpσ_25 chpσ_25 ahpσ_28 bhpσ_28 c_32 gc_34_f_33 c_34 gc_36_f_35 gc_36_r_1 c_36; omega) | omega)
                        refine lv_goto (tgt := 83) hx hb dX0_foresee_197 (by decide) ?_
                        exact ih83 z_37 σ_31 _ _ ls (by first | (clear ahpσ_2 bhpσ_2 hm15 hge15 bf_6 gc_7_x_3 gc_7_f_6 c_7 gc_18_f_17 c_18 ahpσ_20 bhpσ_20 ahpσ_22 bhpσ_22 bf_23 ahpσ_25 bhpσ_25 chpσ_25 ahpσ_28 bhpσ_28 c_32 gc_34_f_33 gc_36_f_35 gc_36_r_1; omega) | omega) (by first | (clear ahpσ_2 bhpσ_2 hm15 hge15 bf_6 gc_7_x_3 gc_7_f_6 c_7 hm83 gc_16_v2 c_16 gc_18_f_17 c_18 ahpσ_20 bhpσ_20 ahpσ_22 bhpσ_22 bf_23 ahpσ_25 bhpσ_25 chpσ_25 ahpσ_28 bhpσ_28 c_32 gc_34_f_33 c_34 gc_36_f_35 gc_36_r_1 c_36; omega) | omega) fr_σ_31 hF hI (lv_sub hl [3, 4, 5, 6, 0] rfl)
                      · skip
                        replace hF := q_ifp hF c_36
                        refine lv_aload_n hx hb dX0_foresee_186 rfl (lv_at hl 2 rfl) ?_
                        refine lv_iload hx hb dX0_foresee_187 (lv_at hl 6 rfl) ?_
                        refine lv_iconst (v := 1) hx hb dX0_foresee_189 (by decide) ?_
                        refine lv_iadd hx hb dX0_foresee_190 ?_
                        refine lv_topi (fun z_38 ez_38 => ?_)
                        replace hF := q_letX hF ez_38
                        refine ps_X0_71_1 E hI ha (by decide) dX0_foresee_191 (fun H locs σ_39 hσ_39 hI => ?_)
                        replace hF := q_letX hF hσ_39
                        have fr_σ_39 := fr_σ_31.si hσ_39 ha rfl
                        obtain ⟨z_40, ez_40⟩ : ∃ y : Int32, y = x_13 + 1 := ⟨_, rfl⟩
                        replace hF := q_letX hF ez_40
                        refine lv_iinc (v := z_40) (lv' := [(4, .int z_40), (6, .int r_24), (5, .int r_19), (0, .ref a), (1, .int v1), (2, .int v2), (3, .int r_1)]) hx hb dX0_foresee_194 hl (k := 6) rfl (by rw [ez_40]; rfl) (by decide) rfl (fun ls hl => ?_)
                        have iz_40 : z_40.toInt = x_13.toInt + 1 := q_inc ez_40 (by first | (clear ahpσ_2 bhpσ_2 hm15 hge15 bf_6 gc_7_x_3 gc_7_f_6 c_7 hm83 gc_18_f_17 c_18 ahpσ_20 bhpσ_20 ahpσ_22 bhpσ_22 bf_23 ahpσ_25 bhpσ_25 chpσ_25 ahpσ_28 bhpσ_28 c_32 gc_34_f_33 c_34 gc_36_f_35 gc_36_r_1 c_36; omega) | omega)
                        refine lv_goto (tgt := 83) hx hb dX0_foresee_197 (by decide) ?_
                        exact ih83 z_40 σ_39 _ _ ls (by first | (clear ahpσ_2 bhpσ_2 hm15 hge15 bf_6 gc_7_x_3 gc_7_f_6 c_7 gc_18_f_17 c_18 ahpσ_20 bhpσ_20 ahpσ_22 bhpσ_22 bf_23 ahpσ_25 bhpσ_25 chpσ_25 ahpσ_28 bhpσ_28 c_32 gc_34_f_33 gc_36_f_35 gc_36_r_1 c_36; omega) | omega) (by first | (clear ahpσ_2 bhpσ_2 hm15 hge15 bf_6 gc_7_x_3 gc_7_f_6 c_7 hm83 gc_16_v2 c_16 gc_18_f_17 c_18 ahpσ_20 bhpσ_20 ahpσ_22 bhpσ_22 bf_23 ahpσ_25 bhpσ_25 chpσ_25 ahpσ_28 bhpσ_28 c_32 gc_34_f_33 c_34 gc_36_f_35 gc_36_r_1 c_36; omega) | omega) fr_σ_39 hF hI (lv_sub hl [3, 4, 5, 6, 0] rfl)
                    · skip
                      replace hF := q_ifp hF c_34
                      refine lv_aload_n hx hb dX0_foresee_172 rfl (lv_at hl 2 rfl) ?_
                      refine lv_iload hx hb dX0_foresee_173 (lv_at hl 6 rfl) ?_
                      refine ps_X0_77_1 E hI ha (by decide) dX0_foresee_175 (fun H locs σ_41 hσ_41 hI => ?_)
                      replace hF := q_letX hF hσ_41
                      have fr_σ_41 := fr_σ_31.si hσ_41 ha rfl
                      refine lv_aload_n hx hb dX0_foresee_178 rfl (lv_at hl 2 rfl) ?_
                      refine gs_X0_68_1 E hI ha dX0_foresee_179 ?_
                      refine lv_topi (fun f_42 ef_42 => ?_)
                      replace hF := q_letX hF ef_42
                      refine lv_iload_n hx hb dX0_foresee_182 rfl (lv_at hl 5 rfl) ?_
                      have gc_43_f_42 := q_rng f_42
                      have gc_43_r_1 := q_rng r_1
                      refine q_icmp_ne (A := f_42.toInt) (B := r_1.toInt) E rfl rfl (tgt := 194) dX0_foresee_183 (by decide) (fun c_43 => ?_) (fun c_43 => ?_)
                      · skip
                        replace hF := q_ifn hF c_43
                        obtain ⟨z_44, ez_44⟩ : ∃ y : Int32, y = x_13 + 1 := ⟨_, rfl⟩
                        replace hF := q_letX hF ez_44
                        refine lv_iinc (v := z_44) (lv' := [(4, .int z_44), (6, .int r_24), (5, .int r_19), (0, .ref a), (1, .int v1), (2, .int v2), (3, .int r_1)]) hx hb dX0_foresee_194 hl (k := 6) rfl (by rw [ez_44]; rfl) (by decide) rfl (fun ls hl => ?_)
                        have iz_44 : z_44.toInt = x_13.toInt + 1 := q_inc ez_44 (by first | (clear ahpσ_2 bhpσ_2 hm15 hge15 bf_6 gc_7_x_3 gc_7_f_6 c_7 hm83 gc_18_f_17 c_18 ahpσ_20 bhpσ_20 ahpσ_22 bhpσ_22 bf_23 ahpσ_25 bhpσ_25 chpσ_25 ahpσ_28 bhpσ_28 c_32 gc_34_f_33 c_34 gc_43_f_42 gc_43_r_1 c_43; omega) | omega)
                        refine lv_goto (tgt := 83) hx hb dX0_foresee_197 (by decide) ?_
                        exact ih83 z_44 σ_41 _ _ ls (by first | (clear ahpσ_2 bhpσ_2 hm15 hge15 bf_6 gc_7_x_3 gc_7_f_6 c_7 gc_18_f_17 c_18 ahpσ_20 bhpσ_20 ahpσ_22 bhpσ_22 bf_23 ahpσ_25 bhpσ_25 chpσ_25 ahpσ_28 bhpσ_28 c_32 gc_34_f_33 c_34 gc_43_f_42 gc_43_r_1; omega) | omega) (by first | (clear ahpσ_2 bhpσ_2 hm15 hge15 bf_6 gc_7_x_3 gc_7_f_6 c_7 hm83 gc_16_v2 c_16 gc_18_f_17 c_18 ahpσ_20 bhpσ_20 ahpσ_22 bhpσ_22 bf_23 ahpσ_25 bhpσ_25 chpσ_25 ahpσ_28 bhpσ_28 c_32 gc_34_f_33 c_34 gc_43_f_42 gc_43_r_1 c_43; omega) | omega) fr_σ_41 hF hI (lv_sub hl [3, 4, 5, 6, 0] rfl)
                      · skip
                        replace hF := q_ifp hF c_43
                        refine lv_aload_n hx hb dX0_foresee_186 rfl (lv_at hl 2 rfl) ?_
                        refine lv_iload hx hb dX0_foresee_187 (lv_at hl 6 rfl) ?_
                        refine lv_iconst (v := 1) hx hb dX0_foresee_189 (by decide) ?_
                        refine lv_iadd hx hb dX0_foresee_190 ?_
                        refine lv_topi (fun z_45 ez_45 => ?_)
                        replace hF := q_letX hF ez_45
                        refine ps_X0_71_1 E hI ha (by decide) dX0_foresee_191 (fun H locs σ_46 hσ_46 hI => ?_)
                        replace hF := q_letX hF hσ_46
                        have fr_σ_46 := fr_σ_41.si hσ_46 ha rfl
                        obtain ⟨z_47, ez_47⟩ : ∃ y : Int32, y = x_13 + 1 := ⟨_, rfl⟩
                        replace hF := q_letX hF ez_47
                        refine lv_iinc (v := z_47) (lv' := [(4, .int z_47), (6, .int r_24), (5, .int r_19), (0, .ref a), (1, .int v1), (2, .int v2), (3, .int r_1)]) hx hb dX0_foresee_194 hl (k := 6) rfl (by rw [ez_47]; rfl) (by decide) rfl (fun ls hl => ?_)
                        have iz_47 : z_47.toInt = x_13.toInt + 1 := q_inc ez_47 (by first | (clear ahpσ_2 bhpσ_2 hm15 hge15 bf_6 gc_7_x_3 gc_7_f_6 c_7 hm83 gc_18_f_17 c_18 ahpσ_20 bhpσ_20 ahpσ_22 bhpσ_22 bf_23 ahpσ_25 bhpσ_25 chpσ_25 ahpσ_28 bhpσ_28 c_32 gc_34_f_33 c_34 gc_43_f_42 gc_43_r_1 c_43; omega) | omega)
                        refine lv_goto (tgt := 83) hx hb dX0_foresee_197 (by decide) ?_
                        exact ih83 z_47 σ_46 _ _ ls (by first | (clear ahpσ_2 bhpσ_2 hm15 hge15 bf_6 gc_7_x_3 gc_7_f_6 c_7 gc_18_f_17 c_18 ahpσ_20 bhpσ_20 ahpσ_22 bhpσ_22 bf_23 ahpσ_25 bhpσ_25 chpσ_25 ahpσ_28 bhpσ_28 c_32 gc_34_f_33 c_34 gc_43_f_42 gc_43_r_1 c_43; omega) | omega) (by first | (clear ahpσ_2 bhpσ_2 hm15 hge15 bf_6 gc_7_x_3 gc_7_f_6 c_7 hm83 gc_16_v2 c_16 gc_18_f_17 c_18 ahpσ_20 bhpσ_20 ahpσ_22 bhpσ_22 bf_23 ahpσ_25 bhpσ_25 chpσ_25 ahpσ_28 bhpσ_28 c_32 gc_34_f_33 c_34 gc_43_f_42 gc_43_r_1 c_43; omega) | omega) fr_σ_46 hF hI (lv_sub hl [3, 4, 5, 6, 0] rfl)
                  · skip
                    replace hF := q_ifp hF c_32
                    refine lv_aload_n hx hb dX0_foresee_155 rfl (lv_at hl 2 rfl) ?_
                    refine lv_iload hx hb dX0_foresee_156 (lv_at hl 1 rfl) ?_
                    refine ps_X0_74_1 E hI ha (by decide) dX0_foresee_158 (fun H locs σ_48 hσ_48 hI => ?_)
                    replace hF := q_letX hF hσ_48
                    have fr_σ_48 := fr_σ_31.si hσ_48 ha rfl
                    refine lv_goto (tgt := 178) hx hb dX0_foresee_161 (by decide) ?_
                    refine lv_aload_n hx hb dX0_foresee_178 rfl (lv_at hl 2 rfl) ?_
                    refine gs_X0_68_1 E hI ha dX0_foresee_179 ?_
                    refine lv_topi (fun f_49 ef_49 => ?_)
                    replace hF := q_letX hF ef_49
                    refine lv_iload_n hx hb dX0_foresee_182 rfl (lv_at hl 5 rfl) ?_
                    have gc_50_f_49 := q_rng f_49
                    have gc_50_r_1 := q_rng r_1
                    refine q_icmp_ne (A := f_49.toInt) (B := r_1.toInt) E rfl rfl (tgt := 194) dX0_foresee_183 (by decide) (fun c_50 => ?_) (fun c_50 => ?_)
                    · skip
                      replace hF := q_ifn hF c_50
                      obtain ⟨z_51, ez_51⟩ : ∃ y : Int32, y = x_13 + 1 := ⟨_, rfl⟩
                      replace hF := q_letX hF ez_51
                      refine lv_iinc (v := z_51) (lv' := [(4, .int z_51), (6, .int r_24), (5, .int r_19), (0, .ref a), (1, .int v1), (2, .int v2), (3, .int r_1)]) hx hb dX0_foresee_194 hl (k := 6) rfl (by rw [ez_51]; rfl) (by decide) rfl (fun ls hl => ?_)
                      have iz_51 : z_51.toInt = x_13.toInt + 1 := q_inc ez_51 (by first | (clear ahpσ_2 bhpσ_2 hm15 hge15 bf_6 gc_7_x_3 gc_7_f_6 c_7 hm83 gc_18_f_17 c_18 ahpσ_20 bhpσ_20 ahpσ_22 bhpσ_22 bf_23 ahpσ_25 bhpσ_25 chpσ_25 ahpσ_28 bhpσ_28 c_32 gc_50_f_49 gc_50_r_1 c_50; omega) | omega)
                      refine lv_goto (tgt := 83) hx hb dX0_foresee_197 (by decide) ?_
                      exact ih83 z_51 σ_48 _ _ ls (by first | (clear ahpσ_2 bhpσ_2 hm15 hge15 bf_6 gc_7_x_3 gc_7_f_6 c_7 gc_18_f_17 c_18 ahpσ_20 bhpσ_20 ahpσ_22 bhpσ_22 bf_23 ahpσ_25 bhpσ_25 chpσ_25 ahpσ_28 bhpσ_28 c_32 gc_50_f_49 gc_50_r_1; omega) | omega) (by first | (clear ahpσ_2 bhpσ_2 hm15 hge15 bf_6 gc_7_x_3 gc_7_f_6 c_7 hm83 gc_16_v2 c_16 gc_18_f_17 c_18 ahpσ_20 bhpσ_20 ahpσ_22 bhpσ_22 bf_23 ahpσ_25 bhpσ_25 chpσ_25 ahpσ_28 bhpσ_28 c_32 gc_50_f_49 gc_50_r_1 c_50; omega) | omega) fr_σ_48 hF hI (lv_sub hl [3, 4, 5, 6, 0] rfl)
                    · skip
                      replace hF := q_ifp hF c_50
                      refine lv_aload_n hx hb dX0_foresee_186 rfl (lv_at hl 2 rfl) ?_
                      refine lv_iload hx hb dX0_foresee_187 (lv_at hl 6 rfl) ?_
                      refine lv_iconst (v := 1) hx hb dX0_foresee_189 (by decide) ?_
                      refine lv_iadd hx hb dX0_foresee_190 ?_
                      refine lv_topi (fun z_52 ez_52 => ?_)
                      replace hF := q_letX hF ez_52
                      refine ps_X0_71_1 E hI ha (by decide) dX0_foresee_191 (fun H locs σ_53 hσ_53 hI => ?_)
                      replace hF := q_letX hF hσ_53
                      have fr_σ_53 := fr_σ_48.si hσ_53 ha rfl
                      obtain ⟨z_54, ez_54⟩ : ∃ y : Int32, y = x_13 + 1 := ⟨_, rfl⟩
                      replace hF := q_letX hF ez_54
                      refine lv_iinc (v := z_54) (lv' := [(4, .int z_54), (6, .int r_24), (5, .int r_19), (0, .ref a), (1, .int v1), (2, .int v2), (3, .int r_1)]) hx hb dX0_foresee_194 hl (k := 6) rfl (by rw [ez_54]; rfl) (by decide) rfl (fun ls hl => ?_)
                      have iz_54 : z_54.toInt = x_13.toInt + 1 := q_inc ez_54 (by first | (clear ahpσ_2 bhpσ_2 hm15 hge15 bf_6 gc_7_x_3 gc_7_f_6 c_7 hm83 gc_18_f_17 c_18 ahpσ_20 bhpσ_20 ahpσ_22 bhpσ_22 bf_23 ahpσ_25 bhpσ_25 chpσ_25 ahpσ_28 bhpσ_28 c_32 gc_50_f_49 gc_50_r_1 c_50; omega) | omega)
                      refine lv_goto (tgt := 83) hx hb dX0_foresee_197 (by decide) ?_
                      exact ih83 z_54 σ_53 _ _ ls (by first | (clear ahpσ_2 bhpσ_2 hm15 hge15 bf_6 gc_7_x_3 gc_7_f_6 c_7 gc_18_f_17 c_18 ahpσ_20 bhpσ_20 ahpσ_22 bhpσ_22 bf_23 ahpσ_25 bhpσ_25 chpσ_25 ahpσ_28 bhpσ_28 c_32 gc_50_f_49 gc_50_r_1 c_50; omega) | omega) (by first | (clear ahpσ_2 bhpσ_2 hm15 hge15 bf_6 gc_7_x_3 gc_7_f_6 c_7 hm83 gc_16_v2 c_16 gc_18_f_17 c_18 ahpσ_20 bhpσ_20 ahpσ_22 bhpσ_22 bf_23 ahpσ_25 bhpσ_25 chpσ_25 ahpσ_28 bhpσ_28 c_32 gc_50_f_49 gc_50_r_1 c_50; omega) | omega) fr_σ_53 hF hI (lv_sub hl [3, 4, 5, 6, 0] rfl)
          exact L_83_15 ((2147483647 - (0 : Int32).toInt).toNat + 1) 0 σ_12 _ _ ls (Nat.lt_succ_self _) (by decide) fr_σ_12 hF hI (lv_sub hl [1, 2, 3, 4, 0] rfl)
        refine q_if_ne (A := r_1.toInt) E rfl (tgt := 66) dX0_foresee_59 (by decide) (fun c_55 => ?_) (fun c_55 => ?_)
        · skip
          replace hF := q_ifn hF c_55
          refine lv_iconst (v := (-1)) hx hb dX0_foresee_66 (by decide) ?_
          exact J_67_9 (-1) _ _ ls hF hI (lv_sub hl [0, 1, 2, 3, 4] rfl)
        · skip
          replace hF := q_ifp hF c_55
          refine lv_iconst (v := 0) hx hb dX0_foresee_62 (by decide) ?_
          refine lv_goto (tgt := 67) hx hb dX0_foresee_63 (by decide) ?_
          exact J_67_9 0 _ _ ls hF hI (lv_sub hl [0, 1, 2, 3, 4] rfl)
      · skip
        replace hF := q_ifp hF c_7
        refine lv_aload_n hx hb dX0_foresee_27 rfl (lv_at hl 0 rfl) ?_
        refine gs_X0_65_1 E hI ha dX0_foresee_28 ?_
        refine lv_iload hx hb dX0_foresee_31 (lv_at hl 4 rfl) ?_
        refine lv_aload_n hx hb dX0_foresee_33 rfl (lv_at hl 0 rfl) ?_
        refine gs_X0_21_1 E hI ha dX0_foresee_34 ?_
        refine lv_iload_n hx hb dX0_foresee_37 rfl (lv_at hl 1 rfl) ?_
        refine lv_iload hx hb dX0_foresee_38 (lv_at hl 4 rfl) ?_
        refine q_ci (q_runV (As := [.int v1, .int x_3]) (rest := [.int x_3, .ref (q_rf X a 10)]) E (hml.trans hl.1.symm) hI (c_X1_heldBy l X σ_4 (q_rf X a 1) v1 x_3 (q_tk (k' := 2) hI ha rfl (by decide))) kv_X0_109 (q_tk (k' := 2) hI ha rfl (by decide)) ⟨rfl, by decide⟩ (show vwCl[1]? = some (RX1, TX1, 7) from rfl) rfl ⟨Nat.le_of_ble_eq_true rfl, Nat.le_of_ble_eq_true rfl⟩ ⟨Nat.le_refl _, Nat.le_refl _⟩ rfl (Nat.le_of_ble_eq_true rfl) dX0_foresee_40) hI (by decide) (fun r_56 σ_57 H locs hpσ_57 hkσ_57 hI => ?_)
        obtain ⟨ahpσ_57, bhpσ_57⟩ := hpσ_57
        rw [ahpσ_57] at hI
        replace hF := q_letX hF bhpσ_57
        refine q_cv (q_runV (As := [.int x_3, .int r_56]) (rest := []) E (hml.trans hl.1.symm) hI (c_X5_set l X σ_4 (q_rf X a 10) x_3 r_56 (q_tk (k' := 5) hI ha rfl (by decide))) kv_X0_192 (q_tk (k' := 5) hI ha rfl (by decide)) ⟨rfl, by decide⟩ (show vwCl[4]? = some (RX5, TX5, 1) from rfl) rfl ⟨Nat.le_of_ble_eq_true rfl, Nat.le_of_ble_eq_true rfl⟩ ⟨Nat.le_refl _, Nat.le_refl _⟩ rfl (Nat.le_of_ble_eq_true rfl) dX0_foresee_43) hI (by decide) (fun σ_59 H locs hpσ_59 hkσ_59 hI => ?_)
        obtain ⟨ahpσ_59, bhpσ_59⟩ := hpσ_59
        have fr_σ_59 := fr_σ_4.call bhpσ_59 rfl rfl
        replace hF := q_letX hF ahpσ_59
        obtain ⟨z_60, ez_60⟩ : ∃ y : Int32, y = x_3 + 1 := ⟨_, rfl⟩
        replace hF := q_letX hF ez_60
        refine lv_iinc (v := z_60) (lv' := [(4, .int z_60), (0, .ref a), (1, .int v1), (2, .int v2), (3, .int r_1)]) hx hb dX0_foresee_46 hl (k := 4) rfl (by rw [ez_60]; rfl) (by decide) rfl (fun ls hl => ?_)
        have iz_60 : z_60.toInt = x_3.toInt + 1 := q_inc ez_60 (by omega)
        refine lv_goto (tgt := 15) hx hb dX0_foresee_49 (by decide) ?_
        exact ih15 z_60 σ_59 _ _ ls (by omega) (by omega) fr_σ_59 hF hI (lv_sub hl [1, 2, 3, 4, 0] rfl)
  exact L_15_5 ((2147483647 - (0 : Int32).toInt).toNat + 1) 0 σ _ _ ls (Nat.lt_succ_self _) (by decide) fr_σ hF hI (lv_sub hl [2, 3, 4, 1, 0] rfl)

set_option maxRecDepth 100000 in
set_option maxHeartbeats 4000000 in
theorem c_X0_sixteenthsLeft (l : Launch) (X : XW) (σ : ST) (a : Nat) (v1 : Int32) (v2 : Int32) (v3 : Int32) (ha : q_kd X a = 1) : Met l yX0_sixteenthsLeft (q_ws yX0_sixteenthsLeft cX0_sixteenthsLeft 5 (some .int)) (q_rm 1 21) (q_P X σ [.ref a, .int v1, .int v2, .int v3]) (q_Qi X 9 σ (fun (r : Int32) (σ' : ST) => σ' = σ ∧ r = F_X0_sixteenthsLeft X σ a v1 v2 v3)) 0 0 (q_reg X) := by
  refine q_met 9 (by first | exact rfl | decide +kernel) rfl (Nat.le_of_ble_eq_true rfl) (fun p e s m below meth c E hml hr hlk hI ls hl => ?_)
  have hx := E.1
  have hb := E.2.1
  have hl : lv_has ls 5 [(0, .ref a), (1, .int v1), (2, .int v2), (3, .int v3)] := hl
  obtain ⟨out, hout⟩ : ∃ o, o = F_X0_sixteenthsLeft X σ a v1 v2 v3 := ⟨_, rfl⟩
  have hF := hout.symm
  unfold F_X0_sixteenthsLeft at hF
  refine lv_aload_n hx hb dX0_sixteenthsLeft_0 rfl (lv_at hl 0 rfl) ?_
  refine gs_X0_21_1 E hI ha dX0_sixteenthsLeft_1 ?_
  refine gs_X0_150_2 E hI (q_tk (k' := 2) hI ha rfl (by decide)) dX0_sixteenthsLeft_4 ?_
  refine lv_aload_n hx hb dX0_sixteenthsLeft_7 rfl (lv_at hl 0 rfl) ?_
  refine gs_X0_43_1 E hI ha dX0_sixteenthsLeft_8 ?_
  refine lv_topi (fun f_1 ef_1 => ?_)
  replace hF := q_letX hF ef_1
  refine q_ci (q_runV (As := [.int f_1]) (rest := []) E (hml.trans hl.1.symm) hI (c_X5_get l X σ (q_rf X (q_rf X a 1) 2) f_1 (q_tk (k' := 5) hI (q_tk (k' := 2) hI ha rfl (by decide)) rfl (by decide))) kv_X0_113 (q_tk (k' := 5) hI (q_tk (k' := 2) hI ha rfl (by decide)) rfl (by decide)) ⟨rfl, by decide⟩ (show vwCl[4]? = some (RX5, TX5, 1) from rfl) rfl ⟨Nat.le_of_ble_eq_true rfl, Nat.le_of_ble_eq_true rfl⟩ ⟨Nat.le_refl _, Nat.le_refl _⟩ rfl (Nat.le_of_ble_eq_true rfl) dX0_sixteenthsLeft_11) hI (by decide) (fun r_2 σ_3 H locs hpσ_3 hkσ_3 hI => ?_)
  obtain ⟨ahpσ_3, bhpσ_3⟩ := hpσ_3
  rw [ahpσ_3] at hI
  replace hF := q_letX hF bhpσ_3
  refine lv_iload_n hx hb dX0_sixteenthsLeft_14 rfl (lv_at hl 1 rfl) ?_
  refine lv_isub hx hb dX0_sixteenthsLeft_15 ?_
  refine lv_topi (fun z_4 ez_4 => ?_)
  replace hF := q_letX hF ez_4
  refine lv_iload_n hx hb dX0_sixteenthsLeft_16 rfl (lv_at hl 2 rfl) ?_
  refine lv_isub hx hb dX0_sixteenthsLeft_17 ?_
  refine lv_topi (fun z_5 ez_5 => ?_)
  replace hF := q_letX hF ez_5
  refine lv_istore (lv' := [(4, .int z_5), (0, .ref a), (1, .int v1), (2, .int v2), (3, .int v3)]) hx hb dX0_sixteenthsLeft_18 hl (by decide) rfl (fun ls hl => ?_)
  refine lv_bipush (v := 16) hx hb dX0_sixteenthsLeft_20 (by decide) ?_
  refine lv_iload hx hb dX0_sixteenthsLeft_22 (lv_at hl 0 rfl) ?_
  refine lv_imul hx hb dX0_sixteenthsLeft_24 ?_
  refine lv_topi (fun z_6 ez_6 => ?_)
  replace hF := q_letX hF ez_6
  refine lv_iload_n hx hb dX0_sixteenthsLeft_25 rfl (lv_at hl 3 rfl) ?_
  refine q_if_le (A := v2.toInt) E rfl (tgt := 45) dX0_sixteenthsLeft_26 (by decide) (fun c_7 => ?_) (fun c_7 => ?_)
  · skip
    replace hF := q_ifn hF (Int.not_lt.mpr c_7)
    refine lv_iconst (v := 0) hx hb dX0_sixteenthsLeft_45 (by decide) ?_
    refine lv_iadd hx hb dX0_sixteenthsLeft_46 ?_
    refine lv_topi (fun z_8 ez_8 => ?_)
    replace hF := q_letX hF ez_8
    exact q_reti E hr hlk hI ⟨rfl, (hF.trans hout)⟩ dX0_sixteenthsLeft_47
  · skip
    replace hF := q_ifp hF c_7
    refine lv_iload_n hx hb dX0_sixteenthsLeft_29 rfl (lv_at hl 4 rfl) ?_
    refine lv_aload_n hx hb dX0_sixteenthsLeft_30 rfl (lv_at hl 1 rfl) ?_
    refine gs_X0_28_1 E hI ha dX0_sixteenthsLeft_31 ?_
    refine gs_X0_172_3 E hI (q_tk (k' := 3) hI ha rfl (by decide)) dX0_sixteenthsLeft_34 ?_
    refine lv_topi (fun f_9 ef_9 => ?_)
    replace hF := q_letX hF ef_9
    refine lv_iload_n hx hb dX0_sixteenthsLeft_37 rfl (lv_at hl 2 rfl) ?_
    refine lv_iadd hx hb dX0_sixteenthsLeft_38 ?_
    refine lv_topi (fun z_10 ez_10 => ?_)
    replace hF := q_letX hF ez_10
    refine lv_iload_n hx hb dX0_sixteenthsLeft_39 rfl (lv_at hl 3 rfl) ?_
    refine lv_iadd hx hb dX0_sixteenthsLeft_40 ?_
    refine lv_topi (fun z_11 ez_11 => ?_)
    replace hF := q_letX hF ez_11
    refine lv_imul hx hb dX0_sixteenthsLeft_41 ?_
    refine lv_topi (fun z_12 ez_12 => ?_)
    replace hF := q_letX hF ez_12
    refine lv_goto (tgt := 46) hx hb dX0_sixteenthsLeft_42 (by decide) ?_
    refine lv_iadd hx hb dX0_sixteenthsLeft_46 ?_
    refine lv_topi (fun z_13 ez_13 => ?_)
    replace hF := q_letX hF ez_13
    exact q_reti E hr hlk hI ⟨rfl, (hF.trans hout)⟩ dX0_sixteenthsLeft_47

set_option maxRecDepth 100000 in
set_option maxHeartbeats 4000000 in
theorem c_X0_lyingOf (l : Launch) (X : XW) (σ : ST) (a : Nat) (v1 : Int32) (ha : q_kd X a = 1) : Met l yX0_lyingOf (q_ws yX0_lyingOf cX0_lyingOf 4 (some .int)) (q_rm 2 43) (q_P X σ [.ref a, .int v1]) (q_Qi X 9 σ (fun (r : Int32) (σ' : ST) => σ' = σ ∧ r = F_X0_lyingOf X σ a v1)) 0 0 (q_reg X) := by
  refine q_met 9 (by first | exact rfl | decide +kernel) rfl (Nat.le_of_ble_eq_true rfl) (fun p e s m below meth c E hml hr hlk hI ls hl => ?_)
  have hx := E.1
  have hb := E.2.1
  have hl : lv_has ls 4 [(0, .ref a), (1, .int v1)] := hl
  obtain ⟨out, hout⟩ : ∃ o, o = F_X0_lyingOf X σ a v1 := ⟨_, rfl⟩
  have hF := hout.symm
  unfold F_X0_lyingOf at hF
  refine lv_iconst (v := 0) hx hb dX0_lyingOf_0 (by decide) ?_
  refine lv_istore_n (lv' := [(2, .int 0), (0, .ref a), (1, .int v1)]) hx hb dX0_lyingOf_1 rfl hl (by decide) rfl (fun ls hl => ?_)
  refine lv_iconst (v := 0) hx hb dX0_lyingOf_2 (by decide) ?_
  refine lv_istore_n (lv' := [(3, .int 0), (2, .int 0), (0, .ref a), (1, .int v1)]) hx hb dX0_lyingOf_3 rfl hl (by decide) rfl (fun ls hl => ?_)
  have L_4_3 : ∀ (k_3 : Nat) (x_1 : Int32) (x_2 : Int32) (H : Heap) (locs : List Loc) (ls : Array Slot), (2147483647 - x_2.toInt).toNat < k_3 → (0 ≤ x_2.toInt) → (F_X0_lyingOf_L4_1 X σ a v1 k_3 x_1 x_2 = out) → q_I X 9 σ s.heap locs σ H → lv_has ls 4 [(0, .ref a), (1, .int v1), (2, .int x_1), (3, .int x_2)] → W p l e (q_rm 2 43) s m ([.ref a, .int v1] : List Value).toArray below meth c H locs 0 0 (MQ below (q_Qi X 9 σ (fun (r : Int32) (σ' : ST) => σ' = σ ∧ r = F_X0_lyingOf X σ a v1)) ([.ref a, .int v1] : List Value).toArray s 0 0 (q_reg X)) (F0 m 4 ls []) := by
    clear hF
    intro k_3
    induction k_3 with
    | zero =>
      intro x_1 x_2 H locs ls hms
      exact absurd hms (Nat.not_lt_zero _)
    | succ k_3 ih4 =>
      intro x_1 x_2 H locs ls hm4 hge4 hF hI hl
      replace hF := (F_X0_lyingOf_L4_1_s).symm.trans hF
      unfold F_X0_lyingOf_B4_1 at hF
      refine lv_iload_n hx hb dX0_lyingOf_4 rfl (lv_at hl 3 rfl) ?_
      refine lv_aload_n hx hb dX0_lyingOf_5 rfl (lv_at hl 0 rfl) ?_
      refine gs_X0_12_1 E hI ha dX0_lyingOf_6 ?_
      refine gs_X0_183_6 E hI (q_tk (k' := 6) hI ha rfl (by decide)) dX0_lyingOf_9 ?_
      refine lv_topi (fun f_4 ef_4 => ?_)
      replace hF := q_letX hF ef_4
      have gc_5_x_2 := q_rng x_2
      have gc_5_f_4 := q_rng f_4
      refine q_icmp_ge (A := x_2.toInt) (B := f_4.toInt) E rfl rfl (tgt := 33) dX0_lyingOf_12 (by decide) (fun c_5 => ?_) (fun c_5 => ?_)
      · skip
        replace hF := q_ifn hF (Int.not_lt.mpr c_5)
        skip
        refine lv_iload_n hx hb dX0_lyingOf_33 rfl (lv_at hl 2 rfl) ?_
        exact q_reti E hr hlk hI ⟨rfl, (hF.trans hout)⟩ dX0_lyingOf_34
      · skip
        replace hF := q_ifp hF c_5
        refine lv_iload_n hx hb dX0_lyingOf_15 rfl (lv_at hl 2 rfl) ?_
        refine lv_aload_n hx hb dX0_lyingOf_16 rfl (lv_at hl 0 rfl) ?_
        refine gs_X0_21_1 E hI ha dX0_lyingOf_17 ?_
        refine lv_iload_n hx hb dX0_lyingOf_20 rfl (lv_at hl 3 rfl) ?_
        refine lv_iload_n hx hb dX0_lyingOf_21 rfl (lv_at hl 1 rfl) ?_
        refine q_ci (q_runV (As := [.int x_2, .int v1]) (rest := [.int x_1]) E (hml.trans hl.1.symm) hI (c_X1_laidBy l X σ (q_rf X a 1) x_2 v1 (q_tk (k' := 2) hI ha rfl (by decide))) kv_X0_186 (q_tk (k' := 2) hI ha rfl (by decide)) ⟨rfl, by decide⟩ (show vwCl[1]? = some (RX1, TX1, 7) from rfl) rfl ⟨Nat.le_of_ble_eq_true rfl, Nat.le_of_ble_eq_true rfl⟩ ⟨Nat.le_refl _, Nat.le_refl _⟩ rfl (Nat.le_of_ble_eq_true rfl) dX0_lyingOf_22) hI (by decide) (fun r_6 σ_7 H locs hpσ_7 hkσ_7 hI => ?_)
        obtain ⟨ahpσ_7, bhpσ_7⟩ := hpσ_7
        rw [ahpσ_7] at hI
        replace hF := q_letX hF bhpσ_7
        refine lv_iadd hx hb dX0_lyingOf_25 ?_
        refine lv_topi (fun z_8 ez_8 => ?_)
        replace hF := q_letX hF ez_8
        refine lv_istore_n (lv' := [(2, .int z_8), (0, .ref a), (1, .int v1), (3, .int x_2)]) hx hb dX0_lyingOf_26 rfl hl (by decide) rfl (fun ls hl => ?_)
        obtain ⟨z_9, ez_9⟩ : ∃ y : Int32, y = x_2 + 1 := ⟨_, rfl⟩
        replace hF := q_letX hF ez_9
        refine lv_iinc (v := z_9) (lv' := [(3, .int z_9), (2, .int z_8), (0, .ref a), (1, .int v1)]) hx hb dX0_lyingOf_27 hl (k := 3) rfl (by rw [ez_9]; rfl) (by decide) rfl (fun ls hl => ?_)
        have iz_9 : z_9.toInt = x_2.toInt + 1 := q_inc ez_9 (by first | (clear hm4 ahpσ_7 bhpσ_7; omega) | omega)
        refine lv_goto (tgt := 4) hx hb dX0_lyingOf_30 (by decide) ?_
        exact ih4 z_8 z_9 _ _ ls (by first | (clear ahpσ_7 bhpσ_7; omega) | omega) (by omega) hF hI (lv_sub hl [2, 3, 1, 0] rfl)
  exact L_4_3 ((2147483647 - (0 : Int32).toInt).toNat + 1) 0 0 _ _ ls (Nat.lt_succ_self _) (by decide) hF hI (lv_sub hl [2, 3, 1, 0] rfl)
end
