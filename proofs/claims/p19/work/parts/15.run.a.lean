/-! FROM 15.run.a.lean.txt -/
section
section QS
variable {p : Program} {l : Launch} {e : Env} {R : Room} {s : State} {m : MethodId} {args : Array Value} {below : List Frame} {meth : Method} {c : Code} {H : Heap} {locs : List Loc} {cells slots : Nat} {Q : State → Prop} {cc : ByteArray} {X : XW} {n : Nat} {σ0 σ : ST} {H0 : Heap} {pc : Nat} {ls : Array Slot} {rest : List Value} {a : Nat}
theorem gs_X7_70_8 (E : q_E p c cc s m args RX7 X) (hI : q_I X n σ0 H0 locs σ H) (ha : q_kd X a = 8) (hdg : decode cc pc = .ok (.getfield 70, 3)) (kk : W p l e R s m args below meth c H locs cells slots Q (F0 m (pc + 3) ls (.ref (q_rf X a 4) :: rest))) : W p l e R s m args below meth c H locs cells slots Q (F0 m pc ls (.ref a :: rest)) :=
  q_getf (ref := "CheatHeap$Script") E hI ha ⟨rfl, by decide⟩ (show vwCl[7]? = some (RX8, TX8, 8) from rfl) q_inX8 (f := 4) (by decide) (q_in_t1 (i := 199) (by first | rfl | decide +kernel) rfl) (Or.inl rfl) rfl hdg kk
theorem kv_X7_58 : q_okV RX7 58 RX5 yX5_get cX5_get 2 (some .int) 1 := ⟨(q_in_t6 (i := 145) (by first | rfl | decide +kernel) rfl), (q_in_t4 (i := 73) (by first | rfl | decide +kernel) rfl), (q_in_t4 (i := 74) (by first | rfl | decide +kernel) rfl), (q_in_t1 (i := 4) (by first | rfl | decide +kernel) rfl), (q_in_t4 (i := 75) (by first | rfl | decide +kernel) rfl), ⟨rfl, by decide, by decide, rfl⟩⟩
theorem gs_X7_55_8 (E : q_E p c cc s m args RX7 X) (hI : q_I X n σ0 H0 locs σ H) (ha : q_kd X a = 8) (hdg : decode cc pc = .ok (.getfield 55, 3)) (kk : W p l e R s m args below meth c H locs cells slots Q (F0 m (pc + 3) ls (.ref (q_rf X a 3) :: rest))) : W p l e R s m args below meth c H locs cells slots Q (F0 m pc ls (.ref a :: rest)) :=
  q_getf (ref := "CheatHeap$Script") E hI ha ⟨rfl, by decide⟩ (show vwCl[7]? = some (RX8, TX8, 8) from rfl) q_inX8 (f := 3) (by decide) (q_in_t1 (i := 196) (by first | rfl | decide +kernel) rfl) (Or.inl rfl) rfl hdg kk
theorem gs_X7_41_7 (E : q_E p c cc s m args RX7 X) (hI : q_I X n σ0 H0 locs σ H) (ha : q_kd X a = 7) (hdg : decode cc pc = .ok (.getfield 41, 3)) (kk : W p l e R s m args below meth c H locs cells slots Q (F0 m (pc + 3) ls (.ref (q_rf X a 7) :: rest))) : W p l e R s m args below meth c H locs cells slots Q (F0 m pc ls (.ref a :: rest)) :=
  q_getf (ref := "CheatHeap$Run") E hI ha ⟨rfl, by decide⟩ (show vwCl[6]? = some (RX7, TX7, 8) from rfl) q_inX7 (f := 7) (by decide) (q_in_t2 (i := 167) (by first | rfl | decide +kernel) rfl) (Or.inl rfl) rfl hdg kk
theorem kv_X7_73 : q_okV RX7 73 RX5 yX5_add cX5_add 3 none 2 := ⟨(q_in_t6 (i := 150) (by first | rfl | decide +kernel) rfl), (q_in_t4 (i := 113) (by first | rfl | decide +kernel) rfl), (q_in_t4 (i := 114) (by first | rfl | decide +kernel) rfl), (q_in_t1 (i := 4) (by first | rfl | decide +kernel) rfl), (q_in_t4 (i := 115) (by first | rfl | decide +kernel) rfl), ⟨rfl, by decide, by decide, rfl⟩⟩
theorem gs_X7_31_7 (E : q_E p c cc s m args RX7 X) (hI : q_I X n σ0 H0 locs σ H) (ha : q_kd X a = 7) (hdg : decode cc pc = .ok (.getfield 31, 3)) (kk : W p l e R s m args below meth c H locs cells slots Q (F0 m (pc + 3) ls (.int (σ.1 a 6) :: rest))) : W p l e R s m args below meth c H locs cells slots Q (F0 m pc ls (.ref a :: rest)) :=
  q_getf (ref := "CheatHeap$Run") E hI ha ⟨rfl, by decide⟩ (show vwCl[6]? = some (RX7, TX7, 8) from rfl) q_inX7 (f := 6) (by decide) (q_in_t2 (i := 166) (by first | rfl | decide +kernel) rfl) (Or.inl rfl) rfl hdg kk
theorem ps_X7_31_7 (E : q_E p c cc s m args RX7 X) (hI : q_I X n σ0 H0 locs σ H) (ha : q_kd X a = 7) {v : Int32} (hcl : n < 9) (hdg : decode cc pc = .ok (.putfield 31, 3)) (kk : ∀ (H1 : Heap) (locs1 : List Loc) (σ1 : ST), σ1 = q_si σ a 6 v → q_I X n σ0 H0 locs1 σ1 H1 → W p l e R s m args below meth c H1 locs1 cells slots Q (F0 m (pc + 3) ls rest)) : W p l e R s m args below meth c H locs cells slots Q (F0 m pc ls (.int v :: .ref a :: rest)) :=
  q_puti (ref := "CheatHeap$Run") E hI ha ⟨rfl, by decide⟩ (show vwCl[6]? = some (RX7, TX7, 8) from rfl) q_inX7 tyX7_ok nmX7 (f := 6) (by decide) (q_in_t2 (i := 166) (by first | rfl | decide +kernel) rfl) (Or.inl rfl) rfl rfl hcl hdg (q_inU rfl) (Or.inl rfl) (fun H1 l1 h => kk H1 l1 _ rfl h)
theorem gs_X7_129_1 (E : q_E p c cc s m args RX7 X) (hI : q_I X n σ0 H0 locs σ H) (ha : q_kd X a = 1) (hdg : decode cc pc = .ok (.getfield 129, 3)) (kk : W p l e R s m args below meth c H locs cells slots Q (F0 m (pc + 3) ls (.ref (q_rf X a 0) :: rest))) : W p l e R s m args below meth c H locs cells slots Q (F0 m pc ls (.ref a :: rest)) :=
  q_getf (ref := "CheatHeap$Game") E hI ha ⟨rfl, by decide⟩ (show vwCl[0]? = some (RX0, TX0, 15) from rfl) q_inX0 (f := 0) (by decide) (q_in_t1 (i := 230) (by first | rfl | decide +kernel) rfl) (Or.inl rfl) rfl hdg kk
theorem gs_X7_185_6 (E : q_E p c cc s m args RX7 X) (hI : q_I X n σ0 H0 locs σ H) (ha : q_kd X a = 6) (hdg : decode cc pc = .ok (.getfield 185, 3)) (kk : W p l e R s m args below meth c H locs cells slots Q (F0 m (pc + 3) ls (.int (σ.1 a 0) :: rest))) : W p l e R s m args below meth c H locs cells slots Q (F0 m pc ls (.ref a :: rest)) :=
  q_getf (ref := "CheatHeap$Rules") E hI ha ⟨rfl, by decide⟩ (show vwCl[5]? = some (RX6, TX6, 8) from rfl) q_inX6 (f := 0) (by decide) (q_in_t1 (i := 60) (by first | rfl | decide +kernel) rfl) (Or.inl rfl) rfl hdg kk
theorem gs_X7_77_1 (E : q_E p c cc s m args RX7 X) (hI : q_I X n σ0 H0 locs σ H) (ha : q_kd X a = 1) (hdg : decode cc pc = .ok (.getfield 77, 3)) (kk : W p l e R s m args below meth c H locs cells slots Q (F0 m (pc + 3) ls (.ref (q_rf X a 1) :: rest))) : W p l e R s m args below meth c H locs cells slots Q (F0 m pc ls (.ref a :: rest)) :=
  q_getf (ref := "CheatHeap$Game") E hI ha ⟨rfl, by decide⟩ (show vwCl[0]? = some (RX0, TX0, 15) from rfl) q_inX0 (f := 1) (by decide) (q_in_t1 (i := 233) (by first | rfl | decide +kernel) rfl) (Or.inl rfl) rfl hdg kk
theorem gs_X7_138_1 (E : q_E p c cc s m args RX7 X) (hI : q_I X n σ0 H0 locs σ H) (ha : q_kd X a = 1) (hdg : decode cc pc = .ok (.getfield 138, 3)) (kk : W p l e R s m args below meth c H locs cells slots Q (F0 m (pc + 3) ls (.int (σ.1 a 5) :: rest))) : W p l e R s m args below meth c H locs cells slots Q (F0 m pc ls (.ref a :: rest)) :=
  q_getf (ref := "CheatHeap$Game") E hI ha ⟨rfl, by decide⟩ (show vwCl[0]? = some (RX0, TX0, 15) from rfl) q_inX0 (f := 5) (by decide) (q_in_t2 (i := 6) (by first | rfl | decide +kernel) rfl) (Or.inl rfl) rfl hdg kk
theorem kv_X7_161 : q_okV RX7 161 RX1 yX1_heldBy cX1_heldBy 3 (some .int) 2 := ⟨(q_in_t6 (i := 164) (by first | rfl | decide +kernel) rfl), (q_in_t5 (i := 37) (by first | rfl | decide +kernel) rfl), (q_in_t5 (i := 38) (by first | rfl | decide +kernel) rfl), (q_in_t1 (i := 6) (by first | rfl | decide +kernel) rfl), (q_in_t5 (i := 39) (by first | rfl | decide +kernel) rfl), ⟨rfl, by decide, by decide, rfl⟩⟩
theorem gs_X7_158_1 (E : q_E p c cc s m args RX7 X) (hI : q_I X n σ0 H0 locs σ H) (ha : q_kd X a = 1) (hdg : decode cc pc = .ok (.getfield 158, 3)) (kk : W p l e R s m args below meth c H locs cells slots Q (F0 m (pc + 3) ls (.int (σ.1 a 4) :: rest))) : W p l e R s m args below meth c H locs cells slots Q (F0 m pc ls (.ref a :: rest)) :=
  q_getf (ref := "CheatHeap$Game") E hI ha ⟨rfl, by decide⟩ (show vwCl[0]? = some (RX0, TX0, 15) from rfl) q_inX0 (f := 4) (by decide) (q_in_t2 (i := 3) (by first | rfl | decide +kernel) rfl) (Or.inl rfl) rfl hdg kk
theorem gs_X7_165_6 (E : q_E p c cc s m args RX7 X) (hI : q_I X n σ0 H0 locs σ H) (ha : q_kd X a = 6) (hdg : decode cc pc = .ok (.getfield 165, 3)) (kk : W p l e R s m args below meth c H locs cells slots Q (F0 m (pc + 3) ls (.int (σ.1 a 3) :: rest))) : W p l e R s m args below meth c H locs cells slots Q (F0 m pc ls (.ref a :: rest)) :=
  q_getf (ref := "CheatHeap$Rules") E hI ha ⟨rfl, by decide⟩ (show vwCl[5]? = some (RX6, TX6, 8) from rfl) q_inX6 (f := 3) (by decide) (q_in_t1 (i := 69) (by first | rfl | decide +kernel) rfl) (Or.inl rfl) rfl hdg kk
theorem ks_X7_168 : q_okS RX7 168 yJ9_min_7cf53 cJ9_min_7cf53 2 (some .int) 2 := ⟨(q_in_t6 (i := 165) (by first | rfl | decide +kernel) rfl), (q_in_t3 (i := 43) (by first | rfl | decide +kernel) rfl), (q_in_t1 (i := 5) (by first | rfl | decide +kernel) rfl), (q_in_t3 (i := 44) (by first | rfl | decide +kernel) rfl), ⟨by decide, by decide, rfl⟩⟩
theorem kv_X7_173 : q_okV RX7 173 RX0 yX0_clearWanted cX0_clearWanted 1 none 0 := ⟨(q_in_t6 (i := 166) (by first | rfl | decide +kernel) rfl), (q_in_t5 (i := 75) (by first | rfl | decide +kernel) rfl), (q_in_t5 (i := 76) (by first | rfl | decide +kernel) rfl), (q_in_t1 (i := 2) (by first | rfl | decide +kernel) rfl), (q_in_t5 (i := 77) (by first | rfl | decide +kernel) rfl), ⟨rfl, by decide, by decide, rfl⟩⟩
theorem kv_X7_176 : q_okV RX7 176 RX0 yX0_want cX0_want 3 none 2 := ⟨(q_in_t6 (i := 167) (by first | rfl | decide +kernel) rfl), (q_in_t5 (i := 80) (by first | rfl | decide +kernel) rfl), (q_in_t5 (i := 81) (by first | rfl | decide +kernel) rfl), (q_in_t1 (i := 2) (by first | rfl | decide +kernel) rfl), (q_in_t5 (i := 82) (by first | rfl | decide +kernel) rfl), ⟨rfl, by decide, by decide, rfl⟩⟩
theorem ks_X7_182 : q_okS RX7 182 yX7_fullestOther cX7_fullestOther 5 (some .int) 1 := ⟨(q_in_t6 (i := 173) (by first | rfl | decide +kernel) rfl), (q_in_t6 (i := 174) (by first | rfl | decide +kernel) rfl), (q_in_t1 (i := 12) (by first | rfl | decide +kernel) rfl), (q_in_t6 (i := 175) (by first | rfl | decide +kernel) rfl), ⟨by decide, by decide, rfl⟩⟩
theorem kv_X7_179 : q_okV RX7 179 RX7 yX7_draw cX7_draw 1 (some .int) 0 := ⟨(q_in_t6 (i := 168) (by first | rfl | decide +kernel) rfl), (q_in_t6 (i := 170) (by first | rfl | decide +kernel) rfl), (q_in_p (i := 33) (by decide +kernel) rfl), (q_in_t1 (i := 12) (by first | rfl | decide +kernel) rfl), (q_in_t6 (i := 171) (by first | rfl | decide +kernel) rfl), ⟨rfl, by decide, by decide, rfl⟩⟩
theorem gs_X7_91_2 (E : q_E p c cc s m args RX7 X) (hI : q_I X n σ0 H0 locs σ H) (ha : q_kd X a = 2) (hdg : decode cc pc = .ok (.getfield 91, 3)) (kk : W p l e R s m args below meth c H locs cells slots Q (F0 m (pc + 3) ls (.ref (q_rf X a 3) :: rest))) : W p l e R s m args below meth c H locs cells slots Q (F0 m pc ls (.ref a :: rest)) :=
  q_getf (ref := "CheatHeap$Hands") E hI ha ⟨rfl, by decide⟩ (show vwCl[1]? = some (RX1, TX1, 7) from rfl) q_inX1 (f := 3) (by decide) (q_in_t1 (i := 116) (by first | rfl | decide +kernel) rfl) (Or.inl rfl) rfl hdg kk
theorem gs_X7_102_2 (E : q_E p c cc s m args RX7 X) (hI : q_I X n σ0 H0 locs σ H) (ha : q_kd X a = 2) (hdg : decode cc pc = .ok (.getfield 102, 3)) (kk : W p l e R s m args below meth c H locs cells slots Q (F0 m (pc + 3) ls (.ref (q_rf X a 2) :: rest))) : W p l e R s m args below meth c H locs cells slots Q (F0 m pc ls (.ref a :: rest)) :=
  q_getf (ref := "CheatHeap$Hands") E hI ha ⟨rfl, by decide⟩ (show vwCl[1]? = some (RX1, TX1, 7) from rfl) q_inX1 (f := 2) (by decide) (q_in_t1 (i := 112) (by first | rfl | decide +kernel) rfl) (Or.inl rfl) rfl hdg kk
theorem gs_X7_133_6 (E : q_E p c cc s m args RX7 X) (hI : q_I X n σ0 H0 locs σ H) (ha : q_kd X a = 6) (hdg : decode cc pc = .ok (.getfield 133, 3)) (kk : W p l e R s m args below meth c H locs cells slots Q (F0 m (pc + 3) ls (.int (σ.1 a 4) :: rest))) : W p l e R s m args below meth c H locs cells slots Q (F0 m pc ls (.ref a :: rest)) :=
  q_getf (ref := "CheatHeap$Rules") E hI ha ⟨rfl, by decide⟩ (show vwCl[5]? = some (RX6, TX6, 8) from rfl) q_inX6 (f := 4) (by decide) (q_in_t1 (i := 74) (by first | rfl | decide +kernel) rfl) (Or.inl rfl) rfl hdg kk
theorem kv_X7_188 : q_okV RX7 188 RX6 yX6_playerAfter cX6_playerAfter 3 (some .int) 2 := ⟨(q_in_t6 (i := 181) (by first | rfl | decide +kernel) rfl), (q_in_t5 (i := 129) (by first | rfl | decide +kernel) rfl), (q_in_t5 (i := 130) (by first | rfl | decide +kernel) rfl), (q_in_t1 (i := 3) (by first | rfl | decide +kernel) rfl), (q_in_t5 (i := 131) (by first | rfl | decide +kernel) rfl), ⟨rfl, by decide, by decide, rfl⟩⟩
theorem kv_X7_191 : q_okV RX7 191 RX0 yX0_isImpossibleFor cX0_isImpossibleFor 2 (some .boolean) 1 := ⟨(q_in_t6 (i := 182) (by first | rfl | decide +kernel) rfl), (q_in_t5 (i := 196) (by first | rfl | decide +kernel) rfl), (q_in_t5 (i := 197) (by first | rfl | decide +kernel) rfl), (q_in_t1 (i := 2) (by first | rfl | decide +kernel) rfl), (q_in_t5 (i := 198) (by first | rfl | decide +kernel) rfl), ⟨rfl, by decide, by decide, rfl⟩⟩
theorem gs_X7_99_2 (E : q_E p c cc s m args RX7 X) (hI : q_I X n σ0 H0 locs σ H) (ha : q_kd X a = 2) (hdg : decode cc pc = .ok (.getfield 99, 3)) (kk : W p l e R s m args below meth c H locs cells slots Q (F0 m (pc + 3) ls (.ref (q_rf X a 4) :: rest))) : W p l e R s m args below meth c H locs cells slots Q (F0 m pc ls (.ref a :: rest)) :=
  q_getf (ref := "CheatHeap$Hands") E hI ha ⟨rfl, by decide⟩ (show vwCl[1]? = some (RX1, TX1, 7) from rfl) q_inX1 (f := 4) (by decide) (q_in_t1 (i := 120) (by first | rfl | decide +kernel) rfl) (Or.inl rfl) rfl hdg kk
theorem gs_X7_123_1 (E : q_E p c cc s m args RX7 X) (hI : q_I X n σ0 H0 locs σ H) (ha : q_kd X a = 1) (hdg : decode cc pc = .ok (.getfield 123, 3)) (kk : W p l e R s m args below meth c H locs cells slots Q (F0 m (pc + 3) ls (.int (σ.1 a 7) :: rest))) : W p l e R s m args below meth c H locs cells slots Q (F0 m pc ls (.ref a :: rest)) :=
  q_getf (ref := "CheatHeap$Game") E hI ha ⟨rfl, by decide⟩ (show vwCl[0]? = some (RX0, TX0, 15) from rfl) q_inX0 (f := 7) (by decide) (q_in_t2 (i := 12) (by first | rfl | decide +kernel) rfl) (Or.inl rfl) rfl hdg kk
theorem gs_X7_120_1 (E : q_E p c cc s m args RX7 X) (hI : q_I X n σ0 H0 locs σ H) (ha : q_kd X a = 1) (hdg : decode cc pc = .ok (.getfield 120, 3)) (kk : W p l e R s m args below meth c H locs cells slots Q (F0 m (pc + 3) ls (.int (σ.1 a 6) :: rest))) : W p l e R s m args below meth c H locs cells slots Q (F0 m pc ls (.ref a :: rest)) :=
  q_getf (ref := "CheatHeap$Game") E hI ha ⟨rfl, by decide⟩ (show vwCl[0]? = some (RX0, TX0, 15) from rfl) q_inX0 (f := 6) (by decide) (q_in_t2 (i := 9) (by first | rfl | decide +kernel) rfl) (Or.inl rfl) rfl hdg kk
theorem gs_X7_15_7 (E : q_E p c cc s m args RX7 X) (hI : q_I X n σ0 H0 locs σ H) (ha : q_kd X a = 7) (hdg : decode cc pc = .ok (.getfield 15, 3)) (kk : W p l e R s m args below meth c H locs cells slots Q (F0 m (pc + 3) ls (.int (σ.1 a 1) :: rest))) : W p l e R s m args below meth c H locs cells slots Q (F0 m pc ls (.ref a :: rest)) :=
  q_getf (ref := "CheatHeap$Run") E hI ha ⟨rfl, by decide⟩ (show vwCl[6]? = some (RX7, TX7, 8) from rfl) q_inX7 (f := 1) (by decide) (q_in_t2 (i := 156) (by first | rfl | decide +kernel) rfl) (Or.inl rfl) rfl hdg kk
theorem ps_X7_15_7 (E : q_E p c cc s m args RX7 X) (hI : q_I X n σ0 H0 locs σ H) (ha : q_kd X a = 7) {v : Int32} (hcl : n < 9) (hdg : decode cc pc = .ok (.putfield 15, 3)) (kk : ∀ (H1 : Heap) (locs1 : List Loc) (σ1 : ST), σ1 = q_si σ a 1 v → q_I X n σ0 H0 locs1 σ1 H1 → W p l e R s m args below meth c H1 locs1 cells slots Q (F0 m (pc + 3) ls rest)) : W p l e R s m args below meth c H locs cells slots Q (F0 m pc ls (.int v :: .ref a :: rest)) :=
  q_puti (ref := "CheatHeap$Run") E hI ha ⟨rfl, by decide⟩ (show vwCl[6]? = some (RX7, TX7, 8) from rfl) q_inX7 tyX7_ok nmX7 (f := 1) (by decide) (q_in_t2 (i := 156) (by first | rfl | decide +kernel) rfl) (Or.inl rfl) rfl rfl hcl hdg (q_inU rfl) (Or.inl rfl) (fun H1 l1 h => kk H1 l1 _ rfl h)
theorem kv_X7_141 : q_okV RX7 141 RX7 yX7_choose cX7_choose 5 none 1 := ⟨(q_in_t6 (i := 160) (by first | rfl | decide +kernel) rfl), (q_in_t6 (i := 162) (by first | rfl | decide +kernel) rfl), (q_in_p (i := 32) (by decide +kernel) rfl), (q_in_t1 (i := 12) (by first | rfl | decide +kernel) rfl), (q_in_t6 (i := 163) (by first | rfl | decide +kernel) rfl), ⟨rfl, by decide, by decide, rfl⟩⟩
theorem kv_X7_144 : q_okV RX7 144 RX0 yX0_layWanted cX0_layWanted 2 none 0 := ⟨(q_in_t6 (i := 176) (by first | rfl | decide +kernel) rfl), (q_in_t5 (i := 91) (by first | rfl | decide +kernel) rfl), (q_in_t5 (i := 92) (by first | rfl | decide +kernel) rfl), (q_in_t1 (i := 2) (by first | rfl | decide +kernel) rfl), (q_in_t5 (i := 93) (by first | rfl | decide +kernel) rfl), ⟨rfl, by decide, by decide, rfl⟩⟩
theorem gs_X7_18_7 (E : q_E p c cc s m args RX7 X) (hI : q_I X n σ0 H0 locs σ H) (ha : q_kd X a = 7) (hdg : decode cc pc = .ok (.getfield 18, 3)) (kk : W p l e R s m args below meth c H locs cells slots Q (F0 m (pc + 3) ls (.int (σ.1 a 2) :: rest))) : W p l e R s m args below meth c H locs cells slots Q (F0 m pc ls (.ref a :: rest)) :=
  q_getf (ref := "CheatHeap$Run") E hI ha ⟨rfl, by decide⟩ (show vwCl[6]? = some (RX7, TX7, 8) from rfl) q_inX7 (f := 2) (by decide) (q_in_t2 (i := 158) (by first | rfl | decide +kernel) rfl) (Or.inl rfl) rfl hdg kk
theorem ps_X7_18_7 (E : q_E p c cc s m args RX7 X) (hI : q_I X n σ0 H0 locs σ H) (ha : q_kd X a = 7) {v : Int32} (hcl : n < 9) (hdg : decode cc pc = .ok (.putfield 18, 3)) (kk : ∀ (H1 : Heap) (locs1 : List Loc) (σ1 : ST), σ1 = q_si σ a 2 v → q_I X n σ0 H0 locs1 σ1 H1 → W p l e R s m args below meth c H1 locs1 cells slots Q (F0 m (pc + 3) ls rest)) : W p l e R s m args below meth c H locs cells slots Q (F0 m pc ls (.int v :: .ref a :: rest)) :=
  q_puti (ref := "CheatHeap$Run") E hI ha ⟨rfl, by decide⟩ (show vwCl[6]? = some (RX7, TX7, 8) from rfl) q_inX7 tyX7_ok nmX7 (f := 2) (by decide) (q_in_t2 (i := 158) (by first | rfl | decide +kernel) rfl) (Or.inl rfl) rfl rfl hcl hdg (q_inU rfl) (Or.inl rfl) (fun H1 l1 h => kk H1 l1 _ rfl h)
theorem kv_X7_147 : q_okV RX7 147 RX7 yX7_firstDoubter cX7_firstDoubter 4 (some .int) 1 := ⟨(q_in_t6 (i := 177) (by first | rfl | decide +kernel) rfl), (q_in_t6 (i := 179) (by first | rfl | decide +kernel) rfl), (q_in_p (i := 34) (by decide +kernel) rfl), (q_in_t1 (i := 12) (by first | rfl | decide +kernel) rfl), (q_in_t6 (i := 180) (by first | rfl | decide +kernel) rfl), ⟨rfl, by decide, by decide, rfl⟩⟩
theorem gs_X7_21_7 (E : q_E p c cc s m args RX7 X) (hI : q_I X n σ0 H0 locs σ H) (ha : q_kd X a = 7) (hdg : decode cc pc = .ok (.getfield 21, 3)) (kk : W p l e R s m args below meth c H locs cells slots Q (F0 m (pc + 3) ls (.int (σ.1 a 3) :: rest))) : W p l e R s m args below meth c H locs cells slots Q (F0 m pc ls (.ref a :: rest)) :=
  q_getf (ref := "CheatHeap$Run") E hI ha ⟨rfl, by decide⟩ (show vwCl[6]? = some (RX7, TX7, 8) from rfl) q_inX7 (f := 3) (by decide) (q_in_t2 (i := 160) (by first | rfl | decide +kernel) rfl) (Or.inl rfl) rfl hdg kk
theorem ps_X7_21_7 (E : q_E p c cc s m args RX7 X) (hI : q_I X n σ0 H0 locs σ H) (ha : q_kd X a = 7) {v : Int32} (hcl : n < 9) (hdg : decode cc pc = .ok (.putfield 21, 3)) (kk : ∀ (H1 : Heap) (locs1 : List Loc) (σ1 : ST), σ1 = q_si σ a 3 v → q_I X n σ0 H0 locs1 σ1 H1 → W p l e R s m args below meth c H1 locs1 cells slots Q (F0 m (pc + 3) ls rest)) : W p l e R s m args below meth c H locs cells slots Q (F0 m pc ls (.int v :: .ref a :: rest)) :=
  q_puti (ref := "CheatHeap$Run") E hI ha ⟨rfl, by decide⟩ (show vwCl[6]? = some (RX7, TX7, 8) from rfl) q_inX7 tyX7_ok nmX7 (f := 3) (by decide) (q_in_t2 (i := 160) (by first | rfl | decide +kernel) rfl) (Or.inl rfl) rfl rfl hcl hdg (q_inU rfl) (Or.inl rfl) (fun H1 l1 h => kk H1 l1 _ rfl h)
theorem gs_X7_109_1 (E : q_E p c cc s m args RX7 X) (hI : q_I X n σ0 H0 locs σ H) (ha : q_kd X a = 1) (hdg : decode cc pc = .ok (.getfield 109, 3)) (kk : W p l e R s m args below meth c H locs cells slots Q (F0 m (pc + 3) ls (.ref (q_rf X a 2) :: rest))) : W p l e R s m args below meth c H locs cells slots Q (F0 m pc ls (.ref a :: rest)) :=
  q_getf (ref := "CheatHeap$Game") E hI ha ⟨rfl, by decide⟩ (show vwCl[0]? = some (RX0, TX0, 15) from rfl) q_inX0 (f := 2) (by decide) (q_in_t1 (i := 237) (by first | rfl | decide +kernel) rfl) (Or.inl rfl) rfl hdg kk
theorem kv_X7_151 : q_okV RX7 151 RX2 yX2_topTruth cX2_topTruth 1 (some .int) 0 := ⟨(q_in_t6 (i := 183) (by first | rfl | decide +kernel) rfl), (q_in_t5 (i := 145) (by first | rfl | decide +kernel) rfl), (q_in_t5 (i := 146) (by first | rfl | decide +kernel) rfl), (q_in_t1 (i := 7) (by first | rfl | decide +kernel) rfl), (q_in_t5 (i := 147) (by first | rfl | decide +kernel) rfl), ⟨rfl, by decide, by decide, rfl⟩⟩
theorem kv_X7_155 : q_okV RX7 155 RX0 yX0_challenge cX0_challenge 5 (some .int) 1 := ⟨(q_in_t6 (i := 184) (by first | rfl | decide +kernel) rfl), (q_in_t5 (i := 141) (by first | rfl | decide +kernel) rfl), (q_in_t5 (i := 142) (by first | rfl | decide +kernel) rfl), (q_in_t1 (i := 2) (by first | rfl | decide +kernel) rfl), (q_in_t5 (i := 143) (by first | rfl | decide +kernel) rfl), ⟨rfl, by decide, by decide, rfl⟩⟩
theorem gs_X7_24_7 (E : q_E p c cc s m args RX7 X) (hI : q_I X n σ0 H0 locs σ H) (ha : q_kd X a = 7) (hdg : decode cc pc = .ok (.getfield 24, 3)) (kk : W p l e R s m args below meth c H locs cells slots Q (F0 m (pc + 3) ls (.int (σ.1 a 4) :: rest))) : W p l e R s m args below meth c H locs cells slots Q (F0 m pc ls (.ref a :: rest)) :=
  q_getf (ref := "CheatHeap$Run") E hI ha ⟨rfl, by decide⟩ (show vwCl[6]? = some (RX7, TX7, 8) from rfl) q_inX7 (f := 4) (by decide) (q_in_t2 (i := 162) (by first | rfl | decide +kernel) rfl) (Or.inl rfl) rfl hdg kk
theorem ps_X7_24_7 (E : q_E p c cc s m args RX7 X) (hI : q_I X n σ0 H0 locs σ H) (ha : q_kd X a = 7) {v : Int32} (hcl : n < 9) (hdg : decode cc pc = .ok (.putfield 24, 3)) (kk : ∀ (H1 : Heap) (locs1 : List Loc) (σ1 : ST), σ1 = q_si σ a 4 v → q_I X n σ0 H0 locs1 σ1 H1 → W p l e R s m args below meth c H1 locs1 cells slots Q (F0 m (pc + 3) ls rest)) : W p l e R s m args below meth c H locs cells slots Q (F0 m pc ls (.int v :: .ref a :: rest)) :=
  q_puti (ref := "CheatHeap$Run") E hI ha ⟨rfl, by decide⟩ (show vwCl[6]? = some (RX7, TX7, 8) from rfl) q_inX7 tyX7_ok nmX7 (f := 4) (by decide) (q_in_t2 (i := 162) (by first | rfl | decide +kernel) rfl) (Or.inl rfl) rfl rfl hcl hdg (q_inU rfl) (Or.inl rfl) (fun H1 l1 h => kk H1 l1 _ rfl h)
theorem kv_X7_126 : q_okV RX7 126 RX0 yX0_letLie cX0_letLie 1 none 0 := ⟨(q_in_t6 (i := 159) (by first | rfl | decide +kernel) rfl), (q_in_t5 (i := 114) (by first | rfl | decide +kernel) rfl), (q_in_t5 (i := 115) (by first | rfl | decide +kernel) rfl), (q_in_t1 (i := 2) (by first | rfl | decide +kernel) rfl), (q_in_t5 (i := 116) (by first | rfl | decide +kernel) rfl), ⟨rfl, by decide, by decide, rfl⟩⟩
theorem gs_X7_45_1 (E : q_E p c cc s m args RX7 X) (hI : q_I X n σ0 H0 locs σ H) (ha : q_kd X a = 1) (hdg : decode cc pc = .ok (.getfield 45, 3)) (kk : W p l e R s m args below meth c H locs cells slots Q (F0 m (pc + 3) ls (.ref (q_rf X a 3) :: rest))) : W p l e R s m args below meth c H locs cells slots Q (F0 m pc ls (.ref a :: rest)) :=
  q_getf (ref := "CheatHeap$Game") E hI ha ⟨rfl, by decide⟩ (show vwCl[0]? = some (RX0, TX0, 15) from rfl) q_inX0 (f := 3) (by decide) (q_in_t2 (i := 0) (by first | rfl | decide +kernel) rfl) (Or.inl rfl) rfl hdg kk
theorem gs_X7_81_8 (E : q_E p c cc s m args RX7 X) (hI : q_I X n σ0 H0 locs σ H) (ha : q_kd X a = 8) (hdg : decode cc pc = .ok (.getfield 81, 3)) (kk : W p l e R s m args below meth c H locs cells slots Q (F0 m (pc + 3) ls (.ref (q_rf X a 5) :: rest))) : W p l e R s m args below meth c H locs cells slots Q (F0 m pc ls (.ref a :: rest)) :=
  q_getf (ref := "CheatHeap$Script") E hI ha ⟨rfl, by decide⟩ (show vwCl[7]? = some (RX8, TX8, 8) from rfl) q_inX8 (f := 5) (by decide) (q_in_t1 (i := 202) (by first | rfl | decide +kernel) rfl) (Or.inl rfl) rfl hdg kk
theorem gs_X7_84_8 (E : q_E p c cc s m args RX7 X) (hI : q_I X n σ0 H0 locs σ H) (ha : q_kd X a = 8) (hdg : decode cc pc = .ok (.getfield 84, 3)) (kk : W p l e R s m args below meth c H locs cells slots Q (F0 m (pc + 3) ls (.ref (q_rf X a 7) :: rest))) : W p l e R s m args below meth c H locs cells slots Q (F0 m pc ls (.ref a :: rest)) :=
  q_getf (ref := "CheatHeap$Script") E hI ha ⟨rfl, by decide⟩ (show vwCl[7]? = some (RX8, TX8, 8) from rfl) q_inX8 (f := 7) (by decide) (q_in_t1 (i := 207) (by first | rfl | decide +kernel) rfl) (Or.inl rfl) rfl hdg kk
theorem kv_X7_87 : q_okV RX7 87 RX7 yX7_takeTurn cX7_takeTurn 3 none 1 := ⟨(q_in_t6 (i := 155) (by first | rfl | decide +kernel) rfl), (q_in_t6 (i := 157) (by first | rfl | decide +kernel) rfl), (q_in_p (i := 31) (by decide +kernel) rfl), (q_in_t1 (i := 12) (by first | rfl | decide +kernel) rfl), (q_in_t6 (i := 158) (by first | rfl | decide +kernel) rfl), ⟨rfl, by decide, by decide, rfl⟩⟩
theorem kv_X7_96 : q_okV RX7 96 RX5 yX5_set cX5_set 3 none 2 := ⟨(q_in_t6 (i := 185) (by first | rfl | decide +kernel) rfl), (q_in_t4 (i := 83) (by first | rfl | decide +kernel) rfl), (q_in_t4 (i := 84) (by first | rfl | decide +kernel) rfl), (q_in_t1 (i := 4) (by first | rfl | decide +kernel) rfl), (q_in_t4 (i := 85) (by first | rfl | decide +kernel) rfl), ⟨rfl, by decide, by decide, rfl⟩⟩
theorem gs_X7_52_8 (E : q_E p c cc s m args RX7 X) (hI : q_I X n σ0 H0 locs σ H) (ha : q_kd X a = 8) (hdg : decode cc pc = .ok (.getfield 52, 3)) (kk : W p l e R s m args below meth c H locs cells slots Q (F0 m (pc + 3) ls (.int (σ.1 a 2) :: rest))) : W p l e R s m args below meth c H locs cells slots Q (F0 m pc ls (.ref a :: rest)) :=
  q_getf (ref := "CheatHeap$Script") E hI ha ⟨rfl, by decide⟩ (show vwCl[7]? = some (RX8, TX8, 8) from rfl) q_inX8 (f := 2) (by decide) (q_in_t1 (i := 194) (by first | rfl | decide +kernel) rfl) (Or.inl rfl) rfl hdg kk
theorem kv_X7_105 : q_okV RX7 105 RX8 yX8_meets cX8_meets 5 (some .boolean) 2 := ⟨(q_in_t6 (i := 186) (by first | rfl | decide +kernel) rfl), (q_in_t6 (i := 187) (by first | rfl | decide +kernel) rfl), (q_in_t6 (i := 188) (by first | rfl | decide +kernel) rfl), (q_in_t1 (i := 8) (by first | rfl | decide +kernel) rfl), (q_in_t6 (i := 189) (by first | rfl | decide +kernel) rfl), ⟨rfl, by decide, by decide, rfl⟩⟩
theorem gs_X7_113_3 (E : q_E p c cc s m args RX7 X) (hI : q_I X n σ0 H0 locs σ H) (ha : q_kd X a = 3) (hdg : decode cc pc = .ok (.getfield 113, 3)) (kk : W p l e R s m args below meth c H locs cells slots Q (F0 m (pc + 3) ls (.int (σ.1 a 1) :: rest))) : W p l e R s m args below meth c H locs cells slots Q (F0 m pc ls (.ref a :: rest)) :=
  q_getf (ref := "CheatHeap$Pile") E hI ha ⟨rfl, by decide⟩ (show vwCl[2]? = some (RX2, TX2, 6) from rfl) q_inX2 (f := 1) (by decide) (q_in_t1 (i := 156) (by first | rfl | decide +kernel) rfl) (Or.inl rfl) rfl hdg kk
theorem gs_X7_117_2 (E : q_E p c cc s m args RX7 X) (hI : q_I X n σ0 H0 locs σ H) (ha : q_kd X a = 2) (hdg : decode cc pc = .ok (.getfield 117, 3)) (kk : W p l e R s m args below meth c H locs cells slots Q (F0 m (pc + 3) ls (.ref (q_rf X a 5) :: rest))) : W p l e R s m args below meth c H locs cells slots Q (F0 m pc ls (.ref a :: rest)) :=
  q_getf (ref := "CheatHeap$Hands") E hI ha ⟨rfl, by decide⟩ (show vwCl[1]? = some (RX1, TX1, 7) from rfl) q_inX1 (f := 5) (by decide) (q_in_t1 (i := 124) (by first | rfl | decide +kernel) rfl) (Or.inl rfl) rfl hdg kk
theorem ps_X7_9_7 (E : q_E p c cc s m args RX7 X) (hI : q_I X n σ0 H0 locs σ H) (ha : q_kd X a = 7) {v : Int32} (hcl : n < 9) (hdg : decode cc pc = .ok (.putfield 9, 3)) (kk : ∀ (H1 : Heap) (locs1 : List Loc) (σ1 : ST), σ1 = q_si σ a 0 v → q_I X n σ0 H0 locs1 σ1 H1 → W p l e R s m args below meth c H1 locs1 cells slots Q (F0 m (pc + 3) ls rest)) : W p l e R s m args below meth c H locs cells slots Q (F0 m pc ls (.int v :: .ref a :: rest)) :=
  q_puti (ref := "CheatHeap$Run") E hI ha ⟨rfl, by decide⟩ (show vwCl[6]? = some (RX7, TX7, 8) from rfl) q_inX7 tyX7_ok nmX7 (f := 0) (by decide) (q_in_t2 (i := 154) (by first | rfl | decide +kernel) rfl) (Or.inl rfl) rfl rfl hcl hdg (q_inU rfl) (Or.inl rfl) (fun H1 l1 h => kk H1 l1 _ rfl h)
theorem ps_X7_27_7 (E : q_E p c cc s m args RX7 X) (hI : q_I X n σ0 H0 locs σ H) (ha : q_kd X a = 7) {v : Int32} (hcl : n < 9) (h1 : 0 ≤ v.toInt) (h2 : v.toInt ≤ 1) (hdg : decode cc pc = .ok (.putfield 27, 3)) (kk : ∀ (H1 : Heap) (locs1 : List Loc) (σ1 : ST), σ1 = q_si σ a 5 v → q_I X n σ0 H0 locs1 σ1 H1 → W p l e R s m args below meth c H1 locs1 cells slots Q (F0 m (pc + 3) ls rest)) : W p l e R s m args below meth c H locs cells slots Q (F0 m pc ls (.int v :: .ref a :: rest)) :=
  q_puti (ref := "CheatHeap$Run") E hI ha ⟨rfl, by decide⟩ (show vwCl[6]? = some (RX7, TX7, 8) from rfl) q_inX7 tyX7_ok nmX7 (f := 5) (by decide) (q_in_t2 (i := 164) (by first | rfl | decide +kernel) rfl) (Or.inl rfl) rfl rfl hcl hdg (q_inB rfl h1 h2) (Or.inr ⟨rfl, h1, h2⟩) (fun H1 l1 h => kk H1 l1 _ rfl h)
theorem gs_X7_27_7 (E : q_E p c cc s m args RX7 X) (hI : q_I X n σ0 H0 locs σ H) (ha : q_kd X a = 7) (hdg : decode cc pc = .ok (.getfield 27, 3)) (kk : W p l e R s m args below meth c H locs cells slots Q (F0 m (pc + 3) ls (.int (σ.1 a 5) :: rest))) : W p l e R s m args below meth c H locs cells slots Q (F0 m pc ls (.ref a :: rest)) :=
  q_getf (ref := "CheatHeap$Run") E hI ha ⟨rfl, by decide⟩ (show vwCl[6]? = some (RX7, TX7, 8) from rfl) q_inX7 (f := 5) (by decide) (q_in_t2 (i := 164) (by first | rfl | decide +kernel) rfl) (Or.inl rfl) rfl hdg kk
theorem gs_X7_9_7 (E : q_E p c cc s m args RX7 X) (hI : q_I X n σ0 H0 locs σ H) (ha : q_kd X a = 7) (hdg : decode cc pc = .ok (.getfield 9, 3)) (kk : W p l e R s m args below meth c H locs cells slots Q (F0 m (pc + 3) ls (.int (σ.1 a 0) :: rest))) : W p l e R s m args below meth c H locs cells slots Q (F0 m pc ls (.ref a :: rest)) :=
  q_getf (ref := "CheatHeap$Run") E hI ha ⟨rfl, by decide⟩ (show vwCl[6]? = some (RX7, TX7, 8) from rfl) q_inX7 (f := 0) (by decide) (q_in_t2 (i := 154) (by first | rfl | decide +kernel) rfl) (Or.inl rfl) rfl hdg kk
theorem kv_X7_66 : q_okV RX7 66 RX7 yX7_behindStep cX7_behindStep 8 (some .int) 2 := ⟨(q_in_t6 (i := 151) (by first | rfl | decide +kernel) rfl), (q_in_t6 (i := 153) (by first | rfl | decide +kernel) rfl), (q_in_p (i := 30) (by decide +kernel) rfl), (q_in_t1 (i := 12) (by first | rfl | decide +kernel) rfl), (q_in_t6 (i := 154) (by first | rfl | decide +kernel) rfl), ⟨rfl, by decide, by decide, rfl⟩⟩
theorem kv_X7_62 : q_okV RX7 62 RX7 yX7_behindEnd cX7_behindEnd 4 (some .int) 2 := ⟨(q_in_t6 (i := 146) (by first | rfl | decide +kernel) rfl), (q_in_t6 (i := 148) (by first | rfl | decide +kernel) rfl), (q_in_p (i := 29) (by decide +kernel) rfl), (q_in_t1 (i := 12) (by first | rfl | decide +kernel) rfl), (q_in_t6 (i := 149) (by first | rfl | decide +kernel) rfl), ⟨rfl, by decide, by decide, rfl⟩⟩
end QS
end
/-! FROM 15.run.b00.lean.txt -/
section
set_option maxRecDepth 100000 in
set_option maxHeartbeats 4000000 in
theorem c_X7_behindEnd (l : Launch) (X : XW) (σ : ST) (a : Nat) (r1 : Nat) (v2 : Int32) (ha : q_kd X a = 7) (hr1 : q_kd X r1 = 8) : Met l yX7_behindEnd (q_ws yX7_behindEnd cX7_behindEnd 4 (some .int)) (q_rm 1 22) (q_P X σ [.ref a, .ref r1, .int v2]) (q_Qi X 8 σ (fun (r : Int32) (σ' : ST) => (r, σ') = F_X7_behindEnd X σ a r1 v2 ∧ q_ow [(20, 99)] [] X σ σ')) 0 0 (q_reg X) := by
  refine q_met 8 (by first | exact rfl | decide +kernel) rfl (Nat.le_of_ble_eq_true rfl) (fun p e s m below meth c E hml hr hlk hI ls hl => ?_)
  have hx := E.1
  have hb := E.2.1
  have hl : lv_has ls 4 [(0, .ref a), (1, .ref r1), (2, .int v2)] := hl
  have fr_σ : q_ow [(20, 99)] [] X σ σ := q_ow.rf
  obtain ⟨out, hout⟩ : ∃ o, o = F_X7_behindEnd X σ a r1 v2 := ⟨_, rfl⟩
  have hF := hout.symm
  unfold F_X7_behindEnd at hF
  refine lv_aload_n hx hb dX7_behindEnd_0 rfl (lv_at hl 1 rfl) ?_
  refine gs_X7_70_8 E hI hr1 dX7_behindEnd_1 ?_
  refine lv_iload_n hx hb dX7_behindEnd_4 rfl (lv_at hl 2 rfl) ?_
  refine q_ci (q_runV (As := [.int v2]) (rest := []) E (hml.trans hl.1.symm) hI (c_X5_get l X σ (q_rf X r1 4) v2 (q_tk (k' := 5) hI hr1 rfl (by decide))) kv_X7_58 (q_tk (k' := 5) hI hr1 rfl (by decide)) ⟨rfl, by decide⟩ (show vwCl[4]? = some (RX5, TX5, 1) from rfl) rfl ⟨Nat.le_of_ble_eq_true rfl, Nat.le_of_ble_eq_true rfl⟩ ⟨Nat.le_refl _, Nat.le_refl _⟩ rfl (Nat.le_of_ble_eq_true rfl) dX7_behindEnd_5) hI (by decide) (fun r_1 σ_2 H locs hpσ_2 hkσ_2 hI => ?_)
  obtain ⟨ahpσ_2, bhpσ_2⟩ := hpσ_2
  rw [ahpσ_2] at hI
  replace hF := q_letX hF bhpσ_2
  refine lv_istore_n (lv' := [(3, .int r_1), (0, .ref a), (1, .ref r1), (2, .int v2)]) hx hb dX7_behindEnd_8 rfl hl (by decide) rfl (fun ls hl => ?_)
  refine lv_aload_n hx hb dX7_behindEnd_9 rfl (lv_at hl 2 rfl) ?_
  refine gs_X7_55_8 E hI hr1 dX7_behindEnd_10 ?_
  refine lv_iload_n hx hb dX7_behindEnd_13 rfl (lv_at hl 0 rfl) ?_
  refine q_ci (q_runV (As := [.int r_1]) (rest := []) E (hml.trans hl.1.symm) hI (c_X5_get l X σ (q_rf X r1 3) r_1 (q_tk (k' := 5) hI hr1 rfl (by decide))) kv_X7_58 (q_tk (k' := 5) hI hr1 rfl (by decide)) ⟨rfl, by decide⟩ (show vwCl[4]? = some (RX5, TX5, 1) from rfl) rfl ⟨Nat.le_of_ble_eq_true rfl, Nat.le_of_ble_eq_true rfl⟩ ⟨Nat.le_refl _, Nat.le_refl _⟩ rfl (Nat.le_of_ble_eq_true rfl) dX7_behindEnd_14) hI (by decide) (fun r_3 σ_4 H locs hpσ_4 hkσ_4 hI => ?_)
  obtain ⟨ahpσ_4, bhpσ_4⟩ := hpσ_4
  rw [ahpσ_4] at hI
  replace hF := q_letX hF bhpσ_4
  refine lv_iconst (v := 4) hx hb dX7_behindEnd_17 (by decide) ?_
  refine q_icmp_ne (A := r_3.toInt) (B := 4) E rfl (by decide) (tgt := 45) dX7_behindEnd_18 (by decide) (fun c_5 => ?_) (fun c_5 => ?_)
  · skip
    replace hF := q_ifn hF c_5
    refine lv_iload_n hx hb dX7_behindEnd_45 rfl (lv_at hl 3 rfl) ?_
    refine lv_iconst (v := 1) hx hb dX7_behindEnd_46 (by decide) ?_
    refine lv_iadd hx hb dX7_behindEnd_47 ?_
    refine lv_topi (fun z_6 ez_6 => ?_)
    replace hF := q_letX hF ez_6
    exact q_reti E hr hlk hI ⟨(hF.trans hout), fr_σ⟩ dX7_behindEnd_48
  · skip
    replace hF := q_ifp hF c_5
    refine lv_aload_n hx hb dX7_behindEnd_21 rfl (lv_at hl 1 rfl) ?_
    refine gs_X7_41_7 E hI ha dX7_behindEnd_22 ?_
    refine lv_iload_n hx hb dX7_behindEnd_25 rfl (lv_at hl 0 rfl) ?_
    refine lv_iconst (v := (-1)) hx hb dX7_behindEnd_26 (by decide) ?_
    have kc_7 : ((-1) : Int32).toInt = (-1) := rfl
    refine q_cv (q_runV (As := [.int r_1, .int (-1)]) (rest := []) E (hml.trans hl.1.symm) hI (c_X5_add l X σ (q_rf X a 7) r_1 ((-1) : Int32) (q_tk (k' := 5) hI ha rfl (by decide))) kv_X7_73 (q_tk (k' := 5) hI ha rfl (by decide)) ⟨rfl, by decide⟩ (show vwCl[4]? = some (RX5, TX5, 1) from rfl) rfl ⟨Nat.le_of_ble_eq_true rfl, Nat.le_of_ble_eq_true rfl⟩ ⟨Nat.le_refl _, Nat.le_refl _⟩ rfl (Nat.le_of_ble_eq_true rfl) dX7_behindEnd_27) hI (by decide) (fun σ_9 H locs hpσ_9 hkσ_9 hI => ?_)
    obtain ⟨ahpσ_9, bhpσ_9⟩ := hpσ_9
    have fr_σ_9 := fr_σ.call bhpσ_9 rfl rfl
    replace hF := q_letX hF ahpσ_9
    refine lv_aload_n hx hb dX7_behindEnd_30 rfl (lv_at hl 1 rfl) ?_
    refine gs_X7_41_7 E hI ha dX7_behindEnd_31 ?_
    refine lv_iload_n hx hb dX7_behindEnd_34 rfl (lv_at hl 0 rfl) ?_
    refine q_ci (q_runV (As := [.int r_1]) (rest := []) E (hml.trans hl.1.symm) hI (c_X5_get l X σ_9 (q_rf X a 7) r_1 (q_tk (k' := 5) hI ha rfl (by decide))) kv_X7_58 (q_tk (k' := 5) hI ha rfl (by decide)) ⟨rfl, by decide⟩ (show vwCl[4]? = some (RX5, TX5, 1) from rfl) rfl ⟨Nat.le_of_ble_eq_true rfl, Nat.le_of_ble_eq_true rfl⟩ ⟨Nat.le_refl _, Nat.le_refl _⟩ rfl (Nat.le_of_ble_eq_true rfl) dX7_behindEnd_35) hI (by decide) (fun r_10 σ_11 H locs hpσ_11 hkσ_11 hI => ?_)
    obtain ⟨ahpσ_11, bhpσ_11⟩ := hpσ_11
    rw [ahpσ_11] at hI
    replace hF := q_letX hF bhpσ_11
    refine q_if_le (A := r_10.toInt) E rfl (tgt := 45) dX7_behindEnd_38 (by decide) (fun c_12 => ?_) (fun c_12 => ?_)
    · skip
      replace hF := q_ifn hF (Int.not_lt.mpr c_12)
      refine lv_iload_n hx hb dX7_behindEnd_45 rfl (lv_at hl 3 rfl) ?_
      refine lv_iconst (v := 1) hx hb dX7_behindEnd_46 (by decide) ?_
      refine lv_iadd hx hb dX7_behindEnd_47 ?_
      refine lv_topi (fun z_13 ez_13 => ?_)
      replace hF := q_letX hF ez_13
      exact q_reti E hr hlk hI ⟨(hF.trans hout), fr_σ_9⟩ dX7_behindEnd_48
    · skip
      replace hF := q_ifp hF c_12
      refine lv_iload_n hx hb dX7_behindEnd_41 rfl (lv_at hl 0 rfl) ?_
      refine lv_iconst (v := 1) hx hb dX7_behindEnd_42 (by decide) ?_
      refine lv_iadd hx hb dX7_behindEnd_43 ?_
      refine lv_topi (fun z_14 ez_14 => ?_)
      replace hF := q_letX hF ez_14
      exact q_reti E hr hlk hI ⟨(hF.trans hout), fr_σ_9⟩ dX7_behindEnd_44

set_option maxRecDepth 100000 in
set_option maxHeartbeats 4000000 in
theorem c_X7_draw (l : Launch) (X : XW) (σ : ST) (a : Nat) (ha : q_kd X a = 7) : Met l yX7_draw (q_ws yX7_draw cX7_draw 1 (some .int)) (q_rm 0 0) (q_P X σ [.ref a]) (q_Qi X 8 σ (fun (r : Int32) (σ' : ST) => (r, σ') = F_X7_draw X σ a ∧ q_ow [(7, 6)] [] X σ σ')) 0 0 (q_reg X) := by
  refine q_met 8 (by first | exact rfl | decide +kernel) rfl (Nat.le_of_ble_eq_true rfl) (fun p e s m below meth c E hml hr hlk hI ls hl => ?_)
  have hx := E.1
  have hb := E.2.1
  have hl : lv_has ls 1 [(0, .ref a)] := hl
  have fr_σ : q_ow [(7, 6)] [] X σ σ := q_ow.rf
  obtain ⟨out, hout⟩ : ∃ o, o = F_X7_draw X σ a := ⟨_, rfl⟩
  have hF := hout.symm
  unfold F_X7_draw at hF
  refine lv_aload_n hx hb dX7_draw_0 rfl (lv_at hl 0 rfl) ?_
  refine lv_aload_n hx hb dX7_draw_1 rfl (lv_at hl 0 rfl) ?_
  refine gs_X7_31_7 E hI ha dX7_draw_2 ?_
  refine lv_topi (fun f_1 ef_1 => ?_)
  replace hF := q_letX hF ef_1
  refine lv_sipush (v := 2861) hx hb dX7_draw_5 (by decide) ?_
  refine lv_imul hx hb dX7_draw_8 ?_
  refine lv_topi (fun z_2 ez_2 => ?_)
  replace hF := q_letX hF ez_2
  refine lv_sipush (v := 10259) hx hb dX7_draw_9 (by decide) ?_
  refine lv_iadd hx hb dX7_draw_12 ?_
  refine lv_topi (fun z_3 ez_3 => ?_)
  replace hF := q_letX hF ez_3
  refine lv_ldc (v := 65536) hx hb E.2.2.1 (E.2.2.2.1 _ (q_in_t6 (i := 172) (by first | rfl | decide +kernel) rfl)) dX7_draw_13 ?_
  refine lv_irem hx hb dX7_draw_15 (by decide) ?_
  refine lv_topi (fun z_4 ez_4 => ?_)
  replace hF := q_letX hF (ez_4.trans (q_remI _ _))
  refine ps_X7_31_7 E hI ha (by decide) dX7_draw_16 (fun H locs σ_5 hσ_5 hI => ?_)
  replace hF := q_letX hF hσ_5
  have fr_σ_5 := fr_σ.si hσ_5 ha rfl
  refine lv_aload_n hx hb dX7_draw_19 rfl (lv_at hl 0 rfl) ?_
  refine gs_X7_31_7 E hI ha dX7_draw_20 ?_
  refine lv_topi (fun f_6 ef_6 => ?_)
  replace hF := q_letX hF ef_6
  refine lv_bipush (v := 8) hx hb dX7_draw_23 (by decide) ?_
  refine lv_idiv hx hb dX7_draw_25 (by decide) ?_
  refine lv_topi (fun z_7 ez_7 => ?_)
  replace hF := q_letX hF ez_7
  refine lv_bipush (v := 16) hx hb dX7_draw_26 (by decide) ?_
  refine lv_irem hx hb dX7_draw_28 (by decide) ?_
  refine lv_topi (fun z_8 ez_8 => ?_)
  replace hF := q_letX hF (ez_8.trans (q_remI _ _))
  exact q_reti E hr hlk hI ⟨(hF.trans hout), fr_σ_5⟩ dX7_draw_29

set_option maxRecDepth 100000 in
set_option maxHeartbeats 4000000 in
theorem c_X7_fullestOther (l : Launch) (X : XW) (σ : ST) (r0 : Nat) (hr0 : q_kd X r0 = 1) : Met l yX7_fullestOther (q_ws yX7_fullestOther cX7_fullestOther 5 (some .int)) (q_rm 2 43) (q_P X σ [.ref r0]) (q_Qi X 9 σ (fun (r : Int32) (σ' : ST) => σ' = σ ∧ r = F_X7_fullestOther X σ r0)) 0 0 (q_reg X) := by
  refine q_met 9 (by first | exact rfl | decide +kernel) rfl (Nat.le_of_ble_eq_true rfl) (fun p e s m below meth c E hml hr hlk hI ls hl => ?_)
  have hx := E.1
  have hb := E.2.1
  have hl : lv_has ls 5 [(0, .ref r0)] := hl
  obtain ⟨out, hout⟩ : ∃ o, o = F_X7_fullestOther X σ r0 := ⟨_, rfl⟩
  have hF := hout.symm
  unfold F_X7_fullestOther at hF
  refine lv_iconst (v := (-1)) hx hb dX7_fullestOther_0 (by decide) ?_
  refine lv_istore_n (lv' := [(1, .int (-1)), (0, .ref r0)]) hx hb dX7_fullestOther_1 rfl hl (by decide) rfl (fun ls hl => ?_)
  refine lv_iconst (v := 0) hx hb dX7_fullestOther_2 (by decide) ?_
  refine lv_istore_n (lv' := [(2, .int 0), (1, .int (-1)), (0, .ref r0)]) hx hb dX7_fullestOther_3 rfl hl (by decide) rfl (fun ls hl => ?_)
  refine lv_iconst (v := 0) hx hb dX7_fullestOther_4 (by decide) ?_
  refine lv_istore_n (lv' := [(3, .int 0), (2, .int 0), (1, .int (-1)), (0, .ref r0)]) hx hb dX7_fullestOther_5 rfl hl (by decide) rfl (fun ls hl => ?_)
  have L_6_4 : ∀ (k_4 : Nat) (x_1 : Int32) (x_2 : Int32) (x_3 : Int32) (H : Heap) (locs : List Loc) (ls : Array Slot), (2147483647 - x_3.toInt).toNat < k_4 → (0 ≤ x_3.toInt) → (F_X7_fullestOther_L6_1 X σ r0 k_4 x_1 x_2 x_3 = out) → q_I X 9 σ s.heap locs σ H → lv_has ls 5 [(0, .ref r0), (1, .int x_1), (2, .int x_2), (3, .int x_3)] → W p l e (q_rm 2 43) s m ([.ref r0] : List Value).toArray below meth c H locs 0 0 (MQ below (q_Qi X 9 σ (fun (r : Int32) (σ' : ST) => σ' = σ ∧ r = F_X7_fullestOther X σ r0)) ([.ref r0] : List Value).toArray s 0 0 (q_reg X)) (F0 m 6 ls []) := by
    clear hF
    intro k_4
    induction k_4 with
    | zero =>
      intro x_1 x_2 x_3 H locs ls hms
      exact absurd hms (Nat.not_lt_zero _)
    | succ k_4 ih6 =>
      intro x_1 x_2 x_3 H locs ls hm6 hge6 hF hI hl
      replace hF := (F_X7_fullestOther_L6_1_s).symm.trans hF
      unfold F_X7_fullestOther_B6_1 at hF
      refine lv_iload_n hx hb dX7_fullestOther_6 rfl (lv_at hl 3 rfl) ?_
      refine lv_aload_n hx hb dX7_fullestOther_7 rfl (lv_at hl 0 rfl) ?_
      refine gs_X7_129_1 E hI hr0 dX7_fullestOther_8 ?_
      refine gs_X7_185_6 E hI (q_tk (k' := 6) hI hr0 rfl (by decide)) dX7_fullestOther_11 ?_
      refine lv_topi (fun f_5 ef_5 => ?_)
      replace hF := q_letX hF ef_5
      have bf_5 : -2147483648 ≤ f_5.toInt ∧ f_5.toInt ≤ 10 := by rw [ef_5]; exact q_bd hI (q_tk (k' := 6) hI hr0 rfl (by decide)) rfl
      have gc_6_x_3 := q_rng x_3
      have gc_6_f_5 := q_rng f_5
      refine q_icmp_ge (A := x_3.toInt) (B := f_5.toInt) E rfl rfl (tgt := 56) dX7_fullestOther_14 (by decide) (fun c_6 => ?_) (fun c_6 => ?_)
      · skip
        replace hF := q_ifn hF (Int.not_lt.mpr c_6)
        skip
        refine lv_iload_n hx hb dX7_fullestOther_56 rfl (lv_at hl 1 rfl) ?_
        exact q_reti E hr hlk hI ⟨rfl, (hF.trans hout)⟩ dX7_fullestOther_57
      · skip
        replace hF := q_ifp hF c_6
        refine lv_aload_n hx hb dX7_fullestOther_17 rfl (lv_at hl 0 rfl) ?_
        refine gs_X7_77_1 E hI hr0 dX7_fullestOther_18 ?_
        refine lv_aload_n hx hb dX7_fullestOther_21 rfl (lv_at hl 0 rfl) ?_
        refine gs_X7_138_1 E hI hr0 dX7_fullestOther_22 ?_
        refine lv_topi (fun f_7 ef_7 => ?_)
        replace hF := q_letX hF ef_7
        refine lv_iload_n hx hb dX7_fullestOther_25 rfl (lv_at hl 3 rfl) ?_
        refine q_ci (q_runV (As := [.int f_7, .int x_3]) (rest := []) E (hml.trans hl.1.symm) hI (c_X1_heldBy l X σ (q_rf X r0 1) f_7 x_3 (q_tk (k' := 2) hI hr0 rfl (by decide))) kv_X7_161 (q_tk (k' := 2) hI hr0 rfl (by decide)) ⟨rfl, by decide⟩ (show vwCl[1]? = some (RX1, TX1, 7) from rfl) rfl ⟨Nat.le_of_ble_eq_true rfl, Nat.le_of_ble_eq_true rfl⟩ ⟨Nat.le_refl _, Nat.le_refl _⟩ rfl (Nat.le_of_ble_eq_true rfl) dX7_fullestOther_26) hI (by decide) (fun r_8 σ_9 H locs hpσ_9 hkσ_9 hI => ?_)
        obtain ⟨ahpσ_9, bhpσ_9⟩ := hpσ_9
        rw [ahpσ_9] at hI
        replace hF := q_letX hF bhpσ_9
        refine lv_istore (lv' := [(4, .int r_8), (0, .ref r0), (1, .int x_1), (2, .int x_2), (3, .int x_3)]) hx hb dX7_fullestOther_29 hl (by decide) rfl (fun ls hl => ?_)
        refine lv_iload_n hx hb dX7_fullestOther_31 rfl (lv_at hl 4 rfl) ?_
        refine lv_aload_n hx hb dX7_fullestOther_32 rfl (lv_at hl 1 rfl) ?_
        refine gs_X7_158_1 E hI hr0 dX7_fullestOther_33 ?_
        refine lv_topi (fun f_10 ef_10 => ?_)
        replace hF := q_letX hF ef_10
        have gc_11_x_3 := q_rng x_3
        have gc_11_f_10 := q_rng f_10
        refine q_icmp_eq (A := x_3.toInt) (B := f_10.toInt) E rfl rfl (tgt := 50) dX7_fullestOther_36 (by decide) (fun c_11 => ?_) (fun c_11 => ?_)
        · skip
          replace hF := q_ifp hF c_11
          obtain ⟨z_12, ez_12⟩ : ∃ y : Int32, y = x_3 + 1 := ⟨_, rfl⟩
          replace hF := q_letX hF ez_12
          refine lv_iinc (v := z_12) (lv' := [(3, .int z_12), (4, .int r_8), (0, .ref r0), (1, .int x_1), (2, .int x_2)]) hx hb dX7_fullestOther_50 hl (k := 4) rfl (by rw [ez_12]; rfl) (by decide) rfl (fun ls hl => ?_)
          have iz_12 : z_12.toInt = x_3.toInt + 1 := q_inc ez_12 (by first | (clear hm6 gc_6_f_5 ahpσ_9 bhpσ_9 gc_11_x_3 gc_11_f_10; omega) | omega)
          refine lv_goto (tgt := 6) hx hb dX7_fullestOther_53 (by decide) ?_
          exact ih6 x_1 x_2 z_12 _ _ ls (by first | (clear gc_6_f_5 ahpσ_9 bhpσ_9 gc_11_x_3 gc_11_f_10; omega) | omega) (by first | (clear hm6 bf_5 gc_6_f_5 c_6 ahpσ_9 bhpσ_9 gc_11_x_3 gc_11_f_10; omega) | omega) hF hI (lv_sub hl [2, 3, 4, 0] rfl)
        · skip
          replace hF := q_ifn hF c_11
          refine lv_iload hx hb dX7_fullestOther_39 (lv_at hl 0 rfl) ?_
          refine lv_iload_n hx hb dX7_fullestOther_41 rfl (lv_at hl 3 rfl) ?_
          have gc_13_r_8 := q_rng r_8
          have gc_13_x_2 := q_rng x_2
          refine q_icmp_le (A := r_8.toInt) (B := x_2.toInt) E rfl rfl (tgt := 50) dX7_fullestOther_42 (by decide) (fun c_13 => ?_) (fun c_13 => ?_)
          · skip
            replace hF := q_ifn hF (Int.not_lt.mpr c_13)
            obtain ⟨z_14, ez_14⟩ : ∃ y : Int32, y = x_3 + 1 := ⟨_, rfl⟩
            replace hF := q_letX hF ez_14
            refine lv_iinc (v := z_14) (lv' := [(3, .int z_14), (4, .int r_8), (0, .ref r0), (1, .int x_1), (2, .int x_2)]) hx hb dX7_fullestOther_50 hl (k := 4) rfl (by rw [ez_14]; rfl) (by decide) rfl (fun ls hl => ?_)
            have iz_14 : z_14.toInt = x_3.toInt + 1 := q_inc ez_14 (by first | (clear hm6 gc_6_f_5 ahpσ_9 bhpσ_9 gc_11_x_3 gc_11_f_10 c_11 gc_13_r_8 gc_13_x_2 c_13; omega) | omega)
            refine lv_goto (tgt := 6) hx hb dX7_fullestOther_53 (by decide) ?_
            exact ih6 x_1 x_2 z_14 _ _ ls (by first | (clear gc_6_f_5 ahpσ_9 bhpσ_9 gc_11_x_3 gc_11_f_10 gc_13_r_8 gc_13_x_2 c_13; omega) | omega) (by first | (clear hm6 bf_5 gc_6_f_5 c_6 ahpσ_9 bhpσ_9 gc_11_x_3 gc_11_f_10 c_11 gc_13_r_8 gc_13_x_2 c_13; omega) | omega) hF hI (lv_sub hl [2, 3, 4, 0] rfl)
          · skip
            replace hF := q_ifp hF c_13
            refine lv_iload hx hb dX7_fullestOther_45 (lv_at hl 0 rfl) ?_
            refine lv_istore_n (lv' := [(2, .int r_8), (4, .int r_8), (0, .ref r0), (1, .int x_1), (3, .int x_3)]) hx hb dX7_fullestOther_47 rfl hl (by decide) rfl (fun ls hl => ?_)
            refine lv_iload_n hx hb dX7_fullestOther_48 rfl (lv_at hl 4 rfl) ?_
            refine lv_istore_n (lv' := [(1, .int x_3), (2, .int r_8), (4, .int r_8), (0, .ref r0), (3, .int x_3)]) hx hb dX7_fullestOther_49 rfl hl (by decide) rfl (fun ls hl => ?_)
            obtain ⟨z_15, ez_15⟩ : ∃ y : Int32, y = x_3 + 1 := ⟨_, rfl⟩
            replace hF := q_letX hF ez_15
            refine lv_iinc (v := z_15) (lv' := [(3, .int z_15), (1, .int x_3), (2, .int r_8), (4, .int r_8), (0, .ref r0)]) hx hb dX7_fullestOther_50 hl (k := 4) rfl (by rw [ez_15]; rfl) (by decide) rfl (fun ls hl => ?_)
            have iz_15 : z_15.toInt = x_3.toInt + 1 := q_inc ez_15 (by first | (clear hm6 gc_6_f_5 ahpσ_9 bhpσ_9 gc_11_x_3 gc_11_f_10 c_11 gc_13_r_8 gc_13_x_2 c_13; omega) | omega)
            refine lv_goto (tgt := 6) hx hb dX7_fullestOther_53 (by decide) ?_
            exact ih6 x_3 r_8 z_15 _ _ ls (by first | (clear gc_6_f_5 ahpσ_9 bhpσ_9 gc_11_x_3 gc_11_f_10 gc_13_r_8 gc_13_x_2 c_13; omega) | omega) (by first | (clear hm6 bf_5 gc_6_f_5 c_6 ahpσ_9 bhpσ_9 gc_11_x_3 gc_11_f_10 c_11 gc_13_r_8 gc_13_x_2 c_13; omega) | omega) hF hI (lv_sub hl [4, 1, 2, 0] rfl)
  exact L_6_4 ((2147483647 - (0 : Int32).toInt).toNat + 1) (-1) 0 0 _ _ ls (Nat.lt_succ_self _) (by decide) hF hI (lv_sub hl [3, 2, 1, 0] rfl)

set_option maxRecDepth 100000 in
set_option maxHeartbeats 4000000 in
theorem c_X7_choose (l : Launch) (X : XW) (σ : ST) (a : Nat) (r1 : Nat) (ha : q_kd X a = 7) (hr1 : q_kd X r1 = 1) : Met l yX7_choose (q_ws yX7_choose cX7_choose 5 none) (q_rm 3 67) (q_P X σ [.ref a, .ref r1]) (q_Qv X 8 σ (fun (σ' : ST) => σ' = F_X7_choose X σ a r1 ∧ q_ow [(1, 9), (7, 6), (20, 99)] [] X σ σ')) 0 0 (q_reg X) := by
  refine q_met 8 (by first | exact rfl | decide +kernel) rfl (Nat.le_of_ble_eq_true rfl) (fun p e s m below meth c E hml hr hlk hI ls hl => ?_)
  have hx := E.1
  have hb := E.2.1
  have hl : lv_has ls 5 [(0, .ref a), (1, .ref r1)] := hl
  have fr_σ : q_ow [(1, 9), (7, 6), (20, 99)] [] X σ σ := q_ow.rf
  obtain ⟨out, hout⟩ : ∃ o, o = F_X7_choose X σ a r1 := ⟨_, rfl⟩
  have hF := hout.symm
  unfold F_X7_choose at hF
  refine lv_aload_n hx hb dX7_choose_0 rfl (lv_at hl 1 rfl) ?_
  refine gs_X7_77_1 E hI hr1 dX7_choose_1 ?_
  refine lv_aload_n hx hb dX7_choose_4 rfl (lv_at hl 1 rfl) ?_
  refine gs_X7_138_1 E hI hr1 dX7_choose_5 ?_
  refine lv_topi (fun f_1 ef_1 => ?_)
  replace hF := q_letX hF ef_1
  refine lv_aload_n hx hb dX7_choose_8 rfl (lv_at hl 1 rfl) ?_
  refine gs_X7_158_1 E hI hr1 dX7_choose_9 ?_
  refine lv_topi (fun f_2 ef_2 => ?_)
  replace hF := q_letX hF ef_2
  refine q_ci (q_runV (As := [.int f_1, .int f_2]) (rest := []) E (hml.trans hl.1.symm) hI (c_X1_heldBy l X σ (q_rf X r1 1) f_1 f_2 (q_tk (k' := 2) hI hr1 rfl (by decide))) kv_X7_161 (q_tk (k' := 2) hI hr1 rfl (by decide)) ⟨rfl, by decide⟩ (show vwCl[1]? = some (RX1, TX1, 7) from rfl) rfl ⟨Nat.le_of_ble_eq_true rfl, Nat.le_of_ble_eq_true rfl⟩ ⟨Nat.le_refl _, Nat.le_refl _⟩ rfl (Nat.le_of_ble_eq_true rfl) dX7_choose_12) hI (by decide) (fun r_3 σ_4 H locs hpσ_4 hkσ_4 hI => ?_)
  obtain ⟨ahpσ_4, bhpσ_4⟩ := hpσ_4
  rw [ahpσ_4] at hI
  replace hF := q_letX hF bhpσ_4
  refine lv_istore_n (lv' := [(2, .int r_3), (0, .ref a), (1, .ref r1)]) hx hb dX7_choose_15 rfl hl (by decide) rfl (fun ls hl => ?_)
  refine lv_iload_n hx hb dX7_choose_16 rfl (lv_at hl 0 rfl) ?_
  refine lv_aload_n hx hb dX7_choose_17 rfl (lv_at hl 2 rfl) ?_
  refine gs_X7_129_1 E hI hr1 dX7_choose_18 ?_
  refine gs_X7_165_6 E hI (q_tk (k' := 6) hI hr1 rfl (by decide)) dX7_choose_21 ?_
  refine lv_topi (fun f_5 ef_5 => ?_)
  replace hF := q_letX hF ef_5
  have bf_5 : -2147483648 ≤ f_5.toInt ∧ f_5.toInt ≤ 4 := by rw [ef_5]; exact q_bd hI (q_tk (k' := 6) hI hr1 rfl (by decide)) rfl
  refine q_ci (q_runS (As := [.int r_3, .int f_5]) (rest := []) E (hml.trans hl.1.symm) hI (c_J9_min_7cf53 l X σ r_3 f_5) ks_X7_168 rfl ⟨Nat.le_of_ble_eq_true rfl, Nat.le_of_ble_eq_true rfl⟩ ⟨Nat.le_refl _, Nat.le_refl _⟩ rfl (Nat.le_of_ble_eq_true rfl) dX7_choose_24) hI (by decide) (fun r_6 σ_7 H locs hpσ_7 hkσ_7 hI => ?_)
  obtain ⟨ahpσ_7, bhpσ_7, chpσ_7⟩ := hpσ_7
  rw [ahpσ_7] at hI
  replace hF := q_letX hF chpσ_7
  refine lv_istore_n (lv' := [(3, .int r_6), (2, .int r_3), (0, .ref a), (1, .ref r1)]) hx hb dX7_choose_27 rfl hl (by decide) rfl (fun ls hl => ?_)
  refine lv_aload_n hx hb dX7_choose_28 rfl (lv_at hl 3 rfl) ?_
  refine q_cv (q_runV (As := []) (rest := []) E (hml.trans hl.1.symm) hI (c_X0_clearWanted l X σ r1 hr1) kv_X7_173 hr1 ⟨rfl, by decide⟩ (show vwCl[0]? = some (RX0, TX0, 15) from rfl) rfl ⟨Nat.le_of_ble_eq_true rfl, Nat.le_of_ble_eq_true rfl⟩ ⟨Nat.le_refl _, Nat.le_refl _⟩ rfl (Nat.le_of_ble_eq_true rfl) dX7_choose_29) hI (by decide) (fun σ_9 H locs hpσ_9 hkσ_9 hI => ?_)
  obtain ⟨ahpσ_9, bhpσ_9⟩ := hpσ_9
  have fr_σ_9 := fr_σ.call bhpσ_9 rfl rfl
  replace hF := q_letX hF ahpσ_9
  refine lv_aload_n hx hb dX7_choose_32 rfl (lv_at hl 3 rfl) ?_
  refine lv_aload_n hx hb dX7_choose_33 rfl (lv_at hl 3 rfl) ?_
  refine gs_X7_158_1 E hI hr1 dX7_choose_34 ?_
  refine lv_topi (fun f_10 ef_10 => ?_)
  replace hF := q_letX hF ef_10
  refine lv_iload_n hx hb dX7_choose_37 rfl (lv_at hl 0 rfl) ?_
  refine q_cv (q_runV (As := [.int f_10, .int r_6]) (rest := []) E (hml.trans hl.1.symm) hI (c_X0_want l X σ_9 r1 f_10 r_6 hr1) kv_X7_176 hr1 ⟨rfl, by decide⟩ (show vwCl[0]? = some (RX0, TX0, 15) from rfl) rfl ⟨Nat.le_of_ble_eq_true rfl, Nat.le_of_ble_eq_true rfl⟩ ⟨Nat.le_refl _, Nat.le_refl _⟩ rfl (Nat.le_of_ble_eq_true rfl) dX7_choose_38) hI (by decide) (fun σ_12 H locs hpσ_12 hkσ_12 hI => ?_)
  obtain ⟨ahpσ_12, bhpσ_12⟩ := hpσ_12
  have fr_σ_12 := fr_σ_9.call bhpσ_12 rfl rfl
  replace hF := q_letX hF ahpσ_12
  refine lv_iload_n hx hb dX7_choose_41 rfl (lv_at hl 0 rfl) ?_
  refine lv_aload_n hx hb dX7_choose_42 rfl (lv_at hl 3 rfl) ?_
  refine gs_X7_129_1 E hI hr1 dX7_choose_43 ?_
  refine gs_X7_165_6 E hI (q_tk (k' := 6) hI hr1 rfl (by decide)) dX7_choose_46 ?_
  refine lv_topi (fun f_13 ef_13 => ?_)
  replace hF := q_letX hF ef_13
  have bf_13 : -2147483648 ≤ f_13.toInt ∧ f_13.toInt ≤ 4 := by rw [ef_13]; exact q_bd hI (q_tk (k' := 6) hI hr1 rfl (by decide)) rfl
  refine q_icmp_ge (A := r_6.toInt) (B := f_13.toInt) E rfl rfl (tgt := 74) dX7_choose_49 (by decide) (fun c_14 => ?_) (fun c_14 => ?_)
  · skip
    replace hF := q_ifn hF (Int.not_lt.mpr c_14)
    refine lv_iconst (v := 0) hx hb dX7_choose_74 (by decide) ?_
    refine lv_istore (lv' := [(4, .int 0), (3, .int r_6), (2, .int r_3), (0, .ref a), (1, .ref r1)]) hx hb dX7_choose_75 hl (by decide) rfl (fun ls hl => ?_)
    refine lv_iload hx hb dX7_choose_77 (lv_at hl 0 rfl) ?_
    refine q_if_eq (A := 0) E (by decide) (tgt := 116) dX7_choose_79 (by decide) (fun c_15 => ?_) (fun c_15 => ?_)
    · skip
      replace hF := q_ifp hF c_15
      exact q_retv E hr hlk hI ⟨(hF.trans hout), fr_σ_12⟩ dX7_choose_116
    · skip
      replace hF := q_ifn hF c_15
      refine lv_iload_n hx hb dX7_choose_82 rfl (lv_at hl 2 rfl) ?_
      refine q_if_eq (A := r_3.toInt) E rfl (tgt := 107) dX7_choose_83 (by decide) (fun c_16 => ?_) (fun c_16 => ?_)
      · skip
        replace hF := q_ifp hF c_16
        refine lv_aload_n hx hb dX7_choose_107 rfl (lv_at hl 4 rfl) ?_
        refine lv_aload_n hx hb dX7_choose_108 rfl (lv_at hl 4 rfl) ?_
        refine q_ci (q_runS (As := [.ref r1]) (rest := [.ref r1]) E (hml.trans hl.1.symm) hI (c_X7_fullestOther l X σ_12 r1 hr1) ks_X7_182 rfl ⟨Nat.le_of_ble_eq_true rfl, Nat.le_of_ble_eq_true rfl⟩ ⟨Nat.le_refl _, Nat.le_refl _⟩ rfl (Nat.le_of_ble_eq_true rfl) dX7_choose_109) hI (by decide) (fun r_17 σ_18 H locs hpσ_18 hkσ_18 hI => ?_)
        obtain ⟨ahpσ_18, bhpσ_18⟩ := hpσ_18
        rw [ahpσ_18] at hI
        replace hF := q_letX hF bhpσ_18
        refine lv_iconst (v := 1) hx hb dX7_choose_112 (by decide) ?_
        have kc_19 : (1 : Int32).toInt = 1 := rfl
        refine q_cv (q_runV (As := [.int r_17, .int 1]) (rest := []) E (hml.trans hl.1.symm) hI (c_X0_want l X σ_12 r1 r_17 (1 : Int32) hr1) kv_X7_176 hr1 ⟨rfl, by decide⟩ (show vwCl[0]? = some (RX0, TX0, 15) from rfl) rfl ⟨Nat.le_of_ble_eq_true rfl, Nat.le_of_ble_eq_true rfl⟩ ⟨Nat.le_refl _, Nat.le_refl _⟩ rfl (Nat.le_of_ble_eq_true rfl) dX7_choose_113) hI (by decide) (fun σ_21 H locs hpσ_21 hkσ_21 hI => ?_)
        obtain ⟨ahpσ_21, bhpσ_21⟩ := hpσ_21
        have fr_σ_21 := fr_σ_12.call bhpσ_21 rfl rfl
        replace hF := q_letX hF ahpσ_21
        exact q_retv E hr hlk hI ⟨(hF.trans hout), fr_σ_21⟩ dX7_choose_116
      · skip
        replace hF := q_ifn hF c_16
        refine lv_aload_n hx hb dX7_choose_86 rfl (lv_at hl 3 rfl) ?_
        refine q_ci (q_runV (As := []) (rest := []) E (hml.trans hl.1.symm) hI (c_X7_draw l X σ_12 a ha) kv_X7_179 ha ⟨rfl, by decide⟩ (show vwCl[6]? = some (RX7, TX7, 8) from rfl) rfl ⟨Nat.le_of_ble_eq_true rfl, Nat.le_of_ble_eq_true rfl⟩ ⟨Nat.le_refl _, Nat.le_refl _⟩ rfl (Nat.le_of_ble_eq_true rfl) dX7_choose_87) hI (by decide) (fun r_22 σ_23 H locs hpσ_23 hkσ_23 hI => ?_)
        obtain ⟨ahpσ_23, bhpσ_23⟩ := hpσ_23
        have fr_σ_23 := fr_σ_12.call bhpσ_23 rfl rfl
        replace hF := q_biX hF ahpσ_23
        refine lv_aload_n hx hb dX7_choose_90 rfl (lv_at hl 4 rfl) ?_
        refine gs_X7_77_1 E hI hr1 dX7_choose_91 ?_
        refine gs_X7_91_2 E hI (q_tk (k' := 2) hI hr1 rfl (by decide)) dX7_choose_94 ?_
        refine lv_aload_n hx hb dX7_choose_97 rfl (lv_at hl 4 rfl) ?_
        refine gs_X7_138_1 E hI hr1 dX7_choose_98 ?_
        refine lv_topi (fun f_24 ef_24 => ?_)
        replace hF := q_letX hF ef_24
        refine q_ci (q_runV (As := [.int f_24]) (rest := [.int r_22]) E (hml.trans hl.1.symm) hI (c_X5_get l X σ_23 (q_rf X (q_rf X r1 1) 3) f_24 (q_tk (k' := 5) hI (q_tk (k' := 2) hI hr1 rfl (by decide)) rfl (by decide))) kv_X7_58 (q_tk (k' := 5) hI (q_tk (k' := 2) hI hr1 rfl (by decide)) rfl (by decide)) ⟨rfl, by decide⟩ (show vwCl[4]? = some (RX5, TX5, 1) from rfl) rfl ⟨Nat.le_of_ble_eq_true rfl, Nat.le_of_ble_eq_true rfl⟩ ⟨Nat.le_refl _, Nat.le_refl _⟩ rfl (Nat.le_of_ble_eq_true rfl) dX7_choose_101) hI (by decide) (fun r_25 σ_26 H locs hpσ_26 hkσ_26 hI => ?_)
        obtain ⟨ahpσ_26, bhpσ_26⟩ := hpσ_26
        rw [ahpσ_26] at hI
        replace hF := q_letX hF bhpσ_26
        refine q_icmp_ge (A := r_22.toInt) (B := r_25.toInt) E rfl rfl (tgt := 116) dX7_choose_104 (by decide) (fun c_27 => ?_) (fun c_27 => ?_)
        · skip
          replace hF := q_ifn hF (Int.not_lt.mpr c_27)
          exact q_retv E hr hlk hI ⟨(hF.trans hout), fr_σ_23⟩ dX7_choose_116
        · skip
          replace hF := q_ifp hF c_27
          refine lv_aload_n hx hb dX7_choose_107 rfl (lv_at hl 4 rfl) ?_
          refine lv_aload_n hx hb dX7_choose_108 rfl (lv_at hl 4 rfl) ?_
          refine q_ci (q_runS (As := [.ref r1]) (rest := [.ref r1]) E (hml.trans hl.1.symm) hI (c_X7_fullestOther l X σ_23 r1 hr1) ks_X7_182 rfl ⟨Nat.le_of_ble_eq_true rfl, Nat.le_of_ble_eq_true rfl⟩ ⟨Nat.le_refl _, Nat.le_refl _⟩ rfl (Nat.le_of_ble_eq_true rfl) dX7_choose_109) hI (by decide) (fun r_28 σ_29 H locs hpσ_29 hkσ_29 hI => ?_)
          obtain ⟨ahpσ_29, bhpσ_29⟩ := hpσ_29
          rw [ahpσ_29] at hI
          replace hF := q_letX hF bhpσ_29
          refine lv_iconst (v := 1) hx hb dX7_choose_112 (by decide) ?_
          have kc_30 : (1 : Int32).toInt = 1 := rfl
          refine q_cv (q_runV (As := [.int r_28, .int 1]) (rest := []) E (hml.trans hl.1.symm) hI (c_X0_want l X σ_23 r1 r_28 (1 : Int32) hr1) kv_X7_176 hr1 ⟨rfl, by decide⟩ (show vwCl[0]? = some (RX0, TX0, 15) from rfl) rfl ⟨Nat.le_of_ble_eq_true rfl, Nat.le_of_ble_eq_true rfl⟩ ⟨Nat.le_refl _, Nat.le_refl _⟩ rfl (Nat.le_of_ble_eq_true rfl) dX7_choose_113) hI (by decide) (fun σ_32 H locs hpσ_32 hkσ_32 hI => ?_)
          obtain ⟨ahpσ_32, bhpσ_32⟩ := hpσ_32
          have fr_σ_32 := fr_σ_23.call bhpσ_32 rfl rfl
          replace hF := q_letX hF ahpσ_32
          exact q_retv E hr hlk hI ⟨(hF.trans hout), fr_σ_32⟩ dX7_choose_116
  · skip
    replace hF := q_ifp hF c_14
    refine lv_aload_n hx hb dX7_choose_52 rfl (lv_at hl 3 rfl) ?_
    refine gs_X7_77_1 E hI hr1 dX7_choose_53 ?_
    refine gs_X7_102_2 E hI (q_tk (k' := 2) hI hr1 rfl (by decide)) dX7_choose_56 ?_
    refine lv_aload_n hx hb dX7_choose_59 rfl (lv_at hl 3 rfl) ?_
    refine gs_X7_138_1 E hI hr1 dX7_choose_60 ?_
    refine lv_topi (fun f_33 ef_33 => ?_)
    replace hF := q_letX hF ef_33
    refine q_ci (q_runV (As := [.int f_33]) (rest := []) E (hml.trans hl.1.symm) hI (c_X5_get l X σ_12 (q_rf X (q_rf X r1 1) 2) f_33 (q_tk (k' := 5) hI (q_tk (k' := 2) hI hr1 rfl (by decide)) rfl (by decide))) kv_X7_58 (q_tk (k' := 5) hI (q_tk (k' := 2) hI hr1 rfl (by decide)) rfl (by decide)) ⟨rfl, by decide⟩ (show vwCl[4]? = some (RX5, TX5, 1) from rfl) rfl ⟨Nat.le_of_ble_eq_true rfl, Nat.le_of_ble_eq_true rfl⟩ ⟨Nat.le_refl _, Nat.le_refl _⟩ rfl (Nat.le_of_ble_eq_true rfl) dX7_choose_63) hI (by decide) (fun r_34 σ_35 H locs hpσ_35 hkσ_35 hI => ?_)
    obtain ⟨ahpσ_35, bhpσ_35⟩ := hpσ_35
    rw [ahpσ_35] at hI
    replace hF := q_letX hF bhpσ_35
    refine lv_iload_n hx hb dX7_choose_66 rfl (lv_at hl 1 rfl) ?_
    refine q_icmp_le (A := r_34.toInt) (B := r_3.toInt) E rfl rfl (tgt := 74) dX7_choose_67 (by decide) (fun c_36 => ?_) (fun c_36 => ?_)
    · skip
      replace hF := q_ifn hF (Int.not_lt.mpr c_36)
      refine lv_iconst (v := 0) hx hb dX7_choose_74 (by decide) ?_
      refine lv_istore (lv' := [(4, .int 0), (3, .int r_6), (2, .int r_3), (0, .ref a), (1, .ref r1)]) hx hb dX7_choose_75 hl (by decide) rfl (fun ls hl => ?_)
      refine lv_iload hx hb dX7_choose_77 (lv_at hl 0 rfl) ?_
      refine q_if_eq (A := 0) E (by decide) (tgt := 116) dX7_choose_79 (by decide) (fun c_37 => ?_) (fun c_37 => ?_)
      · skip
        replace hF := q_ifp hF c_37
        exact q_retv E hr hlk hI ⟨(hF.trans hout), fr_σ_12⟩ dX7_choose_116
      · skip
        replace hF := q_ifn hF c_37
        refine lv_iload_n hx hb dX7_choose_82 rfl (lv_at hl 2 rfl) ?_
        refine q_if_eq (A := r_3.toInt) E rfl (tgt := 107) dX7_choose_83 (by decide) (fun c_38 => ?_) (fun c_38 => ?_)
        · skip
          replace hF := q_ifp hF c_38
          refine lv_aload_n hx hb dX7_choose_107 rfl (lv_at hl 4 rfl) ?_
          refine lv_aload_n hx hb dX7_choose_108 rfl (lv_at hl 4 rfl) ?_
          refine q_ci (q_runS (As := [.ref r1]) (rest := [.ref r1]) E (hml.trans hl.1.symm) hI (c_X7_fullestOther l X σ_12 r1 hr1) ks_X7_182 rfl ⟨Nat.le_of_ble_eq_true rfl, Nat.le_of_ble_eq_true rfl⟩ ⟨Nat.le_refl _, Nat.le_refl _⟩ rfl (Nat.le_of_ble_eq_true rfl) dX7_choose_109) hI (by decide) (fun r_39 σ_40 H locs hpσ_40 hkσ_40 hI => ?_)
          obtain ⟨ahpσ_40, bhpσ_40⟩ := hpσ_40
          rw [ahpσ_40] at hI
          replace hF := q_letX hF bhpσ_40
          refine lv_iconst (v := 1) hx hb dX7_choose_112 (by decide) ?_
          have kc_41 : (1 : Int32).toInt = 1 := rfl
          refine q_cv (q_runV (As := [.int r_39, .int 1]) (rest := []) E (hml.trans hl.1.symm) hI (c_X0_want l X σ_12 r1 r_39 (1 : Int32) hr1) kv_X7_176 hr1 ⟨rfl, by decide⟩ (show vwCl[0]? = some (RX0, TX0, 15) from rfl) rfl ⟨Nat.le_of_ble_eq_true rfl, Nat.le_of_ble_eq_true rfl⟩ ⟨Nat.le_refl _, Nat.le_refl _⟩ rfl (Nat.le_of_ble_eq_true rfl) dX7_choose_113) hI (by decide) (fun σ_43 H locs hpσ_43 hkσ_43 hI => ?_)
          obtain ⟨ahpσ_43, bhpσ_43⟩ := hpσ_43
          have fr_σ_43 := fr_σ_12.call bhpσ_43 rfl rfl
          replace hF := q_letX hF ahpσ_43
          exact q_retv E hr hlk hI ⟨(hF.trans hout), fr_σ_43⟩ dX7_choose_116
        · skip
          replace hF := q_ifn hF c_38
          refine lv_aload_n hx hb dX7_choose_86 rfl (lv_at hl 3 rfl) ?_
          refine q_ci (q_runV (As := []) (rest := []) E (hml.trans hl.1.symm) hI (c_X7_draw l X σ_12 a ha) kv_X7_179 ha ⟨rfl, by decide⟩ (show vwCl[6]? = some (RX7, TX7, 8) from rfl) rfl ⟨Nat.le_of_ble_eq_true rfl, Nat.le_of_ble_eq_true rfl⟩ ⟨Nat.le_refl _, Nat.le_refl _⟩ rfl (Nat.le_of_ble_eq_true rfl) dX7_choose_87) hI (by decide) (fun r_44 σ_45 H locs hpσ_45 hkσ_45 hI => ?_)
          obtain ⟨ahpσ_45, bhpσ_45⟩ := hpσ_45
          have fr_σ_45 := fr_σ_12.call bhpσ_45 rfl rfl
          replace hF := q_biX hF ahpσ_45
          refine lv_aload_n hx hb dX7_choose_90 rfl (lv_at hl 4 rfl) ?_
          refine gs_X7_77_1 E hI hr1 dX7_choose_91 ?_
          refine gs_X7_91_2 E hI (q_tk (k' := 2) hI hr1 rfl (by decide)) dX7_choose_94 ?_
          refine lv_aload_n hx hb dX7_choose_97 rfl (lv_at hl 4 rfl) ?_
          refine gs_X7_138_1 E hI hr1 dX7_choose_98 ?_
          refine lv_topi (fun f_46 ef_46 => ?_)
          replace hF := q_letX hF ef_46
          refine q_ci (q_runV (As := [.int f_46]) (rest := [.int r_44]) E (hml.trans hl.1.symm) hI (c_X5_get l X σ_45 (q_rf X (q_rf X r1 1) 3) f_46 (q_tk (k' := 5) hI (q_tk (k' := 2) hI hr1 rfl (by decide)) rfl (by decide))) kv_X7_58 (q_tk (k' := 5) hI (q_tk (k' := 2) hI hr1 rfl (by decide)) rfl (by decide)) ⟨rfl, by decide⟩ (show vwCl[4]? = some (RX5, TX5, 1) from rfl) rfl ⟨Nat.le_of_ble_eq_true rfl, Nat.le_of_ble_eq_true rfl⟩ ⟨Nat.le_refl _, Nat.le_refl _⟩ rfl (Nat.le_of_ble_eq_true rfl) dX7_choose_101) hI (by decide) (fun r_47 σ_48 H locs hpσ_48 hkσ_48 hI => ?_)
          obtain ⟨ahpσ_48, bhpσ_48⟩ := hpσ_48
          rw [ahpσ_48] at hI
          replace hF := q_letX hF bhpσ_48
          refine q_icmp_ge (A := r_44.toInt) (B := r_47.toInt) E rfl rfl (tgt := 116) dX7_choose_104 (by decide) (fun c_49 => ?_) (fun c_49 => ?_)
          · skip
            replace hF := q_ifn hF (Int.not_lt.mpr c_49)
            exact q_retv E hr hlk hI ⟨(hF.trans hout), fr_σ_45⟩ dX7_choose_116
          · skip
            replace hF := q_ifp hF c_49
            refine lv_aload_n hx hb dX7_choose_107 rfl (lv_at hl 4 rfl) ?_
            refine lv_aload_n hx hb dX7_choose_108 rfl (lv_at hl 4 rfl) ?_
            refine q_ci (q_runS (As := [.ref r1]) (rest := [.ref r1]) E (hml.trans hl.1.symm) hI (c_X7_fullestOther l X σ_45 r1 hr1) ks_X7_182 rfl ⟨Nat.le_of_ble_eq_true rfl, Nat.le_of_ble_eq_true rfl⟩ ⟨Nat.le_refl _, Nat.le_refl _⟩ rfl (Nat.le_of_ble_eq_true rfl) dX7_choose_109) hI (by decide) (fun r_50 σ_51 H locs hpσ_51 hkσ_51 hI => ?_)
            obtain ⟨ahpσ_51, bhpσ_51⟩ := hpσ_51
            rw [ahpσ_51] at hI
            replace hF := q_letX hF bhpσ_51
            refine lv_iconst (v := 1) hx hb dX7_choose_112 (by decide) ?_
            have kc_52 : (1 : Int32).toInt = 1 := rfl
            refine q_cv (q_runV (As := [.int r_50, .int 1]) (rest := []) E (hml.trans hl.1.symm) hI (c_X0_want l X σ_45 r1 r_50 (1 : Int32) hr1) kv_X7_176 hr1 ⟨rfl, by decide⟩ (show vwCl[0]? = some (RX0, TX0, 15) from rfl) rfl ⟨Nat.le_of_ble_eq_true rfl, Nat.le_of_ble_eq_true rfl⟩ ⟨Nat.le_refl _, Nat.le_refl _⟩ rfl (Nat.le_of_ble_eq_true rfl) dX7_choose_113) hI (by decide) (fun σ_54 H locs hpσ_54 hkσ_54 hI => ?_)
            obtain ⟨ahpσ_54, bhpσ_54⟩ := hpσ_54
            have fr_σ_54 := fr_σ_45.call bhpσ_54 rfl rfl
            replace hF := q_letX hF ahpσ_54
            exact q_retv E hr hlk hI ⟨(hF.trans hout), fr_σ_54⟩ dX7_choose_116
    · skip
      replace hF := q_ifp hF c_36
      refine lv_iconst (v := 1) hx hb dX7_choose_70 (by decide) ?_
      refine lv_goto (tgt := 75) hx hb dX7_choose_71 (by decide) ?_
      refine lv_istore (lv' := [(4, .int 1), (3, .int r_6), (2, .int r_3), (0, .ref a), (1, .ref r1)]) hx hb dX7_choose_75 hl (by decide) rfl (fun ls hl => ?_)
      refine lv_iload hx hb dX7_choose_77 (lv_at hl 0 rfl) ?_
      refine q_if_eq (A := 1) E (by decide) (tgt := 116) dX7_choose_79 (by decide) (fun c_55 => ?_) (fun c_55 => ?_)
      · skip
        replace hF := q_ifp hF c_55
        exact q_retv E hr hlk hI ⟨(hF.trans hout), fr_σ_12⟩ dX7_choose_116
      · skip
        replace hF := q_ifn hF c_55
        refine lv_iload_n hx hb dX7_choose_82 rfl (lv_at hl 2 rfl) ?_
        refine q_if_eq (A := r_3.toInt) E rfl (tgt := 107) dX7_choose_83 (by decide) (fun c_56 => ?_) (fun c_56 => ?_)
        · skip
          replace hF := q_ifp hF c_56
          refine lv_aload_n hx hb dX7_choose_107 rfl (lv_at hl 4 rfl) ?_
          refine lv_aload_n hx hb dX7_choose_108 rfl (lv_at hl 4 rfl) ?_
          refine q_ci (q_runS (As := [.ref r1]) (rest := [.ref r1]) E (hml.trans hl.1.symm) hI (c_X7_fullestOther l X σ_12 r1 hr1) ks_X7_182 rfl ⟨Nat.le_of_ble_eq_true rfl, Nat.le_of_ble_eq_true rfl⟩ ⟨Nat.le_refl _, Nat.le_refl _⟩ rfl (Nat.le_of_ble_eq_true rfl) dX7_choose_109) hI (by decide) (fun r_57 σ_58 H locs hpσ_58 hkσ_58 hI => ?_)
          obtain ⟨ahpσ_58, bhpσ_58⟩ := hpσ_58
          rw [ahpσ_58] at hI
          replace hF := q_letX hF bhpσ_58
          refine lv_iconst (v := 1) hx hb dX7_choose_112 (by decide) ?_
          have kc_59 : (1 : Int32).toInt = 1 := rfl
          refine q_cv (q_runV (As := [.int r_57, .int 1]) (rest := []) E (hml.trans hl.1.symm) hI (c_X0_want l X σ_12 r1 r_57 (1 : Int32) hr1) kv_X7_176 hr1 ⟨rfl, by decide⟩ (show vwCl[0]? = some (RX0, TX0, 15) from rfl) rfl ⟨Nat.le_of_ble_eq_true rfl, Nat.le_of_ble_eq_true rfl⟩ ⟨Nat.le_refl _, Nat.le_refl _⟩ rfl (Nat.le_of_ble_eq_true rfl) dX7_choose_113) hI (by decide) (fun σ_61 H locs hpσ_61 hkσ_61 hI => ?_)
          obtain ⟨ahpσ_61, bhpσ_61⟩ := hpσ_61
          have fr_σ_61 := fr_σ_12.call bhpσ_61 rfl rfl
          replace hF := q_letX hF ahpσ_61
          exact q_retv E hr hlk hI ⟨(hF.trans hout), fr_σ_61⟩ dX7_choose_116
        · skip
          replace hF := q_ifn hF c_56
          refine lv_aload_n hx hb dX7_choose_86 rfl (lv_at hl 3 rfl) ?_
          refine q_ci (q_runV (As := []) (rest := []) E (hml.trans hl.1.symm) hI (c_X7_draw l X σ_12 a ha) kv_X7_179 ha ⟨rfl, by decide⟩ (show vwCl[6]? = some (RX7, TX7, 8) from rfl) rfl ⟨Nat.le_of_ble_eq_true rfl, Nat.le_of_ble_eq_true rfl⟩ ⟨Nat.le_refl _, Nat.le_refl _⟩ rfl (Nat.le_of_ble_eq_true rfl) dX7_choose_87) hI (by decide) (fun r_62 σ_63 H locs hpσ_63 hkσ_63 hI => ?_)
          obtain ⟨ahpσ_63, bhpσ_63⟩ := hpσ_63
          have fr_σ_63 := fr_σ_12.call bhpσ_63 rfl rfl
          replace hF := q_biX hF ahpσ_63
          refine lv_aload_n hx hb dX7_choose_90 rfl (lv_at hl 4 rfl) ?_
          refine gs_X7_77_1 E hI hr1 dX7_choose_91 ?_
          refine gs_X7_91_2 E hI (q_tk (k' := 2) hI hr1 rfl (by decide)) dX7_choose_94 ?_
          refine lv_aload_n hx hb dX7_choose_97 rfl (lv_at hl 4 rfl) ?_
          refine gs_X7_138_1 E hI hr1 dX7_choose_98 ?_
          refine lv_topi (fun f_64 ef_64 => ?_)
          replace hF := q_letX hF ef_64
          refine q_ci (q_runV (As := [.int f_64]) (rest := [.int r_62]) E (hml.trans hl.1.symm) hI (c_X5_get l X σ_63 (q_rf X (q_rf X r1 1) 3) f_64 (q_tk (k' := 5) hI (q_tk (k' := 2) hI hr1 rfl (by decide)) rfl (by decide))) kv_X7_58 (q_tk (k' := 5) hI (q_tk (k' := 2) hI hr1 rfl (by decide)) rfl (by decide)) ⟨rfl, by decide⟩ (show vwCl[4]? = some (RX5, TX5, 1) from rfl) rfl ⟨Nat.le_of_ble_eq_true rfl, Nat.le_of_ble_eq_true rfl⟩ ⟨Nat.le_refl _, Nat.le_refl _⟩ rfl (Nat.le_of_ble_eq_true rfl) dX7_choose_101) hI (by decide) (fun r_65 σ_66 H locs hpσ_66 hkσ_66 hI => ?_)
          obtain ⟨ahpσ_66, bhpσ_66⟩ := hpσ_66
          rw [ahpσ_66] at hI
          replace hF := q_letX hF bhpσ_66
          refine q_icmp_ge (A := r_62.toInt) (B := r_65.toInt) E rfl rfl (tgt := 116) dX7_choose_104 (by decide) (fun c_67 => ?_) (fun c_67 => ?_)
          · skip
            replace hF := q_ifn hF (Int.not_lt.mpr c_67)
            exact q_retv E hr hlk hI ⟨(hF.trans hout), fr_σ_63⟩ dX7_choose_116
          · skip
            replace hF := q_ifp hF c_67
            refine lv_aload_n hx hb dX7_choose_107 rfl (lv_at hl 4 rfl) ?_
            refine lv_aload_n hx hb dX7_choose_108 rfl (lv_at hl 4 rfl) ?_
            refine q_ci (q_runS (As := [.ref r1]) (rest := [.ref r1]) E (hml.trans hl.1.symm) hI (c_X7_fullestOther l X σ_63 r1 hr1) ks_X7_182 rfl ⟨Nat.le_of_ble_eq_true rfl, Nat.le_of_ble_eq_true rfl⟩ ⟨Nat.le_refl _, Nat.le_refl _⟩ rfl (Nat.le_of_ble_eq_true rfl) dX7_choose_109) hI (by decide) (fun r_68 σ_69 H locs hpσ_69 hkσ_69 hI => ?_)
            obtain ⟨ahpσ_69, bhpσ_69⟩ := hpσ_69
            rw [ahpσ_69] at hI
            replace hF := q_letX hF bhpσ_69
            refine lv_iconst (v := 1) hx hb dX7_choose_112 (by decide) ?_
            have kc_70 : (1 : Int32).toInt = 1 := rfl
            refine q_cv (q_runV (As := [.int r_68, .int 1]) (rest := []) E (hml.trans hl.1.symm) hI (c_X0_want l X σ_63 r1 r_68 (1 : Int32) hr1) kv_X7_176 hr1 ⟨rfl, by decide⟩ (show vwCl[0]? = some (RX0, TX0, 15) from rfl) rfl ⟨Nat.le_of_ble_eq_true rfl, Nat.le_of_ble_eq_true rfl⟩ ⟨Nat.le_refl _, Nat.le_refl _⟩ rfl (Nat.le_of_ble_eq_true rfl) dX7_choose_113) hI (by decide) (fun σ_72 H locs hpσ_72 hkσ_72 hI => ?_)
            obtain ⟨ahpσ_72, bhpσ_72⟩ := hpσ_72
            have fr_σ_72 := fr_σ_63.call bhpσ_72 rfl rfl
            replace hF := q_letX hF ahpσ_72
            exact q_retv E hr hlk hI ⟨(hF.trans hout), fr_σ_72⟩ dX7_choose_116

set_option maxRecDepth 100000 in
set_option maxHeartbeats 4000000 in
theorem c_X7_firstDoubter (l : Launch) (X : XW) (σ : ST) (a : Nat) (r1 : Nat) (ha : q_kd X a = 7) (hr1 : q_kd X r1 = 1) : Met l yX7_firstDoubter (q_ws yX7_firstDoubter cX7_firstDoubter 4 (some .int)) (q_rm 3 65) (q_P X σ [.ref a, .ref r1]) (q_Qi X 8 σ (fun (r : Int32) (σ' : ST) => (r, σ') = F_X7_firstDoubter X σ a r1 ∧ q_ow [(7, 6)] [] X σ σ')) 0 0 (q_reg X) := by
  refine q_met 8 (by first | exact rfl | decide +kernel) rfl (Nat.le_of_ble_eq_true rfl) (fun p e s m below meth c E hml hr hlk hI ls hl => ?_)
  have hx := E.1
  have hb := E.2.1
  have hl : lv_has ls 4 [(0, .ref a), (1, .ref r1)] := hl
  have fr_σ : q_ow [(7, 6)] [] X σ σ := q_ow.rf
  obtain ⟨out, hout⟩ : ∃ o, o = F_X7_firstDoubter X σ a r1 := ⟨_, rfl⟩
  have hF := hout.symm
  unfold F_X7_firstDoubter at hF
  refine lv_iconst (v := 1) hx hb dX7_firstDoubter_0 (by decide) ?_
  refine lv_istore_n (lv' := [(2, .int 1), (0, .ref a), (1, .ref r1)]) hx hb dX7_firstDoubter_1 rfl hl (by decide) rfl (fun ls hl => ?_)
  have L_2_3 : ∀ (k_3 : Nat) (x_1 : Int32) (σ_2 : ST) (H : Heap) (locs : List Loc) (ls : Array Slot), (2147483647 - x_1.toInt).toNat < k_3 → (0 ≤ x_1.toInt) → (q_ow [(7, 6)] [] X σ σ_2) → (F_X7_firstDoubter_L2_1 X r1 a k_3 x_1 σ_2 = out) → q_I X 8 σ s.heap locs σ_2 H → lv_has ls 4 [(0, .ref a), (1, .ref r1), (2, .int x_1)] → W p l e (q_rm 3 65) s m ([.ref a, .ref r1] : List Value).toArray below meth c H locs 0 0 (MQ below (q_Qi X 8 σ (fun (r : Int32) (σ' : ST) => (r, σ') = F_X7_firstDoubter X σ a r1 ∧ q_ow [(7, 6)] [] X σ σ')) ([.ref a, .ref r1] : List Value).toArray s 0 0 (q_reg X)) (F0 m 2 ls []) := by
    clear hF
    intro k_3
    induction k_3 with
    | zero =>
      intro x_1 σ_2 H locs ls hms
      exact absurd hms (Nat.not_lt_zero _)
    | succ k_3 ih2 =>
      intro x_1 σ_2 H locs ls hm2 hge2 fr_σ_2 hF hI hl
      replace hF := (F_X7_firstDoubter_L2_1_s).symm.trans hF
      unfold F_X7_firstDoubter_B2_1 at hF
      refine lv_iload_n hx hb dX7_firstDoubter_2 rfl (lv_at hl 2 rfl) ?_
      refine lv_aload_n hx hb dX7_firstDoubter_3 rfl (lv_at hl 1 rfl) ?_
      refine gs_X7_129_1 E hI hr1 dX7_firstDoubter_4 ?_
      refine gs_X7_133_6 E hI (q_tk (k' := 6) hI hr1 rfl (by decide)) dX7_firstDoubter_7 ?_
      refine lv_topi (fun f_4 ef_4 => ?_)
      replace hF := q_letX hF ef_4
      have gc_5_x_1 := q_rng x_1
      have gc_5_f_4 := q_rng f_4
      refine q_icmp_ge (A := x_1.toInt) (B := f_4.toInt) E rfl rfl (tgt := 60) dX7_firstDoubter_10 (by decide) (fun c_5 => ?_) (fun c_5 => ?_)
      · skip
        replace hF := q_ifn hF (Int.not_lt.mpr c_5)
        skip
        refine lv_iconst (v := (-1)) hx hb dX7_firstDoubter_60 (by decide) ?_
        exact q_reti E hr hlk hI ⟨(hF.trans hout), fr_σ_2⟩ dX7_firstDoubter_61
      · skip
        replace hF := q_ifp hF c_5
        refine lv_aload_n hx hb dX7_firstDoubter_13 rfl (lv_at hl 1 rfl) ?_
        refine gs_X7_129_1 E hI hr1 dX7_firstDoubter_14 ?_
        refine lv_aload_n hx hb dX7_firstDoubter_17 rfl (lv_at hl 1 rfl) ?_
        refine gs_X7_138_1 E hI hr1 dX7_firstDoubter_18 ?_
        refine lv_topi (fun f_6 ef_6 => ?_)
        replace hF := q_letX hF ef_6
        refine lv_iload_n hx hb dX7_firstDoubter_21 rfl (lv_at hl 2 rfl) ?_
        refine q_ci (q_runV (As := [.int f_6, .int x_1]) (rest := []) E (hml.trans hl.1.symm) hI (c_X6_playerAfter l X σ_2 (q_rf X r1 0) f_6 x_1 (q_tk (k' := 6) hI hr1 rfl (by decide))) kv_X7_188 (q_tk (k' := 6) hI hr1 rfl (by decide)) ⟨rfl, by decide⟩ (show vwCl[5]? = some (RX6, TX6, 8) from rfl) rfl ⟨Nat.le_of_ble_eq_true rfl, Nat.le_of_ble_eq_true rfl⟩ ⟨Nat.le_refl _, Nat.le_refl _⟩ rfl (Nat.le_of_ble_eq_true rfl) dX7_firstDoubter_22) hI (by decide) (fun r_7 σ_8 H locs hpσ_8 hkσ_8 hI => ?_)
        obtain ⟨ahpσ_8, bhpσ_8⟩ := hpσ_8
        rw [ahpσ_8] at hI
        replace hF := q_letX hF bhpσ_8
        refine lv_istore_n (lv' := [(3, .int r_7), (0, .ref a), (1, .ref r1), (2, .int x_1)]) hx hb dX7_firstDoubter_25 rfl hl (by decide) rfl (fun ls hl => ?_)
        refine lv_aload_n hx hb dX7_firstDoubter_26 rfl (lv_at hl 2 rfl) ?_
        refine lv_iload_n hx hb dX7_firstDoubter_27 rfl (lv_at hl 0 rfl) ?_
        refine q_ci (q_runV (As := [.int r_7]) (rest := []) E (hml.trans hl.1.symm) hI (c_X0_isImpossibleFor l X σ_2 r1 r_7 hr1) kv_X7_191 hr1 ⟨rfl, by decide⟩ (show vwCl[0]? = some (RX0, TX0, 15) from rfl) rfl ⟨Nat.le_of_ble_eq_true rfl, Nat.le_of_ble_eq_true rfl⟩ ⟨Nat.le_refl _, Nat.le_refl _⟩ rfl (Nat.le_of_ble_eq_true rfl) dX7_firstDoubter_28) hI (by decide) (fun r_9 σ_10 H locs hpσ_10 hkσ_10 hI => ?_)
        obtain ⟨ahpσ_10, bhpσ_10, chpσ_10⟩ := hpσ_10
        rw [ahpσ_10] at hI
        replace hF := q_letX hF chpσ_10
        refine q_if_ne (A := r_9.toInt) E rfl (tgt := 52) dX7_firstDoubter_31 (by decide) (fun c_11 => ?_) (fun c_11 => ?_)
        · skip
          replace hF := q_ifn hF c_11
          replace c_11 := q_ifOne bhpσ_10 c_11
          skip
          refine lv_iload_n hx hb dX7_firstDoubter_52 rfl (lv_at hl 0 rfl) ?_
          exact q_reti E hr hlk hI ⟨(hF.trans hout), fr_σ_2⟩ dX7_firstDoubter_53
        · skip
          replace hF := q_ifp hF c_11
          refine lv_aload_n hx hb dX7_firstDoubter_34 rfl (lv_at hl 1 rfl) ?_
          refine q_ci (q_runV (As := []) (rest := []) E (hml.trans hl.1.symm) hI (c_X7_draw l X σ_2 a ha) kv_X7_179 ha ⟨rfl, by decide⟩ (show vwCl[6]? = some (RX7, TX7, 8) from rfl) rfl ⟨Nat.le_of_ble_eq_true rfl, Nat.le_of_ble_eq_true rfl⟩ ⟨Nat.le_refl _, Nat.le_refl _⟩ rfl (Nat.le_of_ble_eq_true rfl) dX7_firstDoubter_35) hI (by decide) (fun r_12 σ_13 H locs hpσ_13 hkσ_13 hI => ?_)
          obtain ⟨ahpσ_13, bhpσ_13⟩ := hpσ_13
          have fr_σ_13 := fr_σ_2.call bhpσ_13 rfl rfl
          replace hF := q_biX hF ahpσ_13
          refine lv_aload_n hx hb dX7_firstDoubter_38 rfl (lv_at hl 2 rfl) ?_
          refine gs_X7_77_1 E hI hr1 dX7_firstDoubter_39 ?_
          refine gs_X7_99_2 E hI (q_tk (k' := 2) hI hr1 rfl (by decide)) dX7_firstDoubter_42 ?_
          refine lv_iload_n hx hb dX7_firstDoubter_45 rfl (lv_at hl 0 rfl) ?_
          refine q_ci (q_runV (As := [.int r_7]) (rest := [.int r_12]) E (hml.trans hl.1.symm) hI (c_X5_get l X σ_13 (q_rf X (q_rf X r1 1) 4) r_7 (q_tk (k' := 5) hI (q_tk (k' := 2) hI hr1 rfl (by decide)) rfl (by decide))) kv_X7_58 (q_tk (k' := 5) hI (q_tk (k' := 2) hI hr1 rfl (by decide)) rfl (by decide)) ⟨rfl, by decide⟩ (show vwCl[4]? = some (RX5, TX5, 1) from rfl) rfl ⟨Nat.le_of_ble_eq_true rfl, Nat.le_of_ble_eq_true rfl⟩ ⟨Nat.le_refl _, Nat.le_refl _⟩ rfl (Nat.le_of_ble_eq_true rfl) dX7_firstDoubter_46) hI (by decide) (fun r_14 σ_15 H locs hpσ_15 hkσ_15 hI => ?_)
          obtain ⟨ahpσ_15, bhpσ_15⟩ := hpσ_15
          rw [ahpσ_15] at hI
          replace hF := q_letX hF bhpσ_15
          have gc_16_r_12 := q_rng r_12
          have gc_16_r_14 := q_rng r_14
          refine q_icmp_ge (A := r_12.toInt) (B := r_14.toInt) E rfl rfl (tgt := 54) dX7_firstDoubter_49 (by decide) (fun c_16 => ?_) (fun c_16 => ?_)
          · skip
            replace hF := q_ifn hF (Int.not_lt.mpr c_16)
            obtain ⟨z_17, ez_17⟩ : ∃ y : Int32, y = x_1 + 1 := ⟨_, rfl⟩
            replace hF := q_letX hF ez_17
            refine lv_iinc (v := z_17) (lv' := [(2, .int z_17), (3, .int r_7), (0, .ref a), (1, .ref r1)]) hx hb dX7_firstDoubter_54 hl (k := 3) rfl (by rw [ez_17]; rfl) (by decide) rfl (fun ls hl => ?_)
            have iz_17 : z_17.toInt = x_1.toInt + 1 := q_inc ez_17 (by first | (clear hm2 ahpσ_8 bhpσ_8 ahpσ_10 bhpσ_10 chpσ_10 c_11 ahpσ_13 bhpσ_13 ahpσ_15 bhpσ_15 gc_16_r_12 gc_16_r_14 c_16; omega) | omega)
            refine lv_goto (tgt := 2) hx hb dX7_firstDoubter_57 (by decide) ?_
            exact ih2 z_17 σ_13 _ _ ls (by first | (clear ahpσ_8 bhpσ_8 ahpσ_10 bhpσ_10 chpσ_10 c_11 ahpσ_13 bhpσ_13 ahpσ_15 bhpσ_15 gc_16_r_12 gc_16_r_14 c_16; omega) | omega) (by first | (clear hm2 gc_5_f_4 c_5 ahpσ_8 bhpσ_8 ahpσ_10 bhpσ_10 chpσ_10 c_11 ahpσ_13 bhpσ_13 ahpσ_15 bhpσ_15 gc_16_r_12 gc_16_r_14 c_16; omega) | omega) fr_σ_13 hF hI (lv_sub hl [2, 3, 0] rfl)
          · skip
            replace hF := q_ifp hF c_16
            skip
            refine lv_iload_n hx hb dX7_firstDoubter_52 rfl (lv_at hl 0 rfl) ?_
            exact q_reti E hr hlk hI ⟨(hF.trans hout), fr_σ_13⟩ dX7_firstDoubter_53
  exact L_2_3 ((2147483647 - (1 : Int32).toInt).toNat + 1) 1 σ _ _ ls (Nat.lt_succ_self _) (by decide) fr_σ hF hI (lv_sub hl [1, 2, 0] rfl)

set_option maxRecDepth 100000 in
set_option maxHeartbeats 4000000 in
theorem c_X7_takeTurn (l : Launch) (X : XW) (σ : ST) (a : Nat) (r1 : Nat) (ha : q_kd X a = 7) (hr1 : q_kd X r1 = 1) : Met l yX7_takeTurn (q_ws yX7_takeTurn cX7_takeTurn 3 none) (q_rm 4 92) (q_P X σ [.ref a, .ref r1]) (q_Qv X 8 σ (fun (σ' : ST) => σ' = F_X7_takeTurn X σ a r1 ∧ q_ow [(1, 4), (1, 5), (1, 6), (1, 7), (1, 9), (3, 0), (3, 1), (7, 1), (7, 2), (7, 3), (7, 4), (7, 6), (20, 99)] [] X σ σ')) 0 0 (q_reg X) := by
  refine q_met 8 (by first | exact rfl | decide +kernel) rfl (Nat.le_of_ble_eq_true rfl) (fun p e s m below meth c E hml hr hlk hI ls hl => ?_)
  have hx := E.1
  have hb := E.2.1
  have hl : lv_has ls 3 [(0, .ref a), (1, .ref r1)] := hl
  have fr_σ : q_ow [(1, 4), (1, 5), (1, 6), (1, 7), (1, 9), (3, 0), (3, 1), (7, 1), (7, 2), (7, 3), (7, 4), (7, 6), (20, 99)] [] X σ σ := q_ow.rf
  obtain ⟨out, hout⟩ : ∃ o, o = F_X7_takeTurn X σ a r1 := ⟨_, rfl⟩
  have hF := hout.symm
  unfold F_X7_takeTurn at hF
  refine lv_aload_n hx hb dX7_takeTurn_0 rfl (lv_at hl 1 rfl) ?_
  refine gs_X7_123_1 E hI hr1 dX7_takeTurn_1 ?_
  refine lv_topi (fun f_1 ef_1 => ?_)
  replace hF := q_letX hF ef_1
  have bf_1 : 0 ≤ f_1.toInt ∧ f_1.toInt ≤ 1 := by rw [ef_1]; exact q_bd hI hr1 rfl
  have J_11_2 : ∀  (σ_2 : ST) (H : Heap) (locs : List Loc) (ls : Array Slot), (q_ow [(1, 4), (1, 5), (1, 6), (1, 7), (1, 9), (3, 0), (3, 1), (7, 1), (7, 2), (7, 3), (7, 4), (7, 6), (20, 99)] [] X σ σ_2) → (F_X7_takeTurn_J11_1 X r1 a σ_2 = out) → q_I X 8 σ s.heap locs σ_2 H → lv_has ls 3 [(0, .ref a), (1, .ref r1)] → W p l e (q_rm 4 92) s m ([.ref a, .ref r1] : List Value).toArray below meth c H locs 0 0 (MQ below (q_Qv X 8 σ (fun (σ' : ST) => σ' = F_X7_takeTurn X σ a r1 ∧ q_ow [(1, 4), (1, 5), (1, 6), (1, 7), (1, 9), (3, 0), (3, 1), (7, 1), (7, 2), (7, 3), (7, 4), (7, 6), (20, 99)] [] X σ σ')) ([.ref a, .ref r1] : List Value).toArray s 0 0 (q_reg X)) (F0 m 11 ls []) := by
    clear hF
    intro σ_2 H locs ls fr_σ_2 hF hI hl
    unfold F_X7_takeTurn_J11_1 at hF
    refine lv_aload_n hx hb dX7_takeTurn_11 rfl (lv_at hl 1 rfl) ?_
    refine gs_X7_120_1 E hI hr1 dX7_takeTurn_12 ?_
    refine lv_topi (fun f_3 ef_3 => ?_)
    replace hF := q_letX hF ef_3
    refine lv_iconst (v := (-1)) hx hb dX7_takeTurn_15 (by decide) ?_
    refine q_icmp_ne (A := f_3.toInt) (B := (-1)) E rfl (by decide) (tgt := 47) dX7_takeTurn_16 (by decide) (fun c_4 => ?_) (fun c_4 => ?_)
    · skip
      replace hF := q_ifn hF c_4
      refine lv_aload_n hx hb dX7_takeTurn_47 rfl (lv_at hl 0 rfl) ?_
      refine lv_dup hx hb dX7_takeTurn_48 rfl ?_
      refine gs_X7_15_7 E hI ha dX7_takeTurn_49 ?_
      refine lv_topi (fun f_5 ef_5 => ?_)
      replace hF := q_letX hF ef_5
      refine lv_iconst (v := 1) hx hb dX7_takeTurn_52 (by decide) ?_
      refine lv_iadd hx hb dX7_takeTurn_53 ?_
      refine lv_topi (fun z_6 ez_6 => ?_)
      replace hF := q_letX hF ez_6
      refine ps_X7_15_7 E hI ha (by decide) dX7_takeTurn_54 (fun H locs σ_7 hσ_7 hI => ?_)
      replace hF := q_letX hF hσ_7
      have fr_σ_7 := fr_σ_2.si hσ_7 ha rfl
      exact q_retv E hr hlk hI ⟨(hF.trans hout), fr_σ_7⟩ dX7_takeTurn_57
    · skip
      replace hF := q_ifp hF c_4
      refine lv_aload_n hx hb dX7_takeTurn_19 rfl (lv_at hl 1 rfl) ?_
      refine gs_X7_129_1 E hI hr1 dX7_takeTurn_20 ?_
      refine gs_X7_133_6 E hI (q_tk (k' := 6) hI hr1 rfl (by decide)) dX7_takeTurn_23 ?_
      refine lv_topi (fun f_8 ef_8 => ?_)
      replace hF := q_letX hF ef_8
      refine lv_iconst (v := 2) hx hb dX7_takeTurn_26 (by decide) ?_
      refine q_icmp_lt (A := f_8.toInt) (B := 2) E rfl (by decide) (tgt := 47) dX7_takeTurn_27 (by decide) (fun c_9 => ?_) (fun c_9 => ?_)
      · skip
        replace hF := q_ifp hF c_9
        refine lv_aload_n hx hb dX7_takeTurn_47 rfl (lv_at hl 0 rfl) ?_
        refine lv_dup hx hb dX7_takeTurn_48 rfl ?_
        refine gs_X7_15_7 E hI ha dX7_takeTurn_49 ?_
        refine lv_topi (fun f_10 ef_10 => ?_)
        replace hF := q_letX hF ef_10
        refine lv_iconst (v := 1) hx hb dX7_takeTurn_52 (by decide) ?_
        refine lv_iadd hx hb dX7_takeTurn_53 ?_
        refine lv_topi (fun z_11 ez_11 => ?_)
        replace hF := q_letX hF ez_11
        refine ps_X7_15_7 E hI ha (by decide) dX7_takeTurn_54 (fun H locs σ_12 hσ_12 hI => ?_)
        replace hF := q_letX hF hσ_12
        have fr_σ_12 := fr_σ_2.si hσ_12 ha rfl
        exact q_retv E hr hlk hI ⟨(hF.trans hout), fr_σ_12⟩ dX7_takeTurn_57
      · skip
        replace hF := q_ifn hF (Int.not_lt.mpr c_9)
        refine lv_aload_n hx hb dX7_takeTurn_30 rfl (lv_at hl 1 rfl) ?_
        refine gs_X7_77_1 E hI hr1 dX7_takeTurn_31 ?_
        refine gs_X7_102_2 E hI (q_tk (k' := 2) hI hr1 rfl (by decide)) dX7_takeTurn_34 ?_
        refine lv_aload_n hx hb dX7_takeTurn_37 rfl (lv_at hl 1 rfl) ?_
        refine gs_X7_138_1 E hI hr1 dX7_takeTurn_38 ?_
        refine lv_topi (fun f_13 ef_13 => ?_)
        replace hF := q_letX hF ef_13
        refine q_ci (q_runV (As := [.int f_13]) (rest := []) E (hml.trans hl.1.symm) hI (c_X5_get l X σ_2 (q_rf X (q_rf X r1 1) 2) f_13 (q_tk (k' := 5) hI (q_tk (k' := 2) hI hr1 rfl (by decide)) rfl (by decide))) kv_X7_58 (q_tk (k' := 5) hI (q_tk (k' := 2) hI hr1 rfl (by decide)) rfl (by decide)) ⟨rfl, by decide⟩ (show vwCl[4]? = some (RX5, TX5, 1) from rfl) rfl ⟨Nat.le_of_ble_eq_true rfl, Nat.le_of_ble_eq_true rfl⟩ ⟨Nat.le_refl _, Nat.le_refl _⟩ rfl (Nat.le_of_ble_eq_true rfl) dX7_takeTurn_41) hI (by decide) (fun r_14 σ_15 H locs hpσ_15 hkσ_15 hI => ?_)
        obtain ⟨ahpσ_15, bhpσ_15⟩ := hpσ_15
        rw [ahpσ_15] at hI
        replace hF := q_letX hF bhpσ_15
        refine q_if_ne (A := r_14.toInt) E rfl (tgt := 58) dX7_takeTurn_44 (by decide) (fun c_16 => ?_) (fun c_16 => ?_)
        · skip
          replace hF := q_ifn hF c_16
          refine lv_aload_n hx hb dX7_takeTurn_58 rfl (lv_at hl 0 rfl) ?_
          refine lv_aload_n hx hb dX7_takeTurn_59 rfl (lv_at hl 1 rfl) ?_
          refine q_cv (q_runV (As := [.ref r1]) (rest := []) E (hml.trans hl.1.symm) hI (c_X7_choose l X σ_2 a r1 ha hr1) kv_X7_141 ha ⟨rfl, by decide⟩ (show vwCl[6]? = some (RX7, TX7, 8) from rfl) rfl ⟨Nat.le_of_ble_eq_true rfl, Nat.le_of_ble_eq_true rfl⟩ ⟨Nat.le_refl _, Nat.le_refl _⟩ rfl (Nat.le_of_ble_eq_true rfl) dX7_takeTurn_60) hI (by decide) (fun σ_18 H locs hpσ_18 hkσ_18 hI => ?_)
          obtain ⟨ahpσ_18, bhpσ_18⟩ := hpσ_18
          have fr_σ_18 := fr_σ_2.call bhpσ_18 rfl rfl
          replace hF := q_letX hF ahpσ_18
          refine lv_aload_n hx hb dX7_takeTurn_63 rfl (lv_at hl 1 rfl) ?_
          refine q_cv (q_runV (As := []) (rest := []) E (hml.trans hl.1.symm) hI (c_X0_layWanted l X σ_18 r1 hr1) kv_X7_144 hr1 ⟨rfl, by decide⟩ (show vwCl[0]? = some (RX0, TX0, 15) from rfl) rfl ⟨Nat.le_of_ble_eq_true rfl, Nat.le_of_ble_eq_true rfl⟩ ⟨Nat.le_refl _, Nat.le_refl _⟩ rfl (Nat.le_of_ble_eq_true rfl) dX7_takeTurn_64) hI (by decide) (fun σ_20 H locs hpσ_20 hkσ_20 hI => ?_)
          obtain ⟨ahpσ_20, bhpσ_20⟩ := hpσ_20
          have fr_σ_20 := fr_σ_18.call bhpσ_20 rfl rfl
          replace hF := q_letX hF ahpσ_20
          refine lv_aload_n hx hb dX7_takeTurn_67 rfl (lv_at hl 0 rfl) ?_
          refine lv_dup hx hb dX7_takeTurn_68 rfl ?_
          refine gs_X7_18_7 E hI ha dX7_takeTurn_69 ?_
          refine lv_topi (fun f_21 ef_21 => ?_)
          replace hF := q_letX hF ef_21
          refine lv_iconst (v := 1) hx hb dX7_takeTurn_72 (by decide) ?_
          refine lv_iadd hx hb dX7_takeTurn_73 ?_
          refine lv_topi (fun z_22 ez_22 => ?_)
          replace hF := q_letX hF ez_22
          refine ps_X7_18_7 E hI ha (by decide) dX7_takeTurn_74 (fun H locs σ_23 hσ_23 hI => ?_)
          replace hF := q_letX hF hσ_23
          have fr_σ_23 := fr_σ_20.si hσ_23 ha rfl
          refine lv_aload_n hx hb dX7_takeTurn_77 rfl (lv_at hl 0 rfl) ?_
          refine lv_aload_n hx hb dX7_takeTurn_78 rfl (lv_at hl 1 rfl) ?_
          refine q_ci (q_runV (As := [.ref r1]) (rest := []) E (hml.trans hl.1.symm) hI (c_X7_firstDoubter l X σ_23 a r1 ha hr1) kv_X7_147 ha ⟨rfl, by decide⟩ (show vwCl[6]? = some (RX7, TX7, 8) from rfl) rfl ⟨Nat.le_of_ble_eq_true rfl, Nat.le_of_ble_eq_true rfl⟩ ⟨Nat.le_refl _, Nat.le_refl _⟩ rfl (Nat.le_of_ble_eq_true rfl) dX7_takeTurn_79) hI (by decide) (fun r_24 σ_25 H locs hpσ_25 hkσ_25 hI => ?_)
          obtain ⟨ahpσ_25, bhpσ_25⟩ := hpσ_25
          have fr_σ_25 := fr_σ_23.call bhpσ_25 rfl rfl
          replace hF := q_biX hF ahpσ_25
          refine lv_istore_n (lv' := [(2, .int r_24), (0, .ref a), (1, .ref r1)]) hx hb dX7_takeTurn_82 rfl hl (by decide) rfl (fun ls hl => ?_)
          refine lv_iload_n hx hb dX7_takeTurn_83 rfl (lv_at hl 0 rfl) ?_
          refine lv_iconst (v := (-1)) hx hb dX7_takeTurn_84 (by decide) ?_
          refine q_icmp_ne (A := r_24.toInt) (B := (-1)) E rfl (by decide) (tgt := 93) dX7_takeTurn_85 (by decide) (fun c_26 => ?_) (fun c_26 => ?_)
          · skip
            replace hF := q_ifn hF c_26
            refine lv_aload_n hx hb dX7_takeTurn_93 rfl (lv_at hl 1 rfl) ?_
            refine lv_dup hx hb dX7_takeTurn_94 rfl ?_
            refine gs_X7_21_7 E hI ha dX7_takeTurn_95 ?_
            refine lv_topi (fun f_27 ef_27 => ?_)
            replace hF := q_letX hF ef_27
            refine lv_iconst (v := 1) hx hb dX7_takeTurn_98 (by decide) ?_
            refine lv_iadd hx hb dX7_takeTurn_99 ?_
            refine lv_topi (fun z_28 ez_28 => ?_)
            replace hF := q_letX hF ez_28
            refine ps_X7_21_7 E hI ha (by decide) dX7_takeTurn_100 (fun H locs σ_29 hσ_29 hI => ?_)
            replace hF := q_letX hF hσ_29
            have fr_σ_29 := fr_σ_25.si hσ_29 ha rfl
            refine lv_aload_n hx hb dX7_takeTurn_103 rfl (lv_at hl 2 rfl) ?_
            refine gs_X7_109_1 E hI hr1 dX7_takeTurn_104 ?_
            refine q_ci (q_runV (As := []) (rest := []) E (hml.trans hl.1.symm) hI (c_X2_topTruth l X σ_29 (q_rf X r1 2) (q_tk (k' := 3) hI hr1 rfl (by decide))) kv_X7_151 (q_tk (k' := 3) hI hr1 rfl (by decide)) ⟨rfl, by decide⟩ (show vwCl[2]? = some (RX2, TX2, 6) from rfl) rfl ⟨Nat.le_of_ble_eq_true rfl, Nat.le_of_ble_eq_true rfl⟩ ⟨Nat.le_refl _, Nat.le_refl _⟩ rfl (Nat.le_of_ble_eq_true rfl) dX7_takeTurn_107) hI (by decide) (fun r_30 σ_31 H locs hpσ_31 hkσ_31 hI => ?_)
            obtain ⟨ahpσ_31, bhpσ_31⟩ := hpσ_31
            rw [ahpσ_31] at hI
            replace hF := q_letX hF bhpσ_31
            refine q_if_eq (A := r_30.toInt) E rfl (tgt := 123) dX7_takeTurn_110 (by decide) (fun c_32 => ?_) (fun c_32 => ?_)
            · skip
              replace hF := q_ifp hF c_32
              refine lv_aload_n hx hb dX7_takeTurn_123 rfl (lv_at hl 2 rfl) ?_
              refine lv_iload_n hx hb dX7_takeTurn_124 rfl (lv_at hl 0 rfl) ?_
              refine q_ci (q_runV (As := [.int r_24]) (rest := []) E (hml.trans hl.1.symm) hI (c_X0_challenge l X σ_29 r1 r_24 hr1) kv_X7_155 hr1 ⟨rfl, by decide⟩ (show vwCl[0]? = some (RX0, TX0, 15) from rfl) rfl ⟨Nat.le_of_ble_eq_true rfl, Nat.le_of_ble_eq_true rfl⟩ ⟨Nat.le_refl _, Nat.le_refl _⟩ rfl (Nat.le_of_ble_eq_true rfl) dX7_takeTurn_125) hI (by decide) (fun r_33 σ_34 H locs hpσ_34 hkσ_34 hI => ?_)
              obtain ⟨ahpσ_34, bhpσ_34⟩ := hpσ_34
              have fr_σ_34 := fr_σ_29.call bhpσ_34 rfl rfl
              replace hF := q_biX hF ahpσ_34
              refine lv_pop hx hb dX7_takeTurn_128 rfl ?_
              exact q_retv E hr hlk hI ⟨(hF.trans hout), fr_σ_34⟩ dX7_takeTurn_129
            · skip
              replace hF := q_ifn hF c_32
              refine lv_aload_n hx hb dX7_takeTurn_113 rfl (lv_at hl 1 rfl) ?_
              refine lv_dup hx hb dX7_takeTurn_114 rfl ?_
              refine gs_X7_24_7 E hI ha dX7_takeTurn_115 ?_
              refine lv_topi (fun f_35 ef_35 => ?_)
              replace hF := q_letX hF ef_35
              refine lv_iconst (v := 1) hx hb dX7_takeTurn_118 (by decide) ?_
              refine lv_iadd hx hb dX7_takeTurn_119 ?_
              refine lv_topi (fun z_36 ez_36 => ?_)
              replace hF := q_letX hF ez_36
              refine ps_X7_24_7 E hI ha (by decide) dX7_takeTurn_120 (fun H locs σ_37 hσ_37 hI => ?_)
              replace hF := q_letX hF hσ_37
              have fr_σ_37 := fr_σ_29.si hσ_37 ha rfl
              refine lv_aload_n hx hb dX7_takeTurn_123 rfl (lv_at hl 2 rfl) ?_
              refine lv_iload_n hx hb dX7_takeTurn_124 rfl (lv_at hl 0 rfl) ?_
              refine q_ci (q_runV (As := [.int r_24]) (rest := []) E (hml.trans hl.1.symm) hI (c_X0_challenge l X σ_37 r1 r_24 hr1) kv_X7_155 hr1 ⟨rfl, by decide⟩ (show vwCl[0]? = some (RX0, TX0, 15) from rfl) rfl ⟨Nat.le_of_ble_eq_true rfl, Nat.le_of_ble_eq_true rfl⟩ ⟨Nat.le_refl _, Nat.le_refl _⟩ rfl (Nat.le_of_ble_eq_true rfl) dX7_takeTurn_125) hI (by decide) (fun r_38 σ_39 H locs hpσ_39 hkσ_39 hI => ?_)
              obtain ⟨ahpσ_39, bhpσ_39⟩ := hpσ_39
              have fr_σ_39 := fr_σ_37.call bhpσ_39 rfl rfl
              replace hF := q_biX hF ahpσ_39
              refine lv_pop hx hb dX7_takeTurn_128 rfl ?_
              exact q_retv E hr hlk hI ⟨(hF.trans hout), fr_σ_39⟩ dX7_takeTurn_129
          · skip
            replace hF := q_ifp hF c_26
            refine lv_aload_n hx hb dX7_takeTurn_88 rfl (lv_at hl 2 rfl) ?_
            refine q_cv (q_runV (As := []) (rest := []) E (hml.trans hl.1.symm) hI (c_X0_letLie l X σ_25 r1 hr1) kv_X7_126 hr1 ⟨rfl, by decide⟩ (show vwCl[0]? = some (RX0, TX0, 15) from rfl) rfl ⟨Nat.le_of_ble_eq_true rfl, Nat.le_of_ble_eq_true rfl⟩ ⟨Nat.le_refl _, Nat.le_refl _⟩ rfl (Nat.le_of_ble_eq_true rfl) dX7_takeTurn_89) hI (by decide) (fun σ_41 H locs hpσ_41 hkσ_41 hI => ?_)
            obtain ⟨ahpσ_41, bhpσ_41⟩ := hpσ_41
            have fr_σ_41 := fr_σ_25.call bhpσ_41 rfl rfl
            replace hF := q_letX hF ahpσ_41
            exact q_retv E hr hlk hI ⟨(hF.trans hout), fr_σ_41⟩ dX7_takeTurn_92
        · skip
          replace hF := q_ifp hF c_16
          refine lv_aload_n hx hb dX7_takeTurn_47 rfl (lv_at hl 0 rfl) ?_
          refine lv_dup hx hb dX7_takeTurn_48 rfl ?_
          refine gs_X7_15_7 E hI ha dX7_takeTurn_49 ?_
          refine lv_topi (fun f_42 ef_42 => ?_)
          replace hF := q_letX hF ef_42
          refine lv_iconst (v := 1) hx hb dX7_takeTurn_52 (by decide) ?_
          refine lv_iadd hx hb dX7_takeTurn_53 ?_
          refine lv_topi (fun z_43 ez_43 => ?_)
          replace hF := q_letX hF ez_43
          refine ps_X7_15_7 E hI ha (by decide) dX7_takeTurn_54 (fun H locs σ_44 hσ_44 hI => ?_)
          replace hF := q_letX hF hσ_44
          have fr_σ_44 := fr_σ_2.si hσ_44 ha rfl
          exact q_retv E hr hlk hI ⟨(hF.trans hout), fr_σ_44⟩ dX7_takeTurn_57
  refine q_if_eq (A := f_1.toInt) E rfl (tgt := 11) dX7_takeTurn_4 (by decide) (fun c_45 => ?_) (fun c_45 => ?_)
  · skip
    replace hF := q_ifp hF c_45
    exact J_11_2 σ _ _ ls fr_σ hF hI (lv_sub hl [0, 1] rfl)
  · skip
    replace hF := q_ifn hF c_45
    refine lv_aload_n hx hb dX7_takeTurn_7 rfl (lv_at hl 1 rfl) ?_
    refine q_cv (q_runV (As := []) (rest := []) E (hml.trans hl.1.symm) hI (c_X0_letLie l X σ r1 hr1) kv_X7_126 hr1 ⟨rfl, by decide⟩ (show vwCl[0]? = some (RX0, TX0, 15) from rfl) rfl ⟨Nat.le_of_ble_eq_true rfl, Nat.le_of_ble_eq_true rfl⟩ ⟨Nat.le_refl _, Nat.le_refl _⟩ rfl (Nat.le_of_ble_eq_true rfl) dX7_takeTurn_8) hI (by decide) (fun σ_47 H locs hpσ_47 hkσ_47 hI => ?_)
    obtain ⟨ahpσ_47, bhpσ_47⟩ := hpσ_47
    have fr_σ_47 := fr_σ.call bhpσ_47 rfl rfl
    replace hF := q_letX hF ahpσ_47
    exact J_11_2 σ_47 _ _ ls fr_σ_47 hF hI (lv_sub hl [0, 1] rfl)

set_option maxRecDepth 100000 in
set_option maxHeartbeats 4000000 in
theorem c_X7_behindStep (l : Launch) (X : XW) (σ : ST) (a : Nat) (r1 : Nat) (v2 : Int32) (ha : q_kd X a = 7) (hr1 : q_kd X r1 = 1) : Met l yX7_behindStep (q_ws yX7_behindStep cX7_behindStep 8 (some .int)) (q_rm 5 114) (q_P X σ [.ref a, .ref r1, .int v2]) (q_Qi X 8 σ (fun (r : Int32) (σ' : ST) => (r, σ') = F_X7_behindStep X σ a r1 v2 ∧ q_ow [(1, 4), (1, 5), (1, 6), (1, 7), (1, 9), (3, 0), (3, 1), (7, 1), (7, 2), (7, 3), (7, 4), (7, 6), (20, 99)] [] X σ σ')) 0 0 (q_reg X) := by
  refine q_met 8 (by first | exact rfl | decide +kernel) rfl (Nat.le_of_ble_eq_true rfl) (fun p e s m below meth c E hml hr hlk hI ls hl => ?_)
  have hx := E.1
  have hb := E.2.1
  have hl : lv_has ls 8 [(0, .ref a), (1, .ref r1), (2, .int v2)] := hl
  have fr_σ : q_ow [(1, 4), (1, 5), (1, 6), (1, 7), (1, 9), (3, 0), (3, 1), (7, 1), (7, 2), (7, 3), (7, 4), (7, 6), (20, 99)] [] X σ σ := q_ow.rf
  obtain ⟨out, hout⟩ : ∃ o, o = F_X7_behindStep X σ a r1 v2 := ⟨_, rfl⟩
  have hF := hout.symm
  unfold F_X7_behindStep at hF
  refine lv_aload_n hx hb dX7_behindStep_0 rfl (lv_at hl 1 rfl) ?_
  refine gs_X7_45_1 E hI hr1 dX7_behindStep_1 ?_
  refine lv_astore_n (lv' := [(3, .ref (q_rf X r1 3)), (0, .ref a), (1, .ref r1), (2, .int v2)]) hx hb dX7_behindStep_4 rfl hl (by decide) rfl (fun ls hl => ?_)
  refine lv_aload_n hx hb dX7_behindStep_5 rfl (lv_at hl 2 rfl) ?_
  refine gs_X7_77_1 E hI hr1 dX7_behindStep_6 ?_
  refine lv_astore (lv' := [(4, .ref (q_rf X r1 1)), (3, .ref (q_rf X r1 3)), (0, .ref a), (1, .ref r1), (2, .int v2)]) hx hb dX7_behindStep_9 hl (by decide) rfl (fun ls hl => ?_)
  refine lv_aload_n hx hb dX7_behindStep_11 rfl (lv_at hl 1 rfl) ?_
  refine gs_X7_81_8 E hI (q_tk (k' := 8) hI hr1 rfl (by decide)) dX7_behindStep_12 ?_
  refine lv_iload_n hx hb dX7_behindStep_15 rfl (lv_at hl 4 rfl) ?_
  refine q_ci (q_runV (As := [.int v2]) (rest := []) E (hml.trans hl.1.symm) hI (c_X5_get l X σ (q_rf X (q_rf X r1 3) 5) v2 (q_tk (k' := 5) hI (q_tk (k' := 8) hI hr1 rfl (by decide)) rfl (by decide))) kv_X7_58 (q_tk (k' := 5) hI (q_tk (k' := 8) hI hr1 rfl (by decide)) rfl (by decide)) ⟨rfl, by decide⟩ (show vwCl[4]? = some (RX5, TX5, 1) from rfl) rfl ⟨Nat.le_of_ble_eq_true rfl, Nat.le_of_ble_eq_true rfl⟩ ⟨Nat.le_refl _, Nat.le_refl _⟩ rfl (Nat.le_of_ble_eq_true rfl) dX7_behindStep_16) hI (by decide) (fun r_1 σ_2 H locs hpσ_2 hkσ_2 hI => ?_)
  obtain ⟨ahpσ_2, bhpσ_2⟩ := hpσ_2
  rw [ahpσ_2] at hI
  replace hF := q_letX hF bhpσ_2
  refine lv_istore (lv' := [(5, .int r_1), (4, .ref (q_rf X r1 1)), (3, .ref (q_rf X r1 3)), (0, .ref a), (1, .ref r1), (2, .int v2)]) hx hb dX7_behindStep_19 hl (by decide) rfl (fun ls hl => ?_)
  refine lv_aload_n hx hb dX7_behindStep_21 rfl (lv_at hl 2 rfl) ?_
  refine gs_X7_84_8 E hI (q_tk (k' := 8) hI hr1 rfl (by decide)) dX7_behindStep_22 ?_
  refine lv_iload_n hx hb dX7_behindStep_25 rfl (lv_at hl 5 rfl) ?_
  refine q_ci (q_runV (As := [.int v2]) (rest := []) E (hml.trans hl.1.symm) hI (c_X5_get l X σ (q_rf X (q_rf X r1 3) 7) v2 (q_tk (k' := 5) hI (q_tk (k' := 8) hI hr1 rfl (by decide)) rfl (by decide))) kv_X7_58 (q_tk (k' := 5) hI (q_tk (k' := 8) hI hr1 rfl (by decide)) rfl (by decide)) ⟨rfl, by decide⟩ (show vwCl[4]? = some (RX5, TX5, 1) from rfl) rfl ⟨Nat.le_of_ble_eq_true rfl, Nat.le_of_ble_eq_true rfl⟩ ⟨Nat.le_refl _, Nat.le_refl _⟩ rfl (Nat.le_of_ble_eq_true rfl) dX7_behindStep_26) hI (by decide) (fun r_3 σ_4 H locs hpσ_4 hkσ_4 hI => ?_)
  obtain ⟨ahpσ_4, bhpσ_4⟩ := hpσ_4
  rw [ahpσ_4] at hI
  replace hF := q_letX hF bhpσ_4
  refine lv_istore (lv' := [(6, .int r_3), (5, .int r_1), (4, .ref (q_rf X r1 1)), (3, .ref (q_rf X r1 3)), (0, .ref a), (1, .ref r1), (2, .int v2)]) hx hb dX7_behindStep_29 hl (by decide) rfl (fun ls hl => ?_)
  refine lv_aload_n hx hb dX7_behindStep_31 rfl (lv_at hl 3 rfl) ?_
  refine gs_X7_70_8 E hI (q_tk (k' := 8) hI hr1 rfl (by decide)) dX7_behindStep_32 ?_
  refine lv_iload_n hx hb dX7_behindStep_35 rfl (lv_at hl 6 rfl) ?_
  refine q_ci (q_runV (As := [.int v2]) (rest := []) E (hml.trans hl.1.symm) hI (c_X5_get l X σ (q_rf X (q_rf X r1 3) 4) v2 (q_tk (k' := 5) hI (q_tk (k' := 8) hI hr1 rfl (by decide)) rfl (by decide))) kv_X7_58 (q_tk (k' := 5) hI (q_tk (k' := 8) hI hr1 rfl (by decide)) rfl (by decide)) ⟨rfl, by decide⟩ (show vwCl[4]? = some (RX5, TX5, 1) from rfl) rfl ⟨Nat.le_of_ble_eq_true rfl, Nat.le_of_ble_eq_true rfl⟩ ⟨Nat.le_refl _, Nat.le_refl _⟩ rfl (Nat.le_of_ble_eq_true rfl) dX7_behindStep_36) hI (by decide) (fun r_5 σ_6 H locs hpσ_6 hkσ_6 hI => ?_)
  obtain ⟨ahpσ_6, bhpσ_6⟩ := hpσ_6
  rw [ahpσ_6] at hI
  replace hF := q_letX hF bhpσ_6
  refine lv_iconst (v := 1) hx hb dX7_behindStep_39 (by decide) ?_
  refine lv_iadd hx hb dX7_behindStep_40 ?_
  refine lv_topi (fun z_7 ez_7 => ?_)
  replace hF := q_letX hF ez_7
  refine lv_istore (lv' := [(7, .int z_7), (6, .int r_3), (5, .int r_1), (4, .ref (q_rf X r1 1)), (3, .ref (q_rf X r1 3)), (0, .ref a), (1, .ref r1), (2, .int v2)]) hx hb dX7_behindStep_41 hl (by decide) rfl (fun ls hl => ?_)
  refine lv_aload_n hx hb dX7_behindStep_43 rfl (lv_at hl 4 rfl) ?_
  refine gs_X7_55_8 E hI (q_tk (k' := 8) hI hr1 rfl (by decide)) dX7_behindStep_44 ?_
  refine lv_iload_n hx hb dX7_behindStep_47 rfl (lv_at hl 7 rfl) ?_
  refine q_ci (q_runV (As := [.int v2]) (rest := []) E (hml.trans hl.1.symm) hI (c_X5_get l X σ (q_rf X (q_rf X r1 3) 3) v2 (q_tk (k' := 5) hI (q_tk (k' := 8) hI hr1 rfl (by decide)) rfl (by decide))) kv_X7_58 (q_tk (k' := 5) hI (q_tk (k' := 8) hI hr1 rfl (by decide)) rfl (by decide)) ⟨rfl, by decide⟩ (show vwCl[4]? = some (RX5, TX5, 1) from rfl) rfl ⟨Nat.le_of_ble_eq_true rfl, Nat.le_of_ble_eq_true rfl⟩ ⟨Nat.le_refl _, Nat.le_refl _⟩ rfl (Nat.le_of_ble_eq_true rfl) dX7_behindStep_48) hI (by decide) (fun r_8 σ_9 H locs hpσ_9 hkσ_9 hI => ?_)
  obtain ⟨ahpσ_9, bhpσ_9⟩ := hpσ_9
  rw [ahpσ_9] at hI
  replace hF := q_letX hF bhpσ_9
  by_cases c_10 : r_8.toInt = 0
  · refine lv_tableIn (off := 49) (tgt := 100) hx hb dX7_behindStep_51 (by first | (clear ahpσ_2 bhpσ_2 ahpσ_4 bhpσ_4 ahpσ_6 bhpσ_6 ahpσ_9 bhpσ_9; omega) | omega) (by first | (clear ahpσ_2 bhpσ_2 ahpσ_4 bhpσ_4 ahpσ_6 bhpσ_6 ahpσ_9 bhpσ_9; omega) | omega) (by rw [c_10]; rfl) (by decide) ?_
    replace hF := q_ifp hF c_10
    refine lv_aload_n hx hb dX7_behindStep_100 rfl (lv_at hl 5 rfl) ?_
    refine lv_aload_n hx hb dX7_behindStep_101 rfl (lv_at hl 6 rfl) ?_
    refine q_cv (q_runV (As := [.ref r1]) (rest := []) E (hml.trans hl.1.symm) hI (c_X7_takeTurn l X σ a r1 ha hr1) kv_X7_87 ha ⟨rfl, by decide⟩ (show vwCl[6]? = some (RX7, TX7, 8) from rfl) rfl ⟨Nat.le_of_ble_eq_true rfl, Nat.le_of_ble_eq_true rfl⟩ ⟨Nat.le_refl _, Nat.le_refl _⟩ rfl (Nat.le_of_ble_eq_true rfl) dX7_behindStep_102) hI (by decide) (fun σ_12 H locs hpσ_12 hkσ_12 hI => ?_)
    obtain ⟨ahpσ_12, bhpσ_12⟩ := hpσ_12
    have fr_σ_12 := fr_σ.call bhpσ_12 rfl rfl
    replace hF := q_letX hF ahpσ_12
    refine lv_iload_n hx hb dX7_behindStep_105 rfl (lv_at hl 7 rfl) ?_
    refine lv_iconst (v := 1) hx hb dX7_behindStep_106 (by decide) ?_
    refine lv_iadd hx hb dX7_behindStep_107 ?_
    refine lv_topi (fun z_13 ez_13 => ?_)
    replace hF := q_letX hF ez_13
    exact q_reti E hr hlk hI ⟨(hF.trans hout), fr_σ_12⟩ dX7_behindStep_108
  replace hF := q_ifn hF c_10
  by_cases c_14 : r_8.toInt = 1
  · refine lv_tableIn (off := 58) (tgt := 109) hx hb dX7_behindStep_51 (by first | (clear ahpσ_2 bhpσ_2 ahpσ_4 bhpσ_4 ahpσ_6 bhpσ_6 ahpσ_9 bhpσ_9; omega) | omega) (by first | (clear ahpσ_2 bhpσ_2 ahpσ_4 bhpσ_4 ahpσ_6 bhpσ_6 ahpσ_9 bhpσ_9; omega) | omega) (by rw [c_14]; rfl) (by decide) ?_
    replace hF := q_ifp hF c_14
    refine lv_aload hx hb dX7_behindStep_109 (lv_at hl 3 rfl) ?_
    refine gs_X7_91_2 E hI (q_tk (k' := 2) hI hr1 rfl (by decide)) dX7_behindStep_111 ?_
    refine lv_iload hx hb dX7_behindStep_114 (lv_at hl 2 rfl) ?_
    refine lv_iload hx hb dX7_behindStep_116 (lv_at hl 1 rfl) ?_
    refine q_cv (q_runV (As := [.int r_1, .int r_3]) (rest := []) E (hml.trans hl.1.symm) hI (c_X5_set l X σ (q_rf X (q_rf X r1 1) 3) r_1 r_3 (q_tk (k' := 5) hI (q_tk (k' := 2) hI hr1 rfl (by decide)) rfl (by decide))) kv_X7_96 (q_tk (k' := 5) hI (q_tk (k' := 2) hI hr1 rfl (by decide)) rfl (by decide)) ⟨rfl, by decide⟩ (show vwCl[4]? = some (RX5, TX5, 1) from rfl) rfl ⟨Nat.le_of_ble_eq_true rfl, Nat.le_of_ble_eq_true rfl⟩ ⟨Nat.le_refl _, Nat.le_refl _⟩ rfl (Nat.le_of_ble_eq_true rfl) dX7_behindStep_118) hI (by decide) (fun σ_16 H locs hpσ_16 hkσ_16 hI => ?_)
    obtain ⟨ahpσ_16, bhpσ_16⟩ := hpσ_16
    have fr_σ_16 := fr_σ.call bhpσ_16 rfl rfl
    replace hF := q_letX hF ahpσ_16
    refine lv_iload_n hx hb dX7_behindStep_121 rfl (lv_at hl 7 rfl) ?_
    refine lv_iconst (v := 1) hx hb dX7_behindStep_122 (by decide) ?_
    refine lv_iadd hx hb dX7_behindStep_123 ?_
    refine lv_topi (fun z_17 ez_17 => ?_)
    replace hF := q_letX hF ez_17
    exact q_reti E hr hlk hI ⟨(hF.trans hout), fr_σ_16⟩ dX7_behindStep_124
  replace hF := q_ifn hF c_14
  by_cases c_18 : r_8.toInt = 2
  · refine lv_tableIn (off := 74) (tgt := 125) hx hb dX7_behindStep_51 (by first | (clear ahpσ_2 bhpσ_2 ahpσ_4 bhpσ_4 ahpσ_6 bhpσ_6 ahpσ_9 bhpσ_9; omega) | omega) (by first | (clear ahpσ_2 bhpσ_2 ahpσ_4 bhpσ_4 ahpσ_6 bhpσ_6 ahpσ_9 bhpσ_9; omega) | omega) (by rw [c_18]; rfl) (by decide) ?_
    replace hF := q_ifp hF c_18
    refine lv_aload hx hb dX7_behindStep_125 (lv_at hl 3 rfl) ?_
    refine gs_X7_99_2 E hI (q_tk (k' := 2) hI hr1 rfl (by decide)) dX7_behindStep_127 ?_
    refine lv_iload hx hb dX7_behindStep_130 (lv_at hl 2 rfl) ?_
    refine lv_iload hx hb dX7_behindStep_132 (lv_at hl 1 rfl) ?_
    refine q_cv (q_runV (As := [.int r_1, .int r_3]) (rest := []) E (hml.trans hl.1.symm) hI (c_X5_set l X σ (q_rf X (q_rf X r1 1) 4) r_1 r_3 (q_tk (k' := 5) hI (q_tk (k' := 2) hI hr1 rfl (by decide)) rfl (by decide))) kv_X7_96 (q_tk (k' := 5) hI (q_tk (k' := 2) hI hr1 rfl (by decide)) rfl (by decide)) ⟨rfl, by decide⟩ (show vwCl[4]? = some (RX5, TX5, 1) from rfl) rfl ⟨Nat.le_of_ble_eq_true rfl, Nat.le_of_ble_eq_true rfl⟩ ⟨Nat.le_refl _, Nat.le_refl _⟩ rfl (Nat.le_of_ble_eq_true rfl) dX7_behindStep_134) hI (by decide) (fun σ_20 H locs hpσ_20 hkσ_20 hI => ?_)
    obtain ⟨ahpσ_20, bhpσ_20⟩ := hpσ_20
    have fr_σ_20 := fr_σ.call bhpσ_20 rfl rfl
    replace hF := q_letX hF ahpσ_20
    refine lv_iload_n hx hb dX7_behindStep_137 rfl (lv_at hl 7 rfl) ?_
    refine lv_iconst (v := 1) hx hb dX7_behindStep_138 (by decide) ?_
    refine lv_iadd hx hb dX7_behindStep_139 ?_
    refine lv_topi (fun z_21 ez_21 => ?_)
    replace hF := q_letX hF ez_21
    exact q_reti E hr hlk hI ⟨(hF.trans hout), fr_σ_20⟩ dX7_behindStep_140
  replace hF := q_ifn hF c_18
  by_cases c_22 : r_8.toInt = 3
  · refine lv_tableIn (off := 199) (tgt := 250) hx hb dX7_behindStep_51 (by first | (clear ahpσ_2 bhpσ_2 ahpσ_4 bhpσ_4 ahpσ_6 bhpσ_6 ahpσ_9 bhpσ_9; omega) | omega) (by first | (clear ahpσ_2 bhpσ_2 ahpσ_4 bhpσ_4 ahpσ_6 bhpσ_6 ahpσ_9 bhpσ_9; omega) | omega) (by rw [c_22]; rfl) (by decide) ?_
    replace hF := q_ifp hF c_22
    refine lv_aload_n hx hb dX7_behindStep_250 rfl (lv_at hl 4 rfl) ?_
    refine gs_X7_52_8 E hI (q_tk (k' := 8) hI hr1 rfl (by decide)) dX7_behindStep_251 ?_
    refine lv_topi (fun f_23 ef_23 => ?_)
    replace hF := q_letX hF ef_23
    exact q_reti E hr hlk hI ⟨(hF.trans hout), fr_σ⟩ dX7_behindStep_254
  replace hF := q_ifn hF c_22
  by_cases c_24 : r_8.toInt = 4
  · refine lv_tableIn (off := 90) (tgt := 141) hx hb dX7_behindStep_51 (by first | (clear ahpσ_2 bhpσ_2 ahpσ_4 bhpσ_4 ahpσ_6 bhpσ_6 ahpσ_9 bhpσ_9; omega) | omega) (by first | (clear ahpσ_2 bhpσ_2 ahpσ_4 bhpσ_4 ahpσ_6 bhpσ_6 ahpσ_9 bhpσ_9; omega) | omega) (by rw [c_24]; rfl) (by decide) ?_
    replace hF := q_ifp hF c_24
    refine lv_aload_n hx hb dX7_behindStep_141 rfl (lv_at hl 5 rfl) ?_
    refine gs_X7_41_7 E hI ha dX7_behindStep_142 ?_
    refine lv_iload_n hx hb dX7_behindStep_145 rfl (lv_at hl 7 rfl) ?_
    refine lv_iload hx hb dX7_behindStep_146 (lv_at hl 1 rfl) ?_
    refine q_cv (q_runV (As := [.int v2, .int r_3]) (rest := []) E (hml.trans hl.1.symm) hI (c_X5_set l X σ (q_rf X a 7) v2 r_3 (q_tk (k' := 5) hI ha rfl (by decide))) kv_X7_96 (q_tk (k' := 5) hI ha rfl (by decide)) ⟨rfl, by decide⟩ (show vwCl[4]? = some (RX5, TX5, 1) from rfl) rfl ⟨Nat.le_of_ble_eq_true rfl, Nat.le_of_ble_eq_true rfl⟩ ⟨Nat.le_refl _, Nat.le_refl _⟩ rfl (Nat.le_of_ble_eq_true rfl) dX7_behindStep_148) hI (by decide) (fun σ_26 H locs hpσ_26 hkσ_26 hI => ?_)
    obtain ⟨ahpσ_26, bhpσ_26⟩ := hpσ_26
    have fr_σ_26 := fr_σ.call bhpσ_26 rfl rfl
    replace hF := q_letX hF ahpσ_26
    refine lv_iload_n hx hb dX7_behindStep_151 rfl (lv_at hl 7 rfl) ?_
    refine lv_iconst (v := 1) hx hb dX7_behindStep_152 (by decide) ?_
    refine lv_iadd hx hb dX7_behindStep_153 ?_
    refine lv_topi (fun z_27 ez_27 => ?_)
    replace hF := q_letX hF ez_27
    exact q_reti E hr hlk hI ⟨(hF.trans hout), fr_σ_26⟩ dX7_behindStep_154
  replace hF := q_ifn hF c_24
  by_cases c_28 : r_8.toInt = 5
  · refine lv_tableIn (off := 104) (tgt := 155) hx hb dX7_behindStep_51 (by first | (clear ahpσ_2 bhpσ_2 ahpσ_4 bhpσ_4 ahpσ_6 bhpσ_6 ahpσ_9 bhpσ_9; omega) | omega) (by first | (clear ahpσ_2 bhpσ_2 ahpσ_4 bhpσ_4 ahpσ_6 bhpσ_6 ahpσ_9 bhpσ_9; omega) | omega) (by rw [c_28]; rfl) (by decide) ?_
    replace hF := q_ifp hF c_28
    refine lv_aload_n hx hb dX7_behindStep_155 rfl (lv_at hl 4 rfl) ?_
    refine lv_iload_n hx hb dX7_behindStep_156 rfl (lv_at hl 7 rfl) ?_
    refine lv_aload hx hb dX7_behindStep_157 (lv_at hl 3 rfl) ?_
    refine gs_X7_102_2 E hI (q_tk (k' := 2) hI hr1 rfl (by decide)) dX7_behindStep_159 ?_
    refine lv_iload hx hb dX7_behindStep_162 (lv_at hl 2 rfl) ?_
    refine q_ci (q_runV (As := [.int r_1]) (rest := [.int v2, .ref (q_rf X r1 3)]) E (hml.trans hl.1.symm) hI (c_X5_get l X σ (q_rf X (q_rf X r1 1) 2) r_1 (q_tk (k' := 5) hI (q_tk (k' := 2) hI hr1 rfl (by decide)) rfl (by decide))) kv_X7_58 (q_tk (k' := 5) hI (q_tk (k' := 2) hI hr1 rfl (by decide)) rfl (by decide)) ⟨rfl, by decide⟩ (show vwCl[4]? = some (RX5, TX5, 1) from rfl) rfl ⟨Nat.le_of_ble_eq_true rfl, Nat.le_of_ble_eq_true rfl⟩ ⟨Nat.le_refl _, Nat.le_refl _⟩ rfl (Nat.le_of_ble_eq_true rfl) dX7_behindStep_164) hI (by decide) (fun r_29 σ_30 H locs hpσ_30 hkσ_30 hI => ?_)
    obtain ⟨ahpσ_30, bhpσ_30⟩ := hpσ_30
    rw [ahpσ_30] at hI
    replace hF := q_letX hF bhpσ_30
    refine q_ci (q_runV (As := [.int v2, .int r_29]) (rest := []) E (hml.trans hl.1.symm) hI (c_X8_meets l X σ (q_rf X r1 3) v2 r_29 (q_tk (k' := 8) hI hr1 rfl (by decide))) kv_X7_105 (q_tk (k' := 8) hI hr1 rfl (by decide)) ⟨rfl, by decide⟩ (show vwCl[7]? = some (RX8, TX8, 8) from rfl) rfl ⟨Nat.le_of_ble_eq_true rfl, Nat.le_of_ble_eq_true rfl⟩ ⟨Nat.le_refl _, Nat.le_refl _⟩ rfl (Nat.le_of_ble_eq_true rfl) dX7_behindStep_167) hI (by decide) (fun r_31 σ_32 H locs hpσ_32 hkσ_32 hI => ?_)
    obtain ⟨ahpσ_32, bhpσ_32, chpσ_32⟩ := hpσ_32
    rw [ahpσ_32] at hI
    replace hF := q_letX hF chpσ_32
    refine q_if_eq (A := r_31.toInt) E rfl (tgt := 179) dX7_behindStep_170 (by decide) (fun c_33 => ?_) (fun c_33 => ?_)
    · skip
      replace hF := q_ifp hF c_33
      refine lv_iload hx hb dX7_behindStep_179 (lv_at hl 0 rfl) ?_
      exact q_reti E hr hlk hI ⟨(hF.trans hout), fr_σ⟩ dX7_behindStep_181
    · skip
      replace hF := q_ifn hF c_33
      replace c_33 := q_ifOne bhpσ_32 c_33
      refine lv_iload_n hx hb dX7_behindStep_173 rfl (lv_at hl 7 rfl) ?_
      refine lv_iconst (v := 1) hx hb dX7_behindStep_174 (by decide) ?_
      refine lv_iadd hx hb dX7_behindStep_175 ?_
      refine lv_topi (fun z_34 ez_34 => ?_)
      replace hF := q_letX hF ez_34
      refine lv_goto (tgt := 181) hx hb dX7_behindStep_176 (by decide) ?_
      exact q_reti E hr hlk hI ⟨(hF.trans hout), fr_σ⟩ dX7_behindStep_181
  replace hF := q_ifn hF c_28
  by_cases c_35 : r_8.toInt = 6
  · refine lv_tableIn (off := 131) (tgt := 182) hx hb dX7_behindStep_51 (by first | (clear ahpσ_2 bhpσ_2 ahpσ_4 bhpσ_4 ahpσ_6 bhpσ_6 ahpσ_9 bhpσ_9; omega) | omega) (by first | (clear ahpσ_2 bhpσ_2 ahpσ_4 bhpσ_4 ahpσ_6 bhpσ_6 ahpσ_9 bhpσ_9; omega) | omega) (by rw [c_35]; rfl) (by decide) ?_
    replace hF := q_ifp hF c_35
    refine lv_aload_n hx hb dX7_behindStep_182 rfl (lv_at hl 4 rfl) ?_
    refine lv_iload_n hx hb dX7_behindStep_183 rfl (lv_at hl 7 rfl) ?_
    refine lv_aload_n hx hb dX7_behindStep_184 rfl (lv_at hl 6 rfl) ?_
    refine gs_X7_109_1 E hI hr1 dX7_behindStep_185 ?_
    refine gs_X7_113_3 E hI (q_tk (k' := 3) hI hr1 rfl (by decide)) dX7_behindStep_188 ?_
    refine lv_topi (fun f_36 ef_36 => ?_)
    replace hF := q_letX hF ef_36
    refine q_ci (q_runV (As := [.int v2, .int f_36]) (rest := []) E (hml.trans hl.1.symm) hI (c_X8_meets l X σ (q_rf X r1 3) v2 f_36 (q_tk (k' := 8) hI hr1 rfl (by decide))) kv_X7_105 (q_tk (k' := 8) hI hr1 rfl (by decide)) ⟨rfl, by decide⟩ (show vwCl[7]? = some (RX8, TX8, 8) from rfl) rfl ⟨Nat.le_of_ble_eq_true rfl, Nat.le_of_ble_eq_true rfl⟩ ⟨Nat.le_refl _, Nat.le_refl _⟩ rfl (Nat.le_of_ble_eq_true rfl) dX7_behindStep_191) hI (by decide) (fun r_37 σ_38 H locs hpσ_38 hkσ_38 hI => ?_)
    obtain ⟨ahpσ_38, bhpσ_38, chpσ_38⟩ := hpσ_38
    rw [ahpσ_38] at hI
    replace hF := q_letX hF chpσ_38
    refine q_if_eq (A := r_37.toInt) E rfl (tgt := 203) dX7_behindStep_194 (by decide) (fun c_39 => ?_) (fun c_39 => ?_)
    · skip
      replace hF := q_ifp hF c_39
      refine lv_iload hx hb dX7_behindStep_203 (lv_at hl 0 rfl) ?_
      exact q_reti E hr hlk hI ⟨(hF.trans hout), fr_σ⟩ dX7_behindStep_205
    · skip
      replace hF := q_ifn hF c_39
      replace c_39 := q_ifOne bhpσ_38 c_39
      refine lv_iload_n hx hb dX7_behindStep_197 rfl (lv_at hl 7 rfl) ?_
      refine lv_iconst (v := 1) hx hb dX7_behindStep_198 (by decide) ?_
      refine lv_iadd hx hb dX7_behindStep_199 ?_
      refine lv_topi (fun z_40 ez_40 => ?_)
      replace hF := q_letX hF ez_40
      refine lv_goto (tgt := 205) hx hb dX7_behindStep_200 (by decide) ?_
      exact q_reti E hr hlk hI ⟨(hF.trans hout), fr_σ⟩ dX7_behindStep_205
  replace hF := q_ifn hF c_35
  by_cases c_41 : r_8.toInt = 7
  · refine lv_tableIn (off := 155) (tgt := 206) hx hb dX7_behindStep_51 (by first | (clear ahpσ_2 bhpσ_2 ahpσ_4 bhpσ_4 ahpσ_6 bhpσ_6 ahpσ_9 bhpσ_9; omega) | omega) (by first | (clear ahpσ_2 bhpσ_2 ahpσ_4 bhpσ_4 ahpσ_6 bhpσ_6 ahpσ_9 bhpσ_9; omega) | omega) (by rw [c_41]; rfl) (by decide) ?_
    replace hF := q_ifp hF c_41
    refine lv_aload_n hx hb dX7_behindStep_206 rfl (lv_at hl 4 rfl) ?_
    refine lv_iload_n hx hb dX7_behindStep_207 rfl (lv_at hl 7 rfl) ?_
    refine lv_aload hx hb dX7_behindStep_208 (lv_at hl 3 rfl) ?_
    refine gs_X7_117_2 E hI (q_tk (k' := 2) hI hr1 rfl (by decide)) dX7_behindStep_210 ?_
    refine lv_iload hx hb dX7_behindStep_213 (lv_at hl 2 rfl) ?_
    refine q_ci (q_runV (As := [.int r_1]) (rest := [.int v2, .ref (q_rf X r1 3)]) E (hml.trans hl.1.symm) hI (c_X5_get l X σ (q_rf X (q_rf X r1 1) 5) r_1 (q_tk (k' := 5) hI (q_tk (k' := 2) hI hr1 rfl (by decide)) rfl (by decide))) kv_X7_58 (q_tk (k' := 5) hI (q_tk (k' := 2) hI hr1 rfl (by decide)) rfl (by decide)) ⟨rfl, by decide⟩ (show vwCl[4]? = some (RX5, TX5, 1) from rfl) rfl ⟨Nat.le_of_ble_eq_true rfl, Nat.le_of_ble_eq_true rfl⟩ ⟨Nat.le_refl _, Nat.le_refl _⟩ rfl (Nat.le_of_ble_eq_true rfl) dX7_behindStep_215) hI (by decide) (fun r_42 σ_43 H locs hpσ_43 hkσ_43 hI => ?_)
    obtain ⟨ahpσ_43, bhpσ_43⟩ := hpσ_43
    rw [ahpσ_43] at hI
    replace hF := q_letX hF bhpσ_43
    refine q_ci (q_runV (As := [.int v2, .int r_42]) (rest := []) E (hml.trans hl.1.symm) hI (c_X8_meets l X σ (q_rf X r1 3) v2 r_42 (q_tk (k' := 8) hI hr1 rfl (by decide))) kv_X7_105 (q_tk (k' := 8) hI hr1 rfl (by decide)) ⟨rfl, by decide⟩ (show vwCl[7]? = some (RX8, TX8, 8) from rfl) rfl ⟨Nat.le_of_ble_eq_true rfl, Nat.le_of_ble_eq_true rfl⟩ ⟨Nat.le_refl _, Nat.le_refl _⟩ rfl (Nat.le_of_ble_eq_true rfl) dX7_behindStep_218) hI (by decide) (fun r_44 σ_45 H locs hpσ_45 hkσ_45 hI => ?_)
    obtain ⟨ahpσ_45, bhpσ_45, chpσ_45⟩ := hpσ_45
    rw [ahpσ_45] at hI
    replace hF := q_letX hF chpσ_45
    refine q_if_eq (A := r_44.toInt) E rfl (tgt := 230) dX7_behindStep_221 (by decide) (fun c_46 => ?_) (fun c_46 => ?_)
    · skip
      replace hF := q_ifp hF c_46
      refine lv_iload hx hb dX7_behindStep_230 (lv_at hl 0 rfl) ?_
      exact q_reti E hr hlk hI ⟨(hF.trans hout), fr_σ⟩ dX7_behindStep_232
    · skip
      replace hF := q_ifn hF c_46
      replace c_46 := q_ifOne bhpσ_45 c_46
      refine lv_iload_n hx hb dX7_behindStep_224 rfl (lv_at hl 7 rfl) ?_
      refine lv_iconst (v := 1) hx hb dX7_behindStep_225 (by decide) ?_
      refine lv_iadd hx hb dX7_behindStep_226 ?_
      refine lv_topi (fun z_47 ez_47 => ?_)
      replace hF := q_letX hF ez_47
      refine lv_goto (tgt := 232) hx hb dX7_behindStep_227 (by decide) ?_
      exact q_reti E hr hlk hI ⟨(hF.trans hout), fr_σ⟩ dX7_behindStep_232
  replace hF := q_ifn hF c_41
  by_cases c_48 : r_8.toInt = 8
  · refine lv_tableIn (off := 182) (tgt := 233) hx hb dX7_behindStep_51 (by first | (clear ahpσ_2 bhpσ_2 ahpσ_4 bhpσ_4 ahpσ_6 bhpσ_6 ahpσ_9 bhpσ_9; omega) | omega) (by first | (clear ahpσ_2 bhpσ_2 ahpσ_4 bhpσ_4 ahpσ_6 bhpσ_6 ahpσ_9 bhpσ_9; omega) | omega) (by rw [c_48]; rfl) (by decide) ?_
    replace hF := q_ifp hF c_48
    refine lv_aload_n hx hb dX7_behindStep_233 rfl (lv_at hl 6 rfl) ?_
    refine gs_X7_120_1 E hI hr1 dX7_behindStep_234 ?_
    refine lv_topi (fun f_49 ef_49 => ?_)
    replace hF := q_letX hF ef_49
    refine lv_iconst (v := (-1)) hx hb dX7_behindStep_237 (by decide) ?_
    refine q_icmp_eq (A := f_49.toInt) (B := (-1)) E rfl (by decide) (tgt := 247) dX7_behindStep_238 (by decide) (fun c_50 => ?_) (fun c_50 => ?_)
    · skip
      replace hF := q_ifp hF c_50
      refine lv_iload hx hb dX7_behindStep_247 (lv_at hl 0 rfl) ?_
      exact q_reti E hr hlk hI ⟨(hF.trans hout), fr_σ⟩ dX7_behindStep_249
    · skip
      replace hF := q_ifn hF c_50
      refine lv_iload_n hx hb dX7_behindStep_241 rfl (lv_at hl 7 rfl) ?_
      refine lv_iconst (v := 1) hx hb dX7_behindStep_242 (by decide) ?_
      refine lv_iadd hx hb dX7_behindStep_243 ?_
      refine lv_topi (fun z_51 ez_51 => ?_)
      replace hF := q_letX hF ez_51
      refine lv_goto (tgt := 249) hx hb dX7_behindStep_244 (by decide) ?_
      exact q_reti E hr hlk hI ⟨(hF.trans hout), fr_σ⟩ dX7_behindStep_249
  replace hF := q_ifn hF c_48
  refine lv_tableOut (tgt := 250) hx hb dX7_behindStep_51 (by first | (clear ahpσ_2 bhpσ_2 ahpσ_4 bhpσ_4 ahpσ_6 bhpσ_6 ahpσ_9 bhpσ_9; omega) | omega) (by decide) ?_
  refine lv_aload_n hx hb dX7_behindStep_250 rfl (lv_at hl 4 rfl) ?_
  refine gs_X7_52_8 E hI (q_tk (k' := 8) hI hr1 rfl (by decide)) dX7_behindStep_251 ?_
  refine lv_topi (fun f_52 ef_52 => ?_)
  replace hF := q_letX hF ef_52
  exact q_reti E hr hlk hI ⟨(hF.trans hout), fr_σ⟩ dX7_behindStep_254

set_option maxRecDepth 100000 in
set_option maxHeartbeats 4000000 in
theorem c_X7_go (l : Launch) (X : XW) (σ : ST) (a : Nat) (r1 : Nat) (v2 : Int32) (ha : q_kd X a = 7) (hr1 : q_kd X r1 = 1) : Met l yX7_go (q_ws yX7_go cX7_go 6 none) (q_rm 6 141) (q_P X σ [.ref a, .ref r1, .int v2]) (q_Qv X 8 σ (fun (σ' : ST) => σ' = F_X7_go X σ a r1 v2 ∧ q_ow [(1, 4), (1, 5), (1, 6), (1, 7), (1, 9), (3, 0), (3, 1), (7, 0), (7, 1), (7, 2), (7, 3), (7, 4), (7, 5), (7, 6), (20, 99)] [] X σ σ')) 0 0 (q_reg X) := by
  refine q_met 8 (by first | exact rfl | decide +kernel) rfl (Nat.le_of_ble_eq_true rfl) (fun p e s m below meth c E hml hr hlk hI ls hl => ?_)
  have hx := E.1
  have hb := E.2.1
  have hl : lv_has ls 6 [(0, .ref a), (1, .ref r1), (2, .int v2)] := hl
  have fr_σ : q_ow [(1, 4), (1, 5), (1, 6), (1, 7), (1, 9), (3, 0), (3, 1), (7, 0), (7, 1), (7, 2), (7, 3), (7, 4), (7, 5), (7, 6), (20, 99)] [] X σ σ := q_ow.rf
  obtain ⟨out, hout⟩ : ∃ o, o = F_X7_go X σ a r1 v2 := ⟨_, rfl⟩
  have hF := hout.symm
  unfold F_X7_go at hF
  refine lv_aload_n hx hb dX7_go_0 rfl (lv_at hl 0 rfl) ?_
  refine lv_iconst (v := 0) hx hb dX7_go_1 (by decide) ?_
  refine ps_X7_9_7 E hI ha (by decide) dX7_go_2 (fun H locs σ_1 hσ_1 hI => ?_)
  replace hF := q_letX hF hσ_1
  have fr_σ_1 := fr_σ.si hσ_1 ha rfl
  refine lv_aload_n hx hb dX7_go_5 rfl (lv_at hl 0 rfl) ?_
  refine lv_iconst (v := 0) hx hb dX7_go_6 (by decide) ?_
  refine ps_X7_15_7 E hI ha (by decide) dX7_go_7 (fun H locs σ_2 hσ_2 hI => ?_)
  replace hF := q_letX hF hσ_2
  have fr_σ_2 := fr_σ_1.si hσ_2 ha rfl
  refine lv_aload_n hx hb dX7_go_10 rfl (lv_at hl 0 rfl) ?_
  refine lv_iconst (v := 0) hx hb dX7_go_11 (by decide) ?_
  refine ps_X7_18_7 E hI ha (by decide) dX7_go_12 (fun H locs σ_3 hσ_3 hI => ?_)
  replace hF := q_letX hF hσ_3
  have fr_σ_3 := fr_σ_2.si hσ_3 ha rfl
  refine lv_aload_n hx hb dX7_go_15 rfl (lv_at hl 0 rfl) ?_
  refine lv_iconst (v := 0) hx hb dX7_go_16 (by decide) ?_
  refine ps_X7_21_7 E hI ha (by decide) dX7_go_17 (fun H locs σ_4 hσ_4 hI => ?_)
  replace hF := q_letX hF hσ_4
  have fr_σ_4 := fr_σ_3.si hσ_4 ha rfl
  refine lv_aload_n hx hb dX7_go_20 rfl (lv_at hl 0 rfl) ?_
  refine lv_iconst (v := 0) hx hb dX7_go_21 (by decide) ?_
  refine ps_X7_24_7 E hI ha (by decide) dX7_go_22 (fun H locs σ_5 hσ_5 hI => ?_)
  replace hF := q_letX hF hσ_5
  have fr_σ_5 := fr_σ_4.si hσ_5 ha rfl
  refine lv_aload_n hx hb dX7_go_25 rfl (lv_at hl 0 rfl) ?_
  refine lv_iconst (v := 0) hx hb dX7_go_26 (by decide) ?_
  refine ps_X7_27_7 E hI ha (by decide) (by decide) (by decide) dX7_go_27 (fun H locs σ_6 hσ_6 hI => ?_)
  replace hF := q_letX hF hσ_6
  have fr_σ_6 := fr_σ_5.si hσ_6 ha rfl
  refine lv_aload_n hx hb dX7_go_30 rfl (lv_at hl 0 rfl) ?_
  refine lv_iload_n hx hb dX7_go_31 rfl (lv_at hl 2 rfl) ?_
  refine ps_X7_31_7 E hI ha (by decide) dX7_go_32 (fun H locs σ_7 hσ_7 hI => ?_)
  replace hF := q_letX hF hσ_7
  have fr_σ_7 := fr_σ_6.si hσ_7 ha rfl
  refine lv_aload_n hx hb dX7_go_35 rfl (lv_at hl 1 rfl) ?_
  refine gs_X7_45_1 E hI hr1 dX7_go_36 ?_
  refine lv_astore_n (lv' := [(3, .ref (q_rf X r1 3)), (0, .ref a), (1, .ref r1), (2, .int v2)]) hx hb dX7_go_39 rfl hl (by decide) rfl (fun ls hl => ?_)
  refine lv_iconst (v := 0) hx hb dX7_go_40 (by decide) ?_
  refine lv_istore (lv' := [(4, .int 0), (3, .ref (q_rf X r1 3)), (0, .ref a), (1, .ref r1), (2, .int v2)]) hx hb dX7_go_41 hl (by decide) rfl (fun ls hl => ?_)
  refine lv_iconst (v := 0) hx hb dX7_go_43 (by decide) ?_
  refine lv_istore (lv' := [(5, .int 0), (4, .int 0), (3, .ref (q_rf X r1 3)), (0, .ref a), (1, .ref r1), (2, .int v2)]) hx hb dX7_go_44 hl (by decide) rfl (fun ls hl => ?_)
  have L_46_11 : ∀ (k_11 : Nat) (x_8 : Int32) (x_9 : Int32) (σ_10 : ST) (H : Heap) (locs : List Loc) (ls : Array Slot), (2147483647 - x_9.toInt).toNat < k_11 → (0 ≤ x_9.toInt) → (q_ow [(1, 4), (1, 5), (1, 6), (1, 7), (1, 9), (3, 0), (3, 1), (7, 0), (7, 1), (7, 2), (7, 3), (7, 4), (7, 5), (7, 6), (20, 99)] [] X σ σ_10) → (F_X7_go_L46_1 X r1 a k_11 x_8 x_9 σ_10 = out) → q_I X 8 σ s.heap locs σ_10 H → lv_has ls 6 [(0, .ref a), (1, .ref r1), (2, .int v2), (3, .ref (q_rf X r1 3)), (4, .int x_8), (5, .int x_9)] → W p l e (q_rm 6 141) s m ([.ref a, .ref r1, .int v2] : List Value).toArray below meth c H locs 0 0 (MQ below (q_Qv X 8 σ (fun (σ' : ST) => σ' = F_X7_go X σ a r1 v2 ∧ q_ow [(1, 4), (1, 5), (1, 6), (1, 7), (1, 9), (3, 0), (3, 1), (7, 0), (7, 1), (7, 2), (7, 3), (7, 4), (7, 5), (7, 6), (20, 99)] [] X σ σ')) ([.ref a, .ref r1, .int v2] : List Value).toArray s 0 0 (q_reg X)) (F0 m 46 ls []) := by
    clear hF
    intro k_11
    induction k_11 with
    | zero =>
      intro x_8 x_9 σ_10 H locs ls hms
      exact absurd hms (Nat.not_lt_zero _)
    | succ k_11 ih46 =>
      intro x_8 x_9 σ_10 H locs ls hm46 hge46 fr_σ_10 hF hI hl
      replace hF := (F_X7_go_L46_1_s).symm.trans hF
      unfold F_X7_go_B46_1 at hF
      refine lv_iload hx hb dX7_go_46 (lv_at hl 5 rfl) ?_
      refine lv_ldc (v := 1000000) hx hb E.2.2.1 (E.2.2.2.1 _ (q_in_t6 (i := 144) (by first | rfl | decide +kernel) rfl)) dX7_go_48 ?_
      have gc_12_x_9 := q_rng x_9
      refine q_icmp_ge (A := x_9.toInt) (B := 1000000) E rfl (by decide) (tgt := 138) dX7_go_50 (by decide) (fun c_12 => ?_) (fun c_12 => ?_)
      · skip
        replace hF := q_ifn hF (Int.not_lt.mpr c_12)
        skip
        exact q_retv E hr hlk hI ⟨(hF.trans hout), fr_σ_10⟩ dX7_go_138
      · skip
        replace hF := q_ifp hF c_12
        refine lv_iload hx hb dX7_go_53 (lv_at hl 4 rfl) ?_
        refine lv_aload_n hx hb dX7_go_55 rfl (lv_at hl 3 rfl) ?_
        refine gs_X7_52_8 E hI (q_tk (k' := 8) hI hr1 rfl (by decide)) dX7_go_56 ?_
        refine lv_topi (fun f_13 ef_13 => ?_)
        replace hF := q_letX hF ef_13
        have gc_14_x_8 := q_rng x_8
        have gc_14_f_13 := q_rng f_13
        refine q_icmp_ge (A := x_8.toInt) (B := f_13.toInt) E rfl rfl (tgt := 138) dX7_go_59 (by decide) (fun c_14 => ?_) (fun c_14 => ?_)
        · skip
          replace hF := q_ifn hF (Int.not_lt.mpr c_14)
          skip
          exact q_retv E hr hlk hI ⟨(hF.trans hout), fr_σ_10⟩ dX7_go_138
        · skip
          replace hF := q_ifp hF c_14
          refine lv_aload_n hx hb dX7_go_62 rfl (lv_at hl 0 rfl) ?_
          refine gs_X7_27_7 E hI ha dX7_go_63 ?_
          refine lv_topi (fun f_15 ef_15 => ?_)
          replace hF := q_letX hF ef_15
          have bf_15 : 0 ≤ f_15.toInt ∧ f_15.toInt ≤ 1 := by rw [ef_15]; exact q_bd hI ha rfl
          refine q_if_ne (A := f_15.toInt) E rfl (tgt := 138) dX7_go_66 (by decide) (fun c_16 => ?_) (fun c_16 => ?_)
          · skip
            replace hF := q_ifn hF c_16
            skip
            exact q_retv E hr hlk hI ⟨(hF.trans hout), fr_σ_10⟩ dX7_go_138
          · skip
            replace hF := q_ifp hF c_16
            refine lv_aload_n hx hb dX7_go_69 rfl (lv_at hl 3 rfl) ?_
            refine gs_X7_55_8 E hI (q_tk (k' := 8) hI hr1 rfl (by decide)) dX7_go_70 ?_
            refine lv_iload hx hb dX7_go_73 (lv_at hl 4 rfl) ?_
            refine q_ci (q_runV (As := [.int x_8]) (rest := []) E (hml.trans hl.1.symm) hI (c_X5_get l X σ_10 (q_rf X (q_rf X r1 3) 3) x_8 (q_tk (k' := 5) hI (q_tk (k' := 8) hI hr1 rfl (by decide)) rfl (by decide))) kv_X7_58 (q_tk (k' := 5) hI (q_tk (k' := 8) hI hr1 rfl (by decide)) rfl (by decide)) ⟨rfl, by decide⟩ (show vwCl[4]? = some (RX5, TX5, 1) from rfl) rfl ⟨Nat.le_of_ble_eq_true rfl, Nat.le_of_ble_eq_true rfl⟩ ⟨Nat.le_refl _, Nat.le_refl _⟩ rfl (Nat.le_of_ble_eq_true rfl) dX7_go_75) hI (by decide) (fun r_17 σ_18 H locs hpσ_18 hkσ_18 hI => ?_)
            obtain ⟨ahpσ_18, bhpσ_18⟩ := hpσ_18
            rw [ahpσ_18] at hI
            replace hF := q_letX hF bhpσ_18
            refine lv_bipush (v := 9) hx hb dX7_go_78 (by decide) ?_
            have gc_19_r_17 := q_rng r_17
            refine q_icmp_ne (A := r_17.toInt) (B := 9) E rfl (by decide) (tgt := 95) dX7_go_80 (by decide) (fun c_19 => ?_) (fun c_19 => ?_)
            · skip
              replace hF := q_ifn hF c_19
              refine lv_aload_n hx hb dX7_go_95 rfl (lv_at hl 0 rfl) ?_
              refine gs_X7_9_7 E hI ha dX7_go_96 ?_
              refine lv_topi (fun f_20 ef_20 => ?_)
              replace hF := q_letX hF ef_20
              refine lv_sipush (v := 300) hx hb dX7_go_99 (by decide) ?_
              have gc_21_f_20 := q_rng f_20
              refine q_icmp_ne (A := f_20.toInt) (B := 300) E rfl (by decide) (tgt := 113) dX7_go_102 (by decide) (fun c_21 => ?_) (fun c_21 => ?_)
              · skip
                replace hF := q_ifn hF c_21
                refine lv_aload_n hx hb dX7_go_113 rfl (lv_at hl 0 rfl) ?_
                refine lv_dup hx hb dX7_go_114 rfl ?_
                refine gs_X7_9_7 E hI ha dX7_go_115 ?_
                refine lv_topi (fun f_22 ef_22 => ?_)
                replace hF := q_letX hF ef_22
                refine lv_iconst (v := 1) hx hb dX7_go_118 (by decide) ?_
                refine lv_iadd hx hb dX7_go_119 ?_
                refine lv_topi (fun z_23 ez_23 => ?_)
                replace hF := q_letX hF ez_23
                refine ps_X7_9_7 E hI ha (by decide) dX7_go_120 (fun H locs σ_24 hσ_24 hI => ?_)
                replace hF := q_letX hF hσ_24
                have fr_σ_24 := fr_σ_10.si hσ_24 ha rfl
                refine lv_aload_n hx hb dX7_go_123 rfl (lv_at hl 0 rfl) ?_
                refine lv_aload_n hx hb dX7_go_124 rfl (lv_at hl 1 rfl) ?_
                refine lv_iload hx hb dX7_go_125 (lv_at hl 4 rfl) ?_
                refine q_ci (q_runV (As := [.ref r1, .int x_8]) (rest := []) E (hml.trans hl.1.symm) hI (c_X7_behindStep l X σ_24 a r1 x_8 ha hr1) kv_X7_66 ha ⟨rfl, by decide⟩ (show vwCl[6]? = some (RX7, TX7, 8) from rfl) rfl ⟨Nat.le_of_ble_eq_true rfl, Nat.le_of_ble_eq_true rfl⟩ ⟨Nat.le_refl _, Nat.le_refl _⟩ rfl (Nat.le_of_ble_eq_true rfl) dX7_go_127) hI (by decide) (fun r_25 σ_26 H locs hpσ_26 hkσ_26 hI => ?_)
                obtain ⟨ahpσ_26, bhpσ_26⟩ := hpσ_26
                have fr_σ_26 := fr_σ_24.call bhpσ_26 rfl rfl
                replace hF := q_biX hF ahpσ_26
                refine lv_istore (lv' := [(4, .int r_25), (0, .ref a), (1, .ref r1), (2, .int v2), (3, .ref (q_rf X r1 3)), (5, .int x_9)]) hx hb dX7_go_130 hl (by decide) rfl (fun ls hl => ?_)
                obtain ⟨z_27, ez_27⟩ : ∃ y : Int32, y = x_9 + 1 := ⟨_, rfl⟩
                replace hF := q_letX hF ez_27
                refine lv_iinc (v := z_27) (lv' := [(5, .int z_27), (4, .int r_25), (0, .ref a), (1, .ref r1), (2, .int v2), (3, .ref (q_rf X r1 3))]) hx hb dX7_go_132 hl (k := 5) rfl (by rw [ez_27]; rfl) (by decide) rfl (fun ls hl => ?_)
                have iz_27 : z_27.toInt = x_9.toInt + 1 := q_inc ez_27 (by first | (clear hm46 gc_14_x_8 gc_14_f_13 c_14 bf_15 c_16 ahpσ_18 bhpσ_18 gc_19_r_17 c_19 gc_21_f_20 c_21 ahpσ_26 bhpσ_26; omega) | omega)
                refine lv_goto (tgt := 46) hx hb dX7_go_135 (by decide) ?_
                exact ih46 r_25 z_27 σ_26 _ _ ls (by first | (clear gc_14_x_8 gc_14_f_13 c_14 bf_15 c_16 ahpσ_18 bhpσ_18 gc_19_r_17 gc_21_f_20 ahpσ_26 bhpσ_26; omega) | omega) (by first | (clear hm46 gc_14_x_8 gc_14_f_13 c_14 bf_15 c_16 ahpσ_18 bhpσ_18 gc_19_r_17 c_19 gc_21_f_20 c_21 ahpσ_26 bhpσ_26; omega) | omega) fr_σ_26 hF hI (lv_sub hl [2, 3, 4, 5, 1, 0] rfl)
              · skip
                replace hF := q_ifp hF c_21
                refine lv_aload_n hx hb dX7_go_105 rfl (lv_at hl 0 rfl) ?_
                refine lv_iconst (v := 1) hx hb dX7_go_106 (by decide) ?_
                refine ps_X7_27_7 E hI ha (by decide) (by decide) (by decide) dX7_go_107 (fun H locs σ_28 hσ_28 hI => ?_)
                replace hF := q_letX hF hσ_28
                have fr_σ_28 := fr_σ_10.si hσ_28 ha rfl
                refine lv_goto (tgt := 132) hx hb dX7_go_110 (by decide) ?_
                obtain ⟨z_29, ez_29⟩ : ∃ y : Int32, y = x_9 + 1 := ⟨_, rfl⟩
                replace hF := q_letX hF ez_29
                refine lv_iinc (v := z_29) (lv' := [(5, .int z_29), (0, .ref a), (1, .ref r1), (2, .int v2), (3, .ref (q_rf X r1 3)), (4, .int x_8)]) hx hb dX7_go_132 hl (k := 5) rfl (by rw [ez_29]; rfl) (by decide) rfl (fun ls hl => ?_)
                have iz_29 : z_29.toInt = x_9.toInt + 1 := q_inc ez_29 (by first | (clear hm46 gc_14_x_8 gc_14_f_13 c_14 bf_15 c_16 ahpσ_18 bhpσ_18 gc_19_r_17 c_19 gc_21_f_20 c_21; omega) | omega)
                refine lv_goto (tgt := 46) hx hb dX7_go_135 (by decide) ?_
                exact ih46 x_8 z_29 σ_28 _ _ ls (by first | (clear gc_14_x_8 gc_14_f_13 c_14 bf_15 c_16 ahpσ_18 bhpσ_18 gc_19_r_17 gc_21_f_20 c_21; omega) | omega) (by first | (clear hm46 gc_14_x_8 gc_14_f_13 c_14 bf_15 c_16 ahpσ_18 bhpσ_18 gc_19_r_17 c_19 gc_21_f_20 c_21; omega) | omega) fr_σ_28 hF hI (lv_sub hl [1, 2, 3, 4, 5, 0] rfl)
            · skip
              replace hF := q_ifp hF c_19
              refine lv_aload_n hx hb dX7_go_83 rfl (lv_at hl 0 rfl) ?_
              refine lv_aload_n hx hb dX7_go_84 rfl (lv_at hl 3 rfl) ?_
              refine lv_iload hx hb dX7_go_85 (lv_at hl 4 rfl) ?_
              refine q_ci (q_runV (As := [.ref (q_rf X r1 3), .int x_8]) (rest := []) E (hml.trans hl.1.symm) hI (c_X7_behindEnd l X σ_10 a (q_rf X r1 3) x_8 ha (q_tk (k' := 8) hI hr1 rfl (by decide))) kv_X7_62 ha ⟨rfl, by decide⟩ (show vwCl[6]? = some (RX7, TX7, 8) from rfl) rfl ⟨Nat.le_of_ble_eq_true rfl, Nat.le_of_ble_eq_true rfl⟩ ⟨Nat.le_refl _, Nat.le_refl _⟩ rfl (Nat.le_of_ble_eq_true rfl) dX7_go_87) hI (by decide) (fun r_30 σ_31 H locs hpσ_31 hkσ_31 hI => ?_)
              obtain ⟨ahpσ_31, bhpσ_31⟩ := hpσ_31
              have fr_σ_31 := fr_σ_10.call bhpσ_31 rfl rfl
              replace hF := q_biX hF ahpσ_31
              refine lv_istore (lv' := [(4, .int r_30), (0, .ref a), (1, .ref r1), (2, .int v2), (3, .ref (q_rf X r1 3)), (5, .int x_9)]) hx hb dX7_go_90 hl (by decide) rfl (fun ls hl => ?_)
              refine lv_goto (tgt := 132) hx hb dX7_go_92 (by decide) ?_
              obtain ⟨z_32, ez_32⟩ : ∃ y : Int32, y = x_9 + 1 := ⟨_, rfl⟩
              replace hF := q_letX hF ez_32
              refine lv_iinc (v := z_32) (lv' := [(5, .int z_32), (4, .int r_30), (0, .ref a), (1, .ref r1), (2, .int v2), (3, .ref (q_rf X r1 3))]) hx hb dX7_go_132 hl (k := 5) rfl (by rw [ez_32]; rfl) (by decide) rfl (fun ls hl => ?_)
              have iz_32 : z_32.toInt = x_9.toInt + 1 := q_inc ez_32 (by first | (clear hm46 gc_14_x_8 gc_14_f_13 c_14 bf_15 c_16 ahpσ_18 bhpσ_18 gc_19_r_17 c_19 ahpσ_31 bhpσ_31; omega) | omega)
              refine lv_goto (tgt := 46) hx hb dX7_go_135 (by decide) ?_
              exact ih46 r_30 z_32 σ_31 _ _ ls (by first | (clear gc_14_x_8 gc_14_f_13 c_14 bf_15 c_16 ahpσ_18 bhpσ_18 gc_19_r_17 c_19 ahpσ_31 bhpσ_31; omega) | omega) (by first | (clear hm46 gc_14_x_8 gc_14_f_13 c_14 bf_15 c_16 ahpσ_18 bhpσ_18 gc_19_r_17 c_19 ahpσ_31 bhpσ_31; omega) | omega) fr_σ_31 hF hI (lv_sub hl [2, 3, 4, 5, 1, 0] rfl)
  exact L_46_11 ((2147483647 - (0 : Int32).toInt).toNat + 1) 0 0 σ_7 _ _ ls (Nat.lt_succ_self _) (by decide) fr_σ_7 hF hI (lv_sub hl [3, 4, 5, 2, 1, 0] rfl)
end
