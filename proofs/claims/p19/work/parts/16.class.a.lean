/-! FROM 16.class.a.lean.txt -/
section
section QS
variable {p : Program} {l : Launch} {e : Env} {R : Room} {s : State} {m : MethodId} {args : Array Value} {below : List Frame} {meth : Method} {c : Code} {H : Heap} {locs : List Loc} {cells slots : Nat} {Q : State → Prop} {cc : ByteArray} {X : XW} {n : Nat} {σ0 σ : ST} {H0 : Heap} {pc : Nat} {ls : Array Slot} {rest : List Value} {a : Nat}
theorem gs_X11_9_11 (E : q_E p c cc s m args RX11 X) (hI : q_I X n σ0 H0 locs σ H) (ha : q_kd X a = 11) (hdg : decode cc pc = .ok (.getfield 9, 3)) (kk : W p l e R s m args below meth c H locs cells slots Q (F0 m (pc + 3) ls (.int (σ.1 a 0) :: rest))) : W p l e R s m args below meth c H locs cells slots Q (F0 m pc ls (.ref a :: rest)) :=
  q_getf (ref := "CheatHeap") E hI ha ⟨rfl, by decide⟩ (show vwCl[10]? = some (RX11, TX11, 17) from rfl) q_inX11 (f := 0) (by decide) (q_in_t2 (i := 202) (by first | rfl | decide +kernel) rfl) (Or.inl rfl) rfl hdg kk
theorem gs_X11_13_11 (E : q_E p c cc s m args RX11 X) (hI : q_I X n σ0 H0 locs σ H) (ha : q_kd X a = 11) (hdg : decode cc pc = .ok (.getfield 13, 3)) (kk : W p l e R s m args below meth c H locs cells slots Q (F0 m (pc + 3) ls (.long (σ.2.1 a 1) :: rest))) : W p l e R s m args below meth c H locs cells slots Q (F0 m pc ls (.ref a :: rest)) :=
  q_getf (ref := "CheatHeap") E hI ha ⟨rfl, by decide⟩ (show vwCl[10]? = some (RX11, TX11, 17) from rfl) q_inX11 (f := 1) (by decide) (q_in_t2 (i := 203) (by first | rfl | decide +kernel) rfl) (Or.inl rfl) rfl hdg kk
theorem gs_X11_17_11 (E : q_E p c cc s m args RX11 X) (hI : q_I X n σ0 H0 locs σ H) (ha : q_kd X a = 11) (hdg : decode cc pc = .ok (.getfield 17, 3)) (kk : W p l e R s m args below meth c H locs cells slots Q (F0 m (pc + 3) ls (.long (σ.2.1 a 2) :: rest))) : W p l e R s m args below meth c H locs cells slots Q (F0 m pc ls (.ref a :: rest)) :=
  q_getf (ref := "CheatHeap") E hI ha ⟨rfl, by decide⟩ (show vwCl[10]? = some (RX11, TX11, 17) from rfl) q_inX11 (f := 2) (by decide) (q_in_t2 (i := 204) (by first | rfl | decide +kernel) rfl) (Or.inl rfl) rfl hdg kk
theorem gs_X11_22_11 (E : q_E p c cc s m args RX11 X) (hI : q_I X n σ0 H0 locs σ H) (ha : q_kd X a = 11) (hdg : decode cc pc = .ok (.getfield 22, 3)) (kk : W p l e R s m args below meth c H locs cells slots Q (F0 m (pc + 3) ls (.ref (q_rf X a 3) :: rest))) : W p l e R s m args below meth c H locs cells slots Q (F0 m pc ls (.ref a :: rest)) :=
  q_getf (ref := "CheatHeap") E hI ha ⟨rfl, by decide⟩ (show vwCl[10]? = some (RX11, TX11, 17) from rfl) q_inX11 (f := 3) (by decide) (q_in_t2 (i := 205) (by first | rfl | decide +kernel) rfl) (Or.inl rfl) rfl hdg kk
theorem ps_X11_9_11 (E : q_E p c cc s m args RX11 X) (hI : q_I X n σ0 H0 locs σ H) (ha : q_kd X a = 11) {v : Int32} (hcl : n < 9) (hdg : decode cc pc = .ok (.putfield 9, 3)) (kk : ∀ (H1 : Heap) (locs1 : List Loc) (σ1 : ST), σ1 = q_si σ a 0 v → q_I X n σ0 H0 locs1 σ1 H1 → W p l e R s m args below meth c H1 locs1 cells slots Q (F0 m (pc + 3) ls rest)) : W p l e R s m args below meth c H locs cells slots Q (F0 m pc ls (.int v :: .ref a :: rest)) :=
  q_puti (ref := "CheatHeap") E hI ha ⟨rfl, by decide⟩ (show vwCl[10]? = some (RX11, TX11, 17) from rfl) q_inX11 tyX11_ok nmX11 (f := 0) (by decide) (q_in_t2 (i := 202) (by first | rfl | decide +kernel) rfl) (Or.inl rfl) rfl rfl hcl hdg (q_inU rfl) (Or.inl rfl) (fun H1 l1 h => kk H1 l1 _ rfl h)
theorem kv_X11_85 : q_okV RX11 85 RX11 yX11_trayAt cX11_trayAt 2 (some (.object "CheatHeap$Tray")) 1 := ⟨(q_in_t3 (i := 30) (by first | rfl | decide +kernel) rfl), (q_in_t3 (i := 32) (by first | rfl | decide +kernel) rfl), (q_in_p (i := 0) (by decide +kernel) rfl), (q_in_t1 (i := 1) (by first | rfl | decide +kernel) rfl), (q_in_t3 (i := 33) (by first | rfl | decide +kernel) rfl), ⟨rfl, by decide, by decide, rfl⟩⟩
theorem kv_X11_89 : q_okV RX11 89 RX11 yX11_no cX11_no 2 (some .boolean) 1 := ⟨(q_in_t3 (i := 34) (by first | rfl | decide +kernel) rfl), (q_in_t3 (i := 36) (by first | rfl | decide +kernel) rfl), (q_in_p (i := 1) (by decide +kernel) rfl), (q_in_t1 (i := 1) (by first | rfl | decide +kernel) rfl), (q_in_t3 (i := 37) (by first | rfl | decide +kernel) rfl), ⟨rfl, by decide, by decide, rfl⟩⟩
theorem kv_X11_93 : q_okV RX11 93 RX10 yX10_make cX10_make 4 none 2 := ⟨(q_in_t3 (i := 38) (by first | rfl | decide +kernel) rfl), (q_in_t3 (i := 39) (by first | rfl | decide +kernel) rfl), (q_in_t3 (i := 40) (by first | rfl | decide +kernel) rfl), (q_in_t1 (i := 13) (by first | rfl | decide +kernel) rfl), (q_in_t3 (i := 41) (by first | rfl | decide +kernel) rfl), ⟨rfl, by decide, by decide, rfl⟩⟩
theorem kv_X11_97 : q_okV RX11 97 RX11 yX11_yes cX11_yes 1 (some .boolean) 0 := ⟨(q_in_t3 (i := 46) (by first | rfl | decide +kernel) rfl), (q_in_t3 (i := 48) (by first | rfl | decide +kernel) rfl), (q_in_p (i := 2) (by decide +kernel) rfl), (q_in_t1 (i := 1) (by first | rfl | decide +kernel) rfl), (q_in_t3 (i := 49) (by first | rfl | decide +kernel) rfl), ⟨rfl, by decide, by decide, rfl⟩⟩
theorem kv_X11_117 : q_okV RX11 117 RX10 yX10_isMissing cX10_isMissing 1 (some .boolean) 0 := ⟨(q_in_t3 (i := 57) (by first | rfl | decide +kernel) rfl), (q_in_t3 (i := 58) (by first | rfl | decide +kernel) rfl), (q_in_t3 (i := 59) (by first | rfl | decide +kernel) rfl), (q_in_t1 (i := 13) (by first | rfl | decide +kernel) rfl), (q_in_t3 (i := 60) (by first | rfl | decide +kernel) rfl), ⟨rfl, by decide, by decide, rfl⟩⟩
theorem kv_X11_123 : q_okV RX11 123 RX10 yX10_hasPlaces cX10_hasPlaces 3 (some .boolean) 2 := ⟨(q_in_t3 (i := 61) (by first | rfl | decide +kernel) rfl), (q_in_t3 (i := 62) (by first | rfl | decide +kernel) rfl), (q_in_t3 (i := 63) (by first | rfl | decide +kernel) rfl), (q_in_t1 (i := 13) (by first | rfl | decide +kernel) rfl), (q_in_t3 (i := 64) (by first | rfl | decide +kernel) rfl), ⟨rfl, by decide, by decide, rfl⟩⟩
theorem ks_X11_101 : q_okS RX11 101 yX11_placeStatus cX11_placeStatus 2 (some .int) 2 := ⟨(q_in_t3 (i := 54) (by first | rfl | decide +kernel) rfl), (q_in_t3 (i := 55) (by first | rfl | decide +kernel) rfl), (q_in_t1 (i := 1) (by first | rfl | decide +kernel) rfl), (q_in_t3 (i := 56) (by first | rfl | decide +kernel) rfl), ⟨by decide, by decide, rfl⟩⟩
theorem kv_X11_105 : q_okV RX11 105 RX10 yX10_put cX10_put 4 none 2 := ⟨(q_in_t3 (i := 65) (by first | rfl | decide +kernel) rfl), (q_in_t3 (i := 66) (by first | rfl | decide +kernel) rfl), (q_in_t3 (i := 67) (by first | rfl | decide +kernel) rfl), (q_in_t1 (i := 13) (by first | rfl | decide +kernel) rfl), (q_in_t3 (i := 68) (by first | rfl | decide +kernel) rfl), ⟨rfl, by decide, by decide, rfl⟩⟩
theorem kv_X11_109 : q_okV RX11 109 RX11 yX11_none cX11_none 2 (some .int) 1 := ⟨(q_in_t3 (i := 77) (by first | rfl | decide +kernel) rfl), (q_in_t3 (i := 79) (by first | rfl | decide +kernel) rfl), (q_in_p (i := 4) (by decide +kernel) rfl), (q_in_t1 (i := 1) (by first | rfl | decide +kernel) rfl), (q_in_t3 (i := 80) (by first | rfl | decide +kernel) rfl), ⟨rfl, by decide, by decide, rfl⟩⟩
theorem kv_X11_113 : q_okV RX11 113 RX10 yX10_get cX10_get 2 (some .long) 1 := ⟨(q_in_t3 (i := 81) (by first | rfl | decide +kernel) rfl), (q_in_t3 (i := 82) (by first | rfl | decide +kernel) rfl), (q_in_t3 (i := 83) (by first | rfl | decide +kernel) rfl), (q_in_t1 (i := 13) (by first | rfl | decide +kernel) rfl), (q_in_t3 (i := 84) (by first | rfl | decide +kernel) rfl), ⟨rfl, by decide, by decide, rfl⟩⟩
theorem gs_X11_120_10 (E : q_E p c cc s m args RX11 X) (hI : q_I X n σ0 H0 locs σ H) (ha : q_kd X a = 10) (hdg : decode cc pc = .ok (.getfield 120, 3)) (kk : W p l e R s m args below meth c H locs cells slots Q (F0 m (pc + 3) ls (.int (σ.1 a 0) :: rest))) : W p l e R s m args below meth c H locs cells slots Q (F0 m pc ls (.ref a :: rest)) :=
  q_getf (ref := "CheatHeap$Tray") E hI ha ⟨rfl, by decide⟩ (show vwCl[9]? = some (RX10, TX10, 3) from rfl) q_inX10 (f := 0) (by decide) (q_in_t2 (i := 191) (by first | rfl | decide +kernel) rfl) (Or.inl rfl) rfl hdg kk
theorem kv_X11_127 : q_okV RX11 127 RX10 yX10_copyFrom cX10_copyFrom 5 none 4 := ⟨(q_in_t3 (i := 89) (by first | rfl | decide +kernel) rfl), (q_in_t3 (i := 90) (by first | rfl | decide +kernel) rfl), (q_in_t3 (i := 91) (by first | rfl | decide +kernel) rfl), (q_in_t1 (i := 13) (by first | rfl | decide +kernel) rfl), (q_in_t3 (i := 92) (by first | rfl | decide +kernel) rfl), ⟨rfl, by decide, by decide, rfl⟩⟩
theorem gs_X11_30_11 (E : q_E p c cc s m args RX11 X) (hI : q_I X n σ0 H0 locs σ H) (ha : q_kd X a = 11) (hdg : decode cc pc = .ok (.getfield 30, 3)) (kk : W p l e R s m args below meth c H locs cells slots Q (F0 m (pc + 3) ls (.int (σ.1 a 5) :: rest))) : W p l e R s m args below meth c H locs cells slots Q (F0 m pc ls (.ref a :: rest)) :=
  q_getf (ref := "CheatHeap") E hI ha ⟨rfl, by decide⟩ (show vwCl[10]? = some (RX11, TX11, 17) from rfl) q_inX11 (f := 5) (by decide) (q_in_t2 (i := 207) (by first | rfl | decide +kernel) rfl) (Or.inl rfl) rfl hdg kk
theorem gs_X11_26_11 (E : q_E p c cc s m args RX11 X) (hI : q_I X n σ0 H0 locs σ H) (ha : q_kd X a = 11) (hdg : decode cc pc = .ok (.getfield 26, 3)) (kk : W p l e R s m args below meth c H locs cells slots Q (F0 m (pc + 3) ls (.ref (q_rf X a 4) :: rest))) : W p l e R s m args below meth c H locs cells slots Q (F0 m pc ls (.ref a :: rest)) :=
  q_getf (ref := "CheatHeap") E hI ha ⟨rfl, by decide⟩ (show vwCl[10]? = some (RX11, TX11, 17) from rfl) q_inX11 (f := 4) (by decide) (q_in_t2 (i := 206) (by first | rfl | decide +kernel) rfl) (Or.inl rfl) rfl hdg kk
theorem ps_X11_30_11 (E : q_E p c cc s m args RX11 X) (hI : q_I X n σ0 H0 locs σ H) (ha : q_kd X a = 11) {v : Int32} (hcl : n < 1) (h1 : 0 ≤ v.toInt) (h2 : v.toInt ≤ 900) (hdg : decode cc pc = .ok (.putfield 30, 3)) (kk : ∀ (H1 : Heap) (locs1 : List Loc) (σ1 : ST), σ1 = q_si σ a 5 v → q_I X n σ0 H0 locs1 σ1 H1 → W p l e R s m args below meth c H1 locs1 cells slots Q (F0 m (pc + 3) ls rest)) : W p l e R s m args below meth c H locs cells slots Q (F0 m pc ls (.int v :: .ref a :: rest)) :=
  q_puti (ref := "CheatHeap") E hI ha ⟨rfl, by decide⟩ (show vwCl[10]? = some (RX11, TX11, 17) from rfl) q_inX11 tyX11_ok nmX11 (f := 5) (by decide) (q_in_t2 (i := 207) (by first | rfl | decide +kernel) rfl) (Or.inl rfl) rfl rfl hcl hdg (q_inB rfl h1 h2) (Or.inl rfl) (fun H1 l1 h => kk H1 l1 _ rfl h)
theorem kv_X11_131 : q_okV RX11 131 RX11 yX11_tapeInt cX11_tapeInt 3 none 1 := ⟨(q_in_t3 (i := 101) (by first | rfl | decide +kernel) rfl), (q_in_t3 (i := 103) (by first | rfl | decide +kernel) rfl), (q_in_p (i := 5) (by decide +kernel) rfl), (q_in_t1 (i := 1) (by first | rfl | decide +kernel) rfl), (q_in_t3 (i := 104) (by first | rfl | decide +kernel) rfl), ⟨rfl, by decide, by decide, rfl⟩⟩
theorem gs_X11_175_4 (E : q_E p c cc s m args RX11 X) (hI : q_I X n σ0 H0 locs σ H) (ha : q_kd X a = 4) (hdg : decode cc pc = .ok (.getfield 175, 3)) (kk : W p l e R s m args below meth c H locs cells slots Q (F0 m (pc + 3) ls (.int (σ.1 a 6) :: rest))) : W p l e R s m args below meth c H locs cells slots Q (F0 m pc ls (.ref a :: rest)) :=
  q_getf (ref := "CheatHeap$Reader") E hI ha ⟨rfl, by decide⟩ (show vwCl[3]? = some (RX4, TX4, 11) from rfl) q_inX4 (f := 6) (by decide) (q_in_t2 (i := 89) (by first | rfl | decide +kernel) rfl) (Or.inl rfl) rfl hdg kk
theorem gs_X11_175_9 (E : q_E p c cc s m args RX11 X) (hI : q_I X n σ0 H0 locs σ H) (ha : q_kd X a = 9) (hdg : decode cc pc = .ok (.getfield 175, 3)) (kk : W p l e R s m args below meth c H locs cells slots Q (F0 m (pc + 3) ls (.int (σ.1 a 6) :: rest))) : W p l e R s m args below meth c H locs cells slots Q (F0 m pc ls (.ref a :: rest)) :=
  q_getf (ref := "CheatHeap$Reader") E hI ha ⟨rfl, by decide⟩ (show vwCl[8]? = some (RX9, TX9, 12) from rfl) q_inX9 (f := 6) (by decide) (q_in_t2 (i := 89) (by first | rfl | decide +kernel) rfl) (Or.inl rfl) rfl hdg kk
theorem gsr_X11_175 (E : q_E p c cc s m args RX11 X) (hI : q_I X n σ0 H0 locs σ H) (ha : q_kd X a = 4 ∨ q_kd X a = 9) (hdg : decode cc pc = .ok (.getfield 175, 3)) (kk : W p l e R s m args below meth c H locs cells slots Q (F0 m (pc + 3) ls (.int (σ.1 a 6) :: rest))) : W p l e R s m args below meth c H locs cells slots Q (F0 m pc ls (.ref a :: rest)) := by
  rcases ha with ha | ha
  · exact gs_X11_175_4 E hI ha hdg kk
  · exact gs_X11_175_9 E hI ha hdg kk
theorem ps_X11_33_11 (E : q_E p c cc s m args RX11 X) (hI : q_I X n σ0 H0 locs σ H) (ha : q_kd X a = 11) {v : Int32} (hcl : n < 9) (hdg : decode cc pc = .ok (.putfield 33, 3)) (kk : ∀ (H1 : Heap) (locs1 : List Loc) (σ1 : ST), σ1 = q_si σ a 6 v → q_I X n σ0 H0 locs1 σ1 H1 → W p l e R s m args below meth c H1 locs1 cells slots Q (F0 m (pc + 3) ls rest)) : W p l e R s m args below meth c H locs cells slots Q (F0 m pc ls (.int v :: .ref a :: rest)) :=
  q_puti (ref := "CheatHeap") E hI ha ⟨rfl, by decide⟩ (show vwCl[10]? = some (RX11, TX11, 17) from rfl) q_inX11 tyX11_ok nmX11 (f := 6) (by decide) (q_in_t2 (i := 208) (by first | rfl | decide +kernel) rfl) (Or.inl rfl) rfl rfl hcl hdg (q_inU rfl) (Or.inl rfl) (fun H1 l1 h => kk H1 l1 _ rfl h)
theorem gs_X11_180_4 (E : q_E p c cc s m args RX11 X) (hI : q_I X n σ0 H0 locs σ H) (ha : q_kd X a = 4) (hdg : decode cc pc = .ok (.getfield 180, 3)) (kk : W p l e R s m args below meth c H locs cells slots Q (F0 m (pc + 3) ls (.int (σ.1 a 7) :: rest))) : W p l e R s m args below meth c H locs cells slots Q (F0 m pc ls (.ref a :: rest)) :=
  q_getf (ref := "CheatHeap$Reader") E hI ha ⟨rfl, by decide⟩ (show vwCl[3]? = some (RX4, TX4, 11) from rfl) q_inX4 (f := 7) (by decide) (q_in_t2 (i := 91) (by first | rfl | decide +kernel) rfl) (Or.inl rfl) rfl hdg kk
theorem gs_X11_180_9 (E : q_E p c cc s m args RX11 X) (hI : q_I X n σ0 H0 locs σ H) (ha : q_kd X a = 9) (hdg : decode cc pc = .ok (.getfield 180, 3)) (kk : W p l e R s m args below meth c H locs cells slots Q (F0 m (pc + 3) ls (.int (σ.1 a 7) :: rest))) : W p l e R s m args below meth c H locs cells slots Q (F0 m pc ls (.ref a :: rest)) :=
  q_getf (ref := "CheatHeap$Reader") E hI ha ⟨rfl, by decide⟩ (show vwCl[8]? = some (RX9, TX9, 12) from rfl) q_inX9 (f := 7) (by decide) (q_in_t2 (i := 91) (by first | rfl | decide +kernel) rfl) (Or.inl rfl) rfl hdg kk
theorem gsr_X11_180 (E : q_E p c cc s m args RX11 X) (hI : q_I X n σ0 H0 locs σ H) (ha : q_kd X a = 4 ∨ q_kd X a = 9) (hdg : decode cc pc = .ok (.getfield 180, 3)) (kk : W p l e R s m args below meth c H locs cells slots Q (F0 m (pc + 3) ls (.int (σ.1 a 7) :: rest))) : W p l e R s m args below meth c H locs cells slots Q (F0 m pc ls (.ref a :: rest)) := by
  rcases ha with ha | ha
  · exact gs_X11_180_4 E hI ha hdg kk
  · exact gs_X11_180_9 E hI ha hdg kk
theorem ps_X11_36_11 (E : q_E p c cc s m args RX11 X) (hI : q_I X n σ0 H0 locs σ H) (ha : q_kd X a = 11) {v : Int32} (hcl : n < 9) (hdg : decode cc pc = .ok (.putfield 36, 3)) (kk : ∀ (H1 : Heap) (locs1 : List Loc) (σ1 : ST), σ1 = q_si σ a 7 v → q_I X n σ0 H0 locs1 σ1 H1 → W p l e R s m args below meth c H1 locs1 cells slots Q (F0 m (pc + 3) ls rest)) : W p l e R s m args below meth c H locs cells slots Q (F0 m pc ls (.int v :: .ref a :: rest)) :=
  q_puti (ref := "CheatHeap") E hI ha ⟨rfl, by decide⟩ (show vwCl[10]? = some (RX11, TX11, 17) from rfl) q_inX11 tyX11_ok nmX11 (f := 7) (by decide) (q_in_t2 (i := 209) (by first | rfl | decide +kernel) rfl) (Or.inl rfl) rfl rfl hcl hdg (q_inU rfl) (Or.inl rfl) (fun H1 l1 h => kk H1 l1 _ rfl h)
theorem gs_X11_59_11 (E : q_E p c cc s m args RX11 X) (hI : q_I X n σ0 H0 locs σ H) (ha : q_kd X a = 11) (hdg : decode cc pc = .ok (.getfield 59, 3)) (kk : W p l e R s m args below meth c H locs cells slots Q (F0 m (pc + 3) ls (.ref (q_rf X a 12) :: rest))) : W p l e R s m args below meth c H locs cells slots Q (F0 m pc ls (.ref a :: rest)) :=
  q_getf (ref := "CheatHeap") E hI ha ⟨rfl, by decide⟩ (show vwCl[10]? = some (RX11, TX11, 17) from rfl) q_inX11 (f := 12) (by decide) (q_in_t2 (i := 214) (by first | rfl | decide +kernel) rfl) (Or.inl rfl) rfl hdg kk
theorem kv_X11_135 : q_okV RX11 135 RX9 yX9_takes cX9_takes 4 (some .boolean) 2 := ⟨(q_in_t3 (i := 109) (by first | rfl | decide +kernel) rfl), (q_in_t3 (i := 110) (by first | rfl | decide +kernel) rfl), (q_in_t3 (i := 111) (by first | rfl | decide +kernel) rfl), (q_in_t1 (i := 10) (by first | rfl | decide +kernel) rfl), (q_in_t3 (i := 112) (by first | rfl | decide +kernel) rfl), ⟨rfl, by decide, by decide, rfl⟩⟩
theorem kv_X11_139 : q_okV RX11 139 RX11 yX11_endReading cX11_endReading 2 none 1 := ⟨(q_in_t4 (i := 121) (by first | rfl | decide +kernel) rfl), (q_in_t4 (i := 123) (by first | rfl | decide +kernel) rfl), (q_in_p (i := 14) (by decide +kernel) rfl), (q_in_t1 (i := 1) (by first | rfl | decide +kernel) rfl), (q_in_t4 (i := 124) (by first | rfl | decide +kernel) rfl), ⟨rfl, by decide, by decide, rfl⟩⟩
theorem gs_X11_42_11 (E : q_E p c cc s m args RX11 X) (hI : q_I X n σ0 H0 locs σ H) (ha : q_kd X a = 11) (hdg : decode cc pc = .ok (.getfield 42, 3)) (kk : W p l e R s m args below meth c H locs cells slots Q (F0 m (pc + 3) ls (.ref (q_rf X a 8) :: rest))) : W p l e R s m args below meth c H locs cells slots Q (F0 m pc ls (.ref a :: rest)) :=
  q_getf (ref := "CheatHeap") E hI ha ⟨rfl, by decide⟩ (show vwCl[10]? = some (RX11, TX11, 17) from rfl) q_inX11 (f := 8) (by decide) (q_in_t2 (i := 210) (by first | rfl | decide +kernel) rfl) (Or.inl rfl) rfl hdg kk
theorem gs_X11_143_9 (E : q_E p c cc s m args RX11 X) (hI : q_I X n σ0 H0 locs σ H) (ha : q_kd X a = 9) (hdg : decode cc pc = .ok (.getfield 143, 3)) (kk : W p l e R s m args below meth c H locs cells slots Q (F0 m (pc + 3) ls (.ref (q_rf X a 8) :: rest))) : W p l e R s m args below meth c H locs cells slots Q (F0 m pc ls (.ref a :: rest)) :=
  q_getf (ref := "CheatHeap$TableReader") E hI ha ⟨rfl, by decide⟩ (show vwCl[8]? = some (RX9, TX9, 12) from rfl) q_inX9 (f := 8) (by decide) (q_in_t2 (i := 72) (by first | rfl | decide +kernel) rfl) (Or.inl rfl) rfl hdg kk
theorem kv_X11_144 : q_okV RX11 144 RX0 yX0_copyFrom cX0_copyFrom 2 none 1 := ⟨(q_in_t4 (i := 125) (by first | rfl | decide +kernel) rfl), (q_in_t4 (i := 126) (by first | rfl | decide +kernel) rfl), (q_in_t4 (i := 127) (by first | rfl | decide +kernel) rfl), (q_in_t1 (i := 2) (by first | rfl | decide +kernel) rfl), (q_in_t4 (i := 128) (by first | rfl | decide +kernel) rfl), ⟨rfl, by decide, by decide, rfl⟩⟩
theorem gs_X11_147_1 (E : q_E p c cc s m args RX11 X) (hI : q_I X n σ0 H0 locs σ H) (ha : q_kd X a = 1) (hdg : decode cc pc = .ok (.getfield 147, 3)) (kk : W p l e R s m args below meth c H locs cells slots Q (F0 m (pc + 3) ls (.ref (q_rf X a 0) :: rest))) : W p l e R s m args below meth c H locs cells slots Q (F0 m pc ls (.ref a :: rest)) :=
  q_getf (ref := "CheatHeap$Game") E hI ha ⟨rfl, by decide⟩ (show vwCl[0]? = some (RX0, TX0, 15) from rfl) q_inX0 (f := 0) (by decide) (q_in_t1 (i := 231) (by first | rfl | decide +kernel) rfl) (Or.inl rfl) rfl hdg kk
theorem gs_X11_151_6 (E : q_E p c cc s m args RX11 X) (hI : q_I X n σ0 H0 locs σ H) (ha : q_kd X a = 6) (hdg : decode cc pc = .ok (.getfield 151, 3)) (kk : W p l e R s m args below meth c H locs cells slots Q (F0 m (pc + 3) ls (.int (σ.1 a 4) :: rest))) : W p l e R s m args below meth c H locs cells slots Q (F0 m pc ls (.ref a :: rest)) :=
  q_getf (ref := "CheatHeap$Rules") E hI ha ⟨rfl, by decide⟩ (show vwCl[5]? = some (RX6, TX6, 8) from rfl) q_inX6 (f := 4) (by decide) (q_in_t1 (i := 76) (by first | rfl | decide +kernel) rfl) (Or.inl rfl) rfl hdg kk
theorem kv_X11_156 : q_okV RX11 156 RX11 yX11_good cX11_good 2 (some .int) 1 := ⟨(q_in_t4 (i := 152) (by first | rfl | decide +kernel) rfl), (q_in_t4 (i := 154) (by first | rfl | decide +kernel) rfl), (q_in_p (i := 15) (by decide +kernel) rfl), (q_in_t1 (i := 1) (by first | rfl | decide +kernel) rfl), (q_in_t4 (i := 155) (by first | rfl | decide +kernel) rfl), ⟨rfl, by decide, by decide, rfl⟩⟩
theorem gs_X11_66_11 (E : q_E p c cc s m args RX11 X) (hI : q_I X n σ0 H0 locs σ H) (ha : q_kd X a = 11) (hdg : decode cc pc = .ok (.getfield 66, 3)) (kk : W p l e R s m args below meth c H locs cells slots Q (F0 m (pc + 3) ls (.ref (q_rf X a 13) :: rest))) : W p l e R s m args below meth c H locs cells slots Q (F0 m pc ls (.ref a :: rest)) :=
  q_getf (ref := "CheatHeap") E hI ha ⟨rfl, by decide⟩ (show vwCl[10]? = some (RX11, TX11, 17) from rfl) q_inX11 (f := 13) (by decide) (q_in_t2 (i := 215) (by first | rfl | decide +kernel) rfl) (Or.inl rfl) rfl hdg kk
theorem kv_X11_159 : q_okV RX11 159 RX4 yX4_takes cX4_takes 6 (some .boolean) 3 := ⟨(q_in_t4 (i := 160) (by first | rfl | decide +kernel) rfl), (q_in_t4 (i := 161) (by first | rfl | decide +kernel) rfl), (q_in_t4 (i := 162) (by first | rfl | decide +kernel) rfl), (q_in_t1 (i := 11) (by first | rfl | decide +kernel) rfl), (q_in_t4 (i := 163) (by first | rfl | decide +kernel) rfl), ⟨rfl, by decide, by decide, rfl⟩⟩
theorem gs_X11_162_1 (E : q_E p c cc s m args RX11 X) (hI : q_I X n σ0 H0 locs σ H) (ha : q_kd X a = 1) (hdg : decode cc pc = .ok (.getfield 162, 3)) (kk : W p l e R s m args below meth c H locs cells slots Q (F0 m (pc + 3) ls (.ref (q_rf X a 3) :: rest))) : W p l e R s m args below meth c H locs cells slots Q (F0 m pc ls (.ref a :: rest)) :=
  q_getf (ref := "CheatHeap$Game") E hI ha ⟨rfl, by decide⟩ (show vwCl[0]? = some (RX0, TX0, 15) from rfl) q_inX0 (f := 3) (by decide) (q_in_t2 (i := 1) (by first | rfl | decide +kernel) rfl) (Or.inl rfl) rfl hdg kk
theorem gs_X11_166_4 (E : q_E p c cc s m args RX11 X) (hI : q_I X n σ0 H0 locs σ H) (ha : q_kd X a = 4) (hdg : decode cc pc = .ok (.getfield 166, 3)) (kk : W p l e R s m args below meth c H locs cells slots Q (F0 m (pc + 3) ls (.ref (q_rf X a 8) :: rest))) : W p l e R s m args below meth c H locs cells slots Q (F0 m pc ls (.ref a :: rest)) :=
  q_getf (ref := "CheatHeap$RoundReader") E hI ha ⟨rfl, by decide⟩ (show vwCl[3]? = some (RX4, TX4, 11) from rfl) q_inX4 (f := 8) (by decide) (q_in_t2 (i := 128) (by first | rfl | decide +kernel) rfl) (Or.inl rfl) rfl hdg kk
theorem kv_X11_167 : q_okV RX11 167 RX8 yX8_copyFrom cX8_copyFrom 2 none 1 := ⟨(q_in_t5 (i := 1) (by first | rfl | decide +kernel) rfl), (q_in_t4 (i := 148) (by first | rfl | decide +kernel) rfl), (q_in_t4 (i := 149) (by first | rfl | decide +kernel) rfl), (q_in_t1 (i := 8) (by first | rfl | decide +kernel) rfl), (q_in_t4 (i := 150) (by first | rfl | decide +kernel) rfl), ⟨rfl, by decide, by decide, rfl⟩⟩
theorem gs_X11_172_8 (E : q_E p c cc s m args RX11 X) (hI : q_I X n σ0 H0 locs σ H) (ha : q_kd X a = 8) (hdg : decode cc pc = .ok (.getfield 172, 3)) (kk : W p l e R s m args below meth c H locs cells slots Q (F0 m (pc + 3) ls (.int (σ.1 a 1) :: rest))) : W p l e R s m args below meth c H locs cells slots Q (F0 m pc ls (.ref a :: rest)) :=
  q_getf (ref := "CheatHeap$Script") E hI ha ⟨rfl, by decide⟩ (show vwCl[7]? = some (RX8, TX8, 8) from rfl) q_inX8 (f := 1) (by decide) (q_in_t1 (i := 192) (by first | rfl | decide +kernel) rfl) (Or.inl rfl) rfl hdg kk
theorem gs_X11_36_11 (E : q_E p c cc s m args RX11 X) (hI : q_I X n σ0 H0 locs σ H) (ha : q_kd X a = 11) (hdg : decode cc pc = .ok (.getfield 36, 3)) (kk : W p l e R s m args below meth c H locs cells slots Q (F0 m (pc + 3) ls (.int (σ.1 a 7) :: rest))) : W p l e R s m args below meth c H locs cells slots Q (F0 m pc ls (.ref a :: rest)) :=
  q_getf (ref := "CheatHeap") E hI ha ⟨rfl, by decide⟩ (show vwCl[10]? = some (RX11, TX11, 17) from rfl) q_inX11 (f := 7) (by decide) (q_in_t2 (i := 209) (by first | rfl | decide +kernel) rfl) (Or.inl rfl) rfl hdg kk
theorem gs_X11_33_11 (E : q_E p c cc s m args RX11 X) (hI : q_I X n σ0 H0 locs σ H) (ha : q_kd X a = 11) (hdg : decode cc pc = .ok (.getfield 33, 3)) (kk : W p l e R s m args below meth c H locs cells slots Q (F0 m (pc + 3) ls (.int (σ.1 a 6) :: rest))) : W p l e R s m args below meth c H locs cells slots Q (F0 m pc ls (.ref a :: rest)) :=
  q_getf (ref := "CheatHeap") E hI ha ⟨rfl, by decide⟩ (show vwCl[10]? = some (RX11, TX11, 17) from rfl) q_inX11 (f := 6) (by decide) (q_in_t2 (i := 208) (by first | rfl | decide +kernel) rfl) (Or.inl rfl) rfl hdg kk
theorem gs_X11_183_6 (E : q_E p c cc s m args RX11 X) (hI : q_I X n σ0 H0 locs σ H) (ha : q_kd X a = 6) (hdg : decode cc pc = .ok (.getfield 183, 3)) (kk : W p l e R s m args below meth c H locs cells slots Q (F0 m (pc + 3) ls (.int (σ.1 a 0) :: rest))) : W p l e R s m args below meth c H locs cells slots Q (F0 m pc ls (.ref a :: rest)) :=
  q_getf (ref := "CheatHeap$Rules") E hI ha ⟨rfl, by decide⟩ (show vwCl[5]? = some (RX6, TX6, 8) from rfl) q_inX6 (f := 0) (by decide) (q_in_t1 (i := 61) (by first | rfl | decide +kernel) rfl) (Or.inl rfl) rfl hdg kk
theorem gs_X11_186_6 (E : q_E p c cc s m args RX11 X) (hI : q_I X n σ0 H0 locs σ H) (ha : q_kd X a = 6) (hdg : decode cc pc = .ok (.getfield 186, 3)) (kk : W p l e R s m args below meth c H locs cells slots Q (F0 m (pc + 3) ls (.int (σ.1 a 1) :: rest))) : W p l e R s m args below meth c H locs cells slots Q (F0 m pc ls (.ref a :: rest)) :=
  q_getf (ref := "CheatHeap$Rules") E hI ha ⟨rfl, by decide⟩ (show vwCl[5]? = some (RX6, TX6, 8) from rfl) q_inX6 (f := 1) (by decide) (q_in_t1 (i := 64) (by first | rfl | decide +kernel) rfl) (Or.inl rfl) rfl hdg kk
theorem gs_X11_189_6 (E : q_E p c cc s m args RX11 X) (hI : q_I X n σ0 H0 locs σ H) (ha : q_kd X a = 6) (hdg : decode cc pc = .ok (.getfield 189, 3)) (kk : W p l e R s m args below meth c H locs cells slots Q (F0 m (pc + 3) ls (.int (σ.1 a 2) :: rest))) : W p l e R s m args below meth c H locs cells slots Q (F0 m pc ls (.ref a :: rest)) :=
  q_getf (ref := "CheatHeap$Rules") E hI ha ⟨rfl, by decide⟩ (show vwCl[5]? = some (RX6, TX6, 8) from rfl) q_inX6 (f := 2) (by decide) (q_in_t1 (i := 67) (by first | rfl | decide +kernel) rfl) (Or.inl rfl) rfl hdg kk
theorem gs_X11_192_6 (E : q_E p c cc s m args RX11 X) (hI : q_I X n σ0 H0 locs σ H) (ha : q_kd X a = 6) (hdg : decode cc pc = .ok (.getfield 192, 3)) (kk : W p l e R s m args below meth c H locs cells slots Q (F0 m (pc + 3) ls (.int (σ.1 a 3) :: rest))) : W p l e R s m args below meth c H locs cells slots Q (F0 m pc ls (.ref a :: rest)) :=
  q_getf (ref := "CheatHeap$Rules") E hI ha ⟨rfl, by decide⟩ (show vwCl[5]? = some (RX6, TX6, 8) from rfl) q_inX6 (f := 3) (by decide) (q_in_t1 (i := 71) (by first | rfl | decide +kernel) rfl) (Or.inl rfl) rfl hdg kk
theorem gs_X11_195_1 (E : q_E p c cc s m args RX11 X) (hI : q_I X n σ0 H0 locs σ H) (ha : q_kd X a = 1) (hdg : decode cc pc = .ok (.getfield 195, 3)) (kk : W p l e R s m args below meth c H locs cells slots Q (F0 m (pc + 3) ls (.int (σ.1 a 4) :: rest))) : W p l e R s m args below meth c H locs cells slots Q (F0 m pc ls (.ref a :: rest)) :=
  q_getf (ref := "CheatHeap$Game") E hI ha ⟨rfl, by decide⟩ (show vwCl[0]? = some (RX0, TX0, 15) from rfl) q_inX0 (f := 4) (by decide) (q_in_t2 (i := 4) (by first | rfl | decide +kernel) rfl) (Or.inl rfl) rfl hdg kk
theorem gs_X11_198_1 (E : q_E p c cc s m args RX11 X) (hI : q_I X n σ0 H0 locs σ H) (ha : q_kd X a = 1) (hdg : decode cc pc = .ok (.getfield 198, 3)) (kk : W p l e R s m args below meth c H locs cells slots Q (F0 m (pc + 3) ls (.int (σ.1 a 5) :: rest))) : W p l e R s m args below meth c H locs cells slots Q (F0 m pc ls (.ref a :: rest)) :=
  q_getf (ref := "CheatHeap$Game") E hI ha ⟨rfl, by decide⟩ (show vwCl[0]? = some (RX0, TX0, 15) from rfl) q_inX0 (f := 5) (by decide) (q_in_t2 (i := 7) (by first | rfl | decide +kernel) rfl) (Or.inl rfl) rfl hdg kk
theorem gs_X11_201_1 (E : q_E p c cc s m args RX11 X) (hI : q_I X n σ0 H0 locs σ H) (ha : q_kd X a = 1) (hdg : decode cc pc = .ok (.getfield 201, 3)) (kk : W p l e R s m args below meth c H locs cells slots Q (F0 m (pc + 3) ls (.ref (q_rf X a 2) :: rest))) : W p l e R s m args below meth c H locs cells slots Q (F0 m pc ls (.ref a :: rest)) :=
  q_getf (ref := "CheatHeap$Game") E hI ha ⟨rfl, by decide⟩ (show vwCl[0]? = some (RX0, TX0, 15) from rfl) q_inX0 (f := 2) (by decide) (q_in_t1 (i := 238) (by first | rfl | decide +kernel) rfl) (Or.inl rfl) rfl hdg kk
theorem gs_X11_205_3 (E : q_E p c cc s m args RX11 X) (hI : q_I X n σ0 H0 locs σ H) (ha : q_kd X a = 3) (hdg : decode cc pc = .ok (.getfield 205, 3)) (kk : W p l e R s m args below meth c H locs cells slots Q (F0 m (pc + 3) ls (.int (σ.1 a 1) :: rest))) : W p l e R s m args below meth c H locs cells slots Q (F0 m pc ls (.ref a :: rest)) :=
  q_getf (ref := "CheatHeap$Pile") E hI ha ⟨rfl, by decide⟩ (show vwCl[2]? = some (RX2, TX2, 6) from rfl) q_inX2 (f := 1) (by decide) (q_in_t1 (i := 158) (by first | rfl | decide +kernel) rfl) (Or.inl rfl) rfl hdg kk
theorem gs_X11_210_1 (E : q_E p c cc s m args RX11 X) (hI : q_I X n σ0 H0 locs σ H) (ha : q_kd X a = 1) (hdg : decode cc pc = .ok (.getfield 210, 3)) (kk : W p l e R s m args below meth c H locs cells slots Q (F0 m (pc + 3) ls (.int (σ.1 a 7) :: rest))) : W p l e R s m args below meth c H locs cells slots Q (F0 m pc ls (.ref a :: rest)) :=
  q_getf (ref := "CheatHeap$Game") E hI ha ⟨rfl, by decide⟩ (show vwCl[0]? = some (RX0, TX0, 15) from rfl) q_inX0 (f := 7) (by decide) (q_in_t2 (i := 13) (by first | rfl | decide +kernel) rfl) (Or.inl rfl) rfl hdg kk
theorem gs_X11_213_1 (E : q_E p c cc s m args RX11 X) (hI : q_I X n σ0 H0 locs σ H) (ha : q_kd X a = 1) (hdg : decode cc pc = .ok (.getfield 213, 3)) (kk : W p l e R s m args below meth c H locs cells slots Q (F0 m (pc + 3) ls (.int (σ.1 a 6) :: rest))) : W p l e R s m args below meth c H locs cells slots Q (F0 m pc ls (.ref a :: rest)) :=
  q_getf (ref := "CheatHeap$Game") E hI ha ⟨rfl, by decide⟩ (show vwCl[0]? = some (RX0, TX0, 15) from rfl) q_inX0 (f := 6) (by decide) (q_in_t2 (i := 10) (by first | rfl | decide +kernel) rfl) (Or.inl rfl) rfl hdg kk
theorem gs_X11_216_3 (E : q_E p c cc s m args RX11 X) (hI : q_I X n σ0 H0 locs σ H) (ha : q_kd X a = 3) (hdg : decode cc pc = .ok (.getfield 216, 3)) (kk : W p l e R s m args below meth c H locs cells slots Q (F0 m (pc + 3) ls (.int (σ.1 a 0) :: rest))) : W p l e R s m args below meth c H locs cells slots Q (F0 m pc ls (.ref a :: rest)) :=
  q_getf (ref := "CheatHeap$Pile") E hI ha ⟨rfl, by decide⟩ (show vwCl[2]? = some (RX2, TX2, 6) from rfl) q_inX2 (f := 0) (by decide) (q_in_t1 (i := 154) (by first | rfl | decide +kernel) rfl) (Or.inl rfl) rfl hdg kk
theorem kv_X11_219 : q_okV RX11 219 RX11 yX11_isPlayer cX11_isPlayer 2 (some .boolean) 1 := ⟨(q_in_t5 (i := 14) (by first | rfl | decide +kernel) rfl), (q_in_t5 (i := 16) (by first | rfl | decide +kernel) rfl), (q_in_p (i := 21) (by decide +kernel) rfl), (q_in_t1 (i := 1) (by first | rfl | decide +kernel) rfl), (q_in_t5 (i := 17) (by first | rfl | decide +kernel) rfl), ⟨rfl, by decide, by decide, rfl⟩⟩
theorem gs_X11_222_1 (E : q_E p c cc s m args RX11 X) (hI : q_I X n σ0 H0 locs σ H) (ha : q_kd X a = 1) (hdg : decode cc pc = .ok (.getfield 222, 3)) (kk : W p l e R s m args below meth c H locs cells slots Q (F0 m (pc + 3) ls (.ref (q_rf X a 1) :: rest))) : W p l e R s m args below meth c H locs cells slots Q (F0 m pc ls (.ref a :: rest)) :=
  q_getf (ref := "CheatHeap$Game") E hI ha ⟨rfl, by decide⟩ (show vwCl[0]? = some (RX0, TX0, 15) from rfl) q_inX0 (f := 1) (by decide) (q_in_t1 (i := 235) (by first | rfl | decide +kernel) rfl) (Or.inl rfl) rfl hdg kk
theorem gs_X11_226_2 (E : q_E p c cc s m args RX11 X) (hI : q_I X n σ0 H0 locs σ H) (ha : q_kd X a = 2) (hdg : decode cc pc = .ok (.getfield 226, 3)) (kk : W p l e R s m args below meth c H locs cells slots Q (F0 m (pc + 3) ls (.ref (q_rf X a 3) :: rest))) : W p l e R s m args below meth c H locs cells slots Q (F0 m pc ls (.ref a :: rest)) :=
  q_getf (ref := "CheatHeap$Hands") E hI ha ⟨rfl, by decide⟩ (show vwCl[1]? = some (RX1, TX1, 7) from rfl) q_inX1 (f := 3) (by decide) (q_in_t1 (i := 118) (by first | rfl | decide +kernel) rfl) (Or.inl rfl) rfl hdg kk
theorem kv_X11_232 : q_okV RX11 232 RX5 yX5_get cX5_get 2 (some .int) 1 := ⟨(q_in_t5 (i := 18) (by first | rfl | decide +kernel) rfl), (q_in_t4 (i := 73) (by first | rfl | decide +kernel) rfl), (q_in_t4 (i := 74) (by first | rfl | decide +kernel) rfl), (q_in_t1 (i := 4) (by first | rfl | decide +kernel) rfl), (q_in_t4 (i := 75) (by first | rfl | decide +kernel) rfl), ⟨rfl, by decide, by decide, rfl⟩⟩
theorem gs_X11_236_2 (E : q_E p c cc s m args RX11 X) (hI : q_I X n σ0 H0 locs σ H) (ha : q_kd X a = 2) (hdg : decode cc pc = .ok (.getfield 236, 3)) (kk : W p l e R s m args below meth c H locs cells slots Q (F0 m (pc + 3) ls (.ref (q_rf X a 4) :: rest))) : W p l e R s m args below meth c H locs cells slots Q (F0 m pc ls (.ref a :: rest)) :=
  q_getf (ref := "CheatHeap$Hands") E hI ha ⟨rfl, by decide⟩ (show vwCl[1]? = some (RX1, TX1, 7) from rfl) q_inX1 (f := 4) (by decide) (q_in_t1 (i := 122) (by first | rfl | decide +kernel) rfl) (Or.inl rfl) rfl hdg kk
theorem gs_X11_239_2 (E : q_E p c cc s m args RX11 X) (hI : q_I X n σ0 H0 locs σ H) (ha : q_kd X a = 2) (hdg : decode cc pc = .ok (.getfield 239, 3)) (kk : W p l e R s m args below meth c H locs cells slots Q (F0 m (pc + 3) ls (.ref (q_rf X a 2) :: rest))) : W p l e R s m args below meth c H locs cells slots Q (F0 m pc ls (.ref a :: rest)) :=
  q_getf (ref := "CheatHeap$Hands") E hI ha ⟨rfl, by decide⟩ (show vwCl[1]? = some (RX1, TX1, 7) from rfl) q_inX1 (f := 2) (by decide) (q_in_t1 (i := 114) (by first | rfl | decide +kernel) rfl) (Or.inl rfl) rfl hdg kk
theorem gs_X11_241_2 (E : q_E p c cc s m args RX11 X) (hI : q_I X n σ0 H0 locs σ H) (ha : q_kd X a = 2) (hdg : decode cc pc = .ok (.getfield 241, 3)) (kk : W p l e R s m args below meth c H locs cells slots Q (F0 m (pc + 3) ls (.ref (q_rf X a 5) :: rest))) : W p l e R s m args below meth c H locs cells slots Q (F0 m pc ls (.ref a :: rest)) :=
  q_getf (ref := "CheatHeap$Hands") E hI ha ⟨rfl, by decide⟩ (show vwCl[1]? = some (RX1, TX1, 7) from rfl) q_inX1 (f := 5) (by decide) (q_in_t1 (i := 126) (by first | rfl | decide +kernel) rfl) (Or.inl rfl) rfl hdg kk
theorem gs_X11_244_2 (E : q_E p c cc s m args RX11 X) (hI : q_I X n σ0 H0 locs σ H) (ha : q_kd X a = 2) (hdg : decode cc pc = .ok (.getfield 244, 3)) (kk : W p l e R s m args below meth c H locs cells slots Q (F0 m (pc + 3) ls (.ref (q_rf X a 6) :: rest))) : W p l e R s m args below meth c H locs cells slots Q (F0 m pc ls (.ref a :: rest)) :=
  q_getf (ref := "CheatHeap$Hands") E hI ha ⟨rfl, by decide⟩ (show vwCl[1]? = some (RX1, TX1, 7) from rfl) q_inX1 (f := 6) (by decide) (q_in_t1 (i := 129) (by first | rfl | decide +kernel) rfl) (Or.inl rfl) rfl hdg kk
theorem kv_X11_247 : q_okV RX11 247 RX1 yX1_allLaidBy cX1_allLaidBy 2 (some .int) 1 := ⟨(q_in_t5 (i := 19) (by first | rfl | decide +kernel) rfl), (q_in_t5 (i := 20) (by first | rfl | decide +kernel) rfl), (q_in_t5 (i := 21) (by first | rfl | decide +kernel) rfl), (q_in_t1 (i := 6) (by first | rfl | decide +kernel) rfl), (q_in_t5 (i := 22) (by first | rfl | decide +kernel) rfl), ⟨rfl, by decide, by decide, rfl⟩⟩
theorem kv_X11_250 : q_okV RX11 250 RX11 yX11_isKind cX11_isKind 2 (some .boolean) 1 := ⟨(q_in_t5 (i := 32) (by first | rfl | decide +kernel) rfl), (q_in_t5 (i := 34) (by first | rfl | decide +kernel) rfl), (q_in_p (i := 22) (by decide +kernel) rfl), (q_in_t1 (i := 1) (by first | rfl | decide +kernel) rfl), (q_in_t5 (i := 35) (by first | rfl | decide +kernel) rfl), ⟨rfl, by decide, by decide, rfl⟩⟩
theorem kv_X11_253 : q_okV RX11 253 RX1 yX1_heldBy cX1_heldBy 3 (some .int) 2 := ⟨(q_in_t5 (i := 36) (by first | rfl | decide +kernel) rfl), (q_in_t5 (i := 37) (by first | rfl | decide +kernel) rfl), (q_in_t5 (i := 38) (by first | rfl | decide +kernel) rfl), (q_in_t1 (i := 6) (by first | rfl | decide +kernel) rfl), (q_in_t5 (i := 39) (by first | rfl | decide +kernel) rfl), ⟨rfl, by decide, by decide, rfl⟩⟩
theorem gs_X11_257_6 (E : q_E p c cc s m args RX11 X) (hI : q_I X n σ0 H0 locs σ H) (ha : q_kd X a = 6) (hdg : decode cc pc = .ok (.getfield 257, 3)) (kk : W p l e R s m args below meth c H locs cells slots Q (F0 m (pc + 3) ls (.ref (q_rf X a 5) :: rest))) : W p l e R s m args below meth c H locs cells slots Q (F0 m pc ls (.ref a :: rest)) :=
  q_getf (ref := "CheatHeap$Rules") E hI ha ⟨rfl, by decide⟩ (show vwCl[5]? = some (RX6, TX6, 8) from rfl) q_inX6 (f := 5) (by decide) (q_in_t1 (i := 81) (by first | rfl | decide +kernel) rfl) (Or.inl rfl) rfl hdg kk
theorem gs_X11_260_3 (E : q_E p c cc s m args RX11 X) (hI : q_I X n σ0 H0 locs σ H) (ha : q_kd X a = 3) (hdg : decode cc pc = .ok (.getfield 260, 3)) (kk : W p l e R s m args below meth c H locs cells slots Q (F0 m (pc + 3) ls (.ref (q_rf X a 2) :: rest))) : W p l e R s m args below meth c H locs cells slots Q (F0 m pc ls (.ref a :: rest)) :=
  q_getf (ref := "CheatHeap$Pile") E hI ha ⟨rfl, by decide⟩ (show vwCl[2]? = some (RX2, TX2, 6) from rfl) q_inX2 (f := 2) (by decide) (q_in_t1 (i := 160) (by first | rfl | decide +kernel) rfl) (Or.inl rfl) rfl hdg kk
theorem gs_X11_263_3 (E : q_E p c cc s m args RX11 X) (hI : q_I X n σ0 H0 locs σ H) (ha : q_kd X a = 3) (hdg : decode cc pc = .ok (.getfield 263, 3)) (kk : W p l e R s m args below meth c H locs cells slots Q (F0 m (pc + 3) ls (.ref (q_rf X a 3) :: rest))) : W p l e R s m args below meth c H locs cells slots Q (F0 m pc ls (.ref a :: rest)) :=
  q_getf (ref := "CheatHeap$Pile") E hI ha ⟨rfl, by decide⟩ (show vwCl[2]? = some (RX2, TX2, 6) from rfl) q_inX2 (f := 3) (by decide) (q_in_t1 (i := 162) (by first | rfl | decide +kernel) rfl) (Or.inl rfl) rfl hdg kk
theorem gs_X11_266_3 (E : q_E p c cc s m args RX11 X) (hI : q_I X n σ0 H0 locs σ H) (ha : q_kd X a = 3) (hdg : decode cc pc = .ok (.getfield 266, 3)) (kk : W p l e R s m args below meth c H locs cells slots Q (F0 m (pc + 3) ls (.ref (q_rf X a 4) :: rest))) : W p l e R s m args below meth c H locs cells slots Q (F0 m pc ls (.ref a :: rest)) :=
  q_getf (ref := "CheatHeap$Pile") E hI ha ⟨rfl, by decide⟩ (show vwCl[2]? = some (RX2, TX2, 6) from rfl) q_inX2 (f := 4) (by decide) (q_in_t1 (i := 164) (by first | rfl | decide +kernel) rfl) (Or.inl rfl) rfl hdg kk
theorem kv_X11_269 : q_okV RX11 269 RX2 yX2_truth cX2_truth 4 (some .int) 1 := ⟨(q_in_t5 (i := 49) (by first | rfl | decide +kernel) rfl), (q_in_t5 (i := 50) (by first | rfl | decide +kernel) rfl), (q_in_t5 (i := 51) (by first | rfl | decide +kernel) rfl), (q_in_t1 (i := 7) (by first | rfl | decide +kernel) rfl), (q_in_t5 (i := 52) (by first | rfl | decide +kernel) rfl), ⟨rfl, by decide, by decide, rfl⟩⟩
theorem kv_X11_272 : q_okV RX11 272 RX2 yX2_kindOf cX2_kindOf 3 (some .int) 2 := ⟨(q_in_t5 (i := 58) (by first | rfl | decide +kernel) rfl), (q_in_t5 (i := 59) (by first | rfl | decide +kernel) rfl), (q_in_t5 (i := 60) (by first | rfl | decide +kernel) rfl), (q_in_t1 (i := 7) (by first | rfl | decide +kernel) rfl), (q_in_t5 (i := 61) (by first | rfl | decide +kernel) rfl), ⟨rfl, by decide, by decide, rfl⟩⟩
theorem kv_X11_275 : q_okV RX11 275 RX11 yX11_isKindOrNone cX11_isKindOrNone 2 (some .boolean) 1 := ⟨(q_in_t5 (i := 70) (by first | rfl | decide +kernel) rfl), (q_in_t5 (i := 72) (by first | rfl | decide +kernel) rfl), (q_in_p (i := 23) (by decide +kernel) rfl), (q_in_t1 (i := 1) (by first | rfl | decide +kernel) rfl), (q_in_t5 (i := 73) (by first | rfl | decide +kernel) rfl), ⟨rfl, by decide, by decide, rfl⟩⟩
theorem kv_X11_278 : q_okV RX11 278 RX0 yX0_clearWanted cX0_clearWanted 1 none 0 := ⟨(q_in_t5 (i := 74) (by first | rfl | decide +kernel) rfl), (q_in_t5 (i := 75) (by first | rfl | decide +kernel) rfl), (q_in_t5 (i := 76) (by first | rfl | decide +kernel) rfl), (q_in_t1 (i := 2) (by first | rfl | decide +kernel) rfl), (q_in_t5 (i := 77) (by first | rfl | decide +kernel) rfl), ⟨rfl, by decide, by decide, rfl⟩⟩
theorem kv_X11_281 : q_okV RX11 281 RX0 yX0_want cX0_want 3 none 2 := ⟨(q_in_t5 (i := 79) (by first | rfl | decide +kernel) rfl), (q_in_t5 (i := 80) (by first | rfl | decide +kernel) rfl), (q_in_t5 (i := 81) (by first | rfl | decide +kernel) rfl), (q_in_t1 (i := 2) (by first | rfl | decide +kernel) rfl), (q_in_t5 (i := 82) (by first | rfl | decide +kernel) rfl), ⟨rfl, by decide, by decide, rfl⟩⟩
theorem gs_X11_284_1 (E : q_E p c cc s m args RX11 X) (hI : q_I X n σ0 H0 locs σ H) (ha : q_kd X a = 1) (hdg : decode cc pc = .ok (.getfield 284, 3)) (kk : W p l e R s m args below meth c H locs cells slots Q (F0 m (pc + 3) ls (.int (σ.1 a 9) :: rest))) : W p l e R s m args below meth c H locs cells slots Q (F0 m pc ls (.ref a :: rest)) :=
  q_getf (ref := "CheatHeap$Game") E hI ha ⟨rfl, by decide⟩ (show vwCl[0]? = some (RX0, TX0, 15) from rfl) q_inX0 (f := 9) (by decide) (q_in_t2 (i := 16) (by first | rfl | decide +kernel) rfl) (Or.inl rfl) rfl hdg kk
theorem kv_X11_287 : q_okV RX11 287 RX0 yX0_holdsWanted cX0_holdsWanted 2 (some .boolean) 0 := ⟨(q_in_t5 (i := 84) (by first | rfl | decide +kernel) rfl), (q_in_t5 (i := 85) (by first | rfl | decide +kernel) rfl), (q_in_t5 (i := 86) (by first | rfl | decide +kernel) rfl), (q_in_t1 (i := 2) (by first | rfl | decide +kernel) rfl), (q_in_t5 (i := 87) (by first | rfl | decide +kernel) rfl), ⟨rfl, by decide, by decide, rfl⟩⟩
theorem kv_X11_290 : q_okV RX11 290 RX0 yX0_layWanted cX0_layWanted 2 none 0 := ⟨(q_in_t5 (i := 90) (by first | rfl | decide +kernel) rfl), (q_in_t5 (i := 91) (by first | rfl | decide +kernel) rfl), (q_in_t5 (i := 92) (by first | rfl | decide +kernel) rfl), (q_in_t1 (i := 2) (by first | rfl | decide +kernel) rfl), (q_in_t5 (i := 93) (by first | rfl | decide +kernel) rfl), ⟨rfl, by decide, by decide, rfl⟩⟩
theorem kv_X11_293 : q_okV RX11 293 RX0 yX0_letLie cX0_letLie 1 none 0 := ⟨(q_in_t5 (i := 113) (by first | rfl | decide +kernel) rfl), (q_in_t5 (i := 114) (by first | rfl | decide +kernel) rfl), (q_in_t5 (i := 115) (by first | rfl | decide +kernel) rfl), (q_in_t1 (i := 2) (by first | rfl | decide +kernel) rfl), (q_in_t5 (i := 116) (by first | rfl | decide +kernel) rfl), ⟨rfl, by decide, by decide, rfl⟩⟩
theorem kv_X11_296 : q_okV RX11 296 RX11 yX11_doubterStatus cX11_doubterStatus 2 (some .int) 1 := ⟨(q_in_t5 (i := 136) (by first | rfl | decide +kernel) rfl), (q_in_t5 (i := 138) (by first | rfl | decide +kernel) rfl), (q_in_p (i := 25) (by decide +kernel) rfl), (q_in_t1 (i := 1) (by first | rfl | decide +kernel) rfl), (q_in_t5 (i := 139) (by first | rfl | decide +kernel) rfl), ⟨rfl, by decide, by decide, rfl⟩⟩
theorem kv_X11_299 : q_okV RX11 299 RX0 yX0_challenge cX0_challenge 5 (some .int) 1 := ⟨(q_in_t5 (i := 140) (by first | rfl | decide +kernel) rfl), (q_in_t5 (i := 141) (by first | rfl | decide +kernel) rfl), (q_in_t5 (i := 142) (by first | rfl | decide +kernel) rfl), (q_in_t1 (i := 2) (by first | rfl | decide +kernel) rfl), (q_in_t5 (i := 143) (by first | rfl | decide +kernel) rfl), ⟨rfl, by decide, by decide, rfl⟩⟩
theorem ks_X11_302 : q_okS RX11 302 yX11_isSixteenths cX11_isSixteenths 1 (some .boolean) 1 := ⟨(q_in_t5 (i := 165) (by first | rfl | decide +kernel) rfl), (q_in_t5 (i := 166) (by first | rfl | decide +kernel) rfl), (q_in_t1 (i := 1) (by first | rfl | decide +kernel) rfl), (q_in_t5 (i := 167) (by first | rfl | decide +kernel) rfl), ⟨by decide, by decide, rfl⟩⟩
theorem kv_X11_305 : q_okV RX11 305 RX5 yX5_set cX5_set 3 none 2 := ⟨(q_in_t5 (i := 168) (by first | rfl | decide +kernel) rfl), (q_in_t4 (i := 83) (by first | rfl | decide +kernel) rfl), (q_in_t4 (i := 84) (by first | rfl | decide +kernel) rfl), (q_in_t1 (i := 4) (by first | rfl | decide +kernel) rfl), (q_in_t4 (i := 85) (by first | rfl | decide +kernel) rfl), ⟨rfl, by decide, by decide, rfl⟩⟩
theorem kv_X11_308 : q_okV RX11 308 RX1 yX1_knownTo cX1_knownTo 4 (some .int) 2 := ⟨(q_in_t5 (i := 173) (by first | rfl | decide +kernel) rfl), (q_in_t5 (i := 174) (by first | rfl | decide +kernel) rfl), (q_in_t5 (i := 175) (by first | rfl | decide +kernel) rfl), (q_in_t1 (i := 6) (by first | rfl | decide +kernel) rfl), (q_in_t5 (i := 176) (by first | rfl | decide +kernel) rfl), ⟨rfl, by decide, by decide, rfl⟩⟩
theorem kv_X11_314 : q_okV RX11 314 RX0 yX0_unknownTo cX0_unknownTo 3 (some .int) 2 := ⟨(q_in_t5 (i := 190) (by first | rfl | decide +kernel) rfl), (q_in_t5 (i := 186) (by first | rfl | decide +kernel) rfl), (q_in_t5 (i := 187) (by first | rfl | decide +kernel) rfl), (q_in_t1 (i := 2) (by first | rfl | decide +kernel) rfl), (q_in_t5 (i := 188) (by first | rfl | decide +kernel) rfl), ⟨rfl, by decide, by decide, rfl⟩⟩
theorem kv_X11_311 : q_okV RX11 311 RX0 yX0_allUnknownTo cX0_allUnknownTo 4 (some .int) 1 := ⟨(q_in_t5 (i := 181) (by first | rfl | decide +kernel) rfl), (q_in_t5 (i := 182) (by first | rfl | decide +kernel) rfl), (q_in_t5 (i := 183) (by first | rfl | decide +kernel) rfl), (q_in_t1 (i := 2) (by first | rfl | decide +kernel) rfl), (q_in_t5 (i := 184) (by first | rfl | decide +kernel) rfl), ⟨rfl, by decide, by decide, rfl⟩⟩
theorem kv_X11_317 : q_okV RX11 317 RX0 yX0_isImpossibleFor cX0_isImpossibleFor 2 (some .boolean) 1 := ⟨(q_in_t5 (i := 195) (by first | rfl | decide +kernel) rfl), (q_in_t5 (i := 196) (by first | rfl | decide +kernel) rfl), (q_in_t5 (i := 197) (by first | rfl | decide +kernel) rfl), (q_in_t1 (i := 2) (by first | rfl | decide +kernel) rfl), (q_in_t5 (i := 198) (by first | rfl | decide +kernel) rfl), ⟨rfl, by decide, by decide, rfl⟩⟩
theorem ks_X11_424 : q_okS RX11 424 yJ9_abs_067f4 cJ9_abs_067f4 2 (some .long) 1 := ⟨(q_in_t5 (i := 223) (by first | rfl | decide +kernel) rfl), (q_in_t5 (i := 224) (by first | rfl | decide +kernel) rfl), (q_in_t1 (i := 5) (by first | rfl | decide +kernel) rfl), (q_in_t5 (i := 225) (by first | rfl | decide +kernel) rfl), ⟨by decide, by decide, rfl⟩⟩
theorem ks_X11_428 : q_okS RX11 428 yX11_commonDivisor cX11_commonDivisor 7 (some .long) 2 := ⟨(q_in_t5 (i := 226) (by first | rfl | decide +kernel) rfl), (q_in_t5 (i := 227) (by first | rfl | decide +kernel) rfl), (q_in_t1 (i := 1) (by first | rfl | decide +kernel) rfl), (q_in_t5 (i := 228) (by first | rfl | decide +kernel) rfl), ⟨by decide, by decide, rfl⟩⟩
theorem ps_X11_13_11 (E : q_E p c cc s m args RX11 X) (hI : q_I X n σ0 H0 locs σ H) (ha : q_kd X a = 11) {v : Int64} (hdg : decode cc pc = .ok (.putfield 13, 3)) (kk : ∀ (H1 : Heap) (locs1 : List Loc) (σ1 : ST), σ1 = q_sl σ a 1 v → q_I X n σ0 H0 locs1 σ1 H1 → W p l e R s m args below meth c H1 locs1 cells slots Q (F0 m (pc + 3) ls rest)) : W p l e R s m args below meth c H locs cells slots Q (F0 m pc ls (.long v :: .ref a :: rest)) :=
  q_putl E hI ha ⟨rfl, by decide⟩ (show vwCl[10]? = some (RX11, TX11, 17) from rfl) q_inX11 tyX11_ok nmX11 (f := 1) (by decide) (q_in_t2 (i := 203) (by first | rfl | decide +kernel) rfl) (Or.inl rfl) rfl rfl rfl hdg (fun H1 l1 h => kk H1 l1 _ rfl h)
theorem ps_X11_17_11 (E : q_E p c cc s m args RX11 X) (hI : q_I X n σ0 H0 locs σ H) (ha : q_kd X a = 11) {v : Int64} (hdg : decode cc pc = .ok (.putfield 17, 3)) (kk : ∀ (H1 : Heap) (locs1 : List Loc) (σ1 : ST), σ1 = q_sl σ a 2 v → q_I X n σ0 H0 locs1 σ1 H1 → W p l e R s m args below meth c H1 locs1 cells slots Q (F0 m (pc + 3) ls rest)) : W p l e R s m args below meth c H locs cells slots Q (F0 m pc ls (.long v :: .ref a :: rest)) :=
  q_putl E hI ha ⟨rfl, by decide⟩ (show vwCl[10]? = some (RX11, TX11, 17) from rfl) q_inX11 tyX11_ok nmX11 (f := 2) (by decide) (q_in_t2 (i := 204) (by first | rfl | decide +kernel) rfl) (Or.inl rfl) rfl rfl rfl hdg (fun H1 l1 h => kk H1 l1 _ rfl h)
theorem kv_X11_320 : q_okV RX11 320 RX0 yX0_trueWays cX0_trueWays 2 (some .long) 1 := ⟨(q_in_t5 (i := 207) (by first | rfl | decide +kernel) rfl), (q_in_t5 (i := 208) (by first | rfl | decide +kernel) rfl), (q_in_t5 (i := 209) (by first | rfl | decide +kernel) rfl), (q_in_t1 (i := 2) (by first | rfl | decide +kernel) rfl), (q_in_t5 (i := 210) (by first | rfl | decide +kernel) rfl), ⟨rfl, by decide, by decide, rfl⟩⟩
theorem kv_X11_323 : q_okV RX11 323 RX0 yX0_allWays cX0_allWays 2 (some .long) 1 := ⟨(q_in_t5 (i := 214) (by first | rfl | decide +kernel) rfl), (q_in_t5 (i := 215) (by first | rfl | decide +kernel) rfl), (q_in_t5 (i := 216) (by first | rfl | decide +kernel) rfl), (q_in_t1 (i := 2) (by first | rfl | decide +kernel) rfl), (q_in_t5 (i := 217) (by first | rfl | decide +kernel) rfl), ⟨rfl, by decide, by decide, rfl⟩⟩
theorem kv_X11_326 : q_okV RX11 326 RX11 yX11_tell cX11_tell 7 (some .boolean) 2 := ⟨(q_in_t5 (i := 219) (by first | rfl | decide +kernel) rfl), (q_in_t5 (i := 221) (by first | rfl | decide +kernel) rfl), (q_in_p (i := 26) (by decide +kernel) rfl), (q_in_t1 (i := 1) (by first | rfl | decide +kernel) rfl), (q_in_t5 (i := 222) (by first | rfl | decide +kernel) rfl), ⟨rfl, by decide, by decide, rfl⟩⟩
theorem kv_X11_330 : q_okV RX11 330 RX1 yX1_honestTop cX1_honestTop 2 (some .long) 1 := ⟨(q_in_t5 (i := 233) (by first | rfl | decide +kernel) rfl), (q_in_t5 (i := 234) (by first | rfl | decide +kernel) rfl), (q_in_t5 (i := 235) (by first | rfl | decide +kernel) rfl), (q_in_t1 (i := 6) (by first | rfl | decide +kernel) rfl), (q_in_t5 (i := 236) (by first | rfl | decide +kernel) rfl), ⟨rfl, by decide, by decide, rfl⟩⟩
theorem kv_X11_333 : q_okV RX11 333 RX1 yX1_honestBottom cX1_honestBottom 2 (some .long) 1 := ⟨(q_in_t5 (i := 237) (by first | rfl | decide +kernel) rfl), (q_in_t5 (i := 238) (by first | rfl | decide +kernel) rfl), (q_in_t5 (i := 239) (by first | rfl | decide +kernel) rfl), (q_in_t1 (i := 6) (by first | rfl | decide +kernel) rfl), (q_in_t6 (i := 0) (by first | rfl | decide +kernel) rfl), ⟨rfl, by decide, by decide, rfl⟩⟩
theorem kv_X11_336 : q_okV RX11 336 RX0 yX0_worthTop cX0_worthTop 2 (some .long) 1 := ⟨(q_in_t6 (i := 10) (by first | rfl | decide +kernel) rfl), (q_in_t6 (i := 11) (by first | rfl | decide +kernel) rfl), (q_in_t6 (i := 12) (by first | rfl | decide +kernel) rfl), (q_in_t1 (i := 2) (by first | rfl | decide +kernel) rfl), (q_in_t6 (i := 13) (by first | rfl | decide +kernel) rfl), ⟨rfl, by decide, by decide, rfl⟩⟩
theorem kv_X11_339 : q_okV RX11 339 RX6 yX6_playerAfter cX6_playerAfter 3 (some .int) 2 := ⟨(q_in_t6 (i := 21) (by first | rfl | decide +kernel) rfl), (q_in_t5 (i := 129) (by first | rfl | decide +kernel) rfl), (q_in_t5 (i := 130) (by first | rfl | decide +kernel) rfl), (q_in_t1 (i := 3) (by first | rfl | decide +kernel) rfl), (q_in_t5 (i := 131) (by first | rfl | decide +kernel) rfl), ⟨rfl, by decide, by decide, rfl⟩⟩
theorem kv_X11_342 : q_okV RX11 342 RX1 yX1_laidBy cX1_laidBy 3 (some .int) 2 := ⟨(q_in_t6 (i := 26) (by first | rfl | decide +kernel) rfl), (q_in_t5 (i := 154) (by first | rfl | decide +kernel) rfl), (q_in_t5 (i := 155) (by first | rfl | decide +kernel) rfl), (q_in_t1 (i := 6) (by first | rfl | decide +kernel) rfl), (q_in_t5 (i := 156) (by first | rfl | decide +kernel) rfl), ⟨rfl, by decide, by decide, rfl⟩⟩
theorem kv_X11_345 : q_okV RX11 345 RX2 yX2_timesSaid cX2_timesSaid 5 (some .int) 2 := ⟨(q_in_t6 (i := 31) (by first | rfl | decide +kernel) rfl), (q_in_t6 (i := 32) (by first | rfl | decide +kernel) rfl), (q_in_t6 (i := 33) (by first | rfl | decide +kernel) rfl), (q_in_t1 (i := 7) (by first | rfl | decide +kernel) rfl), (q_in_t6 (i := 34) (by first | rfl | decide +kernel) rfl), ⟨rfl, by decide, by decide, rfl⟩⟩
theorem kv_X11_348 : q_okV RX11 348 RX0 yX0_turnsAhead cX0_turnsAhead 3 (some .int) 1 := ⟨(q_in_t6 (i := 39) (by first | rfl | decide +kernel) rfl), (q_in_t6 (i := 40) (by first | rfl | decide +kernel) rfl), (q_in_t6 (i := 41) (by first | rfl | decide +kernel) rfl), (q_in_t1 (i := 2) (by first | rfl | decide +kernel) rfl), (q_in_t6 (i := 42) (by first | rfl | decide +kernel) rfl), ⟨rfl, by decide, by decide, rfl⟩⟩
theorem kv_X11_351 : q_okV RX11 351 RX11 yX11_forecastStatus cX11_forecastStatus 3 (some .int) 2 := ⟨(q_in_t6 (i := 47) (by first | rfl | decide +kernel) rfl), (q_in_t6 (i := 49) (by first | rfl | decide +kernel) rfl), (q_in_p (i := 27) (by decide +kernel) rfl), (q_in_t1 (i := 1) (by first | rfl | decide +kernel) rfl), (q_in_t6 (i := 50) (by first | rfl | decide +kernel) rfl), ⟨rfl, by decide, by decide, rfl⟩⟩
theorem kv_X11_354 : q_okV RX11 354 RX0 yX0_fallingKind cX0_fallingKind 3 (some .int) 2 := ⟨(q_in_t6 (i := 51) (by first | rfl | decide +kernel) rfl), (q_in_t6 (i := 52) (by first | rfl | decide +kernel) rfl), (q_in_t6 (i := 53) (by first | rfl | decide +kernel) rfl), (q_in_t1 (i := 2) (by first | rfl | decide +kernel) rfl), (q_in_t6 (i := 54) (by first | rfl | decide +kernel) rfl), ⟨rfl, by decide, by decide, rfl⟩⟩
theorem kv_X11_357 : q_okV RX11 357 RX0 yX0_foresee cX0_foresee 7 none 2 := ⟨(q_in_t6 (i := 60) (by first | rfl | decide +kernel) rfl), (q_in_t6 (i := 61) (by first | rfl | decide +kernel) rfl), (q_in_t6 (i := 62) (by first | rfl | decide +kernel) rfl), (q_in_t1 (i := 2) (by first | rfl | decide +kernel) rfl), (q_in_t6 (i := 63) (by first | rfl | decide +kernel) rfl), ⟨rfl, by decide, by decide, rfl⟩⟩
theorem gs_X11_360_1 (E : q_E p c cc s m args RX11 X) (hI : q_I X n σ0 H0 locs σ H) (ha : q_kd X a = 1) (hdg : decode cc pc = .ok (.getfield 360, 3)) (kk : W p l e R s m args below meth c H locs cells slots Q (F0 m (pc + 3) ls (.int (σ.1 a 11) :: rest))) : W p l e R s m args below meth c H locs cells slots Q (F0 m pc ls (.ref a :: rest)) :=
  q_getf (ref := "CheatHeap$Game") E hI ha ⟨rfl, by decide⟩ (show vwCl[0]? = some (RX0, TX0, 15) from rfl) q_inX0 (f := 11) (by decide) (q_in_t2 (i := 19) (by first | rfl | decide +kernel) rfl) (Or.inl rfl) rfl hdg kk
theorem gs_X11_363_1 (E : q_E p c cc s m args RX11 X) (hI : q_I X n σ0 H0 locs σ H) (ha : q_kd X a = 1) (hdg : decode cc pc = .ok (.getfield 363, 3)) (kk : W p l e R s m args below meth c H locs cells slots Q (F0 m (pc + 3) ls (.int (σ.1 a 12) :: rest))) : W p l e R s m args below meth c H locs cells slots Q (F0 m pc ls (.ref a :: rest)) :=
  q_getf (ref := "CheatHeap$Game") E hI ha ⟨rfl, by decide⟩ (show vwCl[0]? = some (RX0, TX0, 15) from rfl) q_inX0 (f := 12) (by decide) (q_in_t2 (i := 21) (by first | rfl | decide +kernel) rfl) (Or.inl rfl) rfl hdg kk
theorem kv_X11_366 : q_okV RX11 366 RX11 yX11_goodOrNotThere cX11_goodOrNotThere 2 (some .int) 1 := ⟨(q_in_t6 (i := 71) (by first | rfl | decide +kernel) rfl), (q_in_t6 (i := 73) (by first | rfl | decide +kernel) rfl), (q_in_p (i := 28) (by decide +kernel) rfl), (q_in_t1 (i := 1) (by first | rfl | decide +kernel) rfl), (q_in_t6 (i := 74) (by first | rfl | decide +kernel) rfl), ⟨rfl, by decide, by decide, rfl⟩⟩
theorem gs_X11_369_1 (E : q_E p c cc s m args RX11 X) (hI : q_I X n σ0 H0 locs σ H) (ha : q_kd X a = 1) (hdg : decode cc pc = .ok (.getfield 369, 3)) (kk : W p l e R s m args below meth c H locs cells slots Q (F0 m (pc + 3) ls (.int (σ.1 a 13) :: rest))) : W p l e R s m args below meth c H locs cells slots Q (F0 m pc ls (.ref a :: rest)) :=
  q_getf (ref := "CheatHeap$Game") E hI ha ⟨rfl, by decide⟩ (show vwCl[0]? = some (RX0, TX0, 15) from rfl) q_inX0 (f := 13) (by decide) (q_in_t2 (i := 23) (by first | rfl | decide +kernel) rfl) (Or.inl rfl) rfl hdg kk
theorem gs_X11_372_1 (E : q_E p c cc s m args RX11 X) (hI : q_I X n σ0 H0 locs σ H) (ha : q_kd X a = 1) (hdg : decode cc pc = .ok (.getfield 372, 3)) (kk : W p l e R s m args below meth c H locs cells slots Q (F0 m (pc + 3) ls (.int (σ.1 a 14) :: rest))) : W p l e R s m args below meth c H locs cells slots Q (F0 m pc ls (.ref a :: rest)) :=
  q_getf (ref := "CheatHeap$Game") E hI ha ⟨rfl, by decide⟩ (show vwCl[0]? = some (RX0, TX0, 15) from rfl) q_inX0 (f := 14) (by decide) (q_in_t2 (i := 25) (by first | rfl | decide +kernel) rfl) (Or.inl rfl) rfl hdg kk
theorem ks_X11_375 : q_okS RX11 375 yJ9_min_7cf53 cJ9_min_7cf53 2 (some .int) 2 := ⟨(q_in_t6 (i := 91) (by first | rfl | decide +kernel) rfl), (q_in_t3 (i := 43) (by first | rfl | decide +kernel) rfl), (q_in_t1 (i := 5) (by first | rfl | decide +kernel) rfl), (q_in_t3 (i := 44) (by first | rfl | decide +kernel) rfl), ⟨by decide, by decide, rfl⟩⟩
theorem kv_X11_380 : q_okV RX11 380 RX0 yX0_sixteenthsLeft cX0_sixteenthsLeft 5 (some .int) 3 := ⟨(q_in_t6 (i := 92) (by first | rfl | decide +kernel) rfl), (q_in_t6 (i := 93) (by first | rfl | decide +kernel) rfl), (q_in_t6 (i := 94) (by first | rfl | decide +kernel) rfl), (q_in_t1 (i := 2) (by first | rfl | decide +kernel) rfl), (q_in_t6 (i := 95) (by first | rfl | decide +kernel) rfl), ⟨rfl, by decide, by decide, rfl⟩⟩
theorem kv_X11_386 : q_okV RX11 386 RX6 yX6_kindAfter cX6_kindAfter 3 (some .int) 2 := ⟨(q_in_t6 (i := 101) (by first | rfl | decide +kernel) rfl), (q_in_t5 (i := 122) (by first | rfl | decide +kernel) rfl), (q_in_t5 (i := 123) (by first | rfl | decide +kernel) rfl), (q_in_t1 (i := 3) (by first | rfl | decide +kernel) rfl), (q_in_t5 (i := 124) (by first | rfl | decide +kernel) rfl), ⟨rfl, by decide, by decide, rfl⟩⟩
theorem kv_X11_389 : q_okV RX11 389 RX0 yX0_lyingOf cX0_lyingOf 4 (some .int) 1 := ⟨(q_in_t6 (i := 110) (by first | rfl | decide +kernel) rfl), (q_in_t6 (i := 111) (by first | rfl | decide +kernel) rfl), (q_in_t6 (i := 112) (by first | rfl | decide +kernel) rfl), (q_in_t1 (i := 2) (by first | rfl | decide +kernel) rfl), (q_in_t6 (i := 113) (by first | rfl | decide +kernel) rfl), ⟨rfl, by decide, by decide, rfl⟩⟩
theorem ks_X11_392 : q_okS RX11 392 yX11_waysToTake cX11_waysToTake 5 (some .long) 2 := ⟨(q_in_t6 (i := 119) (by first | rfl | decide +kernel) rfl), (q_in_t5 (i := 212) (by first | rfl | decide +kernel) rfl), (q_in_t1 (i := 1) (by first | rfl | decide +kernel) rfl), (q_in_t5 (i := 213) (by first | rfl | decide +kernel) rfl), ⟨by decide, by decide, rfl⟩⟩
theorem gs_X11_396_8 (E : q_E p c cc s m args RX11 X) (hI : q_I X n σ0 H0 locs σ H) (ha : q_kd X a = 8) (hdg : decode cc pc = .ok (.getfield 396, 3)) (kk : W p l e R s m args below meth c H locs cells slots Q (F0 m (pc + 3) ls (.int (σ.1 a 0) :: rest))) : W p l e R s m args below meth c H locs cells slots Q (F0 m pc ls (.ref a :: rest)) :=
  q_getf (ref := "CheatHeap$Script") E hI ha ⟨rfl, by decide⟩ (show vwCl[7]? = some (RX8, TX8, 8) from rfl) q_inX8 (f := 0) (by decide) (q_in_t1 (i := 189) (by first | rfl | decide +kernel) rfl) (Or.inl rfl) rfl hdg kk
theorem gs_X11_73_11 (E : q_E p c cc s m args RX11 X) (hI : q_I X n σ0 H0 locs σ H) (ha : q_kd X a = 11) (hdg : decode cc pc = .ok (.getfield 73, 3)) (kk : W p l e R s m args below meth c H locs cells slots Q (F0 m (pc + 3) ls (.ref (q_rf X a 14) :: rest))) : W p l e R s m args below meth c H locs cells slots Q (F0 m pc ls (.ref a :: rest)) :=
  q_getf (ref := "CheatHeap") E hI ha ⟨rfl, by decide⟩ (show vwCl[10]? = some (RX11, TX11, 17) from rfl) q_inX11 (f := 14) (by decide) (q_in_t2 (i := 216) (by first | rfl | decide +kernel) rfl) (Or.inl rfl) rfl hdg kk
theorem kv_X11_399 : q_okV RX11 399 RX7 yX7_go cX7_go 6 none 2 := ⟨(q_in_t6 (i := 140) (by first | rfl | decide +kernel) rfl), (q_in_t6 (i := 141) (by first | rfl | decide +kernel) rfl), (q_in_t6 (i := 142) (by first | rfl | decide +kernel) rfl), (q_in_t1 (i := 12) (by first | rfl | decide +kernel) rfl), (q_in_t6 (i := 143) (by first | rfl | decide +kernel) rfl), ⟨rfl, by decide, by decide, rfl⟩⟩
theorem ps_X11_80_11 (E : q_E p c cc s m args RX11 X) (hI : q_I X n σ0 H0 locs σ H) (ha : q_kd X a = 11) {v : Int32} (hcl : n < 9) (h1 : 0 ≤ v.toInt) (h2 : v.toInt ≤ 1) (hdg : decode cc pc = .ok (.putfield 80, 3)) (kk : ∀ (H1 : Heap) (locs1 : List Loc) (σ1 : ST), σ1 = q_si σ a 16 v → q_I X n σ0 H0 locs1 σ1 H1 → W p l e R s m args below meth c H1 locs1 cells slots Q (F0 m (pc + 3) ls rest)) : W p l e R s m args below meth c H locs cells slots Q (F0 m pc ls (.int v :: .ref a :: rest)) :=
  q_puti (ref := "CheatHeap") E hI ha ⟨rfl, by decide⟩ (show vwCl[10]? = some (RX11, TX11, 17) from rfl) q_inX11 tyX11_ok nmX11 (f := 16) (by decide) (q_in_t2 (i := 218) (by first | rfl | decide +kernel) rfl) (Or.inl rfl) rfl rfl hcl hdg (q_inB rfl h1 h2) (Or.inr ⟨rfl, h1, h2⟩) (fun H1 l1 h => kk H1 l1 _ rfl h)
theorem gs_X11_403_7 (E : q_E p c cc s m args RX11 X) (hI : q_I X n σ0 H0 locs σ H) (ha : q_kd X a = 7) (hdg : decode cc pc = .ok (.getfield 403, 3)) (kk : W p l e R s m args below meth c H locs cells slots Q (F0 m (pc + 3) ls (.int (σ.1 a 0) :: rest))) : W p l e R s m args below meth c H locs cells slots Q (F0 m pc ls (.ref a :: rest)) :=
  q_getf (ref := "CheatHeap$Run") E hI ha ⟨rfl, by decide⟩ (show vwCl[6]? = some (RX7, TX7, 8) from rfl) q_inX7 (f := 0) (by decide) (q_in_t2 (i := 155) (by first | rfl | decide +kernel) rfl) (Or.inl rfl) rfl hdg kk
theorem gs_X11_80_11 (E : q_E p c cc s m args RX11 X) (hI : q_I X n σ0 H0 locs σ H) (ha : q_kd X a = 11) (hdg : decode cc pc = .ok (.getfield 80, 3)) (kk : W p l e R s m args below meth c H locs cells slots Q (F0 m (pc + 3) ls (.int (σ.1 a 16) :: rest))) : W p l e R s m args below meth c H locs cells slots Q (F0 m pc ls (.ref a :: rest)) :=
  q_getf (ref := "CheatHeap") E hI ha ⟨rfl, by decide⟩ (show vwCl[10]? = some (RX11, TX11, 17) from rfl) q_inX11 (f := 16) (by decide) (q_in_t2 (i := 218) (by first | rfl | decide +kernel) rfl) (Or.inl rfl) rfl hdg kk
theorem gs_X11_404_7 (E : q_E p c cc s m args RX11 X) (hI : q_I X n σ0 H0 locs σ H) (ha : q_kd X a = 7) (hdg : decode cc pc = .ok (.getfield 404, 3)) (kk : W p l e R s m args below meth c H locs cells slots Q (F0 m (pc + 3) ls (.int (σ.1 a 1) :: rest))) : W p l e R s m args below meth c H locs cells slots Q (F0 m pc ls (.ref a :: rest)) :=
  q_getf (ref := "CheatHeap$Run") E hI ha ⟨rfl, by decide⟩ (show vwCl[6]? = some (RX7, TX7, 8) from rfl) q_inX7 (f := 1) (by decide) (q_in_t2 (i := 157) (by first | rfl | decide +kernel) rfl) (Or.inl rfl) rfl hdg kk
theorem gs_X11_407_7 (E : q_E p c cc s m args RX11 X) (hI : q_I X n σ0 H0 locs σ H) (ha : q_kd X a = 7) (hdg : decode cc pc = .ok (.getfield 407, 3)) (kk : W p l e R s m args below meth c H locs cells slots Q (F0 m (pc + 3) ls (.int (σ.1 a 2) :: rest))) : W p l e R s m args below meth c H locs cells slots Q (F0 m pc ls (.ref a :: rest)) :=
  q_getf (ref := "CheatHeap$Run") E hI ha ⟨rfl, by decide⟩ (show vwCl[6]? = some (RX7, TX7, 8) from rfl) q_inX7 (f := 2) (by decide) (q_in_t2 (i := 159) (by first | rfl | decide +kernel) rfl) (Or.inl rfl) rfl hdg kk
theorem gs_X11_408_7 (E : q_E p c cc s m args RX11 X) (hI : q_I X n σ0 H0 locs σ H) (ha : q_kd X a = 7) (hdg : decode cc pc = .ok (.getfield 408, 3)) (kk : W p l e R s m args below meth c H locs cells slots Q (F0 m (pc + 3) ls (.int (σ.1 a 3) :: rest))) : W p l e R s m args below meth c H locs cells slots Q (F0 m pc ls (.ref a :: rest)) :=
  q_getf (ref := "CheatHeap$Run") E hI ha ⟨rfl, by decide⟩ (show vwCl[6]? = some (RX7, TX7, 8) from rfl) q_inX7 (f := 3) (by decide) (q_in_t2 (i := 161) (by first | rfl | decide +kernel) rfl) (Or.inl rfl) rfl hdg kk
theorem gs_X11_411_7 (E : q_E p c cc s m args RX11 X) (hI : q_I X n σ0 H0 locs σ H) (ha : q_kd X a = 7) (hdg : decode cc pc = .ok (.getfield 411, 3)) (kk : W p l e R s m args below meth c H locs cells slots Q (F0 m (pc + 3) ls (.int (σ.1 a 4) :: rest))) : W p l e R s m args below meth c H locs cells slots Q (F0 m pc ls (.ref a :: rest)) :=
  q_getf (ref := "CheatHeap$Run") E hI ha ⟨rfl, by decide⟩ (show vwCl[6]? = some (RX7, TX7, 8) from rfl) q_inX7 (f := 4) (by decide) (q_in_t2 (i := 163) (by first | rfl | decide +kernel) rfl) (Or.inl rfl) rfl hdg kk
theorem gs_X11_414_7 (E : q_E p c cc s m args RX11 X) (hI : q_I X n σ0 H0 locs σ H) (ha : q_kd X a = 7) (hdg : decode cc pc = .ok (.getfield 414, 3)) (kk : W p l e R s m args below meth c H locs cells slots Q (F0 m (pc + 3) ls (.int (σ.1 a 5) :: rest))) : W p l e R s m args below meth c H locs cells slots Q (F0 m pc ls (.ref a :: rest)) :=
  q_getf (ref := "CheatHeap$Run") E hI ha ⟨rfl, by decide⟩ (show vwCl[6]? = some (RX7, TX7, 8) from rfl) q_inX7 (f := 5) (by decide) (q_in_t2 (i := 165) (by first | rfl | decide +kernel) rfl) (Or.inl rfl) rfl hdg kk
theorem kv_X11_417 : q_okV RX11 417 RX11 yX11_seedsStatus cX11_seedsStatus 4 (some .int) 3 := ⟨(q_in_t6 (i := 199) (by first | rfl | decide +kernel) rfl), (q_in_t6 (i := 201) (by first | rfl | decide +kernel) rfl), (q_in_p (i := 35) (by decide +kernel) rfl), (q_in_t1 (i := 1) (by first | rfl | decide +kernel) rfl), (q_in_t6 (i := 202) (by first | rfl | decide +kernel) rfl), ⟨rfl, by decide, by decide, rfl⟩⟩
theorem gs_X11_46_11 (E : q_E p c cc s m args RX11 X) (hI : q_I X n σ0 H0 locs σ H) (ha : q_kd X a = 11) (hdg : decode cc pc = .ok (.getfield 46, 3)) (kk : W p l e R s m args below meth c H locs cells slots Q (F0 m (pc + 3) ls (.ref (q_rf X a 9) :: rest))) : W p l e R s m args below meth c H locs cells slots Q (F0 m pc ls (.ref a :: rest)) :=
  q_getf (ref := "CheatHeap") E hI ha ⟨rfl, by decide⟩ (show vwCl[10]? = some (RX11, TX11, 17) from rfl) q_inX11 (f := 9) (by decide) (q_in_t2 (i := 211) (by first | rfl | decide +kernel) rfl) (Or.inl rfl) rfl hdg kk
theorem gs_X11_77_11 (E : q_E p c cc s m args RX11 X) (hI : q_I X n σ0 H0 locs σ H) (ha : q_kd X a = 11) (hdg : decode cc pc = .ok (.getfield 77, 3)) (kk : W p l e R s m args below meth c H locs cells slots Q (F0 m (pc + 3) ls (.ref (q_rf X a 15) :: rest))) : W p l e R s m args below meth c H locs cells slots Q (F0 m pc ls (.ref a :: rest)) :=
  q_getf (ref := "CheatHeap") E hI ha ⟨rfl, by decide⟩ (show vwCl[10]? = some (RX11, TX11, 17) from rfl) q_inX11 (f := 15) (by decide) (q_in_t2 (i := 217) (by first | rfl | decide +kernel) rfl) (Or.inl rfl) rfl hdg kk
theorem gs_X11_49_11 (E : q_E p c cc s m args RX11 X) (hI : q_I X n σ0 H0 locs σ H) (ha : q_kd X a = 11) (hdg : decode cc pc = .ok (.getfield 49, 3)) (kk : W p l e R s m args below meth c H locs cells slots Q (F0 m (pc + 3) ls (.ref (q_rf X a 10) :: rest))) : W p l e R s m args below meth c H locs cells slots Q (F0 m pc ls (.ref a :: rest)) :=
  q_getf (ref := "CheatHeap") E hI ha ⟨rfl, by decide⟩ (show vwCl[10]? = some (RX11, TX11, 17) from rfl) q_inX11 (f := 10) (by decide) (q_in_t2 (i := 212) (by first | rfl | decide +kernel) rfl) (Or.inl rfl) rfl hdg kk
theorem gs_X11_53_11 (E : q_E p c cc s m args RX11 X) (hI : q_I X n σ0 H0 locs σ H) (ha : q_kd X a = 11) (hdg : decode cc pc = .ok (.getfield 53, 3)) (kk : W p l e R s m args below meth c H locs cells slots Q (F0 m (pc + 3) ls (.int (σ.1 a 11) :: rest))) : W p l e R s m args below meth c H locs cells slots Q (F0 m pc ls (.ref a :: rest)) :=
  q_getf (ref := "CheatHeap") E hI ha ⟨rfl, by decide⟩ (show vwCl[10]? = some (RX11, TX11, 17) from rfl) q_inX11 (f := 11) (by decide) (q_in_t2 (i := 213) (by first | rfl | decide +kernel) rfl) (Or.inl rfl) rfl hdg kk
theorem kv_X11_420 : q_okV RX11 420 RX11 yX11_markAt cX11_markAt 2 (some (.object "CheatHeap$Game")) 1 := ⟨(q_in_t6 (i := 211) (by first | rfl | decide +kernel) rfl), (q_in_t6 (i := 213) (by first | rfl | decide +kernel) rfl), (q_in_p (i := 36) (by decide +kernel) rfl), (q_in_t1 (i := 1) (by first | rfl | decide +kernel) rfl), (q_in_t6 (i := 214) (by first | rfl | decide +kernel) rfl), ⟨rfl, by decide, by decide, rfl⟩⟩
theorem ps_X11_53_11 (E : q_E p c cc s m args RX11 X) (hI : q_I X n σ0 H0 locs σ H) (ha : q_kd X a = 11) {v : Int32} (hcl : n < 1) (h1 : 0 ≤ v.toInt) (h2 : v.toInt ≤ 3) (hdg : decode cc pc = .ok (.putfield 53, 3)) (kk : ∀ (H1 : Heap) (locs1 : List Loc) (σ1 : ST), σ1 = q_si σ a 11 v → q_I X n σ0 H0 locs1 σ1 H1 → W p l e R s m args below meth c H1 locs1 cells slots Q (F0 m (pc + 3) ls rest)) : W p l e R s m args below meth c H locs cells slots Q (F0 m pc ls (.int v :: .ref a :: rest)) :=
  q_puti (ref := "CheatHeap") E hI ha ⟨rfl, by decide⟩ (show vwCl[10]? = some (RX11, TX11, 17) from rfl) q_inX11 tyX11_ok nmX11 (f := 11) (by decide) (q_in_t2 (i := 213) (by first | rfl | decide +kernel) rfl) (Or.inl rfl) rfl rfl hcl hdg (q_inB rfl h1 h2) (Or.inl rfl) (fun H1 l1 h => kk H1 l1 _ rfl h)
end QS
end
/-! FROM 16.class.b00.lean.txt -/
section
set_option maxRecDepth 100000 in
set_option maxHeartbeats 4000000 in
theorem c_X11_status (l : Launch) (X : XW) (σ : ST) (a : Nat) (ha : q_kd X a = 11) : Met l yX11_status (q_ws yX11_status cX11_status 1 (some .int)) (q_rm 0 0) (q_P X σ [.ref a]) (q_Qi X 9 σ (fun (r : Int32) (σ' : ST) => σ' = σ ∧ r = F_X11_status X σ a)) 0 0 (q_reg X) := by
  refine q_met 9 (by first | exact rfl | decide +kernel) rfl (Nat.le_of_ble_eq_true rfl) (fun p e s m below meth c E hml hr hlk hI ls hl => ?_)
  have hx := E.1
  have hb := E.2.1
  have hl : lv_has ls 1 [(0, .ref a)] := hl
  obtain ⟨out, hout⟩ : ∃ o, o = F_X11_status X σ a := ⟨_, rfl⟩
  have hF := hout.symm
  unfold F_X11_status at hF
  refine lv_aload_n hx hb dX11_status_0 rfl (lv_at hl 0 rfl) ?_
  refine gs_X11_9_11 E hI ha dX11_status_1 ?_
  refine lv_topi (fun f_1 ef_1 => ?_)
  replace hF := q_letX hF ef_1
  exact q_reti E hr hlk hI ⟨rfl, (hF.trans hout)⟩ dX11_status_4

set_option maxRecDepth 100000 in
set_option maxHeartbeats 4000000 in
theorem c_X11_top (l : Launch) (X : XW) (σ : ST) (a : Nat) (ha : q_kd X a = 11) : Met l yX11_top (q_ws yX11_top cX11_top 1 (some .long)) (q_rm 0 0) (q_P X σ [.ref a]) (q_Ql X 9 σ (fun (r : Int64) (σ' : ST) => σ' = σ ∧ r = F_X11_top X σ a)) 0 0 (q_reg X) := by
  refine q_met 9 (by first | exact rfl | decide +kernel) rfl (Nat.le_of_ble_eq_true rfl) (fun p e s m below meth c E hml hr hlk hI ls hl => ?_)
  have hx := E.1
  have hb := E.2.1
  have hl : lv_has ls 1 [(0, .ref a)] := hl
  obtain ⟨out, hout⟩ : ∃ o, o = F_X11_top X σ a := ⟨_, rfl⟩
  have hF := hout.symm
  unfold F_X11_top at hF
  refine lv_aload_n hx hb dX11_top_0 rfl (lv_at hl 0 rfl) ?_
  refine gs_X11_13_11 E hI ha dX11_top_1 ?_
  refine lv_topl (fun g_1 eg_1 => ?_)
  replace hF := q_letX hF eg_1
  exact q_retl E hr hlk hI ⟨rfl, (hF.trans hout)⟩ dX11_top_4

set_option maxRecDepth 100000 in
set_option maxHeartbeats 4000000 in
theorem c_X11_bottom (l : Launch) (X : XW) (σ : ST) (a : Nat) (ha : q_kd X a = 11) : Met l yX11_bottom (q_ws yX11_bottom cX11_bottom 1 (some .long)) (q_rm 0 0) (q_P X σ [.ref a]) (q_Ql X 9 σ (fun (r : Int64) (σ' : ST) => σ' = σ ∧ r = F_X11_bottom X σ a)) 0 0 (q_reg X) := by
  refine q_met 9 (by first | exact rfl | decide +kernel) rfl (Nat.le_of_ble_eq_true rfl) (fun p e s m below meth c E hml hr hlk hI ls hl => ?_)
  have hx := E.1
  have hb := E.2.1
  have hl : lv_has ls 1 [(0, .ref a)] := hl
  obtain ⟨out, hout⟩ : ∃ o, o = F_X11_bottom X σ a := ⟨_, rfl⟩
  have hF := hout.symm
  unfold F_X11_bottom at hF
  refine lv_aload_n hx hb dX11_bottom_0 rfl (lv_at hl 0 rfl) ?_
  refine gs_X11_17_11 E hI ha dX11_bottom_1 ?_
  refine lv_topl (fun g_1 eg_1 => ?_)
  replace hF := q_letX hF eg_1
  exact q_retl E hr hlk hI ⟨rfl, (hF.trans hout)⟩ dX11_bottom_4

set_option maxRecDepth 100000 in
set_option maxHeartbeats 4000000 in
theorem c_X11_trayAt (l : Launch) (X : XW) (σ : ST) (a : Nat) (v1 : Int32) (ha : q_kd X a = 11) : Met l yX11_trayAt (q_ws yX11_trayAt cX11_trayAt 2 (some (.object "CheatHeap$Tray"))) (q_rm 0 0) (q_P X σ [.ref a, .int v1]) (q_Qq X 9 σ (fun (r : Option Nat) (σ' : ST) => σ' = σ ∧ ((∀ y, r = some y → q_kd X y = 10 ∧ y = (q_rf X (q_rf X a 3) v1.toNatClampNeg) ∧ 0 ≤ v1.toInt ∧ v1.toInt < 4) ∧ (r = none → ¬ (0 ≤ v1.toInt ∧ v1.toInt < 4))) ∧ r = F_X11_trayAt X σ a v1)) 0 0 (q_reg X) := by
  refine q_met 9 (by first | exact rfl | decide +kernel) rfl (Nat.le_of_ble_eq_true rfl) (fun p e s m below meth c E hml hr hlk hI ls hl => ?_)
  have hx := E.1
  have hb := E.2.1
  have hl : lv_has ls 2 [(0, .ref a), (1, .int v1)] := hl
  obtain ⟨out, hout⟩ : ∃ o, o = F_X11_trayAt X σ a v1 := ⟨_, rfl⟩
  have hF := hout.symm
  unfold F_X11_trayAt at hF
  refine lv_iload_n hx hb dX11_trayAt_0 rfl (lv_at hl 1 rfl) ?_
  refine q_if_lt (A := v1.toInt) E rfl (tgt := 18) dX11_trayAt_1 (by decide) (fun c_1 => ?_) (fun c_1 => ?_)
  · skip
    replace hF := q_ifp hF c_1
    refine lv_null hx hb dX11_trayAt_18 ?_
    exact q_retq (r := none) E hr hlk hI rfl ⟨rfl, ⟨fun y h => (nomatch h), fun _ => by omega⟩, (hF.trans hout)⟩ dX11_trayAt_19
  · skip
    replace hF := q_ifn hF (Int.not_lt.mpr c_1)
    refine lv_iload_n hx hb dX11_trayAt_4 rfl (lv_at hl 1 rfl) ?_
    refine lv_iconst (v := 4) hx hb dX11_trayAt_5 (by decide) ?_
    refine q_icmp_ge (A := v1.toInt) (B := 4) E rfl (by decide) (tgt := 18) dX11_trayAt_6 (by decide) (fun c_2 => ?_) (fun c_2 => ?_)
    · skip
      replace hF := q_ifn hF (Int.not_lt.mpr c_2)
      refine lv_null hx hb dX11_trayAt_18 ?_
      exact q_retq (r := none) E hr hlk hI rfl ⟨rfl, ⟨fun y h => (nomatch h), fun _ => by omega⟩, (hF.trans hout)⟩ dX11_trayAt_19
    · skip
      replace hF := q_ifp hF c_2
      refine lv_aload_n hx hb dX11_trayAt_9 rfl (lv_at hl 0 rfl) ?_
      refine gs_X11_22_11 E hI ha dX11_trayAt_10 ?_
      refine lv_iload_n hx hb dX11_trayAt_13 rfl (lv_at hl 1 rfl) ?_
      refine q_aald E hI (q_tk (k' := 23) hI ha rfl (by decide)) (Or.inl rfl) (by omega) (by rw [q_lnk (v := 4) hI (q_tk (k' := 23) hI ha rfl (by decide)) rfl (by decide)]; omega) dX11_trayAt_14 ?_
      refine lv_goto (tgt := 19) hx hb dX11_trayAt_15 (by decide) ?_
      exact q_retq (r := some (q_rf X (q_rf X a 3) (v1 : Int32).toNatClampNeg)) E hr hlk hI rfl ⟨rfl, ⟨fun y h => by cases h; exact ⟨(q_tk23 hI (q_tk (k' := 23) hI ha rfl (by decide)) (by omega) (by omega)), rfl, by omega, by omega⟩, fun h => (nomatch h)⟩, (hF.trans hout)⟩ dX11_trayAt_19

set_option maxRecDepth 100000 in
set_option maxHeartbeats 4000000 in
theorem c_X11_no (l : Launch) (X : XW) (σ : ST) (a : Nat) (v1 : Int32) (ha : q_kd X a = 11) : Met l yX11_no (q_ws yX11_no cX11_no 2 (some .boolean)) (q_rm 0 0) (q_P X σ [.ref a, .int v1]) (q_Qi X 8 σ (fun (r : Int32) (σ' : ST) => (0 ≤ r.toInt ∧ r.toInt ≤ 1) ∧ (r.toInt = 0) ∧ (r, σ') = F_X11_no X σ a v1 ∧ q_ow [(11, 0)] [] X σ σ')) 0 0 (q_reg X) := by
  refine q_met 8 (by first | exact rfl | decide +kernel) rfl (Nat.le_of_ble_eq_true rfl) (fun p e s m below meth c E hml hr hlk hI ls hl => ?_)
  have hx := E.1
  have hb := E.2.1
  have hl : lv_has ls 2 [(0, .ref a), (1, .int v1)] := hl
  have fr_σ : q_ow [(11, 0)] [] X σ σ := q_ow.rf
  obtain ⟨out, hout⟩ : ∃ o, o = F_X11_no X σ a v1 := ⟨_, rfl⟩
  have hF := hout.symm
  unfold F_X11_no at hF
  refine lv_aload_n hx hb dX11_no_0 rfl (lv_at hl 0 rfl) ?_
  refine lv_iload_n hx hb dX11_no_1 rfl (lv_at hl 1 rfl) ?_
  refine ps_X11_9_11 E hI ha (by decide) dX11_no_2 (fun H locs σ_1 hσ_1 hI => ?_)
  replace hF := q_letX hF hσ_1
  have fr_σ_1 := fr_σ.si hσ_1 ha rfl
  refine lv_iconst (v := 0) hx hb dX11_no_5 (by decide) ?_
  have hrv : (0 : Int32).toInt = 0 := rfl
  exact q_retz E hr hlk hI ⟨by decide, by decide⟩ ⟨⟨by decide, by decide⟩, (by decide), (hF.trans hout), fr_σ_1⟩ dX11_no_6

set_option maxRecDepth 100000 in
set_option maxHeartbeats 4000000 in
theorem c_X11_yes (l : Launch) (X : XW) (σ : ST) (a : Nat) (ha : q_kd X a = 11) : Met l yX11_yes (q_ws yX11_yes cX11_yes 1 (some .boolean)) (q_rm 0 0) (q_P X σ [.ref a]) (q_Qi X 8 σ (fun (r : Int32) (σ' : ST) => (0 ≤ r.toInt ∧ r.toInt ≤ 1) ∧ (r.toInt = 1) ∧ (r, σ') = F_X11_yes X σ a ∧ q_ow [(11, 0)] [] X σ σ')) 0 0 (q_reg X) := by
  refine q_met 8 (by first | exact rfl | decide +kernel) rfl (Nat.le_of_ble_eq_true rfl) (fun p e s m below meth c E hml hr hlk hI ls hl => ?_)
  have hx := E.1
  have hb := E.2.1
  have hl : lv_has ls 1 [(0, .ref a)] := hl
  have fr_σ : q_ow [(11, 0)] [] X σ σ := q_ow.rf
  obtain ⟨out, hout⟩ : ∃ o, o = F_X11_yes X σ a := ⟨_, rfl⟩
  have hF := hout.symm
  unfold F_X11_yes at hF
  refine lv_aload_n hx hb dX11_yes_0 rfl (lv_at hl 0 rfl) ?_
  refine lv_iconst (v := 0) hx hb dX11_yes_1 (by decide) ?_
  refine ps_X11_9_11 E hI ha (by decide) dX11_yes_2 (fun H locs σ_1 hσ_1 hI => ?_)
  replace hF := q_letX hF hσ_1
  have fr_σ_1 := fr_σ.si hσ_1 ha rfl
  refine lv_iconst (v := 1) hx hb dX11_yes_5 (by decide) ?_
  have hrv : (1 : Int32).toInt = 1 := rfl
  exact q_retz E hr hlk hI ⟨by decide, by decide⟩ ⟨⟨by decide, by decide⟩, (by decide), (hF.trans hout), fr_σ_1⟩ dX11_yes_6

set_option maxRecDepth 100000 in
set_option maxHeartbeats 4000000 in
theorem c_X11_tray (l : Launch) (X : XW) (σ : ST) (a : Nat) (v1 : Int32) (v2 : Int32) (v3 : Int32) (ha : q_kd X a = 11) : Met l yX11_tray (q_ws yX11_tray cX11_tray 5 (some .boolean)) (q_rm 2 44) (q_P X σ [.ref a, .int v1, .int v2, .int v3]) (q_Qi X 0 σ (fun (r : Int32) (σ' : ST) => (0 ≤ r.toInt ∧ r.toInt ≤ 1) ∧ (q_KS (fun b g => b = (q_rf X (q_rf X a 3) v1.toNatClampNeg) ∧ g ≤ 1) 8 X σ σ') ∧ (r.toInt = 1 ↔ (0 ≤ v1.toInt ∧ v1.toInt < 4 ∧ 0 ≤ v2.toInt ∧ v2.toInt ≤ 3 ∧ 0 ≤ v3.toInt ∧ v3.toInt ≤ 60)) ∧ (r.toInt = 1 → σ'.1 (q_rf X (q_rf X a 3) v1.toNatClampNeg) 0 = v2 ∧ (σ'.1 (q_rf X (q_rf X a 3) v1.toNatClampNeg) 1).toInt = v3.toInt) ∧ (r.toInt = 0 → q_K 8 X σ σ') ∧ (r, σ') = F_X11_tray X σ a v1 v2 v3 ∧ q_ow [(10, 0), (10, 1), (11, 0)] [(21, 99)] X σ σ')) 0 0 (q_reg X) := by
  refine q_met 0 (by first | exact rfl | decide +kernel) rfl (Nat.le_of_ble_eq_true rfl) (fun p e s m below meth c E hml hr hlk hI ls hl => ?_)
  have hx := E.1
  have hb := E.2.1
  have hl : lv_has ls 5 [(0, .ref a), (1, .int v1), (2, .int v2), (3, .int v3)] := hl
  have ks_σ : q_KS (fun b g => b = (q_rf X (q_rf X a 3) v1.toNatClampNeg) ∧ g ≤ 1) 8 X σ σ := q_KS.rf
  have fr_σ : q_ow [(10, 0), (10, 1), (11, 0)] [(21, 99)] X σ σ := q_ow.rf
  obtain ⟨out, hout⟩ : ∃ o, o = F_X11_tray X σ a v1 v2 v3 := ⟨_, rfl⟩
  have hF := hout.symm
  unfold F_X11_tray at hF
  refine lv_aload_n hx hb dX11_tray_0 rfl (lv_at hl 0 rfl) ?_
  refine lv_iload_n hx hb dX11_tray_1 rfl (lv_at hl 1 rfl) ?_
  refine q_cq (q_runV (As := [.int v1]) (rest := []) E (hml.trans hl.1.symm) hI (c_X11_trayAt l X σ a v1 ha) kv_X11_85 ha ⟨rfl, by decide⟩ (show vwCl[10]? = some (RX11, TX11, 17) from rfl) rfl ⟨Nat.le_of_ble_eq_true rfl, Nat.le_of_ble_eq_true rfl⟩ ⟨Nat.le_refl _, Nat.le_refl _⟩ rfl (Nat.le_of_ble_eq_true rfl) dX11_tray_2) hI (by decide) (fun r_1 σ_2 H locs hpσ_2 hkσ_2 hI => ?_)
  obtain ⟨ahpσ_2, bhpσ_2, chpσ_2⟩ := hpσ_2
  rw [ahpσ_2] at hI
  replace hF := q_letX hF chpσ_2
  rcases r_1 with _ | r_1
  · show W _ _ _ _ _ _ _ _ _ _ _ _ _ _ _ (F0 m (2 + 3) ls [.null])
    replace hF := q_onN hF
    have nq_v1 := bhpσ_2.2 rfl
    refine lv_astoreN (lv' := [(4, .null), (0, .ref a), (1, .int v1), (2, .int v2), (3, .int v3)]) hx hb dX11_tray_5 hl (by decide) rfl (fun ls hl => ?_)
    refine lv_aloadN hx hb dX11_tray_7 (lv_at hl 0 rfl) ?_
    refine lv_ifnullN (tgt := 21) hx hb dX11_tray_9 (by decide) ?_
    refine lv_aload_n hx hb dX11_tray_21 rfl (lv_at hl 1 rfl) ?_
    refine lv_iconst (v := 1) hx hb dX11_tray_22 (by decide) ?_
    have kc_3 : (1 : Int32).toInt = 1 := rfl
    refine q_ci (q_runV (As := [.int 1]) (rest := []) E (hml.trans hl.1.symm) hI (c_X11_no l X σ a (1 : Int32) ha) kv_X11_89 ha ⟨rfl, by decide⟩ (show vwCl[10]? = some (RX11, TX11, 17) from rfl) rfl ⟨Nat.le_of_ble_eq_true rfl, Nat.le_of_ble_eq_true rfl⟩ ⟨Nat.le_refl _, Nat.le_refl _⟩ rfl (Nat.le_of_ble_eq_true rfl) dX11_tray_23) hI (by decide) (fun r_4 σ_5 H locs hpσ_5 hkσ_5 hI => ?_)
    obtain ⟨ahpσ_5, bhpσ_5, chpσ_5, dhpσ_5⟩ := hpσ_5
    have fr_σ_5 := fr_σ.call dhpσ_5 rfl rfl
    replace hF := q_biX hF chpσ_5
    have ks_σ_5 : q_KS (fun b g => b = (q_rf X (q_rf X a 3) v1.toNatClampNeg) ∧ g ≤ 1) 8 X σ σ_5 := ks_σ.K hkσ_5 (by decide)
    exact q_retz E hr hlk hI ⟨by omega, by omega⟩ ⟨⟨by omega, by omega⟩, ks_σ_5, (by constructor <;> intro h9 <;> omega), (by intro h9; exfalso; omega), (fun _ => hkσ_5), (hF.trans hout), fr_σ_5⟩ dX11_tray_26
  · show W _ _ _ _ _ _ _ _ _ _ _ _ _ _ _ (F0 m (2 + 3) ls [.ref r_1])
    replace hF := q_onS hF
    obtain ⟨kq_r_1, eq_r_1, lo_r_1, hi_r_1⟩ := bhpσ_2.1 _ rfl
    have f0_r_1 : (σ.1 (q_rf X (q_rf X a 3) v1.toNatClampNeg) 0).toInt = (σ.1 r_1 0).toInt := by rw [← eq_r_1]
    have f1_r_1 : (σ.1 (q_rf X (q_rf X a 3) v1.toNatClampNeg) 1).toInt = (σ.1 r_1 1).toInt := by rw [← eq_r_1]
    have g1_r_1 : -1 ≤ (σ.1 r_1 1).toInt ∧ (σ.1 r_1 1).toInt ≤ 60 := q_bd hI kq_r_1 rfl
    refine lv_astore (lv' := [(4, .ref r_1), (0, .ref a), (1, .int v1), (2, .int v2), (3, .int v3)]) hx hb dX11_tray_5 hl (by decide) rfl (fun ls hl => ?_)
    refine lv_aload hx hb dX11_tray_7 (lv_at hl 0 rfl) ?_
    refine lv_ifnull hx hb dX11_tray_9 ?_
    refine lv_iload_n hx hb dX11_tray_12 rfl (lv_at hl 3 rfl) ?_
    refine q_if_lt (A := v2.toInt) E rfl (tgt := 21) dX11_tray_13 (by decide) (fun c_6 => ?_) (fun c_6 => ?_)
    · skip
      replace hF := q_ifp hF c_6
      refine lv_aload_n hx hb dX11_tray_21 rfl (lv_at hl 1 rfl) ?_
      refine lv_iconst (v := 1) hx hb dX11_tray_22 (by decide) ?_
      have kc_7 : (1 : Int32).toInt = 1 := rfl
      refine q_ci (q_runV (As := [.int 1]) (rest := []) E (hml.trans hl.1.symm) hI (c_X11_no l X σ a (1 : Int32) ha) kv_X11_89 ha ⟨rfl, by decide⟩ (show vwCl[10]? = some (RX11, TX11, 17) from rfl) rfl ⟨Nat.le_of_ble_eq_true rfl, Nat.le_of_ble_eq_true rfl⟩ ⟨Nat.le_refl _, Nat.le_refl _⟩ rfl (Nat.le_of_ble_eq_true rfl) dX11_tray_23) hI (by decide) (fun r_8 σ_9 H locs hpσ_9 hkσ_9 hI => ?_)
      obtain ⟨ahpσ_9, bhpσ_9, chpσ_9, dhpσ_9⟩ := hpσ_9
      have fr_σ_9 := fr_σ.call dhpσ_9 rfl rfl
      replace hF := q_biX hF chpσ_9
      have ks_σ_9 : q_KS (fun b g => b = (q_rf X (q_rf X a 3) v1.toNatClampNeg) ∧ g ≤ 1) 8 X σ σ_9 := ks_σ.K hkσ_9 (by decide)
      exact q_retz E hr hlk hI ⟨by omega, by omega⟩ ⟨⟨by omega, by omega⟩, ks_σ_9, (by constructor <;> intro h9 <;> omega), (by intro h9; exfalso; omega), (fun _ => hkσ_9), (hF.trans hout), fr_σ_9⟩ dX11_tray_26
    · skip
      replace hF := q_ifn hF (Int.not_lt.mpr c_6)
      refine lv_iload_n hx hb dX11_tray_16 rfl (lv_at hl 3 rfl) ?_
      refine lv_iconst (v := 3) hx hb dX11_tray_17 (by decide) ?_
      refine q_icmp_le (A := v2.toInt) (B := 3) E rfl (by decide) (tgt := 27) dX11_tray_18 (by decide) (fun c_10 => ?_) (fun c_10 => ?_)
      · skip
        replace hF := q_ifn hF (Int.not_lt.mpr c_10)
        refine lv_iload_n hx hb dX11_tray_27 rfl (lv_at hl 4 rfl) ?_
        refine lv_bipush (v := 60) hx hb dX11_tray_28 (by decide) ?_
        refine q_icmp_le (A := v3.toInt) (B := 60) E rfl (by decide) (tgt := 39) dX11_tray_30 (by decide) (fun c_11 => ?_) (fun c_11 => ?_)
        · skip
          replace hF := q_ifn hF (Int.not_lt.mpr c_11)
          refine lv_iload_n hx hb dX11_tray_39 rfl (lv_at hl 4 rfl) ?_
          refine q_if_ge (A := v3.toInt) E rfl (tgt := 50) dX11_tray_40 (by decide) (fun c_12 => ?_) (fun c_12 => ?_)
          · skip
            replace hF := q_ifn hF (Int.not_lt.mpr c_12)
            refine lv_aload hx hb dX11_tray_50 (lv_at hl 0 rfl) ?_
            refine lv_iload_n hx hb dX11_tray_52 rfl (lv_at hl 3 rfl) ?_
            refine lv_iload_n hx hb dX11_tray_53 rfl (lv_at hl 4 rfl) ?_
            refine q_cv (q_runV (As := [.int v2, .int v3]) (rest := []) E (hml.trans hl.1.symm) hI (c_X10_make l X σ r_1 v2 v3 kq_r_1 (by first | (clear ahpσ_2 bhpσ_2 chpσ_2 lo_r_1 hi_r_1 f0_r_1 f1_r_1 g1_r_1 c_6 c_10 c_11 c_12; omega) | omega) (by first | (clear ahpσ_2 bhpσ_2 chpσ_2 lo_r_1 hi_r_1 f0_r_1 f1_r_1 g1_r_1 c_6 c_10 c_11 c_12; omega) | omega)) kv_X11_93 kq_r_1 ⟨rfl, by decide⟩ (show vwCl[9]? = some (RX10, TX10, 3) from rfl) rfl ⟨Nat.le_of_ble_eq_true rfl, Nat.le_of_ble_eq_true rfl⟩ ⟨Nat.le_refl _, Nat.le_refl _⟩ rfl (Nat.le_of_ble_eq_true rfl) dX11_tray_54) hI (by decide) (fun σ_14 H locs hpσ_14 hkσ_14 hI => ?_)
            obtain ⟨ahpσ_14, bhpσ_14, chpσ_14, dhpσ_14, ehpσ_14⟩ := hpσ_14
            have fr_σ_14 := fr_σ.call ehpσ_14 rfl rfl
            replace hF := q_letX hF dhpσ_14
            have ks_σ_14 : q_KS (fun b g => b = (q_rf X (q_rf X a 3) v1.toNatClampNeg) ∧ g ≤ 1) 8 X σ σ_14 := ks_σ.KS ahpσ_14 (by decide) (fun b g h => ⟨h.1.trans eq_r_1, h.2⟩)
            have mk0σ_14 : σ_14.1 r_1 0 = v2 := bhpσ_14
            have mk1σ_14 : (σ_14.1 r_1 1).toInt = v3.toInt := by rw [chpσ_14]; omega
            refine lv_aload_n hx hb dX11_tray_57 rfl (lv_at hl 1 rfl) ?_
            refine q_ci (q_runV (As := []) (rest := []) E (hml.trans hl.1.symm) hI (c_X11_yes l X σ_14 a ha) kv_X11_97 ha ⟨rfl, by decide⟩ (show vwCl[10]? = some (RX11, TX11, 17) from rfl) rfl ⟨Nat.le_of_ble_eq_true rfl, Nat.le_of_ble_eq_true rfl⟩ ⟨Nat.le_refl _, Nat.le_refl _⟩ rfl (Nat.le_of_ble_eq_true rfl) dX11_tray_58) hI (by decide) (fun r_15 σ_16 H locs hpσ_16 hkσ_16 hI => ?_)
            obtain ⟨ahpσ_16, bhpσ_16, chpσ_16, dhpσ_16⟩ := hpσ_16
            have fr_σ_16 := fr_σ_14.call dhpσ_16 rfl rfl
            replace hF := q_biX hF chpσ_16
            have ks_σ_16 : q_KS (fun b g => b = (q_rf X (q_rf X a 3) v1.toNatClampNeg) ∧ g ≤ 1) 8 X σ σ_16 := ks_σ_14.K hkσ_16 (by decide)
            have mk0σ_16 : σ_16.1 r_1 0 = v2 := (hkσ_16 r_1 0 (by rw [kq_r_1]; decide)).trans mk0σ_14
            have mk1σ_16 : (σ_16.1 r_1 1).toInt = v3.toInt := (congrArg Int32.toInt (hkσ_16 r_1 1 (by rw [kq_r_1]; decide))).trans mk1σ_14
            exact q_retz E hr hlk hI ⟨by omega, by omega⟩ ⟨⟨by omega, by omega⟩, ks_σ_16, (by constructor <;> intro h9 <;> omega), (fun _ => ⟨by rw [← eq_r_1]; exact mk0σ_16, by rw [← eq_r_1]; exact mk1σ_16⟩), (by intro h9; exfalso; omega), (hF.trans hout), fr_σ_16⟩ dX11_tray_61
          · skip
            replace hF := q_ifp hF c_12
            refine lv_aload_n hx hb dX11_tray_43 rfl (lv_at hl 1 rfl) ?_
            refine lv_bipush (v := 6) hx hb dX11_tray_44 (by decide) ?_
            have kc_17 : (6 : Int32).toInt = 6 := rfl
            refine q_ci (q_runV (As := [.int 6]) (rest := []) E (hml.trans hl.1.symm) hI (c_X11_no l X σ a (6 : Int32) ha) kv_X11_89 ha ⟨rfl, by decide⟩ (show vwCl[10]? = some (RX11, TX11, 17) from rfl) rfl ⟨Nat.le_of_ble_eq_true rfl, Nat.le_of_ble_eq_true rfl⟩ ⟨Nat.le_refl _, Nat.le_refl _⟩ rfl (Nat.le_of_ble_eq_true rfl) dX11_tray_46) hI (by decide) (fun r_18 σ_19 H locs hpσ_19 hkσ_19 hI => ?_)
            obtain ⟨ahpσ_19, bhpσ_19, chpσ_19, dhpσ_19⟩ := hpσ_19
            have fr_σ_19 := fr_σ.call dhpσ_19 rfl rfl
            replace hF := q_biX hF chpσ_19
            have ks_σ_19 : q_KS (fun b g => b = (q_rf X (q_rf X a 3) v1.toNatClampNeg) ∧ g ≤ 1) 8 X σ σ_19 := ks_σ.K hkσ_19 (by decide)
            exact q_retz E hr hlk hI ⟨by omega, by omega⟩ ⟨⟨by omega, by omega⟩, ks_σ_19, (by constructor <;> intro h9 <;> omega), (by intro h9; exfalso; omega), (fun _ => hkσ_19), (hF.trans hout), fr_σ_19⟩ dX11_tray_49
        · skip
          replace hF := q_ifp hF c_11
          refine lv_aload_n hx hb dX11_tray_33 rfl (lv_at hl 1 rfl) ?_
          refine lv_iconst (v := 5) hx hb dX11_tray_34 (by decide) ?_
          have kc_20 : (5 : Int32).toInt = 5 := rfl
          refine q_ci (q_runV (As := [.int 5]) (rest := []) E (hml.trans hl.1.symm) hI (c_X11_no l X σ a (5 : Int32) ha) kv_X11_89 ha ⟨rfl, by decide⟩ (show vwCl[10]? = some (RX11, TX11, 17) from rfl) rfl ⟨Nat.le_of_ble_eq_true rfl, Nat.le_of_ble_eq_true rfl⟩ ⟨Nat.le_refl _, Nat.le_refl _⟩ rfl (Nat.le_of_ble_eq_true rfl) dX11_tray_35) hI (by decide) (fun r_21 σ_22 H locs hpσ_22 hkσ_22 hI => ?_)
          obtain ⟨ahpσ_22, bhpσ_22, chpσ_22, dhpσ_22⟩ := hpσ_22
          have fr_σ_22 := fr_σ.call dhpσ_22 rfl rfl
          replace hF := q_biX hF chpσ_22
          have ks_σ_22 : q_KS (fun b g => b = (q_rf X (q_rf X a 3) v1.toNatClampNeg) ∧ g ≤ 1) 8 X σ σ_22 := ks_σ.K hkσ_22 (by decide)
          exact q_retz E hr hlk hI ⟨by omega, by omega⟩ ⟨⟨by omega, by omega⟩, ks_σ_22, (by constructor <;> intro h9 <;> omega), (by intro h9; exfalso; omega), (fun _ => hkσ_22), (hF.trans hout), fr_σ_22⟩ dX11_tray_38
      · skip
        replace hF := q_ifp hF c_10
        refine lv_aload_n hx hb dX11_tray_21 rfl (lv_at hl 1 rfl) ?_
        refine lv_iconst (v := 1) hx hb dX11_tray_22 (by decide) ?_
        have kc_23 : (1 : Int32).toInt = 1 := rfl
        refine q_ci (q_runV (As := [.int 1]) (rest := []) E (hml.trans hl.1.symm) hI (c_X11_no l X σ a (1 : Int32) ha) kv_X11_89 ha ⟨rfl, by decide⟩ (show vwCl[10]? = some (RX11, TX11, 17) from rfl) rfl ⟨Nat.le_of_ble_eq_true rfl, Nat.le_of_ble_eq_true rfl⟩ ⟨Nat.le_refl _, Nat.le_refl _⟩ rfl (Nat.le_of_ble_eq_true rfl) dX11_tray_23) hI (by decide) (fun r_24 σ_25 H locs hpσ_25 hkσ_25 hI => ?_)
        obtain ⟨ahpσ_25, bhpσ_25, chpσ_25, dhpσ_25⟩ := hpσ_25
        have fr_σ_25 := fr_σ.call dhpσ_25 rfl rfl
        replace hF := q_biX hF chpσ_25
        have ks_σ_25 : q_KS (fun b g => b = (q_rf X (q_rf X a 3) v1.toNatClampNeg) ∧ g ≤ 1) 8 X σ σ_25 := ks_σ.K hkσ_25 (by decide)
        exact q_retz E hr hlk hI ⟨by omega, by omega⟩ ⟨⟨by omega, by omega⟩, ks_σ_25, (by constructor <;> intro h9 <;> omega), (by intro h9; exfalso; omega), (fun _ => hkσ_25), (hF.trans hout), fr_σ_25⟩ dX11_tray_26

set_option maxRecDepth 100000 in
set_option maxHeartbeats 4000000 in
theorem c_X11_placeStatus (l : Launch) (X : XW) (σ : ST) (r0 : Nat) (v1 : Int32) (hr0 : q_kd X r0 = 10) : Met l yX11_placeStatus (q_ws yX11_placeStatus cX11_placeStatus 2 (some .int)) (q_rm 1 22) (q_P X σ [.ref r0, .int v1]) (q_Qi X 9 σ (fun (r : Int32) (σ' : ST) => σ' = σ ∧ ((σ.1 r0 1).toInt = -1 → r.toInt = 3) ∧ ((σ.1 r0 1).toInt ≠ -1 → (r.toInt = 0 ↔ 0 ≤ v1.toInt ∧ v1.toInt + 1 ≤ (σ.1 r0 1).toInt)) ∧ (r.toInt = 0 ∨ r.toInt = 3 ∨ r.toInt = 4) ∧ r = F_X11_placeStatus X σ r0 v1)) 0 0 (q_reg X) := by
  refine q_met 9 (by first | exact rfl | decide +kernel) rfl (Nat.le_of_ble_eq_true rfl) (fun p e s m below meth c E hml hr hlk hI ls hl => ?_)
  have hx := E.1
  have hb := E.2.1
  have hl : lv_has ls 2 [(0, .ref r0), (1, .int v1)] := hl
  obtain ⟨out, hout⟩ : ∃ o, o = F_X11_placeStatus X σ r0 v1 := ⟨_, rfl⟩
  have hF := hout.symm
  unfold F_X11_placeStatus at hF
  refine lv_aload_n hx hb dX11_placeStatus_0 rfl (lv_at hl 0 rfl) ?_
  refine lv_ifnonnull (tgt := 6) hx hb dX11_placeStatus_1 (by decide) ?_
  refine lv_aload_n hx hb dX11_placeStatus_6 rfl (lv_at hl 0 rfl) ?_
  refine q_ci (q_runV (As := []) (rest := []) E (hml.trans hl.1.symm) hI (c_X10_isMissing l X σ r0 hr0) kv_X11_117 hr0 ⟨rfl, by decide⟩ (show vwCl[9]? = some (RX10, TX10, 3) from rfl) rfl ⟨Nat.le_of_ble_eq_true rfl, Nat.le_of_ble_eq_true rfl⟩ ⟨Nat.le_refl _, Nat.le_refl _⟩ rfl (Nat.le_of_ble_eq_true rfl) dX11_placeStatus_7) hI (by decide) (fun r_1 σ_2 H locs hpσ_2 hkσ_2 hI => ?_)
  obtain ⟨ahpσ_2, bhpσ_2, chpσ_2, dhpσ_2⟩ := hpσ_2
  rw [ahpσ_2] at hI
  replace hF := q_letX hF dhpσ_2
  refine q_if_eq (A := r_1.toInt) E rfl (tgt := 15) dX11_placeStatus_10 (by decide) (fun c_3 => ?_) (fun c_3 => ?_)
  · skip
    replace hF := q_ifp hF c_3
    replace chpσ_2 := q_ifNo chpσ_2 c_3
    refine lv_aload_n hx hb dX11_placeStatus_15 rfl (lv_at hl 0 rfl) ?_
    refine lv_iload_n hx hb dX11_placeStatus_16 rfl (lv_at hl 1 rfl) ?_
    refine lv_iconst (v := 1) hx hb dX11_placeStatus_17 (by decide) ?_
    have kc_4 : (1 : Int32).toInt = 1 := rfl
    refine q_ci (q_runV (As := [.int v1, .int 1]) (rest := []) E (hml.trans hl.1.symm) hI (c_X10_hasPlaces l X σ r0 v1 (1 : Int32) hr0) kv_X11_123 hr0 ⟨rfl, by decide⟩ (show vwCl[9]? = some (RX10, TX10, 3) from rfl) rfl ⟨Nat.le_of_ble_eq_true rfl, Nat.le_of_ble_eq_true rfl⟩ ⟨Nat.le_refl _, Nat.le_refl _⟩ rfl (Nat.le_of_ble_eq_true rfl) dX11_placeStatus_18) hI (by decide) (fun r_5 σ_6 H locs hpσ_6 hkσ_6 hI => ?_)
    obtain ⟨ahpσ_6, bhpσ_6, chpσ_6, dhpσ_6⟩ := hpσ_6
    rw [ahpσ_6] at hI
    replace hF := q_letX hF dhpσ_6
    refine q_if_eq (A := r_5.toInt) E rfl (tgt := 28) dX11_placeStatus_21 (by decide) (fun c_7 => ?_) (fun c_7 => ?_)
    · skip
      replace hF := q_ifp hF c_7
      replace chpσ_6 := q_ifNo chpσ_6 c_7
      refine lv_iconst (v := 4) hx hb dX11_placeStatus_28 (by decide) ?_
      have hrv : (4 : Int32).toInt = 4 := rfl
      exact q_reti E hr hlk hI ⟨rfl, (by first | (clear ahpσ_2 bhpσ_2 dhpσ_2 c_3 ahpσ_6 bhpσ_6 dhpσ_6 c_7; omega) | omega), (by intro h8; constructor <;> intro h9 <;> omega), (by first | (clear ahpσ_2 bhpσ_2 dhpσ_2 c_3 chpσ_2 kc_4 ahpσ_6 bhpσ_6 dhpσ_6 c_7 chpσ_6; omega) | omega), (hF.trans hout)⟩ dX11_placeStatus_29
    · skip
      replace hF := q_ifn hF c_7
      replace c_7 := q_ifOne bhpσ_6 c_7
      replace chpσ_6 := q_ifYes chpσ_6 c_7
      refine lv_iconst (v := 0) hx hb dX11_placeStatus_24 (by decide) ?_
      refine lv_goto (tgt := 29) hx hb dX11_placeStatus_25 (by decide) ?_
      have hrv : (0 : Int32).toInt = 0 := rfl
      exact q_reti E hr hlk hI ⟨rfl, (by first | (clear ahpσ_2 bhpσ_2 dhpσ_2 c_3 chpσ_2 ahpσ_6 bhpσ_6 dhpσ_6 c_7 hrv; omega) | omega), (by intro h8; constructor <;> intro h9 <;> omega), (by first | (clear ahpσ_2 bhpσ_2 dhpσ_2 c_3 chpσ_2 kc_4 ahpσ_6 bhpσ_6 dhpσ_6 c_7 chpσ_6; omega) | omega), (hF.trans hout)⟩ dX11_placeStatus_29
  · skip
    replace hF := q_ifn hF c_3
    replace c_3 := q_ifOne bhpσ_2 c_3
    replace chpσ_2 := q_ifYes chpσ_2 c_3
    refine lv_iconst (v := 3) hx hb dX11_placeStatus_13 (by decide) ?_
    have hrv : (3 : Int32).toInt = 3 := rfl
    exact q_reti E hr hlk hI ⟨rfl, (by first | (clear ahpσ_2 bhpσ_2 dhpσ_2 c_3 chpσ_2; omega) | omega), (by intro h8; constructor <;> intro h9 <;> omega), (by first | (clear ahpσ_2 bhpσ_2 dhpσ_2 c_3 chpσ_2; omega) | omega), (hF.trans hout)⟩ dX11_placeStatus_14

set_option maxRecDepth 100000 in
set_option maxHeartbeats 4000000 in
theorem c_X11_placeStatus_n (l : Launch) (X : XW) (σ : ST) (v1 : Int32) : Met l yX11_placeStatus (q_ws yX11_placeStatus cX11_placeStatus 2 (some .int)) (q_rm 1 22) (q_P X σ [.null, .int v1]) (q_Qi X 9 σ (fun (r : Int32) (σ' : ST) => σ' = σ ∧ (r.toInt = 1) ∧ r = F_X11_placeStatus_n X σ v1)) 0 0 (q_reg X) := by
  refine q_met 9 (by first | exact rfl | decide +kernel) rfl (Nat.le_of_ble_eq_true rfl) (fun p e s m below meth c E hml hr hlk hI ls hl => ?_)
  have hx := E.1
  have hb := E.2.1
  have hl : lv_has ls 2 [(0, .null), (1, .int v1)] := hl
  obtain ⟨out, hout⟩ : ∃ o, o = F_X11_placeStatus_n X σ v1 := ⟨_, rfl⟩
  have hF := hout.symm
  unfold F_X11_placeStatus_n at hF
  refine lv_aload_nN hx hb dX11_placeStatus_0 rfl (lv_at hl 0 rfl) ?_
  refine lv_ifnonnullN hx hb dX11_placeStatus_1 ?_
  refine lv_iconst (v := 1) hx hb dX11_placeStatus_4 (by decide) ?_
  have hrv : (1 : Int32).toInt = 1 := rfl
  exact q_reti E hr hlk hI ⟨rfl, (by decide), (hF.trans hout)⟩ dX11_placeStatus_5

set_option maxRecDepth 100000 in
set_option maxHeartbeats 4000000 in
theorem c_X11_write (l : Launch) (X : XW) (σ : ST) (a : Nat) (v1 : Int32) (v2 : Int32) (v3 : Int64) (ha : q_kd X a = 11) : Met l yX11_write (q_ws yX11_write cX11_write 7 (some .boolean)) (q_rm 2 45) (q_P X σ [.ref a, .int v1, .int v2, .long v3]) (q_Qi X 8 σ (fun (r : Int32) (σ' : ST) => (0 ≤ r.toInt ∧ r.toInt ≤ 1) ∧ (r.toInt = 1 ↔ (0 ≤ v1.toInt ∧ v1.toInt < 4 ∧ 0 ≤ v2.toInt ∧ v2.toInt + 1 ≤ (σ.1 (q_rf X (q_rf X a 3) v1.toNatClampNeg) 1).toInt)) ∧ (r, σ') = F_X11_write X σ a v1 v2 v3 ∧ q_ow [(11, 0)] [(21, 99)] X σ σ')) 0 0 (q_reg X) := by
  refine q_met 8 (by first | exact rfl | decide +kernel) rfl (Nat.le_of_ble_eq_true rfl) (fun p e s m below meth c E hml hr hlk hI ls hl => ?_)
  have hx := E.1
  have hb := E.2.1
  have hl : lv_has ls 7 [(0, .ref a), (1, .int v1), (2, .int v2), (3, .long v3)] := hl
  have fr_σ : q_ow [(11, 0)] [(21, 99)] X σ σ := q_ow.rf
  obtain ⟨out, hout⟩ : ∃ o, o = F_X11_write X σ a v1 v2 v3 := ⟨_, rfl⟩
  have hF := hout.symm
  unfold F_X11_write at hF
  refine lv_aload_n hx hb dX11_write_0 rfl (lv_at hl 0 rfl) ?_
  refine lv_iload_n hx hb dX11_write_1 rfl (lv_at hl 1 rfl) ?_
  refine q_cq (q_runV (As := [.int v1]) (rest := []) E (hml.trans hl.1.symm) hI (c_X11_trayAt l X σ a v1 ha) kv_X11_85 ha ⟨rfl, by decide⟩ (show vwCl[10]? = some (RX11, TX11, 17) from rfl) rfl ⟨Nat.le_of_ble_eq_true rfl, Nat.le_of_ble_eq_true rfl⟩ ⟨Nat.le_refl _, Nat.le_refl _⟩ rfl (Nat.le_of_ble_eq_true rfl) dX11_write_2) hI (by decide) (fun r_1 σ_2 H locs hpσ_2 hkσ_2 hI => ?_)
  obtain ⟨ahpσ_2, bhpσ_2, chpσ_2⟩ := hpσ_2
  rw [ahpσ_2] at hI
  replace hF := q_letX hF chpσ_2
  rcases r_1 with _ | r_1
  · show W _ _ _ _ _ _ _ _ _ _ _ _ _ _ _ (F0 m (2 + 3) ls [.null])
    replace hF := q_onN hF
    have nq_v1 := bhpσ_2.2 rfl
    refine lv_astoreN (lv' := [(5, .null), (0, .ref a), (1, .int v1), (2, .int v2), (3, .long v3)]) hx hb dX11_write_5 hl (by decide) rfl (fun ls hl => ?_)
    refine lv_aloadN hx hb dX11_write_7 (lv_at hl 0 rfl) ?_
    refine lv_iload_n hx hb dX11_write_9 rfl (lv_at hl 3 rfl) ?_
    refine q_ci (q_runS (As := [.null, .int v2]) (rest := []) E (hml.trans hl.1.symm) hI (c_X11_placeStatus_n l X σ v2) ks_X11_101 rfl ⟨Nat.le_of_ble_eq_true rfl, Nat.le_of_ble_eq_true rfl⟩ ⟨Nat.le_refl _, Nat.le_refl _⟩ rfl (Nat.le_of_ble_eq_true rfl) dX11_write_10) hI (by decide) (fun r_3 σ_4 H locs hpσ_4 hkσ_4 hI => ?_)
    obtain ⟨ahpσ_4, bhpσ_4, chpσ_4⟩ := hpσ_4
    rw [ahpσ_4] at hI
    replace hF := q_letX hF chpσ_4
    refine lv_istore (lv' := [(6, .int r_3), (5, .null), (0, .ref a), (1, .int v1), (2, .int v2), (3, .long v3)]) hx hb dX11_write_13 hl (by decide) rfl (fun ls hl => ?_)
    refine lv_aloadN hx hb dX11_write_15 (lv_at hl 1 rfl) ?_
    refine lv_ifnullN (tgt := 25) hx hb dX11_write_17 (by decide) ?_
    refine lv_aload_n hx hb dX11_write_25 rfl (lv_at hl 2 rfl) ?_
    refine lv_iload hx hb dX11_write_26 (lv_at hl 0 rfl) ?_
    refine q_ci (q_runV (As := [.int r_3]) (rest := []) E (hml.trans hl.1.symm) hI (c_X11_no l X σ a r_3 ha) kv_X11_89 ha ⟨rfl, by decide⟩ (show vwCl[10]? = some (RX11, TX11, 17) from rfl) rfl ⟨Nat.le_of_ble_eq_true rfl, Nat.le_of_ble_eq_true rfl⟩ ⟨Nat.le_refl _, Nat.le_refl _⟩ rfl (Nat.le_of_ble_eq_true rfl) dX11_write_28) hI (by decide) (fun r_5 σ_6 H locs hpσ_6 hkσ_6 hI => ?_)
    obtain ⟨ahpσ_6, bhpσ_6, chpσ_6, dhpσ_6⟩ := hpσ_6
    have fr_σ_6 := fr_σ.call dhpσ_6 rfl rfl
    replace hF := q_biX hF chpσ_6
    exact q_retz E hr hlk hI ⟨by omega, by omega⟩ ⟨⟨by omega, by omega⟩, (by constructor <;> intro h9 <;> omega), (hF.trans hout), fr_σ_6⟩ dX11_write_31
  · show W _ _ _ _ _ _ _ _ _ _ _ _ _ _ _ (F0 m (2 + 3) ls [.ref r_1])
    replace hF := q_onS hF
    obtain ⟨kq_r_1, eq_r_1, lo_r_1, hi_r_1⟩ := bhpσ_2.1 _ rfl
    have f0_r_1 : (σ.1 (q_rf X (q_rf X a 3) v1.toNatClampNeg) 0).toInt = (σ.1 r_1 0).toInt := by rw [← eq_r_1]
    have f1_r_1 : (σ.1 (q_rf X (q_rf X a 3) v1.toNatClampNeg) 1).toInt = (σ.1 r_1 1).toInt := by rw [← eq_r_1]
    have g1_r_1 : -1 ≤ (σ.1 r_1 1).toInt ∧ (σ.1 r_1 1).toInt ≤ 60 := q_bd hI kq_r_1 rfl
    refine lv_astore (lv' := [(5, .ref r_1), (0, .ref a), (1, .int v1), (2, .int v2), (3, .long v3)]) hx hb dX11_write_5 hl (by decide) rfl (fun ls hl => ?_)
    refine lv_aload hx hb dX11_write_7 (lv_at hl 0 rfl) ?_
    refine lv_iload_n hx hb dX11_write_9 rfl (lv_at hl 3 rfl) ?_
    refine q_ci (q_runS (As := [.ref r_1, .int v2]) (rest := []) E (hml.trans hl.1.symm) hI (c_X11_placeStatus l X σ r_1 v2 kq_r_1) ks_X11_101 rfl ⟨Nat.le_of_ble_eq_true rfl, Nat.le_of_ble_eq_true rfl⟩ ⟨Nat.le_refl _, Nat.le_refl _⟩ rfl (Nat.le_of_ble_eq_true rfl) dX11_write_10) hI (by decide) (fun r_7 σ_8 H locs hpσ_8 hkσ_8 hI => ?_)
    obtain ⟨ahpσ_8, bhpσ_8, chpσ_8, dhpσ_8, ehpσ_8⟩ := hpσ_8
    rw [ahpσ_8] at hI
    replace hF := q_letX hF ehpσ_8
    refine lv_istore (lv' := [(6, .int r_7), (5, .ref r_1), (0, .ref a), (1, .int v1), (2, .int v2), (3, .long v3)]) hx hb dX11_write_13 hl (by decide) rfl (fun ls hl => ?_)
    refine lv_aload hx hb dX11_write_15 (lv_at hl 1 rfl) ?_
    refine lv_ifnull hx hb dX11_write_17 ?_
    refine lv_iload hx hb dX11_write_20 (lv_at hl 0 rfl) ?_
    refine q_if_eq (A := r_7.toInt) E rfl (tgt := 32) dX11_write_22 (by decide) (fun c_9 => ?_) (fun c_9 => ?_)
    · skip
      replace hF := q_ifp hF c_9
      refine lv_aload hx hb dX11_write_32 (lv_at hl 1 rfl) ?_
      refine lv_iload_n hx hb dX11_write_34 rfl (lv_at hl 4 rfl) ?_
      refine lv_lload_n hx hb dX11_write_35 rfl (lv_at hl 5 rfl) ?_
      refine q_cv (q_runV (As := [.int v2, .long v3]) (rest := []) E (hml.trans hl.1.symm) hI (c_X10_put l X σ r_1 v2 v3 kq_r_1) kv_X11_105 kq_r_1 ⟨rfl, by decide⟩ (show vwCl[9]? = some (RX10, TX10, 3) from rfl) rfl ⟨Nat.le_of_ble_eq_true rfl, Nat.le_of_ble_eq_true rfl⟩ ⟨Nat.le_refl _, Nat.le_refl _⟩ rfl (Nat.le_of_ble_eq_true rfl) dX11_write_36) hI (by decide) (fun σ_11 H locs hpσ_11 hkσ_11 hI => ?_)
      obtain ⟨ahpσ_11, bhpσ_11⟩ := hpσ_11
      have fr_σ_11 := fr_σ.call bhpσ_11 rfl rfl
      replace hF := q_letX hF ahpσ_11
      refine lv_aload_n hx hb dX11_write_39 rfl (lv_at hl 2 rfl) ?_
      refine q_ci (q_runV (As := []) (rest := []) E (hml.trans hl.1.symm) hI (c_X11_yes l X σ_11 a ha) kv_X11_97 ha ⟨rfl, by decide⟩ (show vwCl[10]? = some (RX11, TX11, 17) from rfl) rfl ⟨Nat.le_of_ble_eq_true rfl, Nat.le_of_ble_eq_true rfl⟩ ⟨Nat.le_refl _, Nat.le_refl _⟩ rfl (Nat.le_of_ble_eq_true rfl) dX11_write_40) hI (by decide) (fun r_12 σ_13 H locs hpσ_13 hkσ_13 hI => ?_)
      obtain ⟨ahpσ_13, bhpσ_13, chpσ_13, dhpσ_13⟩ := hpσ_13
      have fr_σ_13 := fr_σ_11.call dhpσ_13 rfl rfl
      replace hF := q_biX hF chpσ_13
      exact q_retz E hr hlk hI ⟨by omega, by omega⟩ ⟨⟨by omega, by omega⟩, (by constructor <;> intro h9 <;> omega), (hF.trans hout), fr_σ_13⟩ dX11_write_43
    · skip
      replace hF := q_ifn hF c_9
      refine lv_aload_n hx hb dX11_write_25 rfl (lv_at hl 2 rfl) ?_
      refine lv_iload hx hb dX11_write_26 (lv_at hl 0 rfl) ?_
      refine q_ci (q_runV (As := [.int r_7]) (rest := []) E (hml.trans hl.1.symm) hI (c_X11_no l X σ a r_7 ha) kv_X11_89 ha ⟨rfl, by decide⟩ (show vwCl[10]? = some (RX11, TX11, 17) from rfl) rfl ⟨Nat.le_of_ble_eq_true rfl, Nat.le_of_ble_eq_true rfl⟩ ⟨Nat.le_refl _, Nat.le_refl _⟩ rfl (Nat.le_of_ble_eq_true rfl) dX11_write_28) hI (by decide) (fun r_14 σ_15 H locs hpσ_15 hkσ_15 hI => ?_)
      obtain ⟨ahpσ_15, bhpσ_15, chpσ_15, dhpσ_15⟩ := hpσ_15
      have fr_σ_15 := fr_σ.call dhpσ_15 rfl rfl
      replace hF := q_biX hF chpσ_15
      exact q_retz E hr hlk hI ⟨by omega, by omega⟩ ⟨⟨by omega, by omega⟩, (by constructor <;> intro h9 <;> omega), (hF.trans hout), fr_σ_15⟩ dX11_write_31

set_option maxRecDepth 100000 in
set_option maxHeartbeats 4000000 in
theorem c_X11_none (l : Launch) (X : XW) (σ : ST) (a : Nat) (v1 : Int32) (ha : q_kd X a = 11) : Met l yX11_none (q_ws yX11_none cX11_none 2 (some .int)) (q_rm 0 0) (q_P X σ [.ref a, .int v1]) (q_Qi X 8 σ (fun (r : Int32) (σ' : ST) => (r.toInt = -1) ∧ (r, σ') = F_X11_none X σ a v1 ∧ q_ow [(11, 0)] [] X σ σ')) 0 0 (q_reg X) := by
  refine q_met 8 (by first | exact rfl | decide +kernel) rfl (Nat.le_of_ble_eq_true rfl) (fun p e s m below meth c E hml hr hlk hI ls hl => ?_)
  have hx := E.1
  have hb := E.2.1
  have hl : lv_has ls 2 [(0, .ref a), (1, .int v1)] := hl
  have fr_σ : q_ow [(11, 0)] [] X σ σ := q_ow.rf
  obtain ⟨out, hout⟩ : ∃ o, o = F_X11_none X σ a v1 := ⟨_, rfl⟩
  have hF := hout.symm
  unfold F_X11_none at hF
  refine lv_aload_n hx hb dX11_none_0 rfl (lv_at hl 0 rfl) ?_
  refine lv_iload_n hx hb dX11_none_1 rfl (lv_at hl 1 rfl) ?_
  refine ps_X11_9_11 E hI ha (by decide) dX11_none_2 (fun H locs σ_1 hσ_1 hI => ?_)
  replace hF := q_letX hF hσ_1
  have fr_σ_1 := fr_σ.si hσ_1 ha rfl
  refine lv_iconst (v := (-1)) hx hb dX11_none_5 (by decide) ?_
  have hrv : ((-1) : Int32).toInt = (-1) := rfl
  exact q_reti E hr hlk hI ⟨(by decide), (hF.trans hout), fr_σ_1⟩ dX11_none_6

set_option maxRecDepth 100000 in
set_option maxHeartbeats 4000000 in
theorem c_X11_read (l : Launch) (X : XW) (σ : ST) (a : Nat) (v1 : Int32) (v2 : Int32) (ha : q_kd X a = 11) : Met l yX11_read (q_ws yX11_read cX11_read 5 (some .long)) (q_rm 2 43) (q_P X σ [.ref a, .int v1, .int v2]) (q_Ql X 8 σ (fun (r : Int64) (σ' : ST) => (r, σ') = F_X11_read X σ a v1 v2 ∧ q_ow [(11, 0)] [] X σ σ')) 0 0 (q_reg X) := by
  refine q_met 8 (by first | exact rfl | decide +kernel) rfl (Nat.le_of_ble_eq_true rfl) (fun p e s m below meth c E hml hr hlk hI ls hl => ?_)
  have hx := E.1
  have hb := E.2.1
  have hl : lv_has ls 5 [(0, .ref a), (1, .int v1), (2, .int v2)] := hl
  have fr_σ : q_ow [(11, 0)] [] X σ σ := q_ow.rf
  obtain ⟨out, hout⟩ : ∃ o, o = F_X11_read X σ a v1 v2 := ⟨_, rfl⟩
  have hF := hout.symm
  unfold F_X11_read at hF
  refine lv_aload_n hx hb dX11_read_0 rfl (lv_at hl 0 rfl) ?_
  refine lv_iload_n hx hb dX11_read_1 rfl (lv_at hl 1 rfl) ?_
  refine q_cq (q_runV (As := [.int v1]) (rest := []) E (hml.trans hl.1.symm) hI (c_X11_trayAt l X σ a v1 ha) kv_X11_85 ha ⟨rfl, by decide⟩ (show vwCl[10]? = some (RX11, TX11, 17) from rfl) rfl ⟨Nat.le_of_ble_eq_true rfl, Nat.le_of_ble_eq_true rfl⟩ ⟨Nat.le_refl _, Nat.le_refl _⟩ rfl (Nat.le_of_ble_eq_true rfl) dX11_read_2) hI (by decide) (fun r_1 σ_2 H locs hpσ_2 hkσ_2 hI => ?_)
  obtain ⟨ahpσ_2, bhpσ_2, chpσ_2⟩ := hpσ_2
  rw [ahpσ_2] at hI
  replace hF := q_letX hF chpσ_2
  rcases r_1 with _ | r_1
  · show W _ _ _ _ _ _ _ _ _ _ _ _ _ _ _ (F0 m (2 + 3) ls [.null])
    replace hF := q_onN hF
    have nq_v1 := bhpσ_2.2 rfl
    refine lv_astore_nN (lv' := [(3, .null), (0, .ref a), (1, .int v1), (2, .int v2)]) hx hb dX11_read_5 rfl hl (by decide) rfl (fun ls hl => ?_)
    refine lv_aload_nN hx hb dX11_read_6 rfl (lv_at hl 0 rfl) ?_
    refine lv_iload_n hx hb dX11_read_7 rfl (lv_at hl 3 rfl) ?_
    refine q_ci (q_runS (As := [.null, .int v2]) (rest := []) E (hml.trans hl.1.symm) hI (c_X11_placeStatus_n l X σ v2) ks_X11_101 rfl ⟨Nat.le_of_ble_eq_true rfl, Nat.le_of_ble_eq_true rfl⟩ ⟨Nat.le_refl _, Nat.le_refl _⟩ rfl (Nat.le_of_ble_eq_true rfl) dX11_read_8) hI (by decide) (fun r_3 σ_4 H locs hpσ_4 hkσ_4 hI => ?_)
    obtain ⟨ahpσ_4, bhpσ_4, chpσ_4⟩ := hpσ_4
    rw [ahpσ_4] at hI
    replace hF := q_letX hF chpσ_4
    refine lv_istore (lv' := [(4, .int r_3), (3, .null), (0, .ref a), (1, .int v1), (2, .int v2)]) hx hb dX11_read_11 hl (by decide) rfl (fun ls hl => ?_)
    refine lv_aload_nN hx hb dX11_read_13 rfl (lv_at hl 1 rfl) ?_
    refine lv_ifnullN (tgt := 22) hx hb dX11_read_14 (by decide) ?_
    refine lv_aload_n hx hb dX11_read_22 rfl (lv_at hl 2 rfl) ?_
    refine lv_iload hx hb dX11_read_23 (lv_at hl 0 rfl) ?_
    refine q_ci (q_runV (As := [.int r_3]) (rest := []) E (hml.trans hl.1.symm) hI (c_X11_none l X σ a r_3 ha) kv_X11_109 ha ⟨rfl, by decide⟩ (show vwCl[10]? = some (RX11, TX11, 17) from rfl) rfl ⟨Nat.le_of_ble_eq_true rfl, Nat.le_of_ble_eq_true rfl⟩ ⟨Nat.le_refl _, Nat.le_refl _⟩ rfl (Nat.le_of_ble_eq_true rfl) dX11_read_25) hI (by decide) (fun r_5 σ_6 H locs hpσ_6 hkσ_6 hI => ?_)
    obtain ⟨ahpσ_6, bhpσ_6, chpσ_6⟩ := hpσ_6
    have fr_σ_6 := fr_σ.call chpσ_6 rfl rfl
    replace hF := q_biX hF bhpσ_6
    refine lv_i2l hx hb dX11_read_28 rfl ?_
    refine lv_topl (fun y_7 ey_7 => ?_)
    replace hF := q_letX hF ey_7
    exact q_retl E hr hlk hI ⟨(hF.trans hout), fr_σ_6⟩ dX11_read_29
  · show W _ _ _ _ _ _ _ _ _ _ _ _ _ _ _ (F0 m (2 + 3) ls [.ref r_1])
    replace hF := q_onS hF
    obtain ⟨kq_r_1, eq_r_1, lo_r_1, hi_r_1⟩ := bhpσ_2.1 _ rfl
    have f0_r_1 : (σ.1 (q_rf X (q_rf X a 3) v1.toNatClampNeg) 0).toInt = (σ.1 r_1 0).toInt := by rw [← eq_r_1]
    have f1_r_1 : (σ.1 (q_rf X (q_rf X a 3) v1.toNatClampNeg) 1).toInt = (σ.1 r_1 1).toInt := by rw [← eq_r_1]
    have g1_r_1 : -1 ≤ (σ.1 r_1 1).toInt ∧ (σ.1 r_1 1).toInt ≤ 60 := q_bd hI kq_r_1 rfl
    refine lv_astore_n (lv' := [(3, .ref r_1), (0, .ref a), (1, .int v1), (2, .int v2)]) hx hb dX11_read_5 rfl hl (by decide) rfl (fun ls hl => ?_)
    refine lv_aload_n hx hb dX11_read_6 rfl (lv_at hl 0 rfl) ?_
    refine lv_iload_n hx hb dX11_read_7 rfl (lv_at hl 3 rfl) ?_
    refine q_ci (q_runS (As := [.ref r_1, .int v2]) (rest := []) E (hml.trans hl.1.symm) hI (c_X11_placeStatus l X σ r_1 v2 kq_r_1) ks_X11_101 rfl ⟨Nat.le_of_ble_eq_true rfl, Nat.le_of_ble_eq_true rfl⟩ ⟨Nat.le_refl _, Nat.le_refl _⟩ rfl (Nat.le_of_ble_eq_true rfl) dX11_read_8) hI (by decide) (fun r_8 σ_9 H locs hpσ_9 hkσ_9 hI => ?_)
    obtain ⟨ahpσ_9, bhpσ_9, chpσ_9, dhpσ_9, ehpσ_9⟩ := hpσ_9
    rw [ahpσ_9] at hI
    replace hF := q_letX hF ehpσ_9
    refine lv_istore (lv' := [(4, .int r_8), (3, .ref r_1), (0, .ref a), (1, .int v1), (2, .int v2)]) hx hb dX11_read_11 hl (by decide) rfl (fun ls hl => ?_)
    refine lv_aload_n hx hb dX11_read_13 rfl (lv_at hl 1 rfl) ?_
    refine lv_ifnull hx hb dX11_read_14 ?_
    refine lv_iload hx hb dX11_read_17 (lv_at hl 0 rfl) ?_
    refine q_if_eq (A := r_8.toInt) E rfl (tgt := 30) dX11_read_19 (by decide) (fun c_10 => ?_) (fun c_10 => ?_)
    · skip
      replace hF := q_ifp hF c_10
      refine lv_aload_n hx hb dX11_read_30 rfl (lv_at hl 2 rfl) ?_
      refine lv_iconst (v := 0) hx hb dX11_read_31 (by decide) ?_
      refine ps_X11_9_11 E hI ha (by decide) dX11_read_32 (fun H locs σ_11 hσ_11 hI => ?_)
      replace hF := q_letX hF hσ_11
      have fr_σ_11 := fr_σ.si hσ_11 ha rfl
      refine lv_aload_n hx hb dX11_read_35 rfl (lv_at hl 1 rfl) ?_
      refine lv_iload_n hx hb dX11_read_36 rfl (lv_at hl 4 rfl) ?_
      refine q_cl_ (q_runV (As := [.int v2]) (rest := []) E (hml.trans hl.1.symm) hI (c_X10_get l X σ_11 r_1 v2 kq_r_1) kv_X11_113 kq_r_1 ⟨rfl, by decide⟩ (show vwCl[9]? = some (RX10, TX10, 3) from rfl) rfl ⟨Nat.le_of_ble_eq_true rfl, Nat.le_of_ble_eq_true rfl⟩ ⟨Nat.le_refl _, Nat.le_refl _⟩ rfl (Nat.le_of_ble_eq_true rfl) dX11_read_37) hI (by decide) (fun r_12 σ_13 H locs hpσ_13 hkσ_13 hI => ?_)
      obtain ⟨ahpσ_13, bhpσ_13⟩ := hpσ_13
      rw [ahpσ_13] at hI
      replace hF := q_letX hF bhpσ_13
      exact q_retl E hr hlk hI ⟨(hF.trans hout), fr_σ_11⟩ dX11_read_40
    · skip
      replace hF := q_ifn hF c_10
      refine lv_aload_n hx hb dX11_read_22 rfl (lv_at hl 2 rfl) ?_
      refine lv_iload hx hb dX11_read_23 (lv_at hl 0 rfl) ?_
      refine q_ci (q_runV (As := [.int r_8]) (rest := []) E (hml.trans hl.1.symm) hI (c_X11_none l X σ a r_8 ha) kv_X11_109 ha ⟨rfl, by decide⟩ (show vwCl[10]? = some (RX11, TX11, 17) from rfl) rfl ⟨Nat.le_of_ble_eq_true rfl, Nat.le_of_ble_eq_true rfl⟩ ⟨Nat.le_refl _, Nat.le_refl _⟩ rfl (Nat.le_of_ble_eq_true rfl) dX11_read_25) hI (by decide) (fun r_14 σ_15 H locs hpσ_15 hkσ_15 hI => ?_)
      obtain ⟨ahpσ_15, bhpσ_15, chpσ_15⟩ := hpσ_15
      have fr_σ_15 := fr_σ.call chpσ_15 rfl rfl
      replace hF := q_biX hF bhpσ_15
      refine lv_i2l hx hb dX11_read_28 rfl ?_
      refine lv_topl (fun y_16 ey_16 => ?_)
      replace hF := q_letX hF ey_16
      exact q_retl E hr hlk hI ⟨(hF.trans hout), fr_σ_15⟩ dX11_read_29
end
