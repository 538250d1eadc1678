set_option maxRecDepth 100000 in
set_option maxHeartbeats 4000000 in
theorem lw_c0 {p : Program} {l : Launch} {e : Env} {s : State} {m : MethodId} {below : List Frame} {meth : Method} {c : Code} {b L : Nat} {xs : Nat → Int32} {X : XW} {xo mo : Nat} {σ0 : ST} {cells slots : Nat} {Q : State → Prop} {lb : Nat → Nat} (hcl : tb_Cls X lb xo mo) (hal : al_C X lb xo mo) (E : q_E p c cL_law s m #[Value.ref b] RL X) (hX : va_X b L xs s s.heap) (hbl : b < s.heap.size) (hbA : ¬ q_reg X b) (hml : c.maxLocals = 4) (hxo : q_kd X xo = 11) (hmo : q_kd X mo = 12) (hcs : cells ≤ room_1.cells ∧ slots ≤ room_1.slots) (hL : L ≤ 3072) {i : Nat} (hi : i + 6 ≤ L) {n : Int} (hn : 0 ≤ n ∧ n ≤ 199000) {σ : ST} {H : Heap} {locs : List Loc} {ls : Array Slot} (hI : q_I X 0 σ0 s.heap locs σ H) (hM : m_M (m_c X σ mo) (σ.1 mo 24).toInt n) (hl : lv_has ls 4 [(3, .int (nI i)), (2, .ref mo), (1, .ref xo), (0, .ref b)]) (hE : lw_E xo mo σ) (hB : lw_B X xo mo σ) (hA : al_R X xo mo σ σ)
    (kk : ∀ (σ : ST) (H : Heap) (locs : List Loc), q_I X 0 σ0 s.heap locs σ H → m_M (m_c X σ mo) (σ.1 mo 24).toInt (n + 301) → lw_E xo mo σ → lw_B X xo mo σ → al_R X xo mo σ σ → W p l e room_1 s m #[Value.ref b] below meth c H locs cells slots Q (F0 m 1796 ls [])) : W p l e room_1 s m #[Value.ref b] below meth c H locs cells slots Q (F0 m 264 ls []) := by
  have hx := E.1
  have hb := E.2.1
  have hI0 := hI
  have hE0 := hE
  have hB0 := hB
  have hA0 := hA
  have hM0 := hM
  refine lv_aload_n hx hb dL_law_264 rfl (lv_at hl 2 rfl) ?_
  have h3 := (q_bd hI hmo (rfl : q_bn 12 24 = (0, 3))).2
  refine q_ci (q_runV (As := []) (rest := []) E (hml.trans hl.1.symm) hI (c_X11_status l X σ xo hxo) kl_13 hxo ⟨rfl, by decide⟩ (show vwCl[10]? = some (RX11, TX11, 17) from rfl) rfl ⟨Nat.le_of_ble_eq_true rfl, Nat.le_of_ble_eq_true rfl⟩ hcs rfl (Nat.le_of_ble_eq_true rfl) dL_law_265) hI (by decide) (fun r1 σ1 H locs hp hk hI => ?_)
  obtain ⟨hs1, hex1⟩ := hp
  have how1 : q_ow [] [] X σ σ1 := by rw [hs1]; exact q_ow.rf
  have hp := True.intro
  have hB := lw_BK how1 hI.1 hxo hmo rfl rfl (how1.1 xo 5 (by rw [hxo]; rfl)) hB
  have hA1 := hA0.pre hal how1 rfl
  have hA := (hA.post hal how1 rfl).pre hal how1 rfl
  have hE := lw_EK hk (by decide) hxo hmo hE
  have hM := lw_kM hk hI.1 hmo (by decide) hM
  have hpp1 := hp
  have hMc := hM
  clear hp hk
  clear h3
  refine lv_pop hx hb dL_law_268 rfl ?_
  refine lv_aload_n hx hb dL_law_269 rfl (lv_at hl 1 rfl) ?_
  have h3 := (q_bd hI hmo (rfl : q_bn 12 24 = (0, 3))).2
  refine q_ci (q_runV (As := []) (rest := []) E (hml.trans hl.1.symm) hI (c_X12_status l X σ1 mo hmo) kl_17 hmo ⟨rfl, by decide⟩ (show vwCl[11]? = some (RX12, TX12, 46) from rfl) rfl ⟨Nat.le_of_ble_eq_true rfl, Nat.le_of_ble_eq_true rfl⟩ hcs rfl (Nat.le_of_ble_eq_true rfl) dL_law_270) hI (by decide) (fun r2 σ2 H locs hp hk hI => ?_)
  obtain ⟨hex2, how2⟩ := hp
  have hp := True.intro
  have hB := lw_BK how2 hI.1 hxo hmo rfl rfl (how2.1 xo 5 (by rw [hxo]; rfl)) hB
  have hA := (hA.post hal how2 rfl).pre hal how2 rfl
  have hE := lw_EK hk (by decide) hxo hmo hE
  have hM := lw_up (lw_kM hk hI.1 hmo (by decide) hM) (q_bd hI hmo (rfl : q_bn 12 24 = (0, 3))).2
  have hpp2 := hp
  clear hp hk
  clear h3
  refine lv_pop hx hb dL_law_273 rfl ?_
  refine lv_goto (tgt := 1796) hx hb dL_law_274 (by decide) ?_
  exact kk _ _ _ hI hM hE hB hA

set_option maxRecDepth 100000 in
set_option maxHeartbeats 4000000 in
theorem lw_c1 {p : Program} {l : Launch} {e : Env} {s : State} {m : MethodId} {below : List Frame} {meth : Method} {c : Code} {b L : Nat} {xs : Nat → Int32} {X : XW} {xo mo : Nat} {σ0 : ST} {cells slots : Nat} {Q : State → Prop} {lb : Nat → Nat} (hcl : tb_Cls X lb xo mo) (hal : al_C X lb xo mo) (E : q_E p c cL_law s m #[Value.ref b] RL X) (hX : va_X b L xs s s.heap) (hbl : b < s.heap.size) (hbA : ¬ q_reg X b) (hml : c.maxLocals = 4) (hxo : q_kd X xo = 11) (hmo : q_kd X mo = 12) (hcs : cells ≤ room_1.cells ∧ slots ≤ room_1.slots) (hL : L ≤ 3072) {i : Nat} (hi : i + 6 ≤ L) {n : Int} (hn : 0 ≤ n ∧ n ≤ 199000) {σ : ST} {H : Heap} {locs : List Loc} {ls : Array Slot} (hI : q_I X 0 σ0 s.heap locs σ H) (hM : m_M (m_c X σ mo) (σ.1 mo 24).toInt n) (hl : lv_has ls 4 [(3, .int (nI i)), (2, .ref mo), (1, .ref xo), (0, .ref b)]) (hE : lw_E xo mo σ) (hB : lw_B X xo mo σ) (hA : al_R X xo mo σ σ)
    (kk : ∀ (σ : ST) (H : Heap) (locs : List Loc), q_I X 0 σ0 s.heap locs σ H → m_M (m_c X σ mo) (σ.1 mo 24).toInt (n + 301) → lw_E xo mo σ → lw_B X xo mo σ → al_R X xo mo σ σ → W p l e room_1 s m #[Value.ref b] below meth c H locs cells slots Q (F0 m 1796 ls [])) : W p l e room_1 s m #[Value.ref b] below meth c H locs cells slots Q (F0 m 277 ls []) := by
  have hx := E.1
  have hb := E.2.1
  have hI0 := hI
  have hE0 := hE
  have hB0 := hB
  have hA0 := hA
  have hM0 := hM
  refine lv_aload_n hx hb dL_law_277 rfl (lv_at hl 2 rfl) ?_
  have h3 := (q_bd hI hmo (rfl : q_bn 12 24 = (0, 3))).2
  refine q_cl_ (q_runV (As := []) (rest := []) E (hml.trans hl.1.symm) hI (c_X11_top l X σ xo hxo) kl_18 hxo ⟨rfl, by decide⟩ (show vwCl[10]? = some (RX11, TX11, 17) from rfl) rfl ⟨Nat.le_of_ble_eq_true rfl, Nat.le_of_ble_eq_true rfl⟩ hcs rfl (Nat.le_of_ble_eq_true rfl) dL_law_278) hI (by decide) (fun r1 σ1 H locs hp hk hI => ?_)
  obtain ⟨hs1, hex1⟩ := hp
  have how1 : q_ow [] [] X σ σ1 := by rw [hs1]; exact q_ow.rf
  have hp := True.intro
  have hB := lw_BK how1 hI.1 hxo hmo rfl rfl (how1.1 xo 5 (by rw [hxo]; rfl)) hB
  have hA1 := hA0.pre hal how1 rfl
  have hA := (hA.post hal how1 rfl).pre hal how1 rfl
  have hE := lw_EK hk (by decide) hxo hmo hE
  have hM := lw_kM hk hI.1 hmo (by decide) hM
  have hpp1 := hp
  have hMc := hM
  clear hp hk
  clear h3
  refine lv_pop2_2 hx hb dL_law_281 rfl ?_
  refine lv_aload_n hx hb dL_law_282 rfl (lv_at hl 1 rfl) ?_
  have h3 := (q_bd hI hmo (rfl : q_bn 12 24 = (0, 3))).2
  refine q_cl_ (q_runV (As := []) (rest := []) E (hml.trans hl.1.symm) hI (c_X12_top l X σ1 mo hmo) kl_22 hmo ⟨rfl, by decide⟩ (show vwCl[11]? = some (RX12, TX12, 46) from rfl) rfl ⟨Nat.le_of_ble_eq_true rfl, Nat.le_of_ble_eq_true rfl⟩ hcs rfl (Nat.le_of_ble_eq_true rfl) dL_law_283) hI (by decide) (fun r2 σ2 H locs hp hk hI => ?_)
  obtain ⟨hex2, how2⟩ := hp
  have hp := True.intro
  have hB := lw_BK how2 hI.1 hxo hmo rfl rfl (how2.1 xo 5 (by rw [hxo]; rfl)) hB
  have hA := (hA.post hal how2 rfl).pre hal how2 rfl
  have hE := lw_EK hk (by decide) hxo hmo hE
  have hM := lw_up (lw_kM hk hI.1 hmo (by decide) hM) (q_bd hI hmo (rfl : q_bn 12 24 = (0, 3))).2
  have hpp2 := hp
  clear hp hk
  clear h3
  refine lv_pop2_2 hx hb dL_law_286 rfl ?_
  refine lv_goto (tgt := 1796) hx hb dL_law_287 (by decide) ?_
  exact kk _ _ _ hI hM hE hB hA

set_option maxRecDepth 100000 in
set_option maxHeartbeats 4000000 in
theorem lw_c2 {p : Program} {l : Launch} {e : Env} {s : State} {m : MethodId} {below : List Frame} {meth : Method} {c : Code} {b L : Nat} {xs : Nat → Int32} {X : XW} {xo mo : Nat} {σ0 : ST} {cells slots : Nat} {Q : State → Prop} {lb : Nat → Nat} (hcl : tb_Cls X lb xo mo) (hal : al_C X lb xo mo) (E : q_E p c cL_law s m #[Value.ref b] RL X) (hX : va_X b L xs s s.heap) (hbl : b < s.heap.size) (hbA : ¬ q_reg X b) (hml : c.maxLocals = 4) (hxo : q_kd X xo = 11) (hmo : q_kd X mo = 12) (hcs : cells ≤ room_1.cells ∧ slots ≤ room_1.slots) (hL : L ≤ 3072) {i : Nat} (hi : i + 6 ≤ L) {n : Int} (hn : 0 ≤ n ∧ n ≤ 199000) {σ : ST} {H : Heap} {locs : List Loc} {ls : Array Slot} (hI : q_I X 0 σ0 s.heap locs σ H) (hM : m_M (m_c X σ mo) (σ.1 mo 24).toInt n) (hl : lv_has ls 4 [(3, .int (nI i)), (2, .ref mo), (1, .ref xo), (0, .ref b)]) (hE : lw_E xo mo σ) (hB : lw_B X xo mo σ) (hA : al_R X xo mo σ σ)
    (kk : ∀ (σ : ST) (H : Heap) (locs : List Loc), q_I X 0 σ0 s.heap locs σ H → m_M (m_c X σ mo) (σ.1 mo 24).toInt (n + 301) → lw_E xo mo σ → lw_B X xo mo σ → al_R X xo mo σ σ → W p l e room_1 s m #[Value.ref b] below meth c H locs cells slots Q (F0 m 1796 ls [])) : W p l e room_1 s m #[Value.ref b] below meth c H locs cells slots Q (F0 m 290 ls []) := by
  have hx := E.1
  have hb := E.2.1
  have hI0 := hI
  have hE0 := hE
  have hB0 := hB
  have hA0 := hA
  have hM0 := hM
  refine lv_aload_n hx hb dL_law_290 rfl (lv_at hl 2 rfl) ?_
  have h3 := (q_bd hI hmo (rfl : q_bn 12 24 = (0, 3))).2
  refine q_cl_ (q_runV (As := []) (rest := []) E (hml.trans hl.1.symm) hI (c_X11_bottom l X σ xo hxo) kl_23 hxo ⟨rfl, by decide⟩ (show vwCl[10]? = some (RX11, TX11, 17) from rfl) rfl ⟨Nat.le_of_ble_eq_true rfl, Nat.le_of_ble_eq_true rfl⟩ hcs rfl (Nat.le_of_ble_eq_true rfl) dL_law_291) hI (by decide) (fun r1 σ1 H locs hp hk hI => ?_)
  obtain ⟨hs1, hex1⟩ := hp
  have how1 : q_ow [] [] X σ σ1 := by rw [hs1]; exact q_ow.rf
  have hp := True.intro
  have hB := lw_BK how1 hI.1 hxo hmo rfl rfl (how1.1 xo 5 (by rw [hxo]; rfl)) hB
  have hA1 := hA0.pre hal how1 rfl
  have hA := (hA.post hal how1 rfl).pre hal how1 rfl
  have hE := lw_EK hk (by decide) hxo hmo hE
  have hM := lw_kM hk hI.1 hmo (by decide) hM
  have hpp1 := hp
  have hMc := hM
  clear hp hk
  clear h3
  refine lv_pop2_2 hx hb dL_law_294 rfl ?_
  refine lv_aload_n hx hb dL_law_295 rfl (lv_at hl 1 rfl) ?_
  have h3 := (q_bd hI hmo (rfl : q_bn 12 24 = (0, 3))).2
  refine q_cl_ (q_runV (As := []) (rest := []) E (hml.trans hl.1.symm) hI (c_X12_bottom l X σ1 mo hmo) kl_26 hmo ⟨rfl, by decide⟩ (show vwCl[11]? = some (RX12, TX12, 46) from rfl) rfl ⟨Nat.le_of_ble_eq_true rfl, Nat.le_of_ble_eq_true rfl⟩ hcs rfl (Nat.le_of_ble_eq_true rfl) dL_law_296) hI (by decide) (fun r2 σ2 H locs hp hk hI => ?_)
  obtain ⟨hex2, how2⟩ := hp
  have hp := True.intro
  have hB := lw_BK how2 hI.1 hxo hmo rfl rfl (how2.1 xo 5 (by rw [hxo]; rfl)) hB
  have hA := (hA.post hal how2 rfl).pre hal how2 rfl
  have hE := lw_EK hk (by decide) hxo hmo hE
  have hM := lw_up (lw_kM hk hI.1 hmo (by decide) hM) (q_bd hI hmo (rfl : q_bn 12 24 = (0, 3))).2
  have hpp2 := hp
  clear hp hk
  clear h3
  refine lv_pop2_2 hx hb dL_law_299 rfl ?_
  refine lv_goto (tgt := 1796) hx hb dL_law_300 (by decide) ?_
  exact kk _ _ _ hI hM hE hB hA

set_option maxRecDepth 100000 in
set_option maxHeartbeats 4000000 in
theorem lw_c3 {p : Program} {l : Launch} {e : Env} {s : State} {m : MethodId} {below : List Frame} {meth : Method} {c : Code} {b L : Nat} {xs : Nat → Int32} {X : XW} {xo mo : Nat} {σ0 : ST} {cells slots : Nat} {Q : State → Prop} {lb : Nat → Nat} (hcl : tb_Cls X lb xo mo) (hal : al_C X lb xo mo) (E : q_E p c cL_law s m #[Value.ref b] RL X) (hX : va_X b L xs s s.heap) (hbl : b < s.heap.size) (hbA : ¬ q_reg X b) (hml : c.maxLocals = 4) (hxo : q_kd X xo = 11) (hmo : q_kd X mo = 12) (hcs : cells ≤ room_1.cells ∧ slots ≤ room_1.slots) (hL : L ≤ 3072) {i : Nat} (hi : i + 6 ≤ L) {n : Int} (hn : 0 ≤ n ∧ n ≤ 199000) {σ : ST} {H : Heap} {locs : List Loc} {ls : Array Slot} (hI : q_I X 0 σ0 s.heap locs σ H) (hM : m_M (m_c X σ mo) (σ.1 mo 24).toInt n) (hl : lv_has ls 4 [(3, .int (nI i)), (2, .ref mo), (1, .ref xo), (0, .ref b)]) (hE : lw_E xo mo σ) (hB : lw_B X xo mo σ) (hA : al_R X xo mo σ σ)
    (kk : ∀ (σ : ST) (H : Heap) (locs : List Loc), q_I X 0 σ0 s.heap locs σ H → m_M (m_c X σ mo) (σ.1 mo 24).toInt (n + 301) → lw_E xo mo σ → lw_B X xo mo σ → al_R X xo mo σ σ → W p l e room_1 s m #[Value.ref b] below meth c H locs cells slots Q (F0 m 1796 ls [])) : W p l e room_1 s m #[Value.ref b] below meth c H locs cells slots Q (F0 m 303 ls []) := by
  have hx := E.1
  have hb := E.2.1
  have hI0 := hI
  have hE0 := hE
  have hB0 := hB
  have hA0 := hA
  have hM0 := hM
  refine lv_aload_n hx hb dL_law_303 rfl (lv_at hl 2 rfl) ?_
  refine lv_aload_n hx hb dL_law_304 rfl (lv_at hl 3 rfl) ?_
  refine lv_iload_n hx hb dL_law_305 rfl (lv_at hl 0 rfl) ?_
  refine lv_iconst (v := 1) hx hb dL_law_306 (by decide) ?_
  refine lv_iadd hx hb dL_law_307 ?_
  refine va_sld hx hb hX hbl hbA hI.S (lw_in (j := 1) (by decide) (by omega) hL) dL_law_308 ?_
  refine lv_aload_n hx hb dL_law_309 rfl (lv_at hl 3 rfl) ?_
  refine lv_iload_n hx hb dL_law_310 rfl (lv_at hl 0 rfl) ?_
  refine lv_iconst (v := 2) hx hb dL_law_311 (by decide) ?_
  refine lv_iadd hx hb dL_law_312 ?_
  refine va_sld hx hb hX hbl hbA hI.S (lw_in (j := 2) (by decide) (by omega) hL) dL_law_313 ?_
  refine lv_aload_n hx hb dL_law_314 rfl (lv_at hl 3 rfl) ?_
  refine lv_iload_n hx hb dL_law_315 rfl (lv_at hl 0 rfl) ?_
  refine lv_iconst (v := 3) hx hb dL_law_316 (by decide) ?_
  refine lv_iadd hx hb dL_law_317 ?_
  refine va_sld hx hb hX hbl hbA hI.S (lw_in (j := 3) (by decide) (by omega) hL) dL_law_318 ?_
  have h3 := (q_bd hI hmo (rfl : q_bn 12 24 = (0, 3))).2
  refine q_ci (q_runV (As := [.int (xs (nI i + 1).toNatClampNeg), .int (xs (nI i + 2).toNatClampNeg), .int (xs (nI i + 3).toNatClampNeg)]) (rest := []) E (hml.trans hl.1.symm) hI (c_X11_tray l X σ xo ((xs (nI i + 1).toNatClampNeg)) ((xs (nI i + 2).toNatClampNeg)) ((xs (nI i + 3).toNatClampNeg)) hxo) kl_27 hxo ⟨rfl, by decide⟩ (show vwCl[10]? = some (RX11, TX11, 17) from rfl) rfl ⟨Nat.le_of_ble_eq_true rfl, Nat.le_of_ble_eq_true rfl⟩ hcs rfl (Nat.le_of_ble_eq_true rfl) dL_law_319) hI (by decide) (fun r1 σ1 H locs hp hk hI => ?_)
  obtain ⟨pq0, pq1, pq2, pq3, pq4, hex1, how1⟩ := hp
  have hp := And.intro pq0 (And.intro pq1 (And.intro pq2 (And.intro pq3 pq4)))
  have hB := lw_BK how1 hI.1 hxo hmo rfl rfl (how1.1 xo 5 (by rw [hxo]; rfl)) hB
  have hA1 := hA0.pre hal how1 rfl
  have hA := (hA.post hal how1 rfl).pre hal how1 rfl
  have hE := lw_ET hp.1 hp.2.2.1 hp.2.1 hp.2.2.2.2 hI.1 hmo hxo hE
  have hKS := hp.2.1
  have hM := lw_kT hp.1 hp.2.2.1 hp.2.1 hp.2.2.2.2 hI.1 hmo hxo hM
  have hpp1 := hp
  have hMc := hM
  clear hp hk
  clear h3
  refine lv_pop hx hb dL_law_322 rfl ?_
  refine lv_aload_n hx hb dL_law_323 rfl (lv_at hl 1 rfl) ?_
  refine lv_aload_n hx hb dL_law_324 rfl (lv_at hl 3 rfl) ?_
  refine lv_iload_n hx hb dL_law_325 rfl (lv_at hl 0 rfl) ?_
  refine lv_iconst (v := 1) hx hb dL_law_326 (by decide) ?_
  refine lv_iadd hx hb dL_law_327 ?_
  refine va_sld hx hb hX hbl hbA hI.S (lw_in (j := 1) (by decide) (by omega) hL) dL_law_328 ?_
  refine lv_aload_n hx hb dL_law_329 rfl (lv_at hl 3 rfl) ?_
  refine lv_iload_n hx hb dL_law_330 rfl (lv_at hl 0 rfl) ?_
  refine lv_iconst (v := 2) hx hb dL_law_331 (by decide) ?_
  refine lv_iadd hx hb dL_law_332 ?_
  refine va_sld hx hb hX hbl hbA hI.S (lw_in (j := 2) (by decide) (by omega) hL) dL_law_333 ?_
  refine lv_aload_n hx hb dL_law_334 rfl (lv_at hl 3 rfl) ?_
  refine lv_iload_n hx hb dL_law_335 rfl (lv_at hl 0 rfl) ?_
  refine lv_iconst (v := 3) hx hb dL_law_336 (by decide) ?_
  refine lv_iadd hx hb dL_law_337 ?_
  refine va_sld hx hb hX hbl hbA hI.S (lw_in (j := 3) (by decide) (by omega) hL) dL_law_338 ?_
  have h3 := (q_bd hI hmo (rfl : q_bn 12 24 = (0, 3))).2
  refine q_ci (q_runV (As := [.int (xs (nI i + 1).toNatClampNeg), .int (xs (nI i + 2).toNatClampNeg), .int (xs (nI i + 3).toNatClampNeg)]) (rest := []) E (hml.trans hl.1.symm) hI (c_X12_tray l X σ1 mo ((xs (nI i + 1).toNatClampNeg)) ((xs (nI i + 2).toNatClampNeg)) ((xs (nI i + 3).toNatClampNeg)) hmo) kl_31 hmo ⟨rfl, by decide⟩ (show vwCl[11]? = some (RX12, TX12, 46) from rfl) rfl ⟨Nat.le_of_ble_eq_true rfl, Nat.le_of_ble_eq_true rfl⟩ hcs rfl (Nat.le_of_ble_eq_true rfl) dL_law_339) hI (by decide) (fun r2 σ2 H locs hp hk hI => ?_)
  obtain ⟨pq0, pq1, pq2, pq3, pq4, hex2, how2⟩ := hp
  have hp := And.intro pq0 (And.intro pq1 (And.intro pq2 (And.intro pq3 pq4)))
  have hB := lw_BK how2 hI.1 hxo hmo rfl rfl (how2.1 xo 5 (by rw [hxo]; rfl)) hB
  have hA := (hA.post hal how2 rfl).pre hal how2 rfl
  have hE := lw_ES hp.2.1 (by decide) hxo hmo (fun z => z.1.elim (fun z => m_ne hxo (q_c30 hI.1 hmo) (by decide) z) (fun z => m_ne hxo (q_c31 hI.1 hmo) (by decide) z)) (fun z => z.1.elim (fun z => m_ne hxo (q_c30 hI.1 hmo) (by decide) z) (fun z => m_ne hxo (q_c31 hI.1 hmo) (by decide) z)) (fun z => z.1.elim (fun z => m_ne hmo (q_c30 hI.1 hmo) (by decide) z) (fun z => m_ne hmo (q_c31 hI.1 hmo) (by decide) z)) (fun z => z.1.elim (fun z => m_ne hmo (q_c30 hI.1 hmo) (by decide) z) (fun z => m_ne hmo (q_c31 hI.1 hmo) (by decide) z)) hE
  have hM := lw_up (lw_kS hp.2.1 hI.1 hmo (fun j z => z.1.elim (fun z => m_ne (q_c34 hI.1 hmo) (q_c30 hI.1 hmo) (by decide) z) (fun z => m_ne (q_c34 hI.1 hmo) (q_c31 hI.1 hmo) (by decide) z)) (fun z => z.1.elim (fun z => m_ne hmo (q_c30 hI.1 hmo) (by decide) z) (fun z => m_ne hmo (q_c31 hI.1 hmo) (by decide) z)) hM) (q_bd hI hmo (rfl : q_bn 12 24 = (0, 3))).2
  have hpp2 := hp
  clear hp hk
  clear h3
  refine lv_pop hx hb dL_law_342 rfl ?_
  refine lv_goto (tgt := 1796) hx hb dL_law_343 (by decide) ?_
  exact kk _ _ _ hI hM hE hB hA

set_option maxRecDepth 100000 in
set_option maxHeartbeats 4000000 in
theorem lw_c4 {p : Program} {l : Launch} {e : Env} {s : State} {m : MethodId} {below : List Frame} {meth : Method} {c : Code} {b L : Nat} {xs : Nat → Int32} {X : XW} {xo mo : Nat} {σ0 : ST} {cells slots : Nat} {Q : State → Prop} {lb : Nat → Nat} (hcl : tb_Cls X lb xo mo) (hal : al_C X lb xo mo) (E : q_E p c cL_law s m #[Value.ref b] RL X) (hX : va_X b L xs s s.heap) (hbl : b < s.heap.size) (hbA : ¬ q_reg X b) (hml : c.maxLocals = 4) (hxo : q_kd X xo = 11) (hmo : q_kd X mo = 12) (hcs : cells ≤ room_1.cells ∧ slots ≤ room_1.slots) (hL : L ≤ 3072) {i : Nat} (hi : i + 6 ≤ L) {n : Int} (hn : 0 ≤ n ∧ n ≤ 199000) {σ : ST} {H : Heap} {locs : List Loc} {ls : Array Slot} (hI : q_I X 0 σ0 s.heap locs σ H) (hM : m_M (m_c X σ mo) (σ.1 mo 24).toInt n) (hl : lv_has ls 4 [(3, .int (nI i)), (2, .ref mo), (1, .ref xo), (0, .ref b)]) (hE : lw_E xo mo σ) (hB : lw_B X xo mo σ) (hA : al_R X xo mo σ σ)
    (kk : ∀ (σ : ST) (H : Heap) (locs : List Loc), q_I X 0 σ0 s.heap locs σ H → m_M (m_c X σ mo) (σ.1 mo 24).toInt (n + 301) → lw_E xo mo σ → lw_B X xo mo σ → al_R X xo mo σ σ → W p l e room_1 s m #[Value.ref b] below meth c H locs cells slots Q (F0 m 1796 ls [])) : W p l e room_1 s m #[Value.ref b] below meth c H locs cells slots Q (F0 m 346 ls []) := by
  have hx := E.1
  have hb := E.2.1
  have hI0 := hI
  have hE0 := hE
  have hB0 := hB
  have hA0 := hA
  have hM0 := hM
  refine lv_aload_n hx hb dL_law_346 rfl (lv_at hl 2 rfl) ?_
  refine lv_aload_n hx hb dL_law_347 rfl (lv_at hl 3 rfl) ?_
  refine lv_iload_n hx hb dL_law_348 rfl (lv_at hl 0 rfl) ?_
  refine lv_iconst (v := 1) hx hb dL_law_349 (by decide) ?_
  refine lv_iadd hx hb dL_law_350 ?_
  refine va_sld hx hb hX hbl hbA hI.S (lw_in (j := 1) (by decide) (by omega) hL) dL_law_351 ?_
  refine lv_aload_n hx hb dL_law_352 rfl (lv_at hl 3 rfl) ?_
  refine lv_iload_n hx hb dL_law_353 rfl (lv_at hl 0 rfl) ?_
  refine lv_iconst (v := 2) hx hb dL_law_354 (by decide) ?_
  refine lv_iadd hx hb dL_law_355 ?_
  refine va_sld hx hb hX hbl hbA hI.S (lw_in (j := 2) (by decide) (by omega) hL) dL_law_356 ?_
  refine lv_aload_n hx hb dL_law_357 rfl (lv_at hl 3 rfl) ?_
  refine lv_iload_n hx hb dL_law_358 rfl (lv_at hl 0 rfl) ?_
  refine lv_iconst (v := 3) hx hb dL_law_359 (by decide) ?_
  refine lv_iadd hx hb dL_law_360 ?_
  refine va_sld hx hb hX hbl hbA hI.S (lw_in (j := 3) (by decide) (by omega) hL) dL_law_361 ?_
  refine lv_i2l hx hb dL_law_362 rfl ?_
  refine lv_bipush (v := 32) hx hb dL_law_363 (by decide) ?_
  refine lv_lshl hx hb dL_law_365 rfl ?_
  refine lv_aload_n hx hb dL_law_366 rfl (lv_at hl 3 rfl) ?_
  refine lv_iload_n hx hb dL_law_367 rfl (lv_at hl 0 rfl) ?_
  refine lv_iconst (v := 4) hx hb dL_law_368 (by decide) ?_
  refine lv_iadd hx hb dL_law_369 ?_
  refine va_sld hx hb hX hbl hbA hI.S (lw_in (j := 4) (by decide) (by omega) hL) dL_law_370 ?_
  refine lv_i2l hx hb dL_law_371 rfl ?_
  refine lv_ldc2 (v := (4294967295 : Int64)) hx hb E.2.2.1 (E.2.2.2.1 _ (q_in_t9 (i := 204) (by first | rfl | decide +kernel) rfl)) dL_law_372 ?_
  refine lv_land hx hb dL_law_375 ?_
  refine lv_lor hx hb dL_law_376 ?_
  have h3 := (q_bd hI hmo (rfl : q_bn 12 24 = (0, 3))).2
  refine q_ci (q_runV (As := [.int (xs (nI i + 1).toNatClampNeg), .int (xs (nI i + 2).toNatClampNeg), .long ((((xs (nI i + 3).toNatClampNeg)).toInt64 <<< ((32 : Int32).toInt64 &&& 63)) ||| (((xs (nI i + 4).toNatClampNeg)).toInt64 &&& (4294967295 : Int64)))]) (rest := []) E (hml.trans hl.1.symm) hI (c_X11_write l X σ xo ((xs (nI i + 1).toNatClampNeg)) ((xs (nI i + 2).toNatClampNeg)) (((((xs (nI i + 3).toNatClampNeg)).toInt64 <<< ((32 : Int32).toInt64 &&& 63)) ||| (((xs (nI i + 4).toNatClampNeg)).toInt64 &&& (4294967295 : Int64)))) hxo) kl_34 hxo ⟨rfl, by decide⟩ (show vwCl[10]? = some (RX11, TX11, 17) from rfl) rfl ⟨Nat.le_of_ble_eq_true rfl, Nat.le_of_ble_eq_true rfl⟩ hcs rfl (Nat.le_of_ble_eq_true rfl) dL_law_377) hI (by decide) (fun r1 σ1 H locs hp hk hI => ?_)
  obtain ⟨pq0, pq1, hex1, how1⟩ := hp
  have hp := And.intro pq0 pq1
  have hB := lw_BK how1 hI.1 hxo hmo rfl rfl (how1.1 xo 5 (by rw [hxo]; rfl)) hB
  have hA1 := hA0.pre hal how1 rfl
  have hA := (hA.post hal how1 rfl).pre hal how1 rfl
  have hE := lw_EK hk (by decide) hxo hmo hE
  have hM := lw_kM hk hI.1 hmo (by decide) hM
  have hpp1 := hp
  have hMc := hM
  clear hp hk
  clear h3
  refine lv_pop hx hb dL_law_380 rfl ?_
  refine lv_aload_n hx hb dL_law_381 rfl (lv_at hl 1 rfl) ?_
  refine lv_aload_n hx hb dL_law_382 rfl (lv_at hl 3 rfl) ?_
  refine lv_iload_n hx hb dL_law_383 rfl (lv_at hl 0 rfl) ?_
  refine lv_iconst (v := 1) hx hb dL_law_384 (by decide) ?_
  refine lv_iadd hx hb dL_law_385 ?_
  refine va_sld hx hb hX hbl hbA hI.S (lw_in (j := 1) (by decide) (by omega) hL) dL_law_386 ?_
  refine lv_aload_n hx hb dL_law_387 rfl (lv_at hl 3 rfl) ?_
  refine lv_iload_n hx hb dL_law_388 rfl (lv_at hl 0 rfl) ?_
  refine lv_iconst (v := 2) hx hb dL_law_389 (by decide) ?_
  refine lv_iadd hx hb dL_law_390 ?_
  refine va_sld hx hb hX hbl hbA hI.S (lw_in (j := 2) (by decide) (by omega) hL) dL_law_391 ?_
  refine lv_aload_n hx hb dL_law_392 rfl (lv_at hl 3 rfl) ?_
  refine lv_iload_n hx hb dL_law_393 rfl (lv_at hl 0 rfl) ?_
  refine lv_iconst (v := 3) hx hb dL_law_394 (by decide) ?_
  refine lv_iadd hx hb dL_law_395 ?_
  refine va_sld hx hb hX hbl hbA hI.S (lw_in (j := 3) (by decide) (by omega) hL) dL_law_396 ?_
  refine lv_i2l hx hb dL_law_397 rfl ?_
  refine lv_bipush (v := 32) hx hb dL_law_398 (by decide) ?_
  refine lv_lshl hx hb dL_law_400 rfl ?_
  refine lv_aload_n hx hb dL_law_401 rfl (lv_at hl 3 rfl) ?_
  refine lv_iload_n hx hb dL_law_402 rfl (lv_at hl 0 rfl) ?_
  refine lv_iconst (v := 4) hx hb dL_law_403 (by decide) ?_
  refine lv_iadd hx hb dL_law_404 ?_
  refine va_sld hx hb hX hbl hbA hI.S (lw_in (j := 4) (by decide) (by omega) hL) dL_law_405 ?_
  refine lv_i2l hx hb dL_law_406 rfl ?_
  refine lv_ldc2 (v := (4294967295 : Int64)) hx hb E.2.2.1 (E.2.2.2.1 _ (q_in_t9 (i := 204) (by first | rfl | decide +kernel) rfl)) dL_law_407 ?_
  refine lv_land hx hb dL_law_410 ?_
  refine lv_lor hx hb dL_law_411 ?_
  have h3 := (q_bd hI hmo (rfl : q_bn 12 24 = (0, 3))).2
  refine q_ci (q_runV (As := [.int (xs (nI i + 1).toNatClampNeg), .int (xs (nI i + 2).toNatClampNeg), .long ((((xs (nI i + 3).toNatClampNeg)).toInt64 <<< ((32 : Int32).toInt64 &&& 63)) ||| (((xs (nI i + 4).toNatClampNeg)).toInt64 &&& (4294967295 : Int64)))]) (rest := []) E (hml.trans hl.1.symm) hI (c_X12_write l X σ1 mo ((xs (nI i + 1).toNatClampNeg)) ((xs (nI i + 2).toNatClampNeg)) (((((xs (nI i + 3).toNatClampNeg)).toInt64 <<< ((32 : Int32).toInt64 &&& 63)) ||| (((xs (nI i + 4).toNatClampNeg)).toInt64 &&& (4294967295 : Int64)))) hmo) kl_38 hmo ⟨rfl, by decide⟩ (show vwCl[11]? = some (RX12, TX12, 46) from rfl) rfl ⟨Nat.le_of_ble_eq_true rfl, Nat.le_of_ble_eq_true rfl⟩ hcs rfl (Nat.le_of_ble_eq_true rfl) dL_law_412) hI (by decide) (fun r2 σ2 H locs hp hk hI => ?_)
  obtain ⟨pq0, pq1, hex2, how2⟩ := hp
  have hp := And.intro pq0 pq1
  have hB := lw_BK how2 hI.1 hxo hmo rfl rfl (how2.1 xo 5 (by rw [hxo]; rfl)) hB
  have hA := (hA.post hal how2 rfl).pre hal how2 rfl
  have hE := lw_EK hk (by decide) hxo hmo hE
  have hM := lw_up (lw_kM hk hI.1 hmo (by decide) hM) (q_bd hI hmo (rfl : q_bn 12 24 = (0, 3))).2
  have hpp2 := hp
  clear hp hk
  clear h3
  refine lv_pop hx hb dL_law_415 rfl ?_
  refine lv_goto (tgt := 1796) hx hb dL_law_416 (by decide) ?_
  exact kk _ _ _ hI hM hE hB hA

set_option maxRecDepth 100000 in
set_option maxHeartbeats 4000000 in
theorem lw_c5 {p : Program} {l : Launch} {e : Env} {s : State} {m : MethodId} {below : List Frame} {meth : Method} {c : Code} {b L : Nat} {xs : Nat → Int32} {X : XW} {xo mo : Nat} {σ0 : ST} {cells slots : Nat} {Q : State → Prop} {lb : Nat → Nat} (hcl : tb_Cls X lb xo mo) (hal : al_C X lb xo mo) (E : q_E p c cL_law s m #[Value.ref b] RL X) (hX : va_X b L xs s s.heap) (hbl : b < s.heap.size) (hbA : ¬ q_reg X b) (hml : c.maxLocals = 4) (hxo : q_kd X xo = 11) (hmo : q_kd X mo = 12) (hcs : cells ≤ room_1.cells ∧ slots ≤ room_1.slots) (hL : L ≤ 3072) {i : Nat} (hi : i + 6 ≤ L) {n : Int} (hn : 0 ≤ n ∧ n ≤ 199000) {σ : ST} {H : Heap} {locs : List Loc} {ls : Array Slot} (hI : q_I X 0 σ0 s.heap locs σ H) (hM : m_M (m_c X σ mo) (σ.1 mo 24).toInt n) (hl : lv_has ls 4 [(3, .int (nI i)), (2, .ref mo), (1, .ref xo), (0, .ref b)]) (hE : lw_E xo mo σ) (hB : lw_B X xo mo σ) (hA : al_R X xo mo σ σ)
    (kk : ∀ (σ : ST) (H : Heap) (locs : List Loc), q_I X 0 σ0 s.heap locs σ H → m_M (m_c X σ mo) (σ.1 mo 24).toInt (n + 301) → lw_E xo mo σ → lw_B X xo mo σ → al_R X xo mo σ σ → W p l e room_1 s m #[Value.ref b] below meth c H locs cells slots Q (F0 m 1796 ls [])) : W p l e room_1 s m #[Value.ref b] below meth c H locs cells slots Q (F0 m 419 ls []) := by
  have hx := E.1
  have hb := E.2.1
  have hI0 := hI
  have hE0 := hE
  have hB0 := hB
  have hA0 := hA
  have hM0 := hM
  refine lv_aload_n hx hb dL_law_419 rfl (lv_at hl 2 rfl) ?_
  refine lv_aload_n hx hb dL_law_420 rfl (lv_at hl 3 rfl) ?_
  refine lv_iload_n hx hb dL_law_421 rfl (lv_at hl 0 rfl) ?_
  refine lv_iconst (v := 1) hx hb dL_law_422 (by decide) ?_
  refine lv_iadd hx hb dL_law_423 ?_
  refine va_sld hx hb hX hbl hbA hI.S (lw_in (j := 1) (by decide) (by omega) hL) dL_law_424 ?_
  refine lv_aload_n hx hb dL_law_425 rfl (lv_at hl 3 rfl) ?_
  refine lv_iload_n hx hb dL_law_426 rfl (lv_at hl 0 rfl) ?_
  refine lv_iconst (v := 2) hx hb dL_law_427 (by decide) ?_
  refine lv_iadd hx hb dL_law_428 ?_
  refine va_sld hx hb hX hbl hbA hI.S (lw_in (j := 2) (by decide) (by omega) hL) dL_law_429 ?_
  have h3 := (q_bd hI hmo (rfl : q_bn 12 24 = (0, 3))).2
  refine q_cl_ (q_runV (As := [.int (xs (nI i + 1).toNatClampNeg), .int (xs (nI i + 2).toNatClampNeg)]) (rest := []) E (hml.trans hl.1.symm) hI (c_X11_read l X σ xo ((xs (nI i + 1).toNatClampNeg)) ((xs (nI i + 2).toNatClampNeg)) hxo) kl_39 hxo ⟨rfl, by decide⟩ (show vwCl[10]? = some (RX11, TX11, 17) from rfl) rfl ⟨Nat.le_of_ble_eq_true rfl, Nat.le_of_ble_eq_true rfl⟩ hcs rfl (Nat.le_of_ble_eq_true rfl) dL_law_430) hI (by decide) (fun r1 σ1 H locs hp hk hI => ?_)
  obtain ⟨hex1, how1⟩ := hp
  have hp := True.intro
  have hB := lw_BK how1 hI.1 hxo hmo rfl rfl (how1.1 xo 5 (by rw [hxo]; rfl)) hB
  have hA1 := hA0.pre hal how1 rfl
  have hA := (hA.post hal how1 rfl).pre hal how1 rfl
  have hE := lw_EK hk (by decide) hxo hmo hE
  have hM := lw_kM hk hI.1 hmo (by decide) hM
  have hpp1 := hp
  have hMc := hM
  clear hp hk
  clear h3
  refine lv_pop2_2 hx hb dL_law_433 rfl ?_
  refine lv_aload_n hx hb dL_law_434 rfl (lv_at hl 1 rfl) ?_
  refine lv_aload_n hx hb dL_law_435 rfl (lv_at hl 3 rfl) ?_
  refine lv_iload_n hx hb dL_law_436 rfl (lv_at hl 0 rfl) ?_
  refine lv_iconst (v := 1) hx hb dL_law_437 (by decide) ?_
  refine lv_iadd hx hb dL_law_438 ?_
  refine va_sld hx hb hX hbl hbA hI.S (lw_in (j := 1) (by decide) (by omega) hL) dL_law_439 ?_
  refine lv_aload_n hx hb dL_law_440 rfl (lv_at hl 3 rfl) ?_
  refine lv_iload_n hx hb dL_law_441 rfl (lv_at hl 0 rfl) ?_
  refine lv_iconst (v := 2) hx hb dL_law_442 (by decide) ?_
  refine lv_iadd hx hb dL_law_443 ?_
  refine va_sld hx hb hX hbl hbA hI.S (lw_in (j := 2) (by decide) (by omega) hL) dL_law_444 ?_
  have h3 := (q_bd hI hmo (rfl : q_bn 12 24 = (0, 3))).2
  refine q_cl_ (q_runV (As := [.int (xs (nI i + 1).toNatClampNeg), .int (xs (nI i + 2).toNatClampNeg)]) (rest := []) E (hml.trans hl.1.symm) hI (c_X12_read l X σ1 mo ((xs (nI i + 1).toNatClampNeg)) ((xs (nI i + 2).toNatClampNeg)) hmo) kl_43 hmo ⟨rfl, by decide⟩ (show vwCl[11]? = some (RX12, TX12, 46) from rfl) rfl ⟨Nat.le_of_ble_eq_true rfl, Nat.le_of_ble_eq_true rfl⟩ hcs rfl (Nat.le_of_ble_eq_true rfl) dL_law_445) hI (by decide) (fun r2 σ2 H locs hp hk hI => ?_)
  obtain ⟨hex2, how2⟩ := hp
  have hp := True.intro
  have hB := lw_BK how2 hI.1 hxo hmo rfl rfl (how2.1 xo 5 (by rw [hxo]; rfl)) hB
  have hA := (hA.post hal how2 rfl).pre hal how2 rfl
  have hE := lw_EK hk (by decide) hxo hmo hE
  have hM := lw_up (lw_kM hk hI.1 hmo (by decide) hM) (q_bd hI hmo (rfl : q_bn 12 24 = (0, 3))).2
  have hpp2 := hp
  clear hp hk
  clear h3
  refine lv_pop2_2 hx hb dL_law_448 rfl ?_
  refine lv_goto (tgt := 1796) hx hb dL_law_449 (by decide) ?_
  exact kk _ _ _ hI hM hE hB hA

set_option maxRecDepth 100000 in
set_option maxHeartbeats 4000000 in
theorem lw_c6 {p : Program} {l : Launch} {e : Env} {s : State} {m : MethodId} {below : List Frame} {meth : Method} {c : Code} {b L : Nat} {xs : Nat → Int32} {X : XW} {xo mo : Nat} {σ0 : ST} {cells slots : Nat} {Q : State → Prop} {lb : Nat → Nat} (hcl : tb_Cls X lb xo mo) (hal : al_C X lb xo mo) (E : q_E p c cL_law s m #[Value.ref b] RL X) (hX : va_X b L xs s s.heap) (hbl : b < s.heap.size) (hbA : ¬ q_reg X b) (hml : c.maxLocals = 4) (hxo : q_kd X xo = 11) (hmo : q_kd X mo = 12) (hcs : cells ≤ room_1.cells ∧ slots ≤ room_1.slots) (hL : L ≤ 3072) {i : Nat} (hi : i + 6 ≤ L) {n : Int} (hn : 0 ≤ n ∧ n ≤ 199000) {σ : ST} {H : Heap} {locs : List Loc} {ls : Array Slot} (hI : q_I X 0 σ0 s.heap locs σ H) (hM : m_M (m_c X σ mo) (σ.1 mo 24).toInt n) (hl : lv_has ls 4 [(3, .int (nI i)), (2, .ref mo), (1, .ref xo), (0, .ref b)]) (hE : lw_E xo mo σ) (hB : lw_B X xo mo σ) (hA : al_R X xo mo σ σ)
    (kk : ∀ (σ : ST) (H : Heap) (locs : List Loc), q_I X 0 σ0 s.heap locs σ H → m_M (m_c X σ mo) (σ.1 mo 24).toInt (n + 301) → lw_E xo mo σ → lw_B X xo mo σ → al_R X xo mo σ σ → W p l e room_1 s m #[Value.ref b] below meth c H locs cells slots Q (F0 m 1796 ls [])) : W p l e room_1 s m #[Value.ref b] below meth c H locs cells slots Q (F0 m 452 ls []) := by
  have hx := E.1
  have hb := E.2.1
  have hI0 := hI
  have hE0 := hE
  have hB0 := hB
  have hA0 := hA
  have hM0 := hM
  refine lv_aload_n hx hb dL_law_452 rfl (lv_at hl 2 rfl) ?_
  refine lv_aload_n hx hb dL_law_453 rfl (lv_at hl 3 rfl) ?_
  refine lv_iload_n hx hb dL_law_454 rfl (lv_at hl 0 rfl) ?_
  refine lv_iconst (v := 1) hx hb dL_law_455 (by decide) ?_
  refine lv_iadd hx hb dL_law_456 ?_
  refine va_sld hx hb hX hbl hbA hI.S (lw_in (j := 1) (by decide) (by omega) hL) dL_law_457 ?_
  refine lv_aload_n hx hb dL_law_458 rfl (lv_at hl 3 rfl) ?_
  refine lv_iload_n hx hb dL_law_459 rfl (lv_at hl 0 rfl) ?_
  refine lv_iconst (v := 2) hx hb dL_law_460 (by decide) ?_
  refine lv_iadd hx hb dL_law_461 ?_
  refine va_sld hx hb hX hbl hbA hI.S (lw_in (j := 2) (by decide) (by omega) hL) dL_law_462 ?_
  refine lv_aload_n hx hb dL_law_463 rfl (lv_at hl 3 rfl) ?_
  refine lv_iload_n hx hb dL_law_464 rfl (lv_at hl 0 rfl) ?_
  refine lv_iconst (v := 3) hx hb dL_law_465 (by decide) ?_
  refine lv_iadd hx hb dL_law_466 ?_
  refine va_sld hx hb hX hbl hbA hI.S (lw_in (j := 3) (by decide) (by omega) hL) dL_law_467 ?_
  refine lv_aload_n hx hb dL_law_468 rfl (lv_at hl 3 rfl) ?_
  refine lv_iload_n hx hb dL_law_469 rfl (lv_at hl 0 rfl) ?_
  refine lv_iconst (v := 4) hx hb dL_law_470 (by decide) ?_
  refine lv_iadd hx hb dL_law_471 ?_
  refine va_sld hx hb hX hbl hbA hI.S (lw_in (j := 4) (by decide) (by omega) hL) dL_law_472 ?_
  refine lv_aload_n hx hb dL_law_473 rfl (lv_at hl 3 rfl) ?_
  refine lv_iload_n hx hb dL_law_474 rfl (lv_at hl 0 rfl) ?_
  refine lv_iconst (v := 5) hx hb dL_law_475 (by decide) ?_
  refine lv_iadd hx hb dL_law_476 ?_
  refine va_sld hx hb hX hbl hbA hI.S (lw_in (j := 5) (by decide) (by omega) hL) dL_law_477 ?_
  have h3 := (q_bd hI hmo (rfl : q_bn 12 24 = (0, 3))).2
  refine q_ci (q_runV (As := [.int (xs (nI i + 1).toNatClampNeg), .int (xs (nI i + 2).toNatClampNeg), .int (xs (nI i + 3).toNatClampNeg), .int (xs (nI i + 4).toNatClampNeg), .int (xs (nI i + 5).toNatClampNeg)]) (rest := []) E (hml.trans hl.1.symm) hI (c_X11_pour l X σ xo ((xs (nI i + 1).toNatClampNeg)) ((xs (nI i + 2).toNatClampNeg)) ((xs (nI i + 3).toNatClampNeg)) ((xs (nI i + 4).toNatClampNeg)) ((xs (nI i + 5).toNatClampNeg)) hxo) kl_44 hxo ⟨rfl, by decide⟩ (show vwCl[10]? = some (RX11, TX11, 17) from rfl) rfl ⟨Nat.le_of_ble_eq_true rfl, Nat.le_of_ble_eq_true rfl⟩ hcs rfl (Nat.le_of_ble_eq_true rfl) dL_law_478) hI (by decide) (fun r1 σ1 H locs hp hk hI => ?_)
  obtain ⟨pq0, pq1, hex1, how1⟩ := hp
  have hp := And.intro pq0 pq1
  have hB := lw_BK how1 hI.1 hxo hmo rfl rfl (how1.1 xo 5 (by rw [hxo]; rfl)) hB
  have hA1 := hA0.pre hal how1 rfl
  have hA := (hA.post hal how1 rfl).pre hal how1 rfl
  have hE := lw_EK hk (by decide) hxo hmo hE
  have hM := lw_kM hk hI.1 hmo (by decide) hM
  have hpp1 := hp
  have hMc := hM
  clear hp hk
  clear h3
  refine lv_pop hx hb dL_law_481 rfl ?_
  refine lv_aload_n hx hb dL_law_482 rfl (lv_at hl 1 rfl) ?_
  refine lv_aload_n hx hb dL_law_483 rfl (lv_at hl 3 rfl) ?_
  refine lv_iload_n hx hb dL_law_484 rfl (lv_at hl 0 rfl) ?_
  refine lv_iconst (v := 1) hx hb dL_law_485 (by decide) ?_
  refine lv_iadd hx hb dL_law_486 ?_
  refine va_sld hx hb hX hbl hbA hI.S (lw_in (j := 1) (by decide) (by omega) hL) dL_law_487 ?_
  refine lv_aload_n hx hb dL_law_488 rfl (lv_at hl 3 rfl) ?_
  refine lv_iload_n hx hb dL_law_489 rfl (lv_at hl 0 rfl) ?_
  refine lv_iconst (v := 2) hx hb dL_law_490 (by decide) ?_
  refine lv_iadd hx hb dL_law_491 ?_
  refine va_sld hx hb hX hbl hbA hI.S (lw_in (j := 2) (by decide) (by omega) hL) dL_law_492 ?_
  refine lv_aload_n hx hb dL_law_493 rfl (lv_at hl 3 rfl) ?_
  refine lv_iload_n hx hb dL_law_494 rfl (lv_at hl 0 rfl) ?_
  refine lv_iconst (v := 3) hx hb dL_law_495 (by decide) ?_
  refine lv_iadd hx hb dL_law_496 ?_
  refine va_sld hx hb hX hbl hbA hI.S (lw_in (j := 3) (by decide) (by omega) hL) dL_law_497 ?_
  refine lv_aload_n hx hb dL_law_498 rfl (lv_at hl 3 rfl) ?_
  refine lv_iload_n hx hb dL_law_499 rfl (lv_at hl 0 rfl) ?_
  refine lv_iconst (v := 4) hx hb dL_law_500 (by decide) ?_
  refine lv_iadd hx hb dL_law_501 ?_
  refine va_sld hx hb hX hbl hbA hI.S (lw_in (j := 4) (by decide) (by omega) hL) dL_law_502 ?_
  refine lv_aload_n hx hb dL_law_503 rfl (lv_at hl 3 rfl) ?_
  refine lv_iload_n hx hb dL_law_504 rfl (lv_at hl 0 rfl) ?_
  refine lv_iconst (v := 5) hx hb dL_law_505 (by decide) ?_
  refine lv_iadd hx hb dL_law_506 ?_
  refine va_sld hx hb hX hbl hbA hI.S (lw_in (j := 5) (by decide) (by omega) hL) dL_law_507 ?_
  have h3 := (q_bd hI hmo (rfl : q_bn 12 24 = (0, 3))).2
  refine q_ci (q_runV (As := [.int (xs (nI i + 1).toNatClampNeg), .int (xs (nI i + 2).toNatClampNeg), .int (xs (nI i + 3).toNatClampNeg), .int (xs (nI i + 4).toNatClampNeg), .int (xs (nI i + 5).toNatClampNeg)]) (rest := []) E (hml.trans hl.1.symm) hI (c_X12_pour l X σ1 mo ((xs (nI i + 1).toNatClampNeg)) ((xs (nI i + 2).toNatClampNeg)) ((xs (nI i + 3).toNatClampNeg)) ((xs (nI i + 4).toNatClampNeg)) ((xs (nI i + 5).toNatClampNeg)) hmo) kl_48 hmo ⟨rfl, by decide⟩ (show vwCl[11]? = some (RX12, TX12, 46) from rfl) rfl ⟨Nat.le_of_ble_eq_true rfl, Nat.le_of_ble_eq_true rfl⟩ hcs rfl (Nat.le_of_ble_eq_true rfl) dL_law_508) hI (by decide) (fun r2 σ2 H locs hp hk hI => ?_)
  obtain ⟨pq0, pq1, hex2, how2⟩ := hp
  have hp := And.intro pq0 pq1
  have hB := lw_BK how2 hI.1 hxo hmo rfl rfl (how2.1 xo 5 (by rw [hxo]; rfl)) hB
  have hA := (hA.post hal how2 rfl).pre hal how2 rfl
  have hE := lw_EK hk (by decide) hxo hmo hE
  have hM := lw_up (lw_kM hk hI.1 hmo (by decide) hM) (q_bd hI hmo (rfl : q_bn 12 24 = (0, 3))).2
  have hpp2 := hp
  clear hp hk
  clear h3
  refine lv_pop hx hb dL_law_511 rfl ?_
  refine lv_goto (tgt := 1796) hx hb dL_law_512 (by decide) ?_
  exact kk _ _ _ hI hM hE hB hA

set_option maxRecDepth 100000 in
set_option maxHeartbeats 4000000 in
theorem lw_c7 {p : Program} {l : Launch} {e : Env} {s : State} {m : MethodId} {below : List Frame} {meth : Method} {c : Code} {b L : Nat} {xs : Nat → Int32} {X : XW} {xo mo : Nat} {σ0 : ST} {cells slots : Nat} {Q : State → Prop} {lb : Nat → Nat} (hcl : tb_Cls X lb xo mo) (hal : al_C X lb xo mo) (E : q_E p c cL_law s m #[Value.ref b] RL X) (hX : va_X b L xs s s.heap) (hbl : b < s.heap.size) (hbA : ¬ q_reg X b) (hml : c.maxLocals = 4) (hxo : q_kd X xo = 11) (hmo : q_kd X mo = 12) (hcs : cells ≤ room_1.cells ∧ slots ≤ room_1.slots) (hL : L ≤ 3072) {i : Nat} (hi : i + 6 ≤ L) {n : Int} (hn : 0 ≤ n ∧ n ≤ 199000) {σ : ST} {H : Heap} {locs : List Loc} {ls : Array Slot} (hI : q_I X 0 σ0 s.heap locs σ H) (hM : m_M (m_c X σ mo) (σ.1 mo 24).toInt n) (hl : lv_has ls 4 [(3, .int (nI i)), (2, .ref mo), (1, .ref xo), (0, .ref b)]) (hE : lw_E xo mo σ) (hB : lw_B X xo mo σ) (hA : al_R X xo mo σ σ)
    (kk : ∀ (σ : ST) (H : Heap) (locs : List Loc), q_I X 0 σ0 s.heap locs σ H → m_M (m_c X σ mo) (σ.1 mo 24).toInt (n + 301) → lw_E xo mo σ → lw_B X xo mo σ → al_R X xo mo σ σ → W p l e room_1 s m #[Value.ref b] below meth c H locs cells slots Q (F0 m 1796 ls [])) : W p l e room_1 s m #[Value.ref b] below meth c H locs cells slots Q (F0 m 515 ls []) := by
  have hx := E.1
  have hb := E.2.1
  have hI0 := hI
  have hE0 := hE
  have hB0 := hB
  have hA0 := hA
  have hM0 := hM
  refine lv_aload_n hx hb dL_law_515 rfl (lv_at hl 2 rfl) ?_
  refine lv_aload_n hx hb dL_law_516 rfl (lv_at hl 3 rfl) ?_
  refine lv_iload_n hx hb dL_law_517 rfl (lv_at hl 0 rfl) ?_
  refine lv_iconst (v := 1) hx hb dL_law_518 (by decide) ?_
  refine lv_iadd hx hb dL_law_519 ?_
  refine va_sld hx hb hX hbl hbA hI.S (lw_in (j := 1) (by decide) (by omega) hL) dL_law_520 ?_
  refine lv_aload_n hx hb dL_law_521 rfl (lv_at hl 3 rfl) ?_
  refine lv_iload_n hx hb dL_law_522 rfl (lv_at hl 0 rfl) ?_
  refine lv_iconst (v := 2) hx hb dL_law_523 (by decide) ?_
  refine lv_iadd hx hb dL_law_524 ?_
  refine va_sld hx hb hX hbl hbA hI.S (lw_in (j := 2) (by decide) (by omega) hL) dL_law_525 ?_
  refine lv_aload_n hx hb dL_law_526 rfl (lv_at hl 3 rfl) ?_
  refine lv_iload_n hx hb dL_law_527 rfl (lv_at hl 0 rfl) ?_
  refine lv_iconst (v := 3) hx hb dL_law_528 (by decide) ?_
  refine lv_iadd hx hb dL_law_529 ?_
  refine va_sld hx hb hX hbl hbA hI.S (lw_in (j := 3) (by decide) (by omega) hL) dL_law_530 ?_
  refine lv_aload_n hx hb dL_law_531 rfl (lv_at hl 3 rfl) ?_
  refine lv_iload_n hx hb dL_law_532 rfl (lv_at hl 0 rfl) ?_
  refine lv_iconst (v := 4) hx hb dL_law_533 (by decide) ?_
  refine lv_iadd hx hb dL_law_534 ?_
  refine va_sld hx hb hX hbl hbA hI.S (lw_in (j := 4) (by decide) (by omega) hL) dL_law_535 ?_
  refine lv_aload_n hx hb dL_law_536 rfl (lv_at hl 3 rfl) ?_
  refine lv_iload_n hx hb dL_law_537 rfl (lv_at hl 0 rfl) ?_
  refine lv_iconst (v := 5) hx hb dL_law_538 (by decide) ?_
  refine lv_iadd hx hb dL_law_539 ?_
  refine va_sld hx hb hX hbl hbA hI.S (lw_in (j := 5) (by decide) (by omega) hL) dL_law_540 ?_
  have h3 := (q_bd hI hmo (rfl : q_bn 12 24 = (0, 3))).2
  refine q_ci (q_runV (As := [.int (xs (nI i + 1).toNatClampNeg), .int (xs (nI i + 2).toNatClampNeg), .int (xs (nI i + 3).toNatClampNeg), .int (xs (nI i + 4).toNatClampNeg), .int (xs (nI i + 5).toNatClampNeg)]) (rest := []) E (hml.trans hl.1.symm) hI (c_X11_feed l X σ xo ((xs (nI i + 1).toNatClampNeg)) ((xs (nI i + 2).toNatClampNeg)) ((xs (nI i + 3).toNatClampNeg)) ((xs (nI i + 4).toNatClampNeg)) ((xs (nI i + 5).toNatClampNeg)) hxo) kl_49 hxo ⟨rfl, by decide⟩ (show vwCl[10]? = some (RX11, TX11, 17) from rfl) rfl ⟨Nat.le_of_ble_eq_true rfl, Nat.le_of_ble_eq_true rfl⟩ hcs rfl (Nat.le_of_ble_eq_true rfl) dL_law_541) hI (by decide) (fun r1 σ1 H locs hp hk hI => ?_)
  obtain ⟨pq0, pq1, pq2, hex1, how1⟩ := hp
  have hp := And.intro pq0 (And.intro pq1 pq2)
  have hA1 := hA0.pre hal how1 rfl
  have hA := (hA.post hal how1 rfl).pre hal how1 rfl
  have hM := lw_kS hp.1 hI.1 hmo (fun j z => m_ne (q_c34 hI.1 hmo) hxo (by decide) z.1) (fun z => m_ne hmo hxo (by decide) z.1) hM
  have hpp1 := hp
  have hMc := hM
  clear hp hk
  clear h3
  refine lv_pop hx hb dL_law_544 rfl ?_
  refine lv_aload_n hx hb dL_law_545 rfl (lv_at hl 1 rfl) ?_
  refine lv_aload_n hx hb dL_law_546 rfl (lv_at hl 3 rfl) ?_
  refine lv_iload_n hx hb dL_law_547 rfl (lv_at hl 0 rfl) ?_
  refine lv_iconst (v := 1) hx hb dL_law_548 (by decide) ?_
  refine lv_iadd hx hb dL_law_549 ?_
  refine va_sld hx hb hX hbl hbA hI.S (lw_in (j := 1) (by decide) (by omega) hL) dL_law_550 ?_
  refine lv_aload_n hx hb dL_law_551 rfl (lv_at hl 3 rfl) ?_
  refine lv_iload_n hx hb dL_law_552 rfl (lv_at hl 0 rfl) ?_
  refine lv_iconst (v := 2) hx hb dL_law_553 (by decide) ?_
  refine lv_iadd hx hb dL_law_554 ?_
  refine va_sld hx hb hX hbl hbA hI.S (lw_in (j := 2) (by decide) (by omega) hL) dL_law_555 ?_
  refine lv_aload_n hx hb dL_law_556 rfl (lv_at hl 3 rfl) ?_
  refine lv_iload_n hx hb dL_law_557 rfl (lv_at hl 0 rfl) ?_
  refine lv_iconst (v := 3) hx hb dL_law_558 (by decide) ?_
  refine lv_iadd hx hb dL_law_559 ?_
  refine va_sld hx hb hX hbl hbA hI.S (lw_in (j := 3) (by decide) (by omega) hL) dL_law_560 ?_
  refine lv_aload_n hx hb dL_law_561 rfl (lv_at hl 3 rfl) ?_
  refine lv_iload_n hx hb dL_law_562 rfl (lv_at hl 0 rfl) ?_
  refine lv_iconst (v := 4) hx hb dL_law_563 (by decide) ?_
  refine lv_iadd hx hb dL_law_564 ?_
  refine va_sld hx hb hX hbl hbA hI.S (lw_in (j := 4) (by decide) (by omega) hL) dL_law_565 ?_
  refine lv_aload_n hx hb dL_law_566 rfl (lv_at hl 3 rfl) ?_
  refine lv_iload_n hx hb dL_law_567 rfl (lv_at hl 0 rfl) ?_
  refine lv_iconst (v := 5) hx hb dL_law_568 (by decide) ?_
  refine lv_iadd hx hb dL_law_569 ?_
  refine va_sld hx hb hX hbl hbA hI.S (lw_in (j := 5) (by decide) (by omega) hL) dL_law_570 ?_
  have h3 := (q_bd hI hmo (rfl : q_bn 12 24 = (0, 3))).2
  refine q_ci (q_runV (As := [.int (xs (nI i + 1).toNatClampNeg), .int (xs (nI i + 2).toNatClampNeg), .int (xs (nI i + 3).toNatClampNeg), .int (xs (nI i + 4).toNatClampNeg), .int (xs (nI i + 5).toNatClampNeg)]) (rest := []) E (hml.trans hl.1.symm) hI (c_X12_feed l X σ1 mo ((xs (nI i + 1).toNatClampNeg)) ((xs (nI i + 2).toNatClampNeg)) ((xs (nI i + 3).toNatClampNeg)) ((xs (nI i + 4).toNatClampNeg)) ((xs (nI i + 5).toNatClampNeg)) hmo) kl_53 hmo ⟨rfl, by decide⟩ (show vwCl[11]? = some (RX12, TX12, 46) from rfl) rfl ⟨Nat.le_of_ble_eq_true rfl, Nat.le_of_ble_eq_true rfl⟩ hcs rfl (Nat.le_of_ble_eq_true rfl) dL_law_571) hI (by decide) (fun r2 σ2 H locs hp hk hI => ?_)
  obtain ⟨pq0, pq1, pq2, hex2, how2⟩ := hp
  have hp := And.intro pq0 (And.intro pq1 pq2)
  have hBF := lw_Bfeed hex1 hex2 how1 how2 hI.1 hxo hmo rfl rfl rfl rfl hE0.2 (q_bd hI0 hxo (rfl : q_bn 11 5 = (0, 900))) hB0
  have hB := hBF.2
  have hA := (hA.post hal how2 rfl).pre hal how2 rfl
  have hF := lw_Efeed hxo hmo hE hpp1.1 hpp1.2.1 hpp1.2.2 hp.1 hp.2.1 hp.2.2
  have hE := hF.1
  have hM := lw_up (lw_kS hp.1 hI.1 hmo (fun j z => m_ne (q_c34 hI.1 hmo) hmo (by decide) z.1) (fun z => absurd z.2 (by decide)) hM) (q_bd hI hmo (rfl : q_bn 12 24 = (0, 3))).2
  have hpp2 := hp
  clear hp hk
  clear h3
  refine lv_pop hx hb dL_law_574 rfl ?_
  refine lv_goto (tgt := 1796) hx hb dL_law_575 (by decide) ?_
  exact kk _ _ _ hI hM hE hB hA

set_option maxRecDepth 100000 in
set_option maxHeartbeats 4000000 in
theorem lw_c8 {p : Program} {l : Launch} {e : Env} {s : State} {m : MethodId} {below : List Frame} {meth : Method} {c : Code} {b L : Nat} {xs : Nat → Int32} {X : XW} {xo mo : Nat} {σ0 : ST} {cells slots : Nat} {Q : State → Prop} {lb : Nat → Nat} (hcl : tb_Cls X lb xo mo) (hal : al_C X lb xo mo) (E : q_E p c cL_law s m #[Value.ref b] RL X) (hX : va_X b L xs s s.heap) (hbl : b < s.heap.size) (hbA : ¬ q_reg X b) (hml : c.maxLocals = 4) (hxo : q_kd X xo = 11) (hmo : q_kd X mo = 12) (hcs : cells ≤ room_1.cells ∧ slots ≤ room_1.slots) (hL : L ≤ 3072) {i : Nat} (hi : i + 6 ≤ L) {n : Int} (hn : 0 ≤ n ∧ n ≤ 199000) {σ : ST} {H : Heap} {locs : List Loc} {ls : Array Slot} (hI : q_I X 0 σ0 s.heap locs σ H) (hM : m_M (m_c X σ mo) (σ.1 mo 24).toInt n) (hl : lv_has ls 4 [(3, .int (nI i)), (2, .ref mo), (1, .ref xo), (0, .ref b)]) (hE : lw_E xo mo σ) (hB : lw_B X xo mo σ) (hA : al_R X xo mo σ σ)
    (kk : ∀ (σ : ST) (H : Heap) (locs : List Loc), q_I X 0 σ0 s.heap locs σ H → m_M (m_c X σ mo) (σ.1 mo 24).toInt (n + 301) → lw_E xo mo σ → lw_B X xo mo σ → al_R X xo mo σ σ → W p l e room_1 s m #[Value.ref b] below meth c H locs cells slots Q (F0 m 1796 ls [])) : W p l e room_1 s m #[Value.ref b] below meth c H locs cells slots Q (F0 m 578 ls []) := by
  have hx := E.1
  have hb := E.2.1
  have hI0 := hI
  have hE0 := hE
  have hB0 := hB
  have hA0 := hA
  have hM0 := hM
  refine lv_aload_n hx hb dL_law_578 rfl (lv_at hl 2 rfl) ?_
  refine lv_aload_n hx hb dL_law_579 rfl (lv_at hl 3 rfl) ?_
  refine lv_iload_n hx hb dL_law_580 rfl (lv_at hl 0 rfl) ?_
  refine lv_iconst (v := 1) hx hb dL_law_581 (by decide) ?_
  refine lv_iadd hx hb dL_law_582 ?_
  refine va_sld hx hb hX hbl hbA hI.S (lw_in (j := 1) (by decide) (by omega) hL) dL_law_583 ?_
  have h3 := (q_bd hI hmo (rfl : q_bn 12 24 = (0, 3))).2
  refine q_ci (q_runV (As := [.int (xs (nI i + 1).toNatClampNeg)]) (rest := []) E (hml.trans hl.1.symm) hI (c_X11_table l X σ xo ((xs (nI i + 1).toNatClampNeg)) hxo) kl_54 hxo ⟨rfl, by decide⟩ (show vwCl[10]? = some (RX11, TX11, 17) from rfl) rfl ⟨Nat.le_of_ble_eq_true rfl, Nat.le_of_ble_eq_true rfl⟩ hcs rfl (Nat.le_of_ble_eq_true rfl) dL_law_584) hI (by decide) (fun r1 σ1 H locs hp hk hI => ?_)
  obtain ⟨pq0, pq1, pq2, hex1, how1⟩ := hp
  have hp := And.intro pq0 (And.intro pq1 pq2)
  have hA1 := hA0.pre hal how1 rfl
  have hM := lw_kS hp.1 hI.1 hmo (fun j z => m_ne (q_c34 hI.1 hmo) hxo (by decide) z.1) (fun z => m_ne hmo hxo (by decide) z.1) hM
  have hpp1 := hp
  have hMc := hM
  clear hp hk
  clear h3
  refine lv_pop hx hb dL_law_587 rfl ?_
  refine lv_aload_n hx hb dL_law_588 rfl (lv_at hl 1 rfl) ?_
  refine lv_aload_n hx hb dL_law_589 rfl (lv_at hl 3 rfl) ?_
  refine lv_iload_n hx hb dL_law_590 rfl (lv_at hl 0 rfl) ?_
  refine lv_iconst (v := 1) hx hb dL_law_591 (by decide) ?_
  refine lv_iadd hx hb dL_law_592 ?_
  refine va_sld hx hb hX hbl hbA hI.S (lw_in (j := 1) (by decide) (by omega) hL) dL_law_593 ?_
  have h3 := (q_bd hI hmo (rfl : q_bn 12 24 = (0, 3))).2
  refine q_ci (q_runV (As := [.int (xs (nI i + 1).toNatClampNeg)]) (rest := []) E (hml.trans hl.1.symm) hI (c_X12_table l X σ1 mo ((xs (nI i + 1).toNatClampNeg)) n hmo hM.1.1 hM.1.2 hn.1) kl_58 hmo ⟨rfl, by decide⟩ (show vwCl[11]? = some (RX12, TX12, 46) from rfl) rfl ⟨Nat.le_of_ble_eq_true rfl, Nat.le_of_ble_eq_true rfl⟩ hcs rfl (Nat.le_of_ble_eq_true rfl) dL_law_594) hI (by decide) (fun r2 σ2 H locs hp hk hI => ?_)
  obtain ⟨pq0, pq1, pq2, pq3, pq4, pq5, hex2, how2⟩ := hp
  have hp := And.intro pq0 (And.intro pq1 (And.intro pq2 (And.intro pq3 (And.intro pq4 pq5))))
  have hB := lw_B2 how1 how2 hI.1 hxo hmo rfl rfl rfl rfl (lw_h5t hpp1.2.1 hpp1.2.2 (how2.1 xo 5 (by rw [hxo]; rfl))) hB
  have hO := lw_Atable hcl hal hA1 hMc hex1 hex2 how1 how2 hI.1 hxo hmo rfl rfl rfl hE0.2 (q_bd hI0 hxo (rfl : q_bn 11 5 = (0, 900))) hB0 (hp.2.1) rfl rfl rfl
  have hA := hO.2.1
  have hF := lw_Etable hxo hmo hE hpp1.1 hpp1.2.1 hpp1.2.2 hp.1 hp.2.2.2.2.1 hp.2.2.2.2.2
  have hE := hF.1
  have hM := lw_wr (hp.1 mo 24 (by rw [hmo]; decide) (fun z => by omega)) hp.2.1 (m_W.le hp.2.2.1 (show n ≤ n + 301 by omega)) hp.2.2.2.1 hM h3 (by omega)
  have hpp2 := hp
  clear hp hk
  clear h3
  refine lv_pop hx hb dL_law_597 rfl ?_
  refine lv_goto (tgt := 1796) hx hb dL_law_598 (by decide) ?_
  exact kk _ _ _ hI hM hE hB hA

set_option maxRecDepth 100000 in
set_option maxHeartbeats 4000000 in
theorem lw_c9 {p : Program} {l : Launch} {e : Env} {s : State} {m : MethodId} {below : List Frame} {meth : Method} {c : Code} {b L : Nat} {xs : Nat → Int32} {X : XW} {xo mo : Nat} {σ0 : ST} {cells slots : Nat} {Q : State → Prop} {lb : Nat → Nat} (hcl : tb_Cls X lb xo mo) (hal : al_C X lb xo mo) (E : q_E p c cL_law s m #[Value.ref b] RL X) (hX : va_X b L xs s s.heap) (hbl : b < s.heap.size) (hbA : ¬ q_reg X b) (hml : c.maxLocals = 4) (hxo : q_kd X xo = 11) (hmo : q_kd X mo = 12) (hcs : cells ≤ room_1.cells ∧ slots ≤ room_1.slots) (hL : L ≤ 3072) {i : Nat} (hi : i + 6 ≤ L) {n : Int} (hn : 0 ≤ n ∧ n ≤ 199000) {σ : ST} {H : Heap} {locs : List Loc} {ls : Array Slot} (hI : q_I X 0 σ0 s.heap locs σ H) (hM : m_M (m_c X σ mo) (σ.1 mo 24).toInt n) (hl : lv_has ls 4 [(3, .int (nI i)), (2, .ref mo), (1, .ref xo), (0, .ref b)]) (hE : lw_E xo mo σ) (hB : lw_B X xo mo σ) (hA : al_R X xo mo σ σ)
    (kk : ∀ (σ : ST) (H : Heap) (locs : List Loc), q_I X 0 σ0 s.heap locs σ H → m_M (m_c X σ mo) (σ.1 mo 24).toInt (n + 301) → lw_E xo mo σ → lw_B X xo mo σ → al_R X xo mo σ σ → W p l e room_1 s m #[Value.ref b] below meth c H locs cells slots Q (F0 m 1796 ls [])) : W p l e room_1 s m #[Value.ref b] below meth c H locs cells slots Q (F0 m 601 ls []) := by
  have hx := E.1
  have hb := E.2.1
  have hI0 := hI
  have hE0 := hE
  have hB0 := hB
  have hA0 := hA
  have hM0 := hM
  refine lv_aload_n hx hb dL_law_601 rfl (lv_at hl 2 rfl) ?_
  refine lv_aload_n hx hb dL_law_602 rfl (lv_at hl 3 rfl) ?_
  refine lv_iload_n hx hb dL_law_603 rfl (lv_at hl 0 rfl) ?_
  refine lv_iconst (v := 1) hx hb dL_law_604 (by decide) ?_
  refine lv_iadd hx hb dL_law_605 ?_
  refine va_sld hx hb hX hbl hbA hI.S (lw_in (j := 1) (by decide) (by omega) hL) dL_law_606 ?_
  have h3 := (q_bd hI hmo (rfl : q_bn 12 24 = (0, 3))).2
  refine q_ci (q_runV (As := [.int (xs (nI i + 1).toNatClampNeg)]) (rest := []) E (hml.trans hl.1.symm) hI (c_X11_round l X σ xo ((xs (nI i + 1).toNatClampNeg)) hxo) kl_59 hxo ⟨rfl, by decide⟩ (show vwCl[10]? = some (RX11, TX11, 17) from rfl) rfl ⟨Nat.le_of_ble_eq_true rfl, Nat.le_of_ble_eq_true rfl⟩ hcs rfl (Nat.le_of_ble_eq_true rfl) dL_law_607) hI (by decide) (fun r1 σ1 H locs hp hk hI => ?_)
  obtain ⟨pq0, pq1, pq2, hex1, how1⟩ := hp
  have hp := And.intro pq0 (And.intro pq1 pq2)
  have hA1 := hA0.pre hal how1 rfl
  have hM := lw_kS hp.1 hI.1 hmo (fun j z => m_ne (q_c34 hI.1 hmo) hxo (by decide) z.1) (fun z => m_ne hmo hxo (by decide) z.1) hM
  have hpp1 := hp
  have hMc := hM
  clear hp hk
  clear h3
  refine lv_pop hx hb dL_law_610 rfl ?_
  refine lv_aload_n hx hb dL_law_611 rfl (lv_at hl 1 rfl) ?_
  refine lv_aload_n hx hb dL_law_612 rfl (lv_at hl 3 rfl) ?_
  refine lv_iload_n hx hb dL_law_613 rfl (lv_at hl 0 rfl) ?_
  refine lv_iconst (v := 1) hx hb dL_law_614 (by decide) ?_
  refine lv_iadd hx hb dL_law_615 ?_
  refine va_sld hx hb hX hbl hbA hI.S (lw_in (j := 1) (by decide) (by omega) hL) dL_law_616 ?_
  have h3 := (q_bd hI hmo (rfl : q_bn 12 24 = (0, 3))).2
  refine q_ci (q_runV (As := [.int (xs (nI i + 1).toNatClampNeg)]) (rest := []) E (hml.trans hl.1.symm) hI (c_X12_round l X σ1 mo ((xs (nI i + 1).toNatClampNeg)) n hmo hM.1.1 hM.1.2 hn.1) kl_62 hmo ⟨rfl, by decide⟩ (show vwCl[11]? = some (RX12, TX12, 46) from rfl) rfl ⟨Nat.le_of_ble_eq_true rfl, Nat.le_of_ble_eq_true rfl⟩ hcs rfl (Nat.le_of_ble_eq_true rfl) dL_law_617) hI (by decide) (fun r2 σ2 H locs hp hk hI => ?_)
  obtain ⟨pq0, pq1, pq2, pq3, pq4, pq5, hex2, how2⟩ := hp
  have hp := And.intro pq0 (And.intro pq1 (And.intro pq2 (And.intro pq3 (And.intro pq4 pq5))))
  have hB := lw_B2 how1 how2 hI.1 hxo hmo rfl rfl rfl rfl (lw_h5r hpp1.2.1 hpp1.2.2 (how2.1 xo 5 (by rw [hxo]; rfl))) hB
  have hO := lw_Around hcl hal hA1 hMc hex1 hex2 how1 how2 hI.1 hxo hmo rfl rfl rfl hE0.2 (q_bd hI0 hxo (rfl : q_bn 11 5 = (0, 900))) hB0
  have hA := hO.2.1
  have hF := lw_Eround hxo hmo hE hpp1.1 hpp1.2.1 hpp1.2.2 hp.1 hp.2.2.2.2.1 hp.2.2.2.2.2
  have hE := hF.1
  have hM := lw_wr (hp.1 mo 24 (by rw [hmo]; decide) (fun z => by omega)) hp.2.1 (m_W.le hp.2.2.1 (show n ≤ n + 301 by omega)) hp.2.2.2.1 hM h3 (by omega)
  have hpp2 := hp
  clear hp hk
  clear h3
  refine lv_pop hx hb dL_law_620 rfl ?_
  refine lv_goto (tgt := 1796) hx hb dL_law_621 (by decide) ?_
  exact kk _ _ _ hI hM hE hB hA

set_option maxRecDepth 100000 in
set_option maxHeartbeats 4000000 in
theorem lw_c10 {p : Program} {l : Launch} {e : Env} {s : State} {m : MethodId} {below : List Frame} {meth : Method} {c : Code} {b L : Nat} {xs : Nat → Int32} {X : XW} {xo mo : Nat} {σ0 : ST} {cells slots : Nat} {Q : State → Prop} {lb : Nat → Nat} (hcl : tb_Cls X lb xo mo) (hal : al_C X lb xo mo) (E : q_E p c cL_law s m #[Value.ref b] RL X) (hX : va_X b L xs s s.heap) (hbl : b < s.heap.size) (hbA : ¬ q_reg X b) (hml : c.maxLocals = 4) (hxo : q_kd X xo = 11) (hmo : q_kd X mo = 12) (hcs : cells ≤ room_1.cells ∧ slots ≤ room_1.slots) (hL : L ≤ 3072) {i : Nat} (hi : i + 6 ≤ L) {n : Int} (hn : 0 ≤ n ∧ n ≤ 199000) {σ : ST} {H : Heap} {locs : List Loc} {ls : Array Slot} (hI : q_I X 0 σ0 s.heap locs σ H) (hM : m_M (m_c X σ mo) (σ.1 mo 24).toInt n) (hl : lv_has ls 4 [(3, .int (nI i)), (2, .ref mo), (1, .ref xo), (0, .ref b)]) (hE : lw_E xo mo σ) (hB : lw_B X xo mo σ) (hA : al_R X xo mo σ σ)
    (kk : ∀ (σ : ST) (H : Heap) (locs : List Loc), q_I X 0 σ0 s.heap locs σ H → m_M (m_c X σ mo) (σ.1 mo 24).toInt (n + 301) → lw_E xo mo σ → lw_B X xo mo σ → al_R X xo mo σ σ → W p l e room_1 s m #[Value.ref b] below meth c H locs cells slots Q (F0 m 1796 ls [])) : W p l e room_1 s m #[Value.ref b] below meth c H locs cells slots Q (F0 m 624 ls []) := by
  have hx := E.1
  have hb := E.2.1
  have hI0 := hI
  have hE0 := hE
  have hB0 := hB
  have hA0 := hA
  have hM0 := hM
  refine lv_aload_n hx hb dL_law_624 rfl (lv_at hl 2 rfl) ?_
  refine lv_aload_n hx hb dL_law_625 rfl (lv_at hl 3 rfl) ?_
  refine lv_iload_n hx hb dL_law_626 rfl (lv_at hl 0 rfl) ?_
  refine lv_iconst (v := 1) hx hb dL_law_627 (by decide) ?_
  refine lv_iadd hx hb dL_law_628 ?_
  refine va_sld hx hb hX hbl hbA hI.S (lw_in (j := 1) (by decide) (by omega) hL) dL_law_629 ?_
  have h3 := (q_bd hI hmo (rfl : q_bn 12 24 = (0, 3))).2
  refine q_ci (q_runV (As := [.int (xs (nI i + 1).toNatClampNeg)]) (rest := []) E (hml.trans hl.1.symm) hI (c_X11_fault l X σ xo ((xs (nI i + 1).toNatClampNeg)) hxo) kl_63 hxo ⟨rfl, by decide⟩ (show vwCl[10]? = some (RX11, TX11, 17) from rfl) rfl ⟨Nat.le_of_ble_eq_true rfl, Nat.le_of_ble_eq_true rfl⟩ hcs rfl (Nat.le_of_ble_eq_true rfl) dL_law_630) hI (by decide) (fun r1 σ1 H locs hp hk hI => ?_)
  obtain ⟨hs1, hex1⟩ := hp
  have how1 : q_ow [] [] X σ σ1 := by rw [hs1]; exact q_ow.rf
  have hp := True.intro
  have hB := lw_BK how1 hI.1 hxo hmo rfl rfl (how1.1 xo 5 (by rw [hxo]; rfl)) hB
  have hA1 := hA0.pre hal how1 rfl
  have hA := (hA.post hal how1 rfl).pre hal how1 rfl
  have hE := lw_EK hk (by decide) hxo hmo hE
  have hM := lw_kM hk hI.1 hmo (by decide) hM
  have hpp1 := hp
  have hMc := hM
  clear hp hk
  clear h3
  refine lv_pop hx hb dL_law_633 rfl ?_
  refine lv_aload_n hx hb dL_law_634 rfl (lv_at hl 1 rfl) ?_
  refine lv_aload_n hx hb dL_law_635 rfl (lv_at hl 3 rfl) ?_
  refine lv_iload_n hx hb dL_law_636 rfl (lv_at hl 0 rfl) ?_
  refine lv_iconst (v := 1) hx hb dL_law_637 (by decide) ?_
  refine lv_iadd hx hb dL_law_638 ?_
  refine va_sld hx hb hX hbl hbA hI.S (lw_in (j := 1) (by decide) (by omega) hL) dL_law_639 ?_
  have h3 := (q_bd hI hmo (rfl : q_bn 12 24 = (0, 3))).2
  refine q_ci (q_runV (As := [.int (xs (nI i + 1).toNatClampNeg)]) (rest := []) E (hml.trans hl.1.symm) hI (c_X12_fault l X σ1 mo ((xs (nI i + 1).toNatClampNeg)) hmo) kl_66 hmo ⟨rfl, by decide⟩ (show vwCl[11]? = some (RX12, TX12, 46) from rfl) rfl ⟨Nat.le_of_ble_eq_true rfl, Nat.le_of_ble_eq_true rfl⟩ hcs rfl (Nat.le_of_ble_eq_true rfl) dL_law_640) hI (by decide) (fun r2 σ2 H locs hp hk hI => ?_)
  obtain ⟨hex2, how2⟩ := hp
  have hp := True.intro
  have hB := lw_BK how2 hI.1 hxo hmo rfl rfl (how2.1 xo 5 (by rw [hxo]; rfl)) hB
  have hA := (hA.post hal how2 rfl).pre hal how2 rfl
  have hE := lw_EK hk (by decide) hxo hmo hE
  have hM := lw_up (lw_kM hk hI.1 hmo (by decide) hM) (q_bd hI hmo (rfl : q_bn 12 24 = (0, 3))).2
  have hpp2 := hp
  clear hp hk
  clear h3
  refine lv_pop hx hb dL_law_643 rfl ?_
  refine lv_goto (tgt := 1796) hx hb dL_law_644 (by decide) ?_
  exact kk _ _ _ hI hM hE hB hA

set_option maxRecDepth 100000 in
set_option maxHeartbeats 4000000 in
theorem lw_c11 {p : Program} {l : Launch} {e : Env} {s : State} {m : MethodId} {below : List Frame} {meth : Method} {c : Code} {b L : Nat} {xs : Nat → Int32} {X : XW} {xo mo : Nat} {σ0 : ST} {cells slots : Nat} {Q : State → Prop} {lb : Nat → Nat} (hcl : tb_Cls X lb xo mo) (hal : al_C X lb xo mo) (E : q_E p c cL_law s m #[Value.ref b] RL X) (hX : va_X b L xs s s.heap) (hbl : b < s.heap.size) (hbA : ¬ q_reg X b) (hml : c.maxLocals = 4) (hxo : q_kd X xo = 11) (hmo : q_kd X mo = 12) (hcs : cells ≤ room_1.cells ∧ slots ≤ room_1.slots) (hL : L ≤ 3072) {i : Nat} (hi : i + 6 ≤ L) {n : Int} (hn : 0 ≤ n ∧ n ≤ 199000) {σ : ST} {H : Heap} {locs : List Loc} {ls : Array Slot} (hI : q_I X 0 σ0 s.heap locs σ H) (hM : m_M (m_c X σ mo) (σ.1 mo 24).toInt n) (hl : lv_has ls 4 [(3, .int (nI i)), (2, .ref mo), (1, .ref xo), (0, .ref b)]) (hE : lw_E xo mo σ) (hB : lw_B X xo mo σ) (hA : al_R X xo mo σ σ)
    (kk : ∀ (σ : ST) (H : Heap) (locs : List Loc), q_I X 0 σ0 s.heap locs σ H → m_M (m_c X σ mo) (σ.1 mo 24).toInt (n + 301) → lw_E xo mo σ → lw_B X xo mo σ → al_R X xo mo σ σ → W p l e room_1 s m #[Value.ref b] below meth c H locs cells slots Q (F0 m 1796 ls [])) : W p l e room_1 s m #[Value.ref b] below meth c H locs cells slots Q (F0 m 647 ls []) := by
  have hx := E.1
  have hb := E.2.1
  have hI0 := hI
  have hE0 := hE
  have hB0 := hB
  have hA0 := hA
  have hM0 := hM
  refine lv_aload_n hx hb dL_law_647 rfl (lv_at hl 2 rfl) ?_
  refine lv_aload_n hx hb dL_law_648 rfl (lv_at hl 3 rfl) ?_
  refine lv_iload_n hx hb dL_law_649 rfl (lv_at hl 0 rfl) ?_
  refine lv_iconst (v := 1) hx hb dL_law_650 (by decide) ?_
  refine lv_iadd hx hb dL_law_651 ?_
  refine va_sld hx hb hX hbl hbA hI.S (lw_in (j := 1) (by decide) (by omega) hL) dL_law_652 ?_
  have h3 := (q_bd hI hmo (rfl : q_bn 12 24 = (0, 3))).2
  refine q_ci (q_runV (As := [.int (xs (nI i + 1).toNatClampNeg)]) (rest := []) E (hml.trans hl.1.symm) hI (c_X11_many l X σ xo ((xs (nI i + 1).toNatClampNeg)) hxo) kl_67 hxo ⟨rfl, by decide⟩ (show vwCl[10]? = some (RX11, TX11, 17) from rfl) rfl ⟨Nat.le_of_ble_eq_true rfl, Nat.le_of_ble_eq_true rfl⟩ hcs rfl (Nat.le_of_ble_eq_true rfl) dL_law_653) hI (by decide) (fun r1 σ1 H locs hp hk hI => ?_)
  obtain ⟨hex1, how1⟩ := hp
  have hp := True.intro
  have hB := lw_BK how1 hI.1 hxo hmo rfl rfl (how1.1 xo 5 (by rw [hxo]; rfl)) hB
  have hA1 := hA0.pre hal how1 rfl
  have hA := (hA.post hal how1 rfl).pre hal how1 rfl
  have hE := lw_EK hk (by decide) hxo hmo hE
  have hM := lw_kM hk hI.1 hmo (by decide) hM
  have hpp1 := hp
  have hMc := hM
  clear hp hk
  clear h3
  refine lv_pop hx hb dL_law_656 rfl ?_
  refine lv_aload_n hx hb dL_law_657 rfl (lv_at hl 1 rfl) ?_
  refine lv_aload_n hx hb dL_law_658 rfl (lv_at hl 3 rfl) ?_
  refine lv_iload_n hx hb dL_law_659 rfl (lv_at hl 0 rfl) ?_
  refine lv_iconst (v := 1) hx hb dL_law_660 (by decide) ?_
  refine lv_iadd hx hb dL_law_661 ?_
  refine va_sld hx hb hX hbl hbA hI.S (lw_in (j := 1) (by decide) (by omega) hL) dL_law_662 ?_
  have h3 := (q_bd hI hmo (rfl : q_bn 12 24 = (0, 3))).2
  refine q_ci (q_runV (As := [.int (xs (nI i + 1).toNatClampNeg)]) (rest := []) E (hml.trans hl.1.symm) hI (c_X12_many l X σ1 mo ((xs (nI i + 1).toNatClampNeg)) hmo hM.1.1) kl_70 hmo ⟨rfl, by decide⟩ (show vwCl[11]? = some (RX12, TX12, 46) from rfl) rfl ⟨Nat.le_of_ble_eq_true rfl, Nat.le_of_ble_eq_true rfl⟩ hcs rfl (Nat.le_of_ble_eq_true rfl) dL_law_663) hI (by decide) (fun r2 σ2 H locs hp hk hI => ?_)
  obtain ⟨hex2, how2⟩ := hp
  have hp := True.intro
  have hB := lw_BK how2 hI.1 hxo hmo rfl rfl (how2.1 xo 5 (by rw [hxo]; rfl)) hB
  have hA := (hA.post hal how2 rfl).pre hal how2 rfl
  have hE := lw_EK hk (by decide) hxo hmo hE
  have hM := lw_up (lw_kM hk hI.1 hmo (by decide) hM) (q_bd hI hmo (rfl : q_bn 12 24 = (0, 3))).2
  have hpp2 := hp
  clear hp hk
  clear h3
  refine lv_pop hx hb dL_law_666 rfl ?_
  refine lv_goto (tgt := 1796) hx hb dL_law_667 (by decide) ?_
  exact kk _ _ _ hI hM hE hB hA

set_option maxRecDepth 100000 in
set_option maxHeartbeats 4000000 in
theorem lw_c12 {p : Program} {l : Launch} {e : Env} {s : State} {m : MethodId} {below : List Frame} {meth : Method} {c : Code} {b L : Nat} {xs : Nat → Int32} {X : XW} {xo mo : Nat} {σ0 : ST} {cells slots : Nat} {Q : State → Prop} {lb : Nat → Nat} (hcl : tb_Cls X lb xo mo) (hal : al_C X lb xo mo) (E : q_E p c cL_law s m #[Value.ref b] RL X) (hX : va_X b L xs s s.heap) (hbl : b < s.heap.size) (hbA : ¬ q_reg X b) (hml : c.maxLocals = 4) (hxo : q_kd X xo = 11) (hmo : q_kd X mo = 12) (hcs : cells ≤ room_1.cells ∧ slots ≤ room_1.slots) (hL : L ≤ 3072) {i : Nat} (hi : i + 6 ≤ L) {n : Int} (hn : 0 ≤ n ∧ n ≤ 199000) {σ : ST} {H : Heap} {locs : List Loc} {ls : Array Slot} (hI : q_I X 0 σ0 s.heap locs σ H) (hM : m_M (m_c X σ mo) (σ.1 mo 24).toInt n) (hl : lv_has ls 4 [(3, .int (nI i)), (2, .ref mo), (1, .ref xo), (0, .ref b)]) (hE : lw_E xo mo σ) (hB : lw_B X xo mo σ) (hA : al_R X xo mo σ σ)
    (kk : ∀ (σ : ST) (H : Heap) (locs : List Loc), q_I X 0 σ0 s.heap locs σ H → m_M (m_c X σ mo) (σ.1 mo 24).toInt (n + 301) → lw_E xo mo σ → lw_B X xo mo σ → al_R X xo mo σ σ → W p l e room_1 s m #[Value.ref b] below meth c H locs cells slots Q (F0 m 1796 ls [])) : W p l e room_1 s m #[Value.ref b] below meth c H locs cells slots Q (F0 m 670 ls []) := by
  have hx := E.1
  have hb := E.2.1
  have hI0 := hI
  have hE0 := hE
  have hB0 := hB
  have hA0 := hA
  have hM0 := hM
  refine lv_aload_n hx hb dL_law_670 rfl (lv_at hl 2 rfl) ?_
  refine lv_aload_n hx hb dL_law_671 rfl (lv_at hl 3 rfl) ?_
  refine lv_iload_n hx hb dL_law_672 rfl (lv_at hl 0 rfl) ?_
  refine lv_iconst (v := 1) hx hb dL_law_673 (by decide) ?_
  refine lv_iadd hx hb dL_law_674 ?_
  refine va_sld hx hb hX hbl hbA hI.S (lw_in (j := 1) (by decide) (by omega) hL) dL_law_675 ?_
  refine lv_aload_n hx hb dL_law_676 rfl (lv_at hl 3 rfl) ?_
  refine lv_iload_n hx hb dL_law_677 rfl (lv_at hl 0 rfl) ?_
  refine lv_iconst (v := 2) hx hb dL_law_678 (by decide) ?_
  refine lv_iadd hx hb dL_law_679 ?_
  refine va_sld hx hb hX hbl hbA hI.S (lw_in (j := 2) (by decide) (by omega) hL) dL_law_680 ?_
  have h3 := (q_bd hI hmo (rfl : q_bn 12 24 = (0, 3))).2
  refine q_ci (q_runV (As := [.int (xs (nI i + 1).toNatClampNeg), .int (xs (nI i + 2).toNatClampNeg)]) (rest := []) E (hml.trans hl.1.symm) hI (c_X11_player l X σ xo ((xs (nI i + 1).toNatClampNeg)) ((xs (nI i + 2).toNatClampNeg)) hxo) kl_71 hxo ⟨rfl, by decide⟩ (show vwCl[10]? = some (RX11, TX11, 17) from rfl) rfl ⟨Nat.le_of_ble_eq_true rfl, Nat.le_of_ble_eq_true rfl⟩ hcs rfl (Nat.le_of_ble_eq_true rfl) dL_law_681) hI (by decide) (fun r1 σ1 H locs hp hk hI => ?_)
  obtain ⟨hex1, how1⟩ := hp
  have hp := True.intro
  have hB := lw_BK how1 hI.1 hxo hmo rfl rfl (how1.1 xo 5 (by rw [hxo]; rfl)) hB
  have hA1 := hA0.pre hal how1 rfl
  have hA := (hA.post hal how1 rfl).pre hal how1 rfl
  have hE := lw_EK hk (by decide) hxo hmo hE
  have hM := lw_kM hk hI.1 hmo (by decide) hM
  have hpp1 := hp
  have hMc := hM
  clear hp hk
  clear h3
  refine lv_pop hx hb dL_law_684 rfl ?_
  refine lv_aload_n hx hb dL_law_685 rfl (lv_at hl 1 rfl) ?_
  refine lv_aload_n hx hb dL_law_686 rfl (lv_at hl 3 rfl) ?_
  refine lv_iload_n hx hb dL_law_687 rfl (lv_at hl 0 rfl) ?_
  refine lv_iconst (v := 1) hx hb dL_law_688 (by decide) ?_
  refine lv_iadd hx hb dL_law_689 ?_
  refine va_sld hx hb hX hbl hbA hI.S (lw_in (j := 1) (by decide) (by omega) hL) dL_law_690 ?_
  refine lv_aload_n hx hb dL_law_691 rfl (lv_at hl 3 rfl) ?_
  refine lv_iload_n hx hb dL_law_692 rfl (lv_at hl 0 rfl) ?_
  refine lv_iconst (v := 2) hx hb dL_law_693 (by decide) ?_
  refine lv_iadd hx hb dL_law_694 ?_
  refine va_sld hx hb hX hbl hbA hI.S (lw_in (j := 2) (by decide) (by omega) hL) dL_law_695 ?_
  have h3 := (q_bd hI hmo (rfl : q_bn 12 24 = (0, 3))).2
  refine q_ci (q_runV (As := [.int (xs (nI i + 1).toNatClampNeg), .int (xs (nI i + 2).toNatClampNeg)]) (rest := []) E (hml.trans hl.1.symm) hI (c_X12_player l X σ1 mo ((xs (nI i + 1).toNatClampNeg)) ((xs (nI i + 2).toNatClampNeg)) hmo hM.1.1) kl_75 hmo ⟨rfl, by decide⟩ (show vwCl[11]? = some (RX12, TX12, 46) from rfl) rfl ⟨Nat.le_of_ble_eq_true rfl, Nat.le_of_ble_eq_true rfl⟩ hcs rfl (Nat.le_of_ble_eq_true rfl) dL_law_696) hI (by decide) (fun r2 σ2 H locs hp hk hI => ?_)
  obtain ⟨hex2, how2⟩ := hp
  have hp := True.intro
  have hB := lw_BK how2 hI.1 hxo hmo rfl rfl (how2.1 xo 5 (by rw [hxo]; rfl)) hB
  have hA := (hA.post hal how2 rfl).pre hal how2 rfl
  have hE := lw_EK hk (by decide) hxo hmo hE
  have hM := lw_up (lw_kM hk hI.1 hmo (by decide) hM) (q_bd hI hmo (rfl : q_bn 12 24 = (0, 3))).2
  have hpp2 := hp
  clear hp hk
  clear h3
  refine lv_pop hx hb dL_law_699 rfl ?_
  refine lv_goto (tgt := 1796) hx hb dL_law_700 (by decide) ?_
  exact kk _ _ _ hI hM hE hB hA

set_option maxRecDepth 100000 in
set_option maxHeartbeats 4000000 in
theorem lw_c13 {p : Program} {l : Launch} {e : Env} {s : State} {m : MethodId} {below : List Frame} {meth : Method} {c : Code} {b L : Nat} {xs : Nat → Int32} {X : XW} {xo mo : Nat} {σ0 : ST} {cells slots : Nat} {Q : State → Prop} {lb : Nat → Nat} (hcl : tb_Cls X lb xo mo) (hal : al_C X lb xo mo) (E : q_E p c cL_law s m #[Value.ref b] RL X) (hX : va_X b L xs s s.heap) (hbl : b < s.heap.size) (hbA : ¬ q_reg X b) (hml : c.maxLocals = 4) (hxo : q_kd X xo = 11) (hmo : q_kd X mo = 12) (hcs : cells ≤ room_1.cells ∧ slots ≤ room_1.slots) (hL : L ≤ 3072) {i : Nat} (hi : i + 6 ≤ L) {n : Int} (hn : 0 ≤ n ∧ n ≤ 199000) {σ : ST} {H : Heap} {locs : List Loc} {ls : Array Slot} (hI : q_I X 0 σ0 s.heap locs σ H) (hM : m_M (m_c X σ mo) (σ.1 mo 24).toInt n) (hl : lv_has ls 4 [(3, .int (nI i)), (2, .ref mo), (1, .ref xo), (0, .ref b)]) (hE : lw_E xo mo σ) (hB : lw_B X xo mo σ) (hA : al_R X xo mo σ σ)
    (kk : ∀ (σ : ST) (H : Heap) (locs : List Loc), q_I X 0 σ0 s.heap locs σ H → m_M (m_c X σ mo) (σ.1 mo 24).toInt (n + 301) → lw_E xo mo σ → lw_B X xo mo σ → al_R X xo mo σ σ → W p l e room_1 s m #[Value.ref b] below meth c H locs cells slots Q (F0 m 1796 ls [])) : W p l e room_1 s m #[Value.ref b] below meth c H locs cells slots Q (F0 m 703 ls []) := by
  have hx := E.1
  have hb := E.2.1
  have hI0 := hI
  have hE0 := hE
  have hB0 := hB
  have hA0 := hA
  have hM0 := hM
  refine lv_aload_n hx hb dL_law_703 rfl (lv_at hl 2 rfl) ?_
  refine lv_aload_n hx hb dL_law_704 rfl (lv_at hl 3 rfl) ?_
  refine lv_iload_n hx hb dL_law_705 rfl (lv_at hl 0 rfl) ?_
  refine lv_iconst (v := 1) hx hb dL_law_706 (by decide) ?_
  refine lv_iadd hx hb dL_law_707 ?_
  refine va_sld hx hb hX hbl hbA hI.S (lw_in (j := 1) (by decide) (by omega) hL) dL_law_708 ?_
  refine lv_aload_n hx hb dL_law_709 rfl (lv_at hl 3 rfl) ?_
  refine lv_iload_n hx hb dL_law_710 rfl (lv_at hl 0 rfl) ?_
  refine lv_iconst (v := 2) hx hb dL_law_711 (by decide) ?_
  refine lv_iadd hx hb dL_law_712 ?_
  refine va_sld hx hb hX hbl hbA hI.S (lw_in (j := 2) (by decide) (by omega) hL) dL_law_713 ?_
  have h3 := (q_bd hI hmo (rfl : q_bn 12 24 = (0, 3))).2
  refine q_ci (q_runV (As := [.int (xs (nI i + 1).toNatClampNeg), .int (xs (nI i + 2).toNatClampNeg)]) (rest := []) E (hml.trans hl.1.symm) hI (c_X11_hand l X σ xo ((xs (nI i + 1).toNatClampNeg)) ((xs (nI i + 2).toNatClampNeg)) hxo) kl_76 hxo ⟨rfl, by decide⟩ (show vwCl[10]? = some (RX11, TX11, 17) from rfl) rfl ⟨Nat.le_of_ble_eq_true rfl, Nat.le_of_ble_eq_true rfl⟩ hcs rfl (Nat.le_of_ble_eq_true rfl) dL_law_714) hI (by decide) (fun r1 σ1 H locs hp hk hI => ?_)
  obtain ⟨hex1, how1⟩ := hp
  have hp := True.intro
  have hB := lw_BK how1 hI.1 hxo hmo rfl rfl (how1.1 xo 5 (by rw [hxo]; rfl)) hB
  have hA1 := hA0.pre hal how1 rfl
  have hA := (hA.post hal how1 rfl).pre hal how1 rfl
  have hE := lw_EK hk (by decide) hxo hmo hE
  have hM := lw_kM hk hI.1 hmo (by decide) hM
  have hpp1 := hp
  have hMc := hM
  clear hp hk
  clear h3
  refine lv_pop hx hb dL_law_717 rfl ?_
  refine lv_aload_n hx hb dL_law_718 rfl (lv_at hl 1 rfl) ?_
  refine lv_aload_n hx hb dL_law_719 rfl (lv_at hl 3 rfl) ?_
  refine lv_iload_n hx hb dL_law_720 rfl (lv_at hl 0 rfl) ?_
  refine lv_iconst (v := 1) hx hb dL_law_721 (by decide) ?_
  refine lv_iadd hx hb dL_law_722 ?_
  refine va_sld hx hb hX hbl hbA hI.S (lw_in (j := 1) (by decide) (by omega) hL) dL_law_723 ?_
  refine lv_aload_n hx hb dL_law_724 rfl (lv_at hl 3 rfl) ?_
  refine lv_iload_n hx hb dL_law_725 rfl (lv_at hl 0 rfl) ?_
  refine lv_iconst (v := 2) hx hb dL_law_726 (by decide) ?_
  refine lv_iadd hx hb dL_law_727 ?_
  refine va_sld hx hb hX hbl hbA hI.S (lw_in (j := 2) (by decide) (by omega) hL) dL_law_728 ?_
  have h3 := (q_bd hI hmo (rfl : q_bn 12 24 = (0, 3))).2
  refine q_ci (q_runV (As := [.int (xs (nI i + 1).toNatClampNeg), .int (xs (nI i + 2).toNatClampNeg)]) (rest := []) E (hml.trans hl.1.symm) hI (c_X12_hand l X σ1 mo ((xs (nI i + 1).toNatClampNeg)) ((xs (nI i + 2).toNatClampNeg)) hmo hM.1.1) kl_79 hmo ⟨rfl, by decide⟩ (show vwCl[11]? = some (RX12, TX12, 46) from rfl) rfl ⟨Nat.le_of_ble_eq_true rfl, Nat.le_of_ble_eq_true rfl⟩ hcs rfl (Nat.le_of_ble_eq_true rfl) dL_law_729) hI (by decide) (fun r2 σ2 H locs hp hk hI => ?_)
  obtain ⟨hex2, how2⟩ := hp
  have hp := True.intro
  have hB := lw_BK how2 hI.1 hxo hmo rfl rfl (how2.1 xo 5 (by rw [hxo]; rfl)) hB
  have hA := (hA.post hal how2 rfl).pre hal how2 rfl
  have hE := lw_EK hk (by decide) hxo hmo hE
  have hM := lw_up (lw_kM hk hI.1 hmo (by decide) hM) (q_bd hI hmo (rfl : q_bn 12 24 = (0, 3))).2
  have hpp2 := hp
  clear hp hk
  clear h3
  refine lv_pop hx hb dL_law_732 rfl ?_
  refine lv_goto (tgt := 1796) hx hb dL_law_733 (by decide) ?_
  exact kk _ _ _ hI hM hE hB hA

set_option maxRecDepth 100000 in
set_option maxHeartbeats 4000000 in
theorem lw_c14 {p : Program} {l : Launch} {e : Env} {s : State} {m : MethodId} {below : List Frame} {meth : Method} {c : Code} {b L : Nat} {xs : Nat → Int32} {X : XW} {xo mo : Nat} {σ0 : ST} {cells slots : Nat} {Q : State → Prop} {lb : Nat → Nat} (hcl : tb_Cls X lb xo mo) (hal : al_C X lb xo mo) (E : q_E p c cL_law s m #[Value.ref b] RL X) (hX : va_X b L xs s s.heap) (hbl : b < s.heap.size) (hbA : ¬ q_reg X b) (hml : c.maxLocals = 4) (hxo : q_kd X xo = 11) (hmo : q_kd X mo = 12) (hcs : cells ≤ room_1.cells ∧ slots ≤ room_1.slots) (hL : L ≤ 3072) {i : Nat} (hi : i + 6 ≤ L) {n : Int} (hn : 0 ≤ n ∧ n ≤ 199000) {σ : ST} {H : Heap} {locs : List Loc} {ls : Array Slot} (hI : q_I X 0 σ0 s.heap locs σ H) (hM : m_M (m_c X σ mo) (σ.1 mo 24).toInt n) (hl : lv_has ls 4 [(3, .int (nI i)), (2, .ref mo), (1, .ref xo), (0, .ref b)]) (hE : lw_E xo mo σ) (hB : lw_B X xo mo σ) (hA : al_R X xo mo σ σ)
    (kk : ∀ (σ : ST) (H : Heap) (locs : List Loc), q_I X 0 σ0 s.heap locs σ H → m_M (m_c X σ mo) (σ.1 mo 24).toInt (n + 301) → lw_E xo mo σ → lw_B X xo mo σ → al_R X xo mo σ σ → W p l e room_1 s m #[Value.ref b] below meth c H locs cells slots Q (F0 m 1796 ls [])) : W p l e room_1 s m #[Value.ref b] below meth c H locs cells slots Q (F0 m 736 ls []) := by
  have hx := E.1
  have hb := E.2.1
  have hI0 := hI
  have hE0 := hE
  have hB0 := hB
  have hA0 := hA
  have hM0 := hM
  refine lv_aload_n hx hb dL_law_736 rfl (lv_at hl 2 rfl) ?_
  refine lv_aload_n hx hb dL_law_737 rfl (lv_at hl 3 rfl) ?_
  refine lv_iload_n hx hb dL_law_738 rfl (lv_at hl 0 rfl) ?_
  refine lv_iconst (v := 1) hx hb dL_law_739 (by decide) ?_
  refine lv_iadd hx hb dL_law_740 ?_
  refine va_sld hx hb hX hbl hbA hI.S (lw_in (j := 1) (by decide) (by omega) hL) dL_law_741 ?_
  have h3 := (q_bd hI hmo (rfl : q_bn 12 24 = (0, 3))).2
  refine q_ci (q_runV (As := [.int (xs (nI i + 1).toNatClampNeg)]) (rest := []) E (hml.trans hl.1.symm) hI (c_X11_inGame l X σ xo ((xs (nI i + 1).toNatClampNeg)) hxo) kl_80 hxo ⟨rfl, by decide⟩ (show vwCl[10]? = some (RX11, TX11, 17) from rfl) rfl ⟨Nat.le_of_ble_eq_true rfl, Nat.le_of_ble_eq_true rfl⟩ hcs rfl (Nat.le_of_ble_eq_true rfl) dL_law_742) hI (by decide) (fun r1 σ1 H locs hp hk hI => ?_)
  obtain ⟨hex1, how1⟩ := hp
  have hp := True.intro
  have hB := lw_BK how1 hI.1 hxo hmo rfl rfl (how1.1 xo 5 (by rw [hxo]; rfl)) hB
  have hA1 := hA0.pre hal how1 rfl
  have hA := (hA.post hal how1 rfl).pre hal how1 rfl
  have hE := lw_EK hk (by decide) hxo hmo hE
  have hM := lw_kM hk hI.1 hmo (by decide) hM
  have hpp1 := hp
  have hMc := hM
  clear hp hk
  clear h3
  refine lv_pop hx hb dL_law_745 rfl ?_
  refine lv_aload_n hx hb dL_law_746 rfl (lv_at hl 1 rfl) ?_
  refine lv_aload_n hx hb dL_law_747 rfl (lv_at hl 3 rfl) ?_
  refine lv_iload_n hx hb dL_law_748 rfl (lv_at hl 0 rfl) ?_
  refine lv_iconst (v := 1) hx hb dL_law_749 (by decide) ?_
  refine lv_iadd hx hb dL_law_750 ?_
  refine va_sld hx hb hX hbl hbA hI.S (lw_in (j := 1) (by decide) (by omega) hL) dL_law_751 ?_
  have h3 := (q_bd hI hmo (rfl : q_bn 12 24 = (0, 3))).2
  refine q_ci (q_runV (As := [.int (xs (nI i + 1).toNatClampNeg)]) (rest := []) E (hml.trans hl.1.symm) hI (c_X12_inGame l X σ1 mo ((xs (nI i + 1).toNatClampNeg)) hmo hM.1.1) kl_83 hmo ⟨rfl, by decide⟩ (show vwCl[11]? = some (RX12, TX12, 46) from rfl) rfl ⟨Nat.le_of_ble_eq_true rfl, Nat.le_of_ble_eq_true rfl⟩ hcs rfl (Nat.le_of_ble_eq_true rfl) dL_law_752) hI (by decide) (fun r2 σ2 H locs hp hk hI => ?_)
  obtain ⟨hex2, how2⟩ := hp
  have hp := True.intro
  have hB := lw_BK how2 hI.1 hxo hmo rfl rfl (how2.1 xo 5 (by rw [hxo]; rfl)) hB
  have hA := (hA.post hal how2 rfl).pre hal how2 rfl
  have hE := lw_EK hk (by decide) hxo hmo hE
  have hM := lw_up (lw_kM hk hI.1 hmo (by decide) hM) (q_bd hI hmo (rfl : q_bn 12 24 = (0, 3))).2
  have hpp2 := hp
  clear hp hk
  clear h3
  refine lv_pop hx hb dL_law_755 rfl ?_
  refine lv_goto (tgt := 1796) hx hb dL_law_756 (by decide) ?_
  exact kk _ _ _ hI hM hE hB hA

set_option maxRecDepth 100000 in
set_option maxHeartbeats 4000000 in
theorem lw_c15 {p : Program} {l : Launch} {e : Env} {s : State} {m : MethodId} {below : List Frame} {meth : Method} {c : Code} {b L : Nat} {xs : Nat → Int32} {X : XW} {xo mo : Nat} {σ0 : ST} {cells slots : Nat} {Q : State → Prop} {lb : Nat → Nat} (hcl : tb_Cls X lb xo mo) (hal : al_C X lb xo mo) (E : q_E p c cL_law s m #[Value.ref b] RL X) (hX : va_X b L xs s s.heap) (hbl : b < s.heap.size) (hbA : ¬ q_reg X b) (hml : c.maxLocals = 4) (hxo : q_kd X xo = 11) (hmo : q_kd X mo = 12) (hcs : cells ≤ room_1.cells ∧ slots ≤ room_1.slots) (hL : L ≤ 3072) {i : Nat} (hi : i + 6 ≤ L) {n : Int} (hn : 0 ≤ n ∧ n ≤ 199000) {σ : ST} {H : Heap} {locs : List Loc} {ls : Array Slot} (hI : q_I X 0 σ0 s.heap locs σ H) (hM : m_M (m_c X σ mo) (σ.1 mo 24).toInt n) (hl : lv_has ls 4 [(3, .int (nI i)), (2, .ref mo), (1, .ref xo), (0, .ref b)]) (hE : lw_E xo mo σ) (hB : lw_B X xo mo σ) (hA : al_R X xo mo σ σ)
    (kk : ∀ (σ : ST) (H : Heap) (locs : List Loc), q_I X 0 σ0 s.heap locs σ H → m_M (m_c X σ mo) (σ.1 mo 24).toInt (n + 301) → lw_E xo mo σ → lw_B X xo mo σ → al_R X xo mo σ σ → W p l e room_1 s m #[Value.ref b] below meth c H locs cells slots Q (F0 m 1796 ls [])) : W p l e room_1 s m #[Value.ref b] below meth c H locs cells slots Q (F0 m 759 ls []) := by
  have hx := E.1
  have hb := E.2.1
  have hI0 := hI
  have hE0 := hE
  have hB0 := hB
  have hA0 := hA
  have hM0 := hM
  refine lv_aload_n hx hb dL_law_759 rfl (lv_at hl 2 rfl) ?_
  refine lv_aload_n hx hb dL_law_760 rfl (lv_at hl 3 rfl) ?_
  refine lv_iload_n hx hb dL_law_761 rfl (lv_at hl 0 rfl) ?_
  refine lv_iconst (v := 1) hx hb dL_law_762 (by decide) ?_
  refine lv_iadd hx hb dL_law_763 ?_
  refine va_sld hx hb hX hbl hbA hI.S (lw_in (j := 1) (by decide) (by omega) hL) dL_law_764 ?_
  refine lv_aload_n hx hb dL_law_765 rfl (lv_at hl 3 rfl) ?_
  refine lv_iload_n hx hb dL_law_766 rfl (lv_at hl 0 rfl) ?_
  refine lv_iconst (v := 2) hx hb dL_law_767 (by decide) ?_
  refine lv_iadd hx hb dL_law_768 ?_
  refine va_sld hx hb hX hbl hbA hI.S (lw_in (j := 2) (by decide) (by omega) hL) dL_law_769 ?_
  have h3 := (q_bd hI hmo (rfl : q_bn 12 24 = (0, 3))).2
  refine q_ci (q_runV (As := [.int (xs (nI i + 1).toNatClampNeg), .int (xs (nI i + 2).toNatClampNeg)]) (rest := []) E (hml.trans hl.1.symm) hI (c_X11_laying l X σ xo ((xs (nI i + 1).toNatClampNeg)) ((xs (nI i + 2).toNatClampNeg)) hxo) kl_84 hxo ⟨rfl, by decide⟩ (show vwCl[10]? = some (RX11, TX11, 17) from rfl) rfl ⟨Nat.le_of_ble_eq_true rfl, Nat.le_of_ble_eq_true rfl⟩ hcs rfl (Nat.le_of_ble_eq_true rfl) dL_law_770) hI (by decide) (fun r1 σ1 H locs hp hk hI => ?_)
  obtain ⟨hex1, how1⟩ := hp
  have hp := True.intro
  have hB := lw_BK how1 hI.1 hxo hmo rfl rfl (how1.1 xo 5 (by rw [hxo]; rfl)) hB
  have hA1 := hA0.pre hal how1 rfl
  have hA := (hA.post hal how1 rfl).pre hal how1 rfl
  have hE := lw_EK hk (by decide) hxo hmo hE
  have hM := lw_kM hk hI.1 hmo (by decide) hM
  have hpp1 := hp
  have hMc := hM
  clear hp hk
  clear h3
  refine lv_aload_n hx hb dL_law_773 rfl (lv_at hl 1 rfl) ?_
  refine lv_aload_n hx hb dL_law_774 rfl (lv_at hl 3 rfl) ?_
  refine lv_iload_n hx hb dL_law_775 rfl (lv_at hl 0 rfl) ?_
  refine lv_iconst (v := 1) hx hb dL_law_776 (by decide) ?_
  refine lv_iadd hx hb dL_law_777 ?_
  refine va_sld hx hb hX hbl hbA hI.S (lw_in (j := 1) (by decide) (by omega) hL) dL_law_778 ?_
  refine lv_aload_n hx hb dL_law_779 rfl (lv_at hl 3 rfl) ?_
  refine lv_iload_n hx hb dL_law_780 rfl (lv_at hl 0 rfl) ?_
  refine lv_iconst (v := 2) hx hb dL_law_781 (by decide) ?_
  refine lv_iadd hx hb dL_law_782 ?_
  refine va_sld hx hb hX hbl hbA hI.S (lw_in (j := 2) (by decide) (by omega) hL) dL_law_783 ?_
  have h3 := (q_bd hI hmo (rfl : q_bn 12 24 = (0, 3))).2
  refine q_ci (q_runV (As := [.int (xs (nI i + 1).toNatClampNeg), .int (xs (nI i + 2).toNatClampNeg)]) (rest := [.int r1]) E (hml.trans hl.1.symm) hI (c_X12_laying l X σ1 mo ((xs (nI i + 1).toNatClampNeg)) ((xs (nI i + 2).toNatClampNeg)) hmo hM.1.1) kl_87 hmo ⟨rfl, by decide⟩ (show vwCl[11]? = some (RX12, TX12, 46) from rfl) rfl ⟨Nat.le_of_ble_eq_true rfl, Nat.le_of_ble_eq_true rfl⟩ hcs rfl (Nat.le_of_ble_eq_true rfl) dL_law_784) hI (by decide) (fun r2 σ2 H locs hp hk hI => ?_)
  obtain ⟨hex2, how2⟩ := hp
  have hp := True.intro
  have hB := lw_BK how2 hI.1 hxo hmo rfl rfl (how2.1 xo 5 (by rw [hxo]; rfl)) hB
  have hO := lw_Aob hal (ob_laying hal hA1 hMc ((xs (nI i + 1).toNatClampNeg)) ((xs (nI i + 2).toNatClampNeg))) hex1 hex2 how2 rfl
  have hA := (hA.post hal how2 rfl).pre hal how2 rfl
  have hE := lw_EK hk (by decide) hxo hmo hE
  have hM := lw_up (lw_kM hk hI.1 hmo (by decide) hM) (q_bd hI hmo (rfl : q_bn 12 24 = (0, 3))).2
  have hpp2 := hp
  clear hp hk
  clear h3
  exact lv_icmp_eq (tgt := 1796) hx hb dL_law_787 (by decide) (fun _ => kk _ _ _ hI hM hE hB hA) (fun q => absurd (hO.1) q)

set_option maxRecDepth 100000 in
set_option maxHeartbeats 4000000 in
theorem lw_c16 {p : Program} {l : Launch} {e : Env} {s : State} {m : MethodId} {below : List Frame} {meth : Method} {c : Code} {b L : Nat} {xs : Nat → Int32} {X : XW} {xo mo : Nat} {σ0 : ST} {cells slots : Nat} {Q : State → Prop} {lb : Nat → Nat} (hcl : tb_Cls X lb xo mo) (hal : al_C X lb xo mo) (E : q_E p c cL_law s m #[Value.ref b] RL X) (hX : va_X b L xs s s.heap) (hbl : b < s.heap.size) (hbA : ¬ q_reg X b) (hml : c.maxLocals = 4) (hxo : q_kd X xo = 11) (hmo : q_kd X mo = 12) (hcs : cells ≤ room_1.cells ∧ slots ≤ room_1.slots) (hL : L ≤ 3072) {i : Nat} (hi : i + 6 ≤ L) {n : Int} (hn : 0 ≤ n ∧ n ≤ 199000) {σ : ST} {H : Heap} {locs : List Loc} {ls : Array Slot} (hI : q_I X 0 σ0 s.heap locs σ H) (hM : m_M (m_c X σ mo) (σ.1 mo 24).toInt n) (hl : lv_has ls 4 [(3, .int (nI i)), (2, .ref mo), (1, .ref xo), (0, .ref b)]) (hE : lw_E xo mo σ) (hB : lw_B X xo mo σ) (hA : al_R X xo mo σ σ)
    (kk : ∀ (σ : ST) (H : Heap) (locs : List Loc), q_I X 0 σ0 s.heap locs σ H → m_M (m_c X σ mo) (σ.1 mo 24).toInt (n + 301) → lw_E xo mo σ → lw_B X xo mo σ → al_R X xo mo σ σ → W p l e room_1 s m #[Value.ref b] below meth c H locs cells slots Q (F0 m 1796 ls [])) : W p l e room_1 s m #[Value.ref b] below meth c H locs cells slots Q (F0 m 792 ls []) := by
  have hx := E.1
  have hb := E.2.1
  have hI0 := hI
  have hE0 := hE
  have hB0 := hB
  have hA0 := hA
  have hM0 := hM
  refine lv_aload_n hx hb dL_law_792 rfl (lv_at hl 2 rfl) ?_
  refine lv_aload_n hx hb dL_law_793 rfl (lv_at hl 3 rfl) ?_
  refine lv_iload_n hx hb dL_law_794 rfl (lv_at hl 0 rfl) ?_
  refine lv_iconst (v := 1) hx hb dL_law_795 (by decide) ?_
  refine lv_iadd hx hb dL_law_796 ?_
  refine va_sld hx hb hX hbl hbA hI.S (lw_in (j := 1) (by decide) (by omega) hL) dL_law_797 ?_
  refine lv_aload_n hx hb dL_law_798 rfl (lv_at hl 3 rfl) ?_
  refine lv_iload_n hx hb dL_law_799 rfl (lv_at hl 0 rfl) ?_
  refine lv_iconst (v := 2) hx hb dL_law_800 (by decide) ?_
  refine lv_iadd hx hb dL_law_801 ?_
  refine va_sld hx hb hX hbl hbA hI.S (lw_in (j := 2) (by decide) (by omega) hL) dL_law_802 ?_
  have h3 := (q_bd hI hmo (rfl : q_bn 12 24 = (0, 3))).2
  refine q_ci (q_runV (As := [.int (xs (nI i + 1).toNatClampNeg), .int (xs (nI i + 2).toNatClampNeg)]) (rest := []) E (hml.trans hl.1.symm) hI (c_X11_cardOf l X σ xo ((xs (nI i + 1).toNatClampNeg)) ((xs (nI i + 2).toNatClampNeg)) hxo) kl_88 hxo ⟨rfl, by decide⟩ (show vwCl[10]? = some (RX11, TX11, 17) from rfl) rfl ⟨Nat.le_of_ble_eq_true rfl, Nat.le_of_ble_eq_true rfl⟩ hcs rfl (Nat.le_of_ble_eq_true rfl) dL_law_803) hI (by decide) (fun r1 σ1 H locs hp hk hI => ?_)
  obtain ⟨hex1, how1⟩ := hp
  have hp := True.intro
  have hB := lw_BK how1 hI.1 hxo hmo rfl rfl (how1.1 xo 5 (by rw [hxo]; rfl)) hB
  have hA1 := hA0.pre hal how1 rfl
  have hA := (hA.post hal how1 rfl).pre hal how1 rfl
  have hE := lw_EK hk (by decide) hxo hmo hE
  have hM := lw_kM hk hI.1 hmo (by decide) hM
  have hpp1 := hp
  have hMc := hM
  clear hp hk
  clear h3
  refine lv_pop hx hb dL_law_806 rfl ?_
  refine lv_aload_n hx hb dL_law_807 rfl (lv_at hl 1 rfl) ?_
  refine lv_aload_n hx hb dL_law_808 rfl (lv_at hl 3 rfl) ?_
  refine lv_iload_n hx hb dL_law_809 rfl (lv_at hl 0 rfl) ?_
  refine lv_iconst (v := 1) hx hb dL_law_810 (by decide) ?_
  refine lv_iadd hx hb dL_law_811 ?_
  refine va_sld hx hb hX hbl hbA hI.S (lw_in (j := 1) (by decide) (by omega) hL) dL_law_812 ?_
  refine lv_aload_n hx hb dL_law_813 rfl (lv_at hl 3 rfl) ?_
  refine lv_iload_n hx hb dL_law_814 rfl (lv_at hl 0 rfl) ?_
  refine lv_iconst (v := 2) hx hb dL_law_815 (by decide) ?_
  refine lv_iadd hx hb dL_law_816 ?_
  refine va_sld hx hb hX hbl hbA hI.S (lw_in (j := 2) (by decide) (by omega) hL) dL_law_817 ?_
  have h3 := (q_bd hI hmo (rfl : q_bn 12 24 = (0, 3))).2
  refine q_ci (q_runV (As := [.int (xs (nI i + 1).toNatClampNeg), .int (xs (nI i + 2).toNatClampNeg)]) (rest := []) E (hml.trans hl.1.symm) hI (c_X12_cardOf l X σ1 mo ((xs (nI i + 1).toNatClampNeg)) ((xs (nI i + 2).toNatClampNeg)) hmo hM.1.1) kl_91 hmo ⟨rfl, by decide⟩ (show vwCl[11]? = some (RX12, TX12, 46) from rfl) rfl ⟨Nat.le_of_ble_eq_true rfl, Nat.le_of_ble_eq_true rfl⟩ hcs rfl (Nat.le_of_ble_eq_true rfl) dL_law_818) hI (by decide) (fun r2 σ2 H locs hp hk hI => ?_)
  obtain ⟨hex2, how2⟩ := hp
  have hp := True.intro
  have hB := lw_BK how2 hI.1 hxo hmo rfl rfl (how2.1 xo 5 (by rw [hxo]; rfl)) hB
  have hA := (hA.post hal how2 rfl).pre hal how2 rfl
  have hE := lw_EK hk (by decide) hxo hmo hE
  have hM := lw_up (lw_kM hk hI.1 hmo (by decide) hM) (q_bd hI hmo (rfl : q_bn 12 24 = (0, 3))).2
  have hpp2 := hp
  clear hp hk
  clear h3
  refine lv_pop hx hb dL_law_821 rfl ?_
  refine lv_goto (tgt := 1796) hx hb dL_law_822 (by decide) ?_
  exact kk _ _ _ hI hM hE hB hA

set_option maxRecDepth 100000 in
set_option maxHeartbeats 4000000 in
theorem lw_c17 {p : Program} {l : Launch} {e : Env} {s : State} {m : MethodId} {below : List Frame} {meth : Method} {c : Code} {b L : Nat} {xs : Nat → Int32} {X : XW} {xo mo : Nat} {σ0 : ST} {cells slots : Nat} {Q : State → Prop} {lb : Nat → Nat} (hcl : tb_Cls X lb xo mo) (hal : al_C X lb xo mo) (E : q_E p c cL_law s m #[Value.ref b] RL X) (hX : va_X b L xs s s.heap) (hbl : b < s.heap.size) (hbA : ¬ q_reg X b) (hml : c.maxLocals = 4) (hxo : q_kd X xo = 11) (hmo : q_kd X mo = 12) (hcs : cells ≤ room_1.cells ∧ slots ≤ room_1.slots) (hL : L ≤ 3072) {i : Nat} (hi : i + 6 ≤ L) {n : Int} (hn : 0 ≤ n ∧ n ≤ 199000) {σ : ST} {H : Heap} {locs : List Loc} {ls : Array Slot} (hI : q_I X 0 σ0 s.heap locs σ H) (hM : m_M (m_c X σ mo) (σ.1 mo 24).toInt n) (hl : lv_has ls 4 [(3, .int (nI i)), (2, .ref mo), (1, .ref xo), (0, .ref b)]) (hE : lw_E xo mo σ) (hB : lw_B X xo mo σ) (hA : al_R X xo mo σ σ)
    (kk : ∀ (σ : ST) (H : Heap) (locs : List Loc), q_I X 0 σ0 s.heap locs σ H → m_M (m_c X σ mo) (σ.1 mo 24).toInt (n + 301) → lw_E xo mo σ → lw_B X xo mo σ → al_R X xo mo σ σ → W p l e room_1 s m #[Value.ref b] below meth c H locs cells slots Q (F0 m 1796 ls [])) : W p l e room_1 s m #[Value.ref b] below meth c H locs cells slots Q (F0 m 825 ls []) := by
  have hx := E.1
  have hb := E.2.1
  have hI0 := hI
  have hE0 := hE
  have hB0 := hB
  have hA0 := hA
  have hM0 := hM
  refine lv_aload_n hx hb dL_law_825 rfl (lv_at hl 2 rfl) ?_
  refine lv_aload_n hx hb dL_law_826 rfl (lv_at hl 3 rfl) ?_
  refine lv_iload_n hx hb dL_law_827 rfl (lv_at hl 0 rfl) ?_
  refine lv_iconst (v := 1) hx hb dL_law_828 (by decide) ?_
  refine lv_iadd hx hb dL_law_829 ?_
  refine va_sld hx hb hX hbl hbA hI.S (lw_in (j := 1) (by decide) (by omega) hL) dL_law_830 ?_
  refine lv_aload_n hx hb dL_law_831 rfl (lv_at hl 3 rfl) ?_
  refine lv_iload_n hx hb dL_law_832 rfl (lv_at hl 0 rfl) ?_
  refine lv_iconst (v := 2) hx hb dL_law_833 (by decide) ?_
  refine lv_iadd hx hb dL_law_834 ?_
  refine va_sld hx hb hX hbl hbA hI.S (lw_in (j := 2) (by decide) (by omega) hL) dL_law_835 ?_
  have h3 := (q_bd hI hmo (rfl : q_bn 12 24 = (0, 3))).2
  refine q_ci (q_runV (As := [.int (xs (nI i + 1).toNatClampNeg), .int (xs (nI i + 2).toNatClampNeg)]) (rest := []) E (hml.trans hl.1.symm) hI (c_X11_copyHand l X σ xo ((xs (nI i + 1).toNatClampNeg)) ((xs (nI i + 2).toNatClampNeg)) hxo) kl_92 hxo ⟨rfl, by decide⟩ (show vwCl[10]? = some (RX11, TX11, 17) from rfl) rfl ⟨Nat.le_of_ble_eq_true rfl, Nat.le_of_ble_eq_true rfl⟩ hcs rfl (Nat.le_of_ble_eq_true rfl) dL_law_836) hI (by decide) (fun r1 σ1 H locs hp hk hI => ?_)
  obtain ⟨hex1, how1⟩ := hp
  have hp := True.intro
  have hB := lw_BK how1 hI.1 hxo hmo rfl rfl (how1.1 xo 5 (by rw [hxo]; rfl)) hB
  have hA1 := hA0.pre hal how1 rfl
  have hA := (hA.post hal how1 rfl).pre hal how1 rfl
  have hE := lw_EK hk (by decide) hxo hmo hE
  have hM := lw_kM hk hI.1 hmo (by decide) hM
  have hpp1 := hp
  have hMc := hM
  clear hp hk
  clear h3
  refine lv_pop hx hb dL_law_839 rfl ?_
  refine lv_aload_n hx hb dL_law_840 rfl (lv_at hl 1 rfl) ?_
  refine lv_aload_n hx hb dL_law_841 rfl (lv_at hl 3 rfl) ?_
  refine lv_iload_n hx hb dL_law_842 rfl (lv_at hl 0 rfl) ?_
  refine lv_iconst (v := 1) hx hb dL_law_843 (by decide) ?_
  refine lv_iadd hx hb dL_law_844 ?_
  refine va_sld hx hb hX hbl hbA hI.S (lw_in (j := 1) (by decide) (by omega) hL) dL_law_845 ?_
  refine lv_aload_n hx hb dL_law_846 rfl (lv_at hl 3 rfl) ?_
  refine lv_iload_n hx hb dL_law_847 rfl (lv_at hl 0 rfl) ?_
  refine lv_iconst (v := 2) hx hb dL_law_848 (by decide) ?_
  refine lv_iadd hx hb dL_law_849 ?_
  refine va_sld hx hb hX hbl hbA hI.S (lw_in (j := 2) (by decide) (by omega) hL) dL_law_850 ?_
  have h3 := (q_bd hI hmo (rfl : q_bn 12 24 = (0, 3))).2
  refine q_ci (q_runV (As := [.int (xs (nI i + 1).toNatClampNeg), .int (xs (nI i + 2).toNatClampNeg)]) (rest := []) E (hml.trans hl.1.symm) hI (c_X12_copyHand l X σ1 mo ((xs (nI i + 1).toNatClampNeg)) ((xs (nI i + 2).toNatClampNeg)) hmo hM.1.1) kl_95 hmo ⟨rfl, by decide⟩ (show vwCl[11]? = some (RX12, TX12, 46) from rfl) rfl ⟨Nat.le_of_ble_eq_true rfl, Nat.le_of_ble_eq_true rfl⟩ hcs rfl (Nat.le_of_ble_eq_true rfl) dL_law_851) hI (by decide) (fun r2 σ2 H locs hp hk hI => ?_)
  obtain ⟨hex2, how2⟩ := hp
  have hp := True.intro
  have hB := lw_BK how2 hI.1 hxo hmo rfl rfl (how2.1 xo 5 (by rw [hxo]; rfl)) hB
  have hA := (hA.post hal how2 rfl).pre hal how2 rfl
  have hE := lw_EK hk (by decide) hxo hmo hE
  have hM := lw_up (lw_kM hk hI.1 hmo (by decide) hM) (q_bd hI hmo (rfl : q_bn 12 24 = (0, 3))).2
  have hpp2 := hp
  clear hp hk
  clear h3
  refine lv_pop hx hb dL_law_854 rfl ?_
  refine lv_goto (tgt := 1796) hx hb dL_law_855 (by decide) ?_
  exact kk _ _ _ hI hM hE hB hA

set_option maxRecDepth 100000 in
set_option maxHeartbeats 4000000 in
theorem lw_c18 {p : Program} {l : Launch} {e : Env} {s : State} {m : MethodId} {below : List Frame} {meth : Method} {c : Code} {b L : Nat} {xs : Nat → Int32} {X : XW} {xo mo : Nat} {σ0 : ST} {cells slots : Nat} {Q : State → Prop} {lb : Nat → Nat} (hcl : tb_Cls X lb xo mo) (hal : al_C X lb xo mo) (E : q_E p c cL_law s m #[Value.ref b] RL X) (hX : va_X b L xs s s.heap) (hbl : b < s.heap.size) (hbA : ¬ q_reg X b) (hml : c.maxLocals = 4) (hxo : q_kd X xo = 11) (hmo : q_kd X mo = 12) (hcs : cells ≤ room_1.cells ∧ slots ≤ room_1.slots) (hL : L ≤ 3072) {i : Nat} (hi : i + 6 ≤ L) {n : Int} (hn : 0 ≤ n ∧ n ≤ 199000) {σ : ST} {H : Heap} {locs : List Loc} {ls : Array Slot} (hI : q_I X 0 σ0 s.heap locs σ H) (hM : m_M (m_c X σ mo) (σ.1 mo 24).toInt n) (hl : lv_has ls 4 [(3, .int (nI i)), (2, .ref mo), (1, .ref xo), (0, .ref b)]) (hE : lw_E xo mo σ) (hB : lw_B X xo mo σ) (hA : al_R X xo mo σ σ)
    (kk : ∀ (σ : ST) (H : Heap) (locs : List Loc), q_I X 0 σ0 s.heap locs σ H → m_M (m_c X σ mo) (σ.1 mo 24).toInt (n + 301) → lw_E xo mo σ → lw_B X xo mo σ → al_R X xo mo σ σ → W p l e room_1 s m #[Value.ref b] below meth c H locs cells slots Q (F0 m 1796 ls [])) : W p l e room_1 s m #[Value.ref b] below meth c H locs cells slots Q (F0 m 858 ls []) := by
  have hx := E.1
  have hb := E.2.1
  have hI0 := hI
  have hE0 := hE
  have hB0 := hB
  have hA0 := hA
  have hM0 := hM
  refine lv_aload_n hx hb dL_law_858 rfl (lv_at hl 2 rfl) ?_
  refine lv_aload_n hx hb dL_law_859 rfl (lv_at hl 3 rfl) ?_
  refine lv_iload_n hx hb dL_law_860 rfl (lv_at hl 0 rfl) ?_
  refine lv_iconst (v := 1) hx hb dL_law_861 (by decide) ?_
  refine lv_iadd hx hb dL_law_862 ?_
  refine va_sld hx hb hX hbl hbA hI.S (lw_in (j := 1) (by decide) (by omega) hL) dL_law_863 ?_
  refine lv_aload_n hx hb dL_law_864 rfl (lv_at hl 3 rfl) ?_
  refine lv_iload_n hx hb dL_law_865 rfl (lv_at hl 0 rfl) ?_
  refine lv_iconst (v := 2) hx hb dL_law_866 (by decide) ?_
  refine lv_iadd hx hb dL_law_867 ?_
  refine va_sld hx hb hX hbl hbA hI.S (lw_in (j := 2) (by decide) (by omega) hL) dL_law_868 ?_
  refine lv_aload_n hx hb dL_law_869 rfl (lv_at hl 3 rfl) ?_
  refine lv_iload_n hx hb dL_law_870 rfl (lv_at hl 0 rfl) ?_
  refine lv_iconst (v := 3) hx hb dL_law_871 (by decide) ?_
  refine lv_iadd hx hb dL_law_872 ?_
  refine va_sld hx hb hX hbl hbA hI.S (lw_in (j := 3) (by decide) (by omega) hL) dL_law_873 ?_
  refine lv_aload_n hx hb dL_law_874 rfl (lv_at hl 3 rfl) ?_
  refine lv_iload_n hx hb dL_law_875 rfl (lv_at hl 0 rfl) ?_
  refine lv_iconst (v := 4) hx hb dL_law_876 (by decide) ?_
  refine lv_iadd hx hb dL_law_877 ?_
  refine va_sld hx hb hX hbl hbA hI.S (lw_in (j := 4) (by decide) (by omega) hL) dL_law_878 ?_
  have h3 := (q_bd hI hmo (rfl : q_bn 12 24 = (0, 3))).2
  refine q_ci (q_runV (As := [.int (xs (nI i + 1).toNatClampNeg), .int (xs (nI i + 2).toNatClampNeg), .int (xs (nI i + 3).toNatClampNeg), .int (xs (nI i + 4).toNatClampNeg)]) (rest := []) E (hml.trans hl.1.symm) hI (c_X11_lay l X σ xo ((xs (nI i + 1).toNatClampNeg)) ((xs (nI i + 2).toNatClampNeg)) ((xs (nI i + 3).toNatClampNeg)) ((xs (nI i + 4).toNatClampNeg)) hxo) kl_96 hxo ⟨rfl, by decide⟩ (show vwCl[10]? = some (RX11, TX11, 17) from rfl) rfl ⟨Nat.le_of_ble_eq_true rfl, Nat.le_of_ble_eq_true rfl⟩ hcs rfl (Nat.le_of_ble_eq_true rfl) dL_law_879) hI (by decide) (fun r1 σ1 H locs hp hk hI => ?_)
  obtain ⟨hex1, how1⟩ := hp
  have hp := True.intro
  have hB := lw_BK how1 hI.1 hxo hmo rfl rfl (how1.1 xo 5 (by rw [hxo]; rfl)) hB
  have hA1 := hA0.pre hal how1 rfl
  have hE := lw_EK hk (by decide) hxo hmo hE
  have hM := lw_kM hk hI.1 hmo (by decide) hM
  have hpp1 := hp
  have hMc := hM
  clear hp hk
  clear h3
  refine lv_pop hx hb dL_law_882 rfl ?_
  refine lv_aload_n hx hb dL_law_883 rfl (lv_at hl 1 rfl) ?_
  refine lv_aload_n hx hb dL_law_884 rfl (lv_at hl 3 rfl) ?_
  refine lv_iload_n hx hb dL_law_885 rfl (lv_at hl 0 rfl) ?_
  refine lv_iconst (v := 1) hx hb dL_law_886 (by decide) ?_
  refine lv_iadd hx hb dL_law_887 ?_
  refine va_sld hx hb hX hbl hbA hI.S (lw_in (j := 1) (by decide) (by omega) hL) dL_law_888 ?_
  refine lv_aload_n hx hb dL_law_889 rfl (lv_at hl 3 rfl) ?_
  refine lv_iload_n hx hb dL_law_890 rfl (lv_at hl 0 rfl) ?_
  refine lv_iconst (v := 2) hx hb dL_law_891 (by decide) ?_
  refine lv_iadd hx hb dL_law_892 ?_
  refine va_sld hx hb hX hbl hbA hI.S (lw_in (j := 2) (by decide) (by omega) hL) dL_law_893 ?_
  refine lv_aload_n hx hb dL_law_894 rfl (lv_at hl 3 rfl) ?_
  refine lv_iload_n hx hb dL_law_895 rfl (lv_at hl 0 rfl) ?_
  refine lv_iconst (v := 3) hx hb dL_law_896 (by decide) ?_
  refine lv_iadd hx hb dL_law_897 ?_
  refine va_sld hx hb hX hbl hbA hI.S (lw_in (j := 3) (by decide) (by omega) hL) dL_law_898 ?_
  refine lv_aload_n hx hb dL_law_899 rfl (lv_at hl 3 rfl) ?_
  refine lv_iload_n hx hb dL_law_900 rfl (lv_at hl 0 rfl) ?_
  refine lv_iconst (v := 4) hx hb dL_law_901 (by decide) ?_
  refine lv_iadd hx hb dL_law_902 ?_
  refine va_sld hx hb hX hbl hbA hI.S (lw_in (j := 4) (by decide) (by omega) hL) dL_law_903 ?_
  have h3 := (q_bd hI hmo (rfl : q_bn 12 24 = (0, 3))).2
  refine q_ci (q_runV (As := [.int (xs (nI i + 1).toNatClampNeg), .int (xs (nI i + 2).toNatClampNeg), .int (xs (nI i + 3).toNatClampNeg), .int (xs (nI i + 4).toNatClampNeg)]) (rest := []) E (hml.trans hl.1.symm) hI (c_X12_lay l X σ1 mo ((xs (nI i + 1).toNatClampNeg)) ((xs (nI i + 2).toNatClampNeg)) ((xs (nI i + 3).toNatClampNeg)) ((xs (nI i + 4).toNatClampNeg)) n hmo hM.1.1 hM.1.2 (by omega)) kl_100 hmo ⟨rfl, by decide⟩ (show vwCl[11]? = some (RX12, TX12, 46) from rfl) rfl ⟨Nat.le_of_ble_eq_true rfl, Nat.le_of_ble_eq_true rfl⟩ hcs rfl (Nat.le_of_ble_eq_true rfl) dL_law_904) hI (by decide) (fun r2 σ2 H locs hp hk hI => ?_)
  obtain ⟨pq0, pq1, pq2, hex2, how2⟩ := hp
  have hp := And.intro pq0 (And.intro pq1 pq2)
  have hB := lw_BK how2 hI.1 hxo hmo rfl rfl (how2.1 xo 5 (by rw [hxo]; rfl)) hB
  have hO := lw_Aob hal (ob_lay hal hA1 hMc ((xs (nI i + 1).toNatClampNeg)) ((xs (nI i + 2).toNatClampNeg)) ((xs (nI i + 3).toNatClampNeg)) ((xs (nI i + 4).toNatClampNeg))) hex1 hex2 how2 rfl
  have hA := hO.2
  have hE := lw_EK hk (by decide) hxo hmo hE
  have hM := lw_wr (hk mo 24 (by rw [hmo]; decide)) hp.1 hp.2.1 hp.2.2 hM h3 (by omega)
  have hpp2 := hp
  clear hp hk
  clear h3
  refine lv_pop hx hb dL_law_907 rfl ?_
  refine lv_goto (tgt := 1796) hx hb dL_law_908 (by decide) ?_
  exact kk _ _ _ hI hM hE hB hA

set_option maxRecDepth 100000 in
set_option maxHeartbeats 4000000 in
theorem lw_c19 {p : Program} {l : Launch} {e : Env} {s : State} {m : MethodId} {below : List Frame} {meth : Method} {c : Code} {b L : Nat} {xs : Nat → Int32} {X : XW} {xo mo : Nat} {σ0 : ST} {cells slots : Nat} {Q : State → Prop} {lb : Nat → Nat} (hcl : tb_Cls X lb xo mo) (hal : al_C X lb xo mo) (E : q_E p c cL_law s m #[Value.ref b] RL X) (hX : va_X b L xs s s.heap) (hbl : b < s.heap.size) (hbA : ¬ q_reg X b) (hml : c.maxLocals = 4) (hxo : q_kd X xo = 11) (hmo : q_kd X mo = 12) (hcs : cells ≤ room_1.cells ∧ slots ≤ room_1.slots) (hL : L ≤ 3072) {i : Nat} (hi : i + 6 ≤ L) {n : Int} (hn : 0 ≤ n ∧ n ≤ 199000) {σ : ST} {H : Heap} {locs : List Loc} {ls : Array Slot} (hI : q_I X 0 σ0 s.heap locs σ H) (hM : m_M (m_c X σ mo) (σ.1 mo 24).toInt n) (hl : lv_has ls 4 [(3, .int (nI i)), (2, .ref mo), (1, .ref xo), (0, .ref b)]) (hE : lw_E xo mo σ) (hB : lw_B X xo mo σ) (hA : al_R X xo mo σ σ)
    (kk : ∀ (σ : ST) (H : Heap) (locs : List Loc), q_I X 0 σ0 s.heap locs σ H → m_M (m_c X σ mo) (σ.1 mo 24).toInt (n + 301) → lw_E xo mo σ → lw_B X xo mo σ → al_R X xo mo σ σ → W p l e room_1 s m #[Value.ref b] below meth c H locs cells slots Q (F0 m 1796 ls [])) : W p l e room_1 s m #[Value.ref b] below meth c H locs cells slots Q (F0 m 911 ls []) := by
  have hx := E.1
  have hb := E.2.1
  have hI0 := hI
  have hE0 := hE
  have hB0 := hB
  have hA0 := hA
  have hM0 := hM
  refine lv_aload_n hx hb dL_law_911 rfl (lv_at hl 2 rfl) ?_
  have h3 := (q_bd hI hmo (rfl : q_bn 12 24 = (0, 3))).2
  refine q_ci (q_runV (As := []) (rest := []) E (hml.trans hl.1.symm) hI (c_X11_leave l X σ xo hxo) kl_101 hxo ⟨rfl, by decide⟩ (show vwCl[10]? = some (RX11, TX11, 17) from rfl) rfl ⟨Nat.le_of_ble_eq_true rfl, Nat.le_of_ble_eq_true rfl⟩ hcs rfl (Nat.le_of_ble_eq_true rfl) dL_law_912) hI (by decide) (fun r1 σ1 H locs hp hk hI => ?_)
  obtain ⟨hex1, how1⟩ := hp
  have hp := True.intro
  have hB := lw_BK how1 hI.1 hxo hmo rfl rfl (how1.1 xo 5 (by rw [hxo]; rfl)) hB
  have hA1 := hA0.pre hal how1 rfl
  have hE := lw_EK hk (by decide) hxo hmo hE
  have hM := lw_kM hk hI.1 hmo (by decide) hM
  have hpp1 := hp
  have hMc := hM
  clear hp hk
  clear h3
  refine lv_pop hx hb dL_law_915 rfl ?_
  refine lv_aload_n hx hb dL_law_916 rfl (lv_at hl 1 rfl) ?_
  have h3 := (q_bd hI hmo (rfl : q_bn 12 24 = (0, 3))).2
  refine q_ci (q_runV (As := []) (rest := []) E (hml.trans hl.1.symm) hI (c_X12_leave l X σ1 mo n hmo hM.1.1 hM.1.2 (by omega)) kl_104 hmo ⟨rfl, by decide⟩ (show vwCl[11]? = some (RX12, TX12, 46) from rfl) rfl ⟨Nat.le_of_ble_eq_true rfl, Nat.le_of_ble_eq_true rfl⟩ hcs rfl (Nat.le_of_ble_eq_true rfl) dL_law_917) hI (by decide) (fun r2 σ2 H locs hp hk hI => ?_)
  obtain ⟨pq0, pq1, pq2, hex2, how2⟩ := hp
  have hp := And.intro pq0 (And.intro pq1 pq2)
  have hB := lw_BK how2 hI.1 hxo hmo rfl rfl (how2.1 xo 5 (by rw [hxo]; rfl)) hB
  have hO := lw_Aob hal (ob_leave hal hA1 hMc) hex1 hex2 how2 rfl
  have hA := hO.2
  have hE := lw_EK hk (by decide) hxo hmo hE
  have hM := lw_wr (hk mo 24 (by rw [hmo]; decide)) hp.1 hp.2.1 hp.2.2 hM h3 (by omega)
  have hpp2 := hp
  clear hp hk
  clear h3
  refine lv_pop hx hb dL_law_920 rfl ?_
  refine lv_goto (tgt := 1796) hx hb dL_law_921 (by decide) ?_
  exact kk _ _ _ hI hM hE hB hA

set_option maxRecDepth 100000 in
set_option maxHeartbeats 4000000 in
theorem lw_c20 {p : Program} {l : Launch} {e : Env} {s : State} {m : MethodId} {below : List Frame} {meth : Method} {c : Code} {b L : Nat} {xs : Nat → Int32} {X : XW} {xo mo : Nat} {σ0 : ST} {cells slots : Nat} {Q : State → Prop} {lb : Nat → Nat} (hcl : tb_Cls X lb xo mo) (hal : al_C X lb xo mo) (E : q_E p c cL_law s m #[Value.ref b] RL X) (hX : va_X b L xs s s.heap) (hbl : b < s.heap.size) (hbA : ¬ q_reg X b) (hml : c.maxLocals = 4) (hxo : q_kd X xo = 11) (hmo : q_kd X mo = 12) (hcs : cells ≤ room_1.cells ∧ slots ≤ room_1.slots) (hL : L ≤ 3072) {i : Nat} (hi : i + 6 ≤ L) {n : Int} (hn : 0 ≤ n ∧ n ≤ 199000) {σ : ST} {H : Heap} {locs : List Loc} {ls : Array Slot} (hI : q_I X 0 σ0 s.heap locs σ H) (hM : m_M (m_c X σ mo) (σ.1 mo 24).toInt n) (hl : lv_has ls 4 [(3, .int (nI i)), (2, .ref mo), (1, .ref xo), (0, .ref b)]) (hE : lw_E xo mo σ) (hB : lw_B X xo mo σ) (hA : al_R X xo mo σ σ)
    (kk : ∀ (σ : ST) (H : Heap) (locs : List Loc), q_I X 0 σ0 s.heap locs σ H → m_M (m_c X σ mo) (σ.1 mo 24).toInt (n + 301) → lw_E xo mo σ → lw_B X xo mo σ → al_R X xo mo σ σ → W p l e room_1 s m #[Value.ref b] below meth c H locs cells slots Q (F0 m 1796 ls [])) : W p l e room_1 s m #[Value.ref b] below meth c H locs cells slots Q (F0 m 924 ls []) := by
  have hx := E.1
  have hb := E.2.1
  have hI0 := hI
  have hE0 := hE
  have hB0 := hB
  have hA0 := hA
  have hM0 := hM
  refine lv_aload_n hx hb dL_law_924 rfl (lv_at hl 2 rfl) ?_
  refine lv_aload_n hx hb dL_law_925 rfl (lv_at hl 3 rfl) ?_
  refine lv_iload_n hx hb dL_law_926 rfl (lv_at hl 0 rfl) ?_
  refine lv_iconst (v := 1) hx hb dL_law_927 (by decide) ?_
  refine lv_iadd hx hb dL_law_928 ?_
  refine va_sld hx hb hX hbl hbA hI.S (lw_in (j := 1) (by decide) (by omega) hL) dL_law_929 ?_
  have h3 := (q_bd hI hmo (rfl : q_bn 12 24 = (0, 3))).2
  refine q_ci (q_runV (As := [.int (xs (nI i + 1).toNatClampNeg)]) (rest := []) E (hml.trans hl.1.symm) hI (c_X11_doubt l X σ xo ((xs (nI i + 1).toNatClampNeg)) hxo) kl_105 hxo ⟨rfl, by decide⟩ (show vwCl[10]? = some (RX11, TX11, 17) from rfl) rfl ⟨Nat.le_of_ble_eq_true rfl, Nat.le_of_ble_eq_true rfl⟩ hcs rfl (Nat.le_of_ble_eq_true rfl) dL_law_930) hI (by decide) (fun r1 σ1 H locs hp hk hI => ?_)
  obtain ⟨hex1, how1⟩ := hp
  have hp := True.intro
  have hB := lw_BK how1 hI.1 hxo hmo rfl rfl (how1.1 xo 5 (by rw [hxo]; rfl)) hB
  have hA1 := hA0.pre hal how1 rfl
  have hE := lw_EK hk (by decide) hxo hmo hE
  have hM := lw_kM hk hI.1 hmo (by decide) hM
  have hpp1 := hp
  have hMc := hM
  clear hp hk
  clear h3
  refine lv_pop hx hb dL_law_933 rfl ?_
  refine lv_aload_n hx hb dL_law_934 rfl (lv_at hl 1 rfl) ?_
  refine lv_aload_n hx hb dL_law_935 rfl (lv_at hl 3 rfl) ?_
  refine lv_iload_n hx hb dL_law_936 rfl (lv_at hl 0 rfl) ?_
  refine lv_iconst (v := 1) hx hb dL_law_937 (by decide) ?_
  refine lv_iadd hx hb dL_law_938 ?_
  refine va_sld hx hb hX hbl hbA hI.S (lw_in (j := 1) (by decide) (by omega) hL) dL_law_939 ?_
  have h3 := (q_bd hI hmo (rfl : q_bn 12 24 = (0, 3))).2
  refine q_ci (q_runV (As := [.int (xs (nI i + 1).toNatClampNeg)]) (rest := []) E (hml.trans hl.1.symm) hI (c_X12_doubt l X σ1 mo ((xs (nI i + 1).toNatClampNeg)) n hmo hM.1.1 hM.1.2 (by omega)) kl_108 hmo ⟨rfl, by decide⟩ (show vwCl[11]? = some (RX12, TX12, 46) from rfl) rfl ⟨Nat.le_of_ble_eq_true rfl, Nat.le_of_ble_eq_true rfl⟩ hcs rfl (Nat.le_of_ble_eq_true rfl) dL_law_940) hI (by decide) (fun r2 σ2 H locs hp hk hI => ?_)
  obtain ⟨pq0, pq1, pq2, hex2, how2⟩ := hp
  have hp := And.intro pq0 (And.intro pq1 pq2)
  have hB := lw_BK how2 hI.1 hxo hmo rfl rfl (how2.1 xo 5 (by rw [hxo]; rfl)) hB
  have hO := lw_Aob hal (ob_doubt hal hA1 hMc (by omega) ((xs (nI i + 1).toNatClampNeg))) hex1 hex2 how2 rfl
  have hA := hO.2
  have hE := lw_EK hk (by decide) hxo hmo hE
  have hM := lw_wr (hk mo 24 (by rw [hmo]; decide)) hp.1 hp.2.1 hp.2.2 hM h3 (by omega)
  have hpp2 := hp
  clear hp hk
  clear h3
  refine lv_pop hx hb dL_law_943 rfl ?_
  refine lv_goto (tgt := 1796) hx hb dL_law_944 (by decide) ?_
  exact kk _ _ _ hI hM hE hB hA

set_option maxRecDepth 100000 in
set_option maxHeartbeats 4000000 in
theorem lw_c21 {p : Program} {l : Launch} {e : Env} {s : State} {m : MethodId} {below : List Frame} {meth : Method} {c : Code} {b L : Nat} {xs : Nat → Int32} {X : XW} {xo mo : Nat} {σ0 : ST} {cells slots : Nat} {Q : State → Prop} {lb : Nat → Nat} (hcl : tb_Cls X lb xo mo) (hal : al_C X lb xo mo) (E : q_E p c cL_law s m #[Value.ref b] RL X) (hX : va_X b L xs s s.heap) (hbl : b < s.heap.size) (hbA : ¬ q_reg X b) (hml : c.maxLocals = 4) (hxo : q_kd X xo = 11) (hmo : q_kd X mo = 12) (hcs : cells ≤ room_1.cells ∧ slots ≤ room_1.slots) (hL : L ≤ 3072) {i : Nat} (hi : i + 6 ≤ L) {n : Int} (hn : 0 ≤ n ∧ n ≤ 199000) {σ : ST} {H : Heap} {locs : List Loc} {ls : Array Slot} (hI : q_I X 0 σ0 s.heap locs σ H) (hM : m_M (m_c X σ mo) (σ.1 mo 24).toInt n) (hl : lv_has ls 4 [(3, .int (nI i)), (2, .ref mo), (1, .ref xo), (0, .ref b)]) (hE : lw_E xo mo σ) (hB : lw_B X xo mo σ) (hA : al_R X xo mo σ σ)
    (kk : ∀ (σ : ST) (H : Heap) (locs : List Loc), q_I X 0 σ0 s.heap locs σ H → m_M (m_c X σ mo) (σ.1 mo 24).toInt (n + 301) → lw_E xo mo σ → lw_B X xo mo σ → al_R X xo mo σ σ → W p l e room_1 s m #[Value.ref b] below meth c H locs cells slots Q (F0 m 1796 ls [])) : W p l e room_1 s m #[Value.ref b] below meth c H locs cells slots Q (F0 m 947 ls []) := by
  have hx := E.1
  have hb := E.2.1
  have hI0 := hI
  have hE0 := hE
  have hB0 := hB
  have hA0 := hA
  have hM0 := hM
  refine lv_aload_n hx hb dL_law_947 rfl (lv_at hl 2 rfl) ?_
  refine lv_aload_n hx hb dL_law_948 rfl (lv_at hl 3 rfl) ?_
  refine lv_iload_n hx hb dL_law_949 rfl (lv_at hl 0 rfl) ?_
  refine lv_iconst (v := 1) hx hb dL_law_950 (by decide) ?_
  refine lv_iadd hx hb dL_law_951 ?_
  refine va_sld hx hb hX hbl hbA hI.S (lw_in (j := 1) (by decide) (by omega) hL) dL_law_952 ?_
  refine lv_aload_n hx hb dL_law_953 rfl (lv_at hl 3 rfl) ?_
  refine lv_iload_n hx hb dL_law_954 rfl (lv_at hl 0 rfl) ?_
  refine lv_iconst (v := 2) hx hb dL_law_955 (by decide) ?_
  refine lv_iadd hx hb dL_law_956 ?_
  refine va_sld hx hb hX hbl hbA hI.S (lw_in (j := 2) (by decide) (by omega) hL) dL_law_957 ?_
  refine lv_aload_n hx hb dL_law_958 rfl (lv_at hl 3 rfl) ?_
  refine lv_iload_n hx hb dL_law_959 rfl (lv_at hl 0 rfl) ?_
  refine lv_iconst (v := 3) hx hb dL_law_960 (by decide) ?_
  refine lv_iadd hx hb dL_law_961 ?_
  refine va_sld hx hb hX hbl hbA hI.S (lw_in (j := 3) (by decide) (by omega) hL) dL_law_962 ?_
  have h3 := (q_bd hI hmo (rfl : q_bn 12 24 = (0, 3))).2
  refine q_ci (q_runV (As := [.int (xs (nI i + 1).toNatClampNeg), .int (xs (nI i + 2).toNatClampNeg), .int (xs (nI i + 3).toNatClampNeg)]) (rest := []) E (hml.trans hl.1.symm) hI (c_X11_bend l X σ xo ((xs (nI i + 1).toNatClampNeg)) ((xs (nI i + 2).toNatClampNeg)) ((xs (nI i + 3).toNatClampNeg)) hxo) kl_109 hxo ⟨rfl, by decide⟩ (show vwCl[10]? = some (RX11, TX11, 17) from rfl) rfl ⟨Nat.le_of_ble_eq_true rfl, Nat.le_of_ble_eq_true rfl⟩ hcs rfl (Nat.le_of_ble_eq_true rfl) dL_law_963) hI (by decide) (fun r1 σ1 H locs hp hk hI => ?_)
  obtain ⟨pq0, hex1, how1⟩ := hp
  have hp := pq0
  have hB := lw_BK how1 hI.1 hxo hmo rfl rfl (how1.1 xo 5 (by rw [hxo]; rfl)) hB
  have hA1 := hA0.pre hal how1 rfl
  have hE := lw_EK hk (by decide) hxo hmo hE
  have hM := lw_kM hk hI.1 hmo (by decide) hM
  have hpp1 := hp
  have hMc := hM
  clear hp hk
  clear h3
  refine lv_pop hx hb dL_law_966 rfl ?_
  refine lv_aload_n hx hb dL_law_967 rfl (lv_at hl 1 rfl) ?_
  refine lv_aload_n hx hb dL_law_968 rfl (lv_at hl 3 rfl) ?_
  refine lv_iload_n hx hb dL_law_969 rfl (lv_at hl 0 rfl) ?_
  refine lv_iconst (v := 1) hx hb dL_law_970 (by decide) ?_
  refine lv_iadd hx hb dL_law_971 ?_
  refine va_sld hx hb hX hbl hbA hI.S (lw_in (j := 1) (by decide) (by omega) hL) dL_law_972 ?_
  refine lv_aload_n hx hb dL_law_973 rfl (lv_at hl 3 rfl) ?_
  refine lv_iload_n hx hb dL_law_974 rfl (lv_at hl 0 rfl) ?_
  refine lv_iconst (v := 2) hx hb dL_law_975 (by decide) ?_
  refine lv_iadd hx hb dL_law_976 ?_
  refine va_sld hx hb hX hbl hbA hI.S (lw_in (j := 2) (by decide) (by omega) hL) dL_law_977 ?_
  refine lv_aload_n hx hb dL_law_978 rfl (lv_at hl 3 rfl) ?_
  refine lv_iload_n hx hb dL_law_979 rfl (lv_at hl 0 rfl) ?_
  refine lv_iconst (v := 3) hx hb dL_law_980 (by decide) ?_
  refine lv_iadd hx hb dL_law_981 ?_
  refine va_sld hx hb hX hbl hbA hI.S (lw_in (j := 3) (by decide) (by omega) hL) dL_law_982 ?_
  have h3 := (q_bd hI hmo (rfl : q_bn 12 24 = (0, 3))).2
  refine q_ci (q_runV (As := [.int (xs (nI i + 1).toNatClampNeg), .int (xs (nI i + 2).toNatClampNeg), .int (xs (nI i + 3).toNatClampNeg)]) (rest := []) E (hml.trans hl.1.symm) hI (c_X12_bend l X σ1 mo ((xs (nI i + 1).toNatClampNeg)) ((xs (nI i + 2).toNatClampNeg)) ((xs (nI i + 3).toNatClampNeg)) n hmo hM.1.1 hM.1.2 (by omega)) kl_112 hmo ⟨rfl, by decide⟩ (show vwCl[11]? = some (RX12, TX12, 46) from rfl) rfl ⟨Nat.le_of_ble_eq_true rfl, Nat.le_of_ble_eq_true rfl⟩ hcs rfl (Nat.le_of_ble_eq_true rfl) dL_law_983) hI (by decide) (fun r2 σ2 H locs hp hk hI => ?_)
  obtain ⟨pq0, pq1, pq2, pq3, hex2, how2⟩ := hp
  have hp := And.intro pq0 (And.intro pq1 (And.intro pq2 pq3))
  have hB := lw_BK how2 hI.1 hxo hmo rfl rfl (how2.1 xo 5 (by rw [hxo]; rfl)) hB
  have hO := lw_Aob hal (ob_bend hal hA1 hMc ((xs (nI i + 1).toNatClampNeg)) ((xs (nI i + 2).toNatClampNeg)) ((xs (nI i + 3).toNatClampNeg))) hex1 hex2 how2 rfl
  have hA := hO.2
  have hE := lw_EK hk (by decide) hxo hmo hE
  have hM := lw_wr (hk mo 24 (by rw [hmo]; decide)) hp.2.1 hp.2.2.1 hp.2.2.2 hM h3 (by omega)
  have hpp2 := hp
  clear hp hk
  clear h3
  refine lv_pop hx hb dL_law_986 rfl ?_
  refine lv_goto (tgt := 1796) hx hb dL_law_987 (by decide) ?_
  exact kk _ _ _ hI hM hE hB hA

set_option maxRecDepth 100000 in
set_option maxHeartbeats 4000000 in
theorem lw_c22 {p : Program} {l : Launch} {e : Env} {s : State} {m : MethodId} {below : List Frame} {meth : Method} {c : Code} {b L : Nat} {xs : Nat → Int32} {X : XW} {xo mo : Nat} {σ0 : ST} {cells slots : Nat} {Q : State → Prop} {lb : Nat → Nat} (hcl : tb_Cls X lb xo mo) (hal : al_C X lb xo mo) (E : q_E p c cL_law s m #[Value.ref b] RL X) (hX : va_X b L xs s s.heap) (hbl : b < s.heap.size) (hbA : ¬ q_reg X b) (hml : c.maxLocals = 4) (hxo : q_kd X xo = 11) (hmo : q_kd X mo = 12) (hcs : cells ≤ room_1.cells ∧ slots ≤ room_1.slots) (hL : L ≤ 3072) {i : Nat} (hi : i + 6 ≤ L) {n : Int} (hn : 0 ≤ n ∧ n ≤ 199000) {σ : ST} {H : Heap} {locs : List Loc} {ls : Array Slot} (hI : q_I X 0 σ0 s.heap locs σ H) (hM : m_M (m_c X σ mo) (σ.1 mo 24).toInt n) (hl : lv_has ls 4 [(3, .int (nI i)), (2, .ref mo), (1, .ref xo), (0, .ref b)]) (hE : lw_E xo mo σ) (hB : lw_B X xo mo σ) (hA : al_R X xo mo σ σ)
    (kk : ∀ (σ : ST) (H : Heap) (locs : List Loc), q_I X 0 σ0 s.heap locs σ H → m_M (m_c X σ mo) (σ.1 mo 24).toInt (n + 301) → lw_E xo mo σ → lw_B X xo mo σ → al_R X xo mo σ σ → W p l e room_1 s m #[Value.ref b] below meth c H locs cells slots Q (F0 m 1796 ls [])) : W p l e room_1 s m #[Value.ref b] below meth c H locs cells slots Q (F0 m 990 ls []) := by
  have hx := E.1
  have hb := E.2.1
  have hI0 := hI
  have hE0 := hE
  have hB0 := hB
  have hA0 := hA
  have hM0 := hM
  refine lv_aload_n hx hb dL_law_990 rfl (lv_at hl 2 rfl) ?_
  refine lv_aload_n hx hb dL_law_991 rfl (lv_at hl 3 rfl) ?_
  refine lv_iload_n hx hb dL_law_992 rfl (lv_at hl 0 rfl) ?_
  refine lv_iconst (v := 1) hx hb dL_law_993 (by decide) ?_
  refine lv_iadd hx hb dL_law_994 ?_
  refine va_sld hx hb hX hbl hbA hI.S (lw_in (j := 1) (by decide) (by omega) hL) dL_law_995 ?_
  refine lv_aload_n hx hb dL_law_996 rfl (lv_at hl 3 rfl) ?_
  refine lv_iload_n hx hb dL_law_997 rfl (lv_at hl 0 rfl) ?_
  refine lv_iconst (v := 2) hx hb dL_law_998 (by decide) ?_
  refine lv_iadd hx hb dL_law_999 ?_
  refine va_sld hx hb hX hbl hbA hI.S (lw_in (j := 2) (by decide) (by omega) hL) dL_law_1000 ?_
  have h3 := (q_bd hI hmo (rfl : q_bn 12 24 = (0, 3))).2
  refine q_ci (q_runV (As := [.int (xs (nI i + 1).toNatClampNeg), .int (xs (nI i + 2).toNatClampNeg)]) (rest := []) E (hml.trans hl.1.symm) hI (c_X11_known l X σ xo ((xs (nI i + 1).toNatClampNeg)) ((xs (nI i + 2).toNatClampNeg)) hxo) kl_113 hxo ⟨rfl, by decide⟩ (show vwCl[10]? = some (RX11, TX11, 17) from rfl) rfl ⟨Nat.le_of_ble_eq_true rfl, Nat.le_of_ble_eq_true rfl⟩ hcs rfl (Nat.le_of_ble_eq_true rfl) dL_law_1001) hI (by decide) (fun r1 σ1 H locs hp hk hI => ?_)
  obtain ⟨hex1, how1⟩ := hp
  have hp := True.intro
  have hB := lw_BK how1 hI.1 hxo hmo rfl rfl (how1.1 xo 5 (by rw [hxo]; rfl)) hB
  have hA1 := hA0.pre hal how1 rfl
  have hA := (hA.post hal how1 rfl).pre hal how1 rfl
  have hE := lw_EK hk (by decide) hxo hmo hE
  have hM := lw_kM hk hI.1 hmo (by decide) hM
  have hpp1 := hp
  have hMc := hM
  clear hp hk
  clear h3
  refine lv_pop hx hb dL_law_1004 rfl ?_
  refine lv_aload_n hx hb dL_law_1005 rfl (lv_at hl 1 rfl) ?_
  refine lv_aload_n hx hb dL_law_1006 rfl (lv_at hl 3 rfl) ?_
  refine lv_iload_n hx hb dL_law_1007 rfl (lv_at hl 0 rfl) ?_
  refine lv_iconst (v := 1) hx hb dL_law_1008 (by decide) ?_
  refine lv_iadd hx hb dL_law_1009 ?_
  refine va_sld hx hb hX hbl hbA hI.S (lw_in (j := 1) (by decide) (by omega) hL) dL_law_1010 ?_
  refine lv_aload_n hx hb dL_law_1011 rfl (lv_at hl 3 rfl) ?_
  refine lv_iload_n hx hb dL_law_1012 rfl (lv_at hl 0 rfl) ?_
  refine lv_iconst (v := 2) hx hb dL_law_1013 (by decide) ?_
  refine lv_iadd hx hb dL_law_1014 ?_
  refine va_sld hx hb hX hbl hbA hI.S (lw_in (j := 2) (by decide) (by omega) hL) dL_law_1015 ?_
  have h3 := (q_bd hI hmo (rfl : q_bn 12 24 = (0, 3))).2
  refine q_ci (q_runV (As := [.int (xs (nI i + 1).toNatClampNeg), .int (xs (nI i + 2).toNatClampNeg)]) (rest := []) E (hml.trans hl.1.symm) hI (c_X12_known l X σ1 mo ((xs (nI i + 1).toNatClampNeg)) ((xs (nI i + 2).toNatClampNeg)) hmo hM.1.1) kl_116 hmo ⟨rfl, by decide⟩ (show vwCl[11]? = some (RX12, TX12, 46) from rfl) rfl ⟨Nat.le_of_ble_eq_true rfl, Nat.le_of_ble_eq_true rfl⟩ hcs rfl (Nat.le_of_ble_eq_true rfl) dL_law_1016) hI (by decide) (fun r2 σ2 H locs hp hk hI => ?_)
  obtain ⟨hex2, how2⟩ := hp
  have hp := True.intro
  have hB := lw_BK how2 hI.1 hxo hmo rfl rfl (how2.1 xo 5 (by rw [hxo]; rfl)) hB
  have hA := (hA.post hal how2 rfl).pre hal how2 rfl
  have hE := lw_EK hk (by decide) hxo hmo hE
  have hM := lw_up (lw_kM hk hI.1 hmo (by decide) hM) (q_bd hI hmo (rfl : q_bn 12 24 = (0, 3))).2
  have hpp2 := hp
  clear hp hk
  clear h3
  refine lv_pop hx hb dL_law_1019 rfl ?_
  refine lv_goto (tgt := 1796) hx hb dL_law_1020 (by decide) ?_
  exact kk _ _ _ hI hM hE hB hA

set_option maxRecDepth 100000 in
set_option maxHeartbeats 4000000 in
theorem lw_c23 {p : Program} {l : Launch} {e : Env} {s : State} {m : MethodId} {below : List Frame} {meth : Method} {c : Code} {b L : Nat} {xs : Nat → Int32} {X : XW} {xo mo : Nat} {σ0 : ST} {cells slots : Nat} {Q : State → Prop} {lb : Nat → Nat} (hcl : tb_Cls X lb xo mo) (hal : al_C X lb xo mo) (E : q_E p c cL_law s m #[Value.ref b] RL X) (hX : va_X b L xs s s.heap) (hbl : b < s.heap.size) (hbA : ¬ q_reg X b) (hml : c.maxLocals = 4) (hxo : q_kd X xo = 11) (hmo : q_kd X mo = 12) (hcs : cells ≤ room_1.cells ∧ slots ≤ room_1.slots) (hL : L ≤ 3072) {i : Nat} (hi : i + 6 ≤ L) {n : Int} (hn : 0 ≤ n ∧ n ≤ 199000) {σ : ST} {H : Heap} {locs : List Loc} {ls : Array Slot} (hI : q_I X 0 σ0 s.heap locs σ H) (hM : m_M (m_c X σ mo) (σ.1 mo 24).toInt n) (hl : lv_has ls 4 [(3, .int (nI i)), (2, .ref mo), (1, .ref xo), (0, .ref b)]) (hE : lw_E xo mo σ) (hB : lw_B X xo mo σ) (hA : al_R X xo mo σ σ)
    (kk : ∀ (σ : ST) (H : Heap) (locs : List Loc), q_I X 0 σ0 s.heap locs σ H → m_M (m_c X σ mo) (σ.1 mo 24).toInt (n + 301) → lw_E xo mo σ → lw_B X xo mo σ → al_R X xo mo σ σ → W p l e room_1 s m #[Value.ref b] below meth c H locs cells slots Q (F0 m 1796 ls [])) : W p l e room_1 s m #[Value.ref b] below meth c H locs cells slots Q (F0 m 1023 ls []) := by
  have hx := E.1
  have hb := E.2.1
  have hI0 := hI
  have hE0 := hE
  have hB0 := hB
  have hA0 := hA
  have hM0 := hM
  refine lv_aload_n hx hb dL_law_1023 rfl (lv_at hl 2 rfl) ?_
  refine lv_aload_n hx hb dL_law_1024 rfl (lv_at hl 3 rfl) ?_
  refine lv_iload_n hx hb dL_law_1025 rfl (lv_at hl 0 rfl) ?_
  refine lv_iconst (v := 1) hx hb dL_law_1026 (by decide) ?_
  refine lv_iadd hx hb dL_law_1027 ?_
  refine va_sld hx hb hX hbl hbA hI.S (lw_in (j := 1) (by decide) (by omega) hL) dL_law_1028 ?_
  refine lv_aload_n hx hb dL_law_1029 rfl (lv_at hl 3 rfl) ?_
  refine lv_iload_n hx hb dL_law_1030 rfl (lv_at hl 0 rfl) ?_
  refine lv_iconst (v := 2) hx hb dL_law_1031 (by decide) ?_
  refine lv_iadd hx hb dL_law_1032 ?_
  refine va_sld hx hb hX hbl hbA hI.S (lw_in (j := 2) (by decide) (by omega) hL) dL_law_1033 ?_
  have h3 := (q_bd hI hmo (rfl : q_bn 12 24 = (0, 3))).2
  refine q_ci (q_runV (As := [.int (xs (nI i + 1).toNatClampNeg), .int (xs (nI i + 2).toNatClampNeg)]) (rest := []) E (hml.trans hl.1.symm) hI (c_X11_unknown l X σ xo ((xs (nI i + 1).toNatClampNeg)) ((xs (nI i + 2).toNatClampNeg)) hxo) kl_117 hxo ⟨rfl, by decide⟩ (show vwCl[10]? = some (RX11, TX11, 17) from rfl) rfl ⟨Nat.le_of_ble_eq_true rfl, Nat.le_of_ble_eq_true rfl⟩ hcs rfl (Nat.le_of_ble_eq_true rfl) dL_law_1034) hI (by decide) (fun r1 σ1 H locs hp hk hI => ?_)
  obtain ⟨hex1, how1⟩ := hp
  have hp := True.intro
  have hB := lw_BK how1 hI.1 hxo hmo rfl rfl (how1.1 xo 5 (by rw [hxo]; rfl)) hB
  have hA1 := hA0.pre hal how1 rfl
  have hA := (hA.post hal how1 rfl).pre hal how1 rfl
  have hE := lw_EK hk (by decide) hxo hmo hE
  have hM := lw_kM hk hI.1 hmo (by decide) hM
  have hpp1 := hp
  have hMc := hM
  clear hp hk
  clear h3
  refine lv_pop hx hb dL_law_1037 rfl ?_
  refine lv_aload_n hx hb dL_law_1038 rfl (lv_at hl 1 rfl) ?_
  refine lv_aload_n hx hb dL_law_1039 rfl (lv_at hl 3 rfl) ?_
  refine lv_iload_n hx hb dL_law_1040 rfl (lv_at hl 0 rfl) ?_
  refine lv_iconst (v := 1) hx hb dL_law_1041 (by decide) ?_
  refine lv_iadd hx hb dL_law_1042 ?_
  refine va_sld hx hb hX hbl hbA hI.S (lw_in (j := 1) (by decide) (by omega) hL) dL_law_1043 ?_
  refine lv_aload_n hx hb dL_law_1044 rfl (lv_at hl 3 rfl) ?_
  refine lv_iload_n hx hb dL_law_1045 rfl (lv_at hl 0 rfl) ?_
  refine lv_iconst (v := 2) hx hb dL_law_1046 (by decide) ?_
  refine lv_iadd hx hb dL_law_1047 ?_
  refine va_sld hx hb hX hbl hbA hI.S (lw_in (j := 2) (by decide) (by omega) hL) dL_law_1048 ?_
  have h3 := (q_bd hI hmo (rfl : q_bn 12 24 = (0, 3))).2
  refine q_ci (q_runV (As := [.int (xs (nI i + 1).toNatClampNeg), .int (xs (nI i + 2).toNatClampNeg)]) (rest := []) E (hml.trans hl.1.symm) hI (c_X12_unknown l X σ1 mo ((xs (nI i + 1).toNatClampNeg)) ((xs (nI i + 2).toNatClampNeg)) hmo hM.1.1) kl_120 hmo ⟨rfl, by decide⟩ (show vwCl[11]? = some (RX12, TX12, 46) from rfl) rfl ⟨Nat.le_of_ble_eq_true rfl, Nat.le_of_ble_eq_true rfl⟩ hcs rfl (Nat.le_of_ble_eq_true rfl) dL_law_1049) hI (by decide) (fun r2 σ2 H locs hp hk hI => ?_)
  obtain ⟨hex2, how2⟩ := hp
  have hp := True.intro
  have hB := lw_BK how2 hI.1 hxo hmo rfl rfl (how2.1 xo 5 (by rw [hxo]; rfl)) hB
  have hA := (hA.post hal how2 rfl).pre hal how2 rfl
  have hE := lw_EK hk (by decide) hxo hmo hE
  have hM := lw_up (lw_kM hk hI.1 hmo (by decide) hM) (q_bd hI hmo (rfl : q_bn 12 24 = (0, 3))).2
  have hpp2 := hp
  clear hp hk
  clear h3
  refine lv_pop hx hb dL_law_1052 rfl ?_
  refine lv_goto (tgt := 1796) hx hb dL_law_1053 (by decide) ?_
  exact kk _ _ _ hI hM hE hB hA

set_option maxRecDepth 100000 in
set_option maxHeartbeats 4000000 in
theorem lw_c24 {p : Program} {l : Launch} {e : Env} {s : State} {m : MethodId} {below : List Frame} {meth : Method} {c : Code} {b L : Nat} {xs : Nat → Int32} {X : XW} {xo mo : Nat} {σ0 : ST} {cells slots : Nat} {Q : State → Prop} {lb : Nat → Nat} (hcl : tb_Cls X lb xo mo) (hal : al_C X lb xo mo) (E : q_E p c cL_law s m #[Value.ref b] RL X) (hX : va_X b L xs s s.heap) (hbl : b < s.heap.size) (hbA : ¬ q_reg X b) (hml : c.maxLocals = 4) (hxo : q_kd X xo = 11) (hmo : q_kd X mo = 12) (hcs : cells ≤ room_1.cells ∧ slots ≤ room_1.slots) (hL : L ≤ 3072) {i : Nat} (hi : i + 6 ≤ L) {n : Int} (hn : 0 ≤ n ∧ n ≤ 199000) {σ : ST} {H : Heap} {locs : List Loc} {ls : Array Slot} (hI : q_I X 0 σ0 s.heap locs σ H) (hM : m_M (m_c X σ mo) (σ.1 mo 24).toInt n) (hl : lv_has ls 4 [(3, .int (nI i)), (2, .ref mo), (1, .ref xo), (0, .ref b)]) (hE : lw_E xo mo σ) (hB : lw_B X xo mo σ) (hA : al_R X xo mo σ σ)
    (kk : ∀ (σ : ST) (H : Heap) (locs : List Loc), q_I X 0 σ0 s.heap locs σ H → m_M (m_c X σ mo) (σ.1 mo 24).toInt (n + 301) → lw_E xo mo σ → lw_B X xo mo σ → al_R X xo mo σ σ → W p l e room_1 s m #[Value.ref b] below meth c H locs cells slots Q (F0 m 1796 ls [])) : W p l e room_1 s m #[Value.ref b] below meth c H locs cells slots Q (F0 m 1056 ls []) := by
  have hx := E.1
  have hb := E.2.1
  have hI0 := hI
  have hE0 := hE
  have hB0 := hB
  have hA0 := hA
  have hM0 := hM
  refine lv_aload_n hx hb dL_law_1056 rfl (lv_at hl 2 rfl) ?_
  refine lv_aload_n hx hb dL_law_1057 rfl (lv_at hl 3 rfl) ?_
  refine lv_iload_n hx hb dL_law_1058 rfl (lv_at hl 0 rfl) ?_
  refine lv_iconst (v := 1) hx hb dL_law_1059 (by decide) ?_
  refine lv_iadd hx hb dL_law_1060 ?_
  refine va_sld hx hb hX hbl hbA hI.S (lw_in (j := 1) (by decide) (by omega) hL) dL_law_1061 ?_
  have h3 := (q_bd hI hmo (rfl : q_bn 12 24 = (0, 3))).2
  refine q_ci (q_runV (As := [.int (xs (nI i + 1).toNatClampNeg)]) (rest := []) E (hml.trans hl.1.symm) hI (c_X11_impossible l X σ xo ((xs (nI i + 1).toNatClampNeg)) hxo) kl_121 hxo ⟨rfl, by decide⟩ (show vwCl[10]? = some (RX11, TX11, 17) from rfl) rfl ⟨Nat.le_of_ble_eq_true rfl, Nat.le_of_ble_eq_true rfl⟩ hcs rfl (Nat.le_of_ble_eq_true rfl) dL_law_1062) hI (by decide) (fun r1 σ1 H locs hp hk hI => ?_)
  obtain ⟨hex1, how1⟩ := hp
  have hp := True.intro
  have hB := lw_BK how1 hI.1 hxo hmo rfl rfl (how1.1 xo 5 (by rw [hxo]; rfl)) hB
  have hA1 := hA0.pre hal how1 rfl
  have hA := (hA.post hal how1 rfl).pre hal how1 rfl
  have hE := lw_EK hk (by decide) hxo hmo hE
  have hM := lw_kM hk hI.1 hmo (by decide) hM
  have hpp1 := hp
  have hMc := hM
  clear hp hk
  clear h3
  refine lv_pop hx hb dL_law_1065 rfl ?_
  refine lv_aload_n hx hb dL_law_1066 rfl (lv_at hl 1 rfl) ?_
  refine lv_aload_n hx hb dL_law_1067 rfl (lv_at hl 3 rfl) ?_
  refine lv_iload_n hx hb dL_law_1068 rfl (lv_at hl 0 rfl) ?_
  refine lv_iconst (v := 1) hx hb dL_law_1069 (by decide) ?_
  refine lv_iadd hx hb dL_law_1070 ?_
  refine va_sld hx hb hX hbl hbA hI.S (lw_in (j := 1) (by decide) (by omega) hL) dL_law_1071 ?_
  have h3 := (q_bd hI hmo (rfl : q_bn 12 24 = (0, 3))).2
  refine q_ci (q_runV (As := [.int (xs (nI i + 1).toNatClampNeg)]) (rest := []) E (hml.trans hl.1.symm) hI (c_X12_impossible l X σ1 mo ((xs (nI i + 1).toNatClampNeg)) hmo hM.1.1) kl_124 hmo ⟨rfl, by decide⟩ (show vwCl[11]? = some (RX12, TX12, 46) from rfl) rfl ⟨Nat.le_of_ble_eq_true rfl, Nat.le_of_ble_eq_true rfl⟩ hcs rfl (Nat.le_of_ble_eq_true rfl) dL_law_1072) hI (by decide) (fun r2 σ2 H locs hp hk hI => ?_)
  obtain ⟨hex2, how2⟩ := hp
  have hp := True.intro
  have hB := lw_BK how2 hI.1 hxo hmo rfl rfl (how2.1 xo 5 (by rw [hxo]; rfl)) hB
  have hA := (hA.post hal how2 rfl).pre hal how2 rfl
  have hE := lw_EK hk (by decide) hxo hmo hE
  have hM := lw_up (lw_kM hk hI.1 hmo (by decide) hM) (q_bd hI hmo (rfl : q_bn 12 24 = (0, 3))).2
  have hpp2 := hp
  clear hp hk
  clear h3
  refine lv_pop hx hb dL_law_1075 rfl ?_
  refine lv_goto (tgt := 1796) hx hb dL_law_1076 (by decide) ?_
  exact kk _ _ _ hI hM hE hB hA

set_option maxRecDepth 100000 in
set_option maxHeartbeats 4000000 in
theorem lw_c25 {p : Program} {l : Launch} {e : Env} {s : State} {m : MethodId} {below : List Frame} {meth : Method} {c : Code} {b L : Nat} {xs : Nat → Int32} {X : XW} {xo mo : Nat} {σ0 : ST} {cells slots : Nat} {Q : State → Prop} {lb : Nat → Nat} (hcl : tb_Cls X lb xo mo) (hal : al_C X lb xo mo) (E : q_E p c cL_law s m #[Value.ref b] RL X) (hX : va_X b L xs s s.heap) (hbl : b < s.heap.size) (hbA : ¬ q_reg X b) (hml : c.maxLocals = 4) (hxo : q_kd X xo = 11) (hmo : q_kd X mo = 12) (hcs : cells ≤ room_1.cells ∧ slots ≤ room_1.slots) (hL : L ≤ 3072) {i : Nat} (hi : i + 6 ≤ L) {n : Int} (hn : 0 ≤ n ∧ n ≤ 199000) {σ : ST} {H : Heap} {locs : List Loc} {ls : Array Slot} (hI : q_I X 0 σ0 s.heap locs σ H) (hM : m_M (m_c X σ mo) (σ.1 mo 24).toInt n) (hl : lv_has ls 4 [(3, .int (nI i)), (2, .ref mo), (1, .ref xo), (0, .ref b)]) (hE : lw_E xo mo σ) (hB : lw_B X xo mo σ) (hA : al_R X xo mo σ σ)
    (kk : ∀ (σ : ST) (H : Heap) (locs : List Loc), q_I X 0 σ0 s.heap locs σ H → m_M (m_c X σ mo) (σ.1 mo 24).toInt (n + 301) → lw_E xo mo σ → lw_B X xo mo σ → al_R X xo mo σ σ → W p l e room_1 s m #[Value.ref b] below meth c H locs cells slots Q (F0 m 1796 ls [])) : W p l e room_1 s m #[Value.ref b] below meth c H locs cells slots Q (F0 m 1079 ls []) := by
  have hx := E.1
  have hb := E.2.1
  have hI0 := hI
  have hE0 := hE
  have hB0 := hB
  have hA0 := hA
  have hM0 := hM
  refine lv_aload_n hx hb dL_law_1079 rfl (lv_at hl 2 rfl) ?_
  refine lv_aload_n hx hb dL_law_1080 rfl (lv_at hl 3 rfl) ?_
  refine lv_iload_n hx hb dL_law_1081 rfl (lv_at hl 0 rfl) ?_
  refine lv_iconst (v := 1) hx hb dL_law_1082 (by decide) ?_
  refine lv_iadd hx hb dL_law_1083 ?_
  refine va_sld hx hb hX hbl hbA hI.S (lw_in (j := 1) (by decide) (by omega) hL) dL_law_1084 ?_
  have h3 := (q_bd hI hmo (rfl : q_bn 12 24 = (0, 3))).2
  refine q_ci (q_runV (As := [.int (xs (nI i + 1).toNatClampNeg)]) (rest := []) E (hml.trans hl.1.symm) hI (c_X11_blind l X σ xo ((xs (nI i + 1).toNatClampNeg)) hxo) kl_125 hxo ⟨rfl, by decide⟩ (show vwCl[10]? = some (RX11, TX11, 17) from rfl) rfl ⟨Nat.le_of_ble_eq_true rfl, Nat.le_of_ble_eq_true rfl⟩ hcs rfl (Nat.le_of_ble_eq_true rfl) dL_law_1085) hI (by decide) (fun r1 σ1 H locs hp hk hI => ?_)
  obtain ⟨pq0, hex1, how1⟩ := hp
  have hp := pq0
  have hB := lw_BK how1 hI.1 hxo hmo rfl rfl (how1.1 xo 5 (by rw [hxo]; rfl)) hB
  have hA1 := hA0.pre hal how1 rfl
  have hA := (hA.post hal how1 rfl).pre hal how1 rfl
  have hE := lw_EK hk (by decide) hxo hmo hE
  have hM := lw_kM hk hI.1 hmo (by decide) hM
  have hpp1 := hp
  have hMc := hM
  clear hp hk
  clear h3
  refine lv_pop hx hb dL_law_1088 rfl ?_
  refine lv_aload_n hx hb dL_law_1089 rfl (lv_at hl 1 rfl) ?_
  refine lv_aload_n hx hb dL_law_1090 rfl (lv_at hl 3 rfl) ?_
  refine lv_iload_n hx hb dL_law_1091 rfl (lv_at hl 0 rfl) ?_
  refine lv_iconst (v := 1) hx hb dL_law_1092 (by decide) ?_
  refine lv_iadd hx hb dL_law_1093 ?_
  refine va_sld hx hb hX hbl hbA hI.S (lw_in (j := 1) (by decide) (by omega) hL) dL_law_1094 ?_
  have h3 := (q_bd hI hmo (rfl : q_bn 12 24 = (0, 3))).2
  refine q_ci (q_runV (As := [.int (xs (nI i + 1).toNatClampNeg)]) (rest := []) E (hml.trans hl.1.symm) hI (c_X12_blind l X σ1 mo ((xs (nI i + 1).toNatClampNeg)) hmo hM.1.1) kl_129 hmo ⟨rfl, by decide⟩ (show vwCl[11]? = some (RX12, TX12, 46) from rfl) rfl ⟨Nat.le_of_ble_eq_true rfl, Nat.le_of_ble_eq_true rfl⟩ hcs rfl (Nat.le_of_ble_eq_true rfl) dL_law_1095) hI (by decide) (fun r2 σ2 H locs hp hk hI => ?_)
  obtain ⟨pq0, hex2, how2⟩ := hp
  have hp := pq0
  have hB := lw_BK how2 hI.1 hxo hmo rfl rfl (how2.1 xo 5 (by rw [hxo]; rfl)) hB
  have hA := (hA.post hal how2 rfl).pre hal how2 rfl
  have hE := lw_EK hk (by decide) hxo hmo hE
  have hM := lw_up (lw_kM hk hI.1 hmo (by decide) hM) (q_bd hI hmo (rfl : q_bn 12 24 = (0, 3))).2
  have hpp2 := hp
  clear hp hk
  clear h3
  refine lv_pop hx hb dL_law_1098 rfl ?_
  refine lv_goto (tgt := 1796) hx hb dL_law_1099 (by decide) ?_
  exact kk _ _ _ hI hM hE hB hA

set_option maxRecDepth 100000 in
set_option maxHeartbeats 4000000 in
theorem lw_c26 {p : Program} {l : Launch} {e : Env} {s : State} {m : MethodId} {below : List Frame} {meth : Method} {c : Code} {b L : Nat} {xs : Nat → Int32} {X : XW} {xo mo : Nat} {σ0 : ST} {cells slots : Nat} {Q : State → Prop} {lb : Nat → Nat} (hcl : tb_Cls X lb xo mo) (hal : al_C X lb xo mo) (E : q_E p c cL_law s m #[Value.ref b] RL X) (hX : va_X b L xs s s.heap) (hbl : b < s.heap.size) (hbA : ¬ q_reg X b) (hml : c.maxLocals = 4) (hxo : q_kd X xo = 11) (hmo : q_kd X mo = 12) (hcs : cells ≤ room_1.cells ∧ slots ≤ room_1.slots) (hL : L ≤ 3072) {i : Nat} (hi : i + 6 ≤ L) {n : Int} (hn : 0 ≤ n ∧ n ≤ 199000) {σ : ST} {H : Heap} {locs : List Loc} {ls : Array Slot} (hI : q_I X 0 σ0 s.heap locs σ H) (hM : m_M (m_c X σ mo) (σ.1 mo 24).toInt n) (hl : lv_has ls 4 [(3, .int (nI i)), (2, .ref mo), (1, .ref xo), (0, .ref b)]) (hE : lw_E xo mo σ) (hB : lw_B X xo mo σ) (hA : al_R X xo mo σ σ)
    (kk : ∀ (σ : ST) (H : Heap) (locs : List Loc), q_I X 0 σ0 s.heap locs σ H → m_M (m_c X σ mo) (σ.1 mo 24).toInt (n + 301) → lw_E xo mo σ → lw_B X xo mo σ → al_R X xo mo σ σ → W p l e room_1 s m #[Value.ref b] below meth c H locs cells slots Q (F0 m 1796 ls [])) : W p l e room_1 s m #[Value.ref b] below meth c H locs cells slots Q (F0 m 1102 ls []) := by
  have hx := E.1
  have hb := E.2.1
  have hI0 := hI
  have hE0 := hE
  have hB0 := hB
  have hA0 := hA
  have hM0 := hM
  refine lv_aload_n hx hb dL_law_1102 rfl (lv_at hl 2 rfl) ?_
  refine lv_aload_n hx hb dL_law_1103 rfl (lv_at hl 3 rfl) ?_
  refine lv_iload_n hx hb dL_law_1104 rfl (lv_at hl 0 rfl) ?_
  refine lv_iconst (v := 1) hx hb dL_law_1105 (by decide) ?_
  refine lv_iadd hx hb dL_law_1106 ?_
  refine va_sld hx hb hX hbl hbA hI.S (lw_in (j := 1) (by decide) (by omega) hL) dL_law_1107 ?_
  have h3 := (q_bd hI hmo (rfl : q_bn 12 24 = (0, 3))).2
  refine q_ci (q_runV (As := [.int (xs (nI i + 1).toNatClampNeg)]) (rest := []) E (hml.trans hl.1.symm) hI (c_X11_honest l X σ xo ((xs (nI i + 1).toNatClampNeg)) hxo) kl_130 hxo ⟨rfl, by decide⟩ (show vwCl[10]? = some (RX11, TX11, 17) from rfl) rfl ⟨Nat.le_of_ble_eq_true rfl, Nat.le_of_ble_eq_true rfl⟩ hcs rfl (Nat.le_of_ble_eq_true rfl) dL_law_1108) hI (by decide) (fun r1 σ1 H locs hp hk hI => ?_)
  obtain ⟨pq0, hex1, how1⟩ := hp
  have hp := pq0
  have hB := lw_BK how1 hI.1 hxo hmo rfl rfl (how1.1 xo 5 (by rw [hxo]; rfl)) hB
  have hA1 := hA0.pre hal how1 rfl
  have hA := (hA.post hal how1 rfl).pre hal how1 rfl
  have hE := lw_EK hk (by decide) hxo hmo hE
  have hM := lw_kM hk hI.1 hmo (by decide) hM
  have hpp1 := hp
  have hMc := hM
  clear hp hk
  clear h3
  refine lv_pop hx hb dL_law_1111 rfl ?_
  refine lv_aload_n hx hb dL_law_1112 rfl (lv_at hl 1 rfl) ?_
  refine lv_aload_n hx hb dL_law_1113 rfl (lv_at hl 3 rfl) ?_
  refine lv_iload_n hx hb dL_law_1114 rfl (lv_at hl 0 rfl) ?_
  refine lv_iconst (v := 1) hx hb dL_law_1115 (by decide) ?_
  refine lv_iadd hx hb dL_law_1116 ?_
  refine va_sld hx hb hX hbl hbA hI.S (lw_in (j := 1) (by decide) (by omega) hL) dL_law_1117 ?_
  have h3 := (q_bd hI hmo (rfl : q_bn 12 24 = (0, 3))).2
  refine q_ci (q_runV (As := [.int (xs (nI i + 1).toNatClampNeg)]) (rest := []) E (hml.trans hl.1.symm) hI (c_X12_honest l X σ1 mo ((xs (nI i + 1).toNatClampNeg)) n hmo hM.1.1 hM.1.2 (by omega)) kl_133 hmo ⟨rfl, by decide⟩ (show vwCl[11]? = some (RX12, TX12, 46) from rfl) rfl ⟨Nat.le_of_ble_eq_true rfl, Nat.le_of_ble_eq_true rfl⟩ hcs rfl (Nat.le_of_ble_eq_true rfl) dL_law_1118) hI (by decide) (fun r2 σ2 H locs hp hk hI => ?_)
  obtain ⟨pq0, hex2, how2⟩ := hp
  have hp := pq0
  have hB := lw_BK how2 hI.1 hxo hmo rfl rfl (how2.1 xo 5 (by rw [hxo]; rfl)) hB
  have hA := (hA.post hal how2 rfl).pre hal how2 rfl
  have hE := lw_EK hk (by decide) hxo hmo hE
  have hM := lw_up (lw_kM hk hI.1 hmo (by decide) hM) (q_bd hI hmo (rfl : q_bn 12 24 = (0, 3))).2
  have hpp2 := hp
  clear hp hk
  clear h3
  refine lv_pop hx hb dL_law_1121 rfl ?_
  refine lv_goto (tgt := 1796) hx hb dL_law_1122 (by decide) ?_
  exact kk _ _ _ hI hM hE hB hA
