set_option maxRecDepth 100000 in
set_option maxHeartbeats 4000000 in
theorem lw_c27 {p : Program} {l : Launch} {e : Env} {s : State} {m : MethodId} {below : List Frame} {meth : Method} {c : Code} {b L : Nat} {xs : Nat → Int32} {X : XW} {xo mo : Nat} {σ0 : ST} {cells slots : Nat} {Q : State → Prop} {lb : Nat → Nat} (hcl : tb_Cls X lb xo mo) (hal : al_C X lb xo mo) (E : q_E p c cL_law s m #[Value.ref b] RL X) (hX : va_X b L xs s s.heap) (hbl : b < s.heap.size) (hbA : ¬ q_reg X b) (hml : c.maxLocals = 4) (hxo : q_kd X xo = 11) (hmo : q_kd X mo = 12) (hcs : cells ≤ room_1.cells ∧ slots ≤ room_1.slots) (hL : L ≤ 3072) {i : Nat} (hi : i + 6 ≤ L) {n : Int} (hn : 0 ≤ n ∧ n ≤ 199000) {σ : ST} {H : Heap} {locs : List Loc} {ls : Array Slot} (hI : q_I X 0 σ0 s.heap locs σ H) (hM : m_M (m_c X σ mo) (σ.1 mo 24).toInt n) (hl : lv_has ls 4 [(3, .int (nI i)), (2, .ref mo), (1, .ref xo), (0, .ref b)]) (hE : lw_E xo mo σ) (hB : lw_B X xo mo σ) (hA : al_R X xo mo σ σ)
    (kk : ∀ (σ : ST) (H : Heap) (locs : List Loc), q_I X 0 σ0 s.heap locs σ H → m_M (m_c X σ mo) (σ.1 mo 24).toInt (n + 301) → lw_E xo mo σ → lw_B X xo mo σ → al_R X xo mo σ σ → W p l e room_1 s m #[Value.ref b] below meth c H locs cells slots Q (F0 m 1796 ls [])) : W p l e room_1 s m #[Value.ref b] below meth c H locs cells slots Q (F0 m 1125 ls []) := by
  have hx := E.1
  have hb := E.2.1
  have hI0 := hI
  have hE0 := hE
  have hB0 := hB
  have hA0 := hA
  have hM0 := hM
  refine lv_aload_n hx hb eL_law_1116.2.2.2.2.2.1 rfl (lv_at hl 2 rfl) ?_
  refine lv_aload_n hx hb eL_law_1116.2.2.2.2.2.2.1 rfl (lv_at hl 3 rfl) ?_
  refine lv_iload_n hx hb eL_law_1116.2.2.2.2.2.2.2.1 rfl (lv_at hl 0 rfl) ?_
  refine lv_iconst (v := 1) hx hb eL_law_1128.1 (by decide) ?_
  refine lv_iadd hx hb eL_law_1128.2.1 ?_
  refine va_sld hx hb hX hbl hbA hI.S (lw_in (j := 1) (by decide) (by omega) hL) eL_law_1128.2.2.1 ?_
  have h3 := (q_bd hI hmo (rfl : q_bn 12 24 = (0, 3))).2
  refine q_ci (q_runV (As := [.int (xs (nI i + 1).toNatClampNeg)]) (rest := []) E (hml.trans hl.1.symm) hI (c_X11_belief l X σ xo ((xs (nI i + 1).toNatClampNeg)) hxo) kl_134 hxo ⟨rfl, by decide⟩ (show vwCl[10]? = some (RX11, TX11, 17) from rfl) rfl ⟨Nat.le_of_ble_eq_true rfl, Nat.le_of_ble_eq_true rfl⟩ hcs rfl (Nat.le_of_ble_eq_true rfl) eL_law_1128.2.2.2.1) hI (by decide) (fun r1 σ1 H locs hp hk hI => ?_)
  obtain ⟨pq0, hex1, how1⟩ := hp
  have hp := pq0
  have hB := lw_BK how1 hI.1 hxo hmo rfl rfl (how1.1 xo 5 (by rw [hxo]; rfl)) hB
  have hA1 := hA0.pre hal how1 rfl
  have hA := (hA.post hal how1 rfl).pre hal how1 rfl
  have hE := lw_EK hk (by decide) hxo hmo hE
  have hM := lw_kM hk hI.1 hmo (by decide) hM
  have hpp1 := hp
  have hMc := hM
  clear hp hk
  clear h3
  refine lv_pop hx hb eL_law_1128.2.2.2.2.1 rfl ?_
  refine lv_aload_n hx hb eL_law_1128.2.2.2.2.2.1 rfl (lv_at hl 1 rfl) ?_
  refine lv_aload_n hx hb eL_law_1128.2.2.2.2.2.2.1 rfl (lv_at hl 3 rfl) ?_
  refine lv_iload_n hx hb eL_law_1128.2.2.2.2.2.2.2.1 rfl (lv_at hl 0 rfl) ?_
  refine lv_iconst (v := 1) hx hb eL_law_1138.1 (by decide) ?_
  refine lv_iadd hx hb eL_law_1138.2.1 ?_
  refine va_sld hx hb hX hbl hbA hI.S (lw_in (j := 1) (by decide) (by omega) hL) eL_law_1138.2.2.1 ?_
  have h3 := (q_bd hI hmo (rfl : q_bn 12 24 = (0, 3))).2
  refine q_ci (q_runV (As := [.int (xs (nI i + 1).toNatClampNeg)]) (rest := []) E (hml.trans hl.1.symm) hI (c_X12_belief l X σ1 mo ((xs (nI i + 1).toNatClampNeg)) n hmo hM.1.1 hM.1.2 (by omega)) kl_137 hmo ⟨rfl, by decide⟩ (show vwCl[11]? = some (RX12, TX12, 46) from rfl) rfl ⟨Nat.le_of_ble_eq_true rfl, Nat.le_of_ble_eq_true rfl⟩ hcs rfl (Nat.le_of_ble_eq_true rfl) eL_law_1138.2.2.2.1) hI (by decide) (fun r2 σ2 H locs hp hk hI => ?_)
  obtain ⟨pq0, hex2, how2⟩ := hp
  have hp := pq0
  have hB := lw_BK how2 hI.1 hxo hmo rfl rfl (how2.1 xo 5 (by rw [hxo]; rfl)) hB
  have hA := (hA.post hal how2 rfl).pre hal how2 rfl
  have hE := lw_EK hk (by decide) hxo hmo hE
  have hM := lw_up (lw_kM hk hI.1 hmo (by decide) hM) (q_bd hI hmo (rfl : q_bn 12 24 = (0, 3))).2
  have hpp2 := hp
  clear hp hk
  clear h3
  refine lv_pop hx hb eL_law_1138.2.2.2.2.1 rfl ?_
  refine lv_goto (tgt := 1796) hx hb eL_law_1138.2.2.2.2.2.1 (by decide) ?_
  exact kk _ _ _ hI hM hE hB hA

set_option maxRecDepth 100000 in
set_option maxHeartbeats 4000000 in
theorem lw_c28 {p : Program} {l : Launch} {e : Env} {s : State} {m : MethodId} {below : List Frame} {meth : Method} {c : Code} {b L : Nat} {xs : Nat → Int32} {X : XW} {xo mo : Nat} {σ0 : ST} {cells slots : Nat} {Q : State → Prop} {lb : Nat → Nat} (hcl : tb_Cls X lb xo mo) (hal : al_C X lb xo mo) (E : q_E p c cL_law s m #[Value.ref b] RL X) (hX : va_X b L xs s s.heap) (hbl : b < s.heap.size) (hbA : ¬ q_reg X b) (hml : c.maxLocals = 4) (hxo : q_kd X xo = 11) (hmo : q_kd X mo = 12) (hcs : cells ≤ room_1.cells ∧ slots ≤ room_1.slots) (hL : L ≤ 3072) {i : Nat} (hi : i + 6 ≤ L) {n : Int} (hn : 0 ≤ n ∧ n ≤ 199000) {σ : ST} {H : Heap} {locs : List Loc} {ls : Array Slot} (hI : q_I X 0 σ0 s.heap locs σ H) (hM : m_M (m_c X σ mo) (σ.1 mo 24).toInt n) (hl : lv_has ls 4 [(3, .int (nI i)), (2, .ref mo), (1, .ref xo), (0, .ref b)]) (hE : lw_E xo mo σ) (hB : lw_B X xo mo σ) (hA : al_R X xo mo σ σ)
    (kk : ∀ (σ : ST) (H : Heap) (locs : List Loc), q_I X 0 σ0 s.heap locs σ H → m_M (m_c X σ mo) (σ.1 mo 24).toInt (n + 301) → lw_E xo mo σ → lw_B X xo mo σ → al_R X xo mo σ σ → W p l e room_1 s m #[Value.ref b] below meth c H locs cells slots Q (F0 m 1796 ls [])) : W p l e room_1 s m #[Value.ref b] below meth c H locs cells slots Q (F0 m 1148 ls []) := by
  have hx := E.1
  have hb := E.2.1
  have hI0 := hI
  have hE0 := hE
  have hB0 := hB
  have hA0 := hA
  have hM0 := hM
  refine lv_aload_n hx hb eL_law_1138.2.2.2.2.2.2.1 rfl (lv_at hl 2 rfl) ?_
  refine lv_aload_n hx hb eL_law_1138.2.2.2.2.2.2.2.1 rfl (lv_at hl 3 rfl) ?_
  refine lv_iload_n hx hb eL_law_1150.1 rfl (lv_at hl 0 rfl) ?_
  refine lv_iconst (v := 1) hx hb eL_law_1150.2.1 (by decide) ?_
  refine lv_iadd hx hb eL_law_1150.2.2.1 ?_
  refine va_sld hx hb hX hbl hbA hI.S (lw_in (j := 1) (by decide) (by omega) hL) eL_law_1150.2.2.2.1 ?_
  have h3 := (q_bd hI hmo (rfl : q_bn 12 24 = (0, 3))).2
  refine q_ci (q_runV (As := [.int (xs (nI i + 1).toNatClampNeg)]) (rest := []) E (hml.trans hl.1.symm) hI (c_X11_worth l X σ xo ((xs (nI i + 1).toNatClampNeg)) hxo) kl_138 hxo ⟨rfl, by decide⟩ (show vwCl[10]? = some (RX11, TX11, 17) from rfl) rfl ⟨Nat.le_of_ble_eq_true rfl, Nat.le_of_ble_eq_true rfl⟩ hcs rfl (Nat.le_of_ble_eq_true rfl) eL_law_1150.2.2.2.2.1) hI (by decide) (fun r1 σ1 H locs hp hk hI => ?_)
  obtain ⟨pq0, hex1, how1⟩ := hp
  have hp := pq0
  have hB := lw_BK how1 hI.1 hxo hmo rfl rfl (how1.1 xo 5 (by rw [hxo]; rfl)) hB
  have hA1 := hA0.pre hal how1 rfl
  have hA := (hA.post hal how1 rfl).pre hal how1 rfl
  have hE := lw_EK hk (by decide) hxo hmo hE
  have hM := lw_kM hk hI.1 hmo (by decide) hM
  have hpp1 := hp
  have hMc := hM
  clear hp hk
  clear h3
  refine lv_pop hx hb eL_law_1150.2.2.2.2.2.1 rfl ?_
  refine lv_aload_n hx hb eL_law_1150.2.2.2.2.2.2.1 rfl (lv_at hl 1 rfl) ?_
  refine lv_aload_n hx hb eL_law_1150.2.2.2.2.2.2.2.1 rfl (lv_at hl 3 rfl) ?_
  refine lv_iload_n hx hb eL_law_1160.1 rfl (lv_at hl 0 rfl) ?_
  refine lv_iconst (v := 1) hx hb eL_law_1160.2.1 (by decide) ?_
  refine lv_iadd hx hb eL_law_1160.2.2.1 ?_
  refine va_sld hx hb hX hbl hbA hI.S (lw_in (j := 1) (by decide) (by omega) hL) eL_law_1160.2.2.2.1 ?_
  have h3 := (q_bd hI hmo (rfl : q_bn 12 24 = (0, 3))).2
  refine q_ci (q_runV (As := [.int (xs (nI i + 1).toNatClampNeg)]) (rest := []) E (hml.trans hl.1.symm) hI (c_X12_worth l X σ1 mo ((xs (nI i + 1).toNatClampNeg)) hmo hM.1.1) kl_141 hmo ⟨rfl, by decide⟩ (show vwCl[11]? = some (RX12, TX12, 46) from rfl) rfl ⟨Nat.le_of_ble_eq_true rfl, Nat.le_of_ble_eq_true rfl⟩ hcs rfl (Nat.le_of_ble_eq_true rfl) eL_law_1160.2.2.2.2.1) hI (by decide) (fun r2 σ2 H locs hp hk hI => ?_)
  obtain ⟨pq0, hex2, how2⟩ := hp
  have hp := pq0
  have hB := lw_BK how2 hI.1 hxo hmo rfl rfl (how2.1 xo 5 (by rw [hxo]; rfl)) hB
  have hA := (hA.post hal how2 rfl).pre hal how2 rfl
  have hE := lw_EK hk (by decide) hxo hmo hE
  have hM := lw_up (lw_kM hk hI.1 hmo (by decide) hM) (q_bd hI hmo (rfl : q_bn 12 24 = (0, 3))).2
  have hpp2 := hp
  clear hp hk
  clear h3
  refine lv_pop hx hb eL_law_1160.2.2.2.2.2.1 rfl ?_
  refine lv_goto (tgt := 1796) hx hb eL_law_1160.2.2.2.2.2.2.1 (by decide) ?_
  exact kk _ _ _ hI hM hE hB hA

set_option maxRecDepth 100000 in
set_option maxHeartbeats 4000000 in
theorem lw_c29 {p : Program} {l : Launch} {e : Env} {s : State} {m : MethodId} {below : List Frame} {meth : Method} {c : Code} {b L : Nat} {xs : Nat → Int32} {X : XW} {xo mo : Nat} {σ0 : ST} {cells slots : Nat} {Q : State → Prop} {lb : Nat → Nat} (hcl : tb_Cls X lb xo mo) (hal : al_C X lb xo mo) (E : q_E p c cL_law s m #[Value.ref b] RL X) (hX : va_X b L xs s s.heap) (hbl : b < s.heap.size) (hbA : ¬ q_reg X b) (hml : c.maxLocals = 4) (hxo : q_kd X xo = 11) (hmo : q_kd X mo = 12) (hcs : cells ≤ room_1.cells ∧ slots ≤ room_1.slots) (hL : L ≤ 3072) {i : Nat} (hi : i + 6 ≤ L) {n : Int} (hn : 0 ≤ n ∧ n ≤ 199000) {σ : ST} {H : Heap} {locs : List Loc} {ls : Array Slot} (hI : q_I X 0 σ0 s.heap locs σ H) (hM : m_M (m_c X σ mo) (σ.1 mo 24).toInt n) (hl : lv_has ls 4 [(3, .int (nI i)), (2, .ref mo), (1, .ref xo), (0, .ref b)]) (hE : lw_E xo mo σ) (hB : lw_B X xo mo σ) (hA : al_R X xo mo σ σ)
    (kk : ∀ (σ : ST) (H : Heap) (locs : List Loc), q_I X 0 σ0 s.heap locs σ H → m_M (m_c X σ mo) (σ.1 mo 24).toInt (n + 301) → lw_E xo mo σ → lw_B X xo mo σ → al_R X xo mo σ σ → W p l e room_1 s m #[Value.ref b] below meth c H locs cells slots Q (F0 m 1796 ls [])) : W p l e room_1 s m #[Value.ref b] below meth c H locs cells slots Q (F0 m 1171 ls []) := by
  have hx := E.1
  have hb := E.2.1
  have hI0 := hI
  have hE0 := hE
  have hB0 := hB
  have hA0 := hA
  have hM0 := hM
  refine lv_aload_n hx hb eL_law_1160.2.2.2.2.2.2.2.1 rfl (lv_at hl 2 rfl) ?_
  have h3 := (q_bd hI hmo (rfl : q_bn 12 24 = (0, 3))).2
  refine q_ci (q_runV (As := []) (rest := []) E (hml.trans hl.1.symm) hI (c_X11_ready l X σ xo hxo) kl_142 hxo ⟨rfl, by decide⟩ (show vwCl[10]? = some (RX11, TX11, 17) from rfl) rfl ⟨Nat.le_of_ble_eq_true rfl, Nat.le_of_ble_eq_true rfl⟩ hcs rfl (Nat.le_of_ble_eq_true rfl) eL_law_1172.1) hI (by decide) (fun r1 σ1 H locs hp hk hI => ?_)
  obtain ⟨hex1, how1⟩ := hp
  have hp := True.intro
  have hB := lw_BK how1 hI.1 hxo hmo rfl rfl (how1.1 xo 5 (by rw [hxo]; rfl)) hB
  have hA1 := hA0.pre hal how1 rfl
  have hA := (hA.post hal how1 rfl).pre hal how1 rfl
  have hE := lw_EK hk (by decide) hxo hmo hE
  have hM := lw_kM hk hI.1 hmo (by decide) hM
  have hpp1 := hp
  have hMc := hM
  clear hp hk
  clear h3
  refine lv_pop hx hb eL_law_1172.2.1 rfl ?_
  refine lv_aload_n hx hb eL_law_1172.2.2.1 rfl (lv_at hl 1 rfl) ?_
  have h3 := (q_bd hI hmo (rfl : q_bn 12 24 = (0, 3))).2
  refine q_ci (q_runV (As := []) (rest := []) E (hml.trans hl.1.symm) hI (c_X12_ready l X σ1 mo hmo hM.1.1) kl_145 hmo ⟨rfl, by decide⟩ (show vwCl[11]? = some (RX12, TX12, 46) from rfl) rfl ⟨Nat.le_of_ble_eq_true rfl, Nat.le_of_ble_eq_true rfl⟩ hcs rfl (Nat.le_of_ble_eq_true rfl) eL_law_1172.2.2.2.1) hI (by decide) (fun r2 σ2 H locs hp hk hI => ?_)
  obtain ⟨hex2, how2⟩ := hp
  have hp := True.intro
  have hB := lw_BK how2 hI.1 hxo hmo rfl rfl (how2.1 xo 5 (by rw [hxo]; rfl)) hB
  have hA := (hA.post hal how2 rfl).pre hal how2 rfl
  have hE := lw_EK hk (by decide) hxo hmo hE
  have hM := lw_up (lw_kM hk hI.1 hmo (by decide) hM) (q_bd hI hmo (rfl : q_bn 12 24 = (0, 3))).2
  have hpp2 := hp
  clear hp hk
  clear h3
  refine lv_pop hx hb eL_law_1172.2.2.2.2.1 rfl ?_
  refine lv_goto (tgt := 1796) hx hb eL_law_1172.2.2.2.2.2.1 (by decide) ?_
  exact kk _ _ _ hI hM hE hB hA

set_option maxRecDepth 100000 in
set_option maxHeartbeats 4000000 in
theorem lw_c30 {p : Program} {l : Launch} {e : Env} {s : State} {m : MethodId} {below : List Frame} {meth : Method} {c : Code} {b L : Nat} {xs : Nat → Int32} {X : XW} {xo mo : Nat} {σ0 : ST} {cells slots : Nat} {Q : State → Prop} {lb : Nat → Nat} (hcl : tb_Cls X lb xo mo) (hal : al_C X lb xo mo) (E : q_E p c cL_law s m #[Value.ref b] RL X) (hX : va_X b L xs s s.heap) (hbl : b < s.heap.size) (hbA : ¬ q_reg X b) (hml : c.maxLocals = 4) (hxo : q_kd X xo = 11) (hmo : q_kd X mo = 12) (hcs : cells ≤ room_1.cells ∧ slots ≤ room_1.slots) (hL : L ≤ 3072) {i : Nat} (hi : i + 6 ≤ L) {n : Int} (hn : 0 ≤ n ∧ n ≤ 199000) {σ : ST} {H : Heap} {locs : List Loc} {ls : Array Slot} (hI : q_I X 0 σ0 s.heap locs σ H) (hM : m_M (m_c X σ mo) (σ.1 mo 24).toInt n) (hl : lv_has ls 4 [(3, .int (nI i)), (2, .ref mo), (1, .ref xo), (0, .ref b)]) (hE : lw_E xo mo σ) (hB : lw_B X xo mo σ) (hA : al_R X xo mo σ σ)
    (kk : ∀ (σ : ST) (H : Heap) (locs : List Loc), q_I X 0 σ0 s.heap locs σ H → m_M (m_c X σ mo) (σ.1 mo 24).toInt (n + 301) → lw_E xo mo σ → lw_B X xo mo σ → al_R X xo mo σ σ → W p l e room_1 s m #[Value.ref b] below meth c H locs cells slots Q (F0 m 1796 ls [])) : W p l e room_1 s m #[Value.ref b] below meth c H locs cells slots Q (F0 m 1184 ls []) := by
  have hx := E.1
  have hb := E.2.1
  have hI0 := hI
  have hE0 := hE
  have hB0 := hB
  have hA0 := hA
  have hM0 := hM
  refine lv_aload_n hx hb eL_law_1172.2.2.2.2.2.2.1 rfl (lv_at hl 2 rfl) ?_
  refine lv_aload_n hx hb eL_law_1172.2.2.2.2.2.2.2.1 rfl (lv_at hl 3 rfl) ?_
  refine lv_iload_n hx hb eL_law_1186.1 rfl (lv_at hl 0 rfl) ?_
  refine lv_iconst (v := 1) hx hb eL_law_1186.2.1 (by decide) ?_
  refine lv_iadd hx hb eL_law_1186.2.2.1 ?_
  refine va_sld hx hb hX hbl hbA hI.S (lw_in (j := 1) (by decide) (by omega) hL) eL_law_1186.2.2.2.1 ?_
  refine lv_aload_n hx hb eL_law_1186.2.2.2.2.1 rfl (lv_at hl 3 rfl) ?_
  refine lv_iload_n hx hb eL_law_1186.2.2.2.2.2.1 rfl (lv_at hl 0 rfl) ?_
  refine lv_iconst (v := 2) hx hb eL_law_1186.2.2.2.2.2.2.1 (by decide) ?_
  refine lv_iadd hx hb eL_law_1186.2.2.2.2.2.2.2.1 ?_
  refine va_sld hx hb hX hbl hbA hI.S (lw_in (j := 2) (by decide) (by omega) hL) eL_law_1194.1 ?_
  have h3 := (q_bd hI hmo (rfl : q_bn 12 24 = (0, 3))).2
  refine q_ci (q_runV (As := [.int (xs (nI i + 1).toNatClampNeg), .int (xs (nI i + 2).toNatClampNeg)]) (rest := []) E (hml.trans hl.1.symm) hI (c_X11_heap l X σ xo ((xs (nI i + 1).toNatClampNeg)) ((xs (nI i + 2).toNatClampNeg)) hxo) kl_146 hxo ⟨rfl, by decide⟩ (show vwCl[10]? = some (RX11, TX11, 17) from rfl) rfl ⟨Nat.le_of_ble_eq_true rfl, Nat.le_of_ble_eq_true rfl⟩ hcs rfl (Nat.le_of_ble_eq_true rfl) eL_law_1194.2.1) hI (by decide) (fun r1 σ1 H locs hp hk hI => ?_)
  obtain ⟨pq0, hex1, how1⟩ := hp
  have hp := pq0
  have hB := lw_BK how1 hI.1 hxo hmo rfl rfl (how1.1 xo 5 (by rw [hxo]; rfl)) hB
  have hA1 := hA0.pre hal how1 rfl
  have hA := (hA.post hal how1 rfl).pre hal how1 rfl
  have hE := lw_EK hk (by decide) hxo hmo hE
  have hM := lw_kM hk hI.1 hmo (by decide) hM
  have hpp1 := hp
  have hMc := hM
  clear hp hk
  clear h3
  refine lv_pop hx hb eL_law_1194.2.2.1 rfl ?_
  refine lv_aload_n hx hb eL_law_1194.2.2.2.1 rfl (lv_at hl 1 rfl) ?_
  refine lv_aload_n hx hb eL_law_1194.2.2.2.2.1 rfl (lv_at hl 3 rfl) ?_
  refine lv_iload_n hx hb eL_law_1194.2.2.2.2.2.1 rfl (lv_at hl 0 rfl) ?_
  refine lv_iconst (v := 1) hx hb eL_law_1194.2.2.2.2.2.2.1 (by decide) ?_
  refine lv_iadd hx hb eL_law_1194.2.2.2.2.2.2.2.1 ?_
  refine va_sld hx hb hX hbl hbA hI.S (lw_in (j := 1) (by decide) (by omega) hL) eL_law_1204.1 ?_
  refine lv_aload_n hx hb eL_law_1204.2.1 rfl (lv_at hl 3 rfl) ?_
  refine lv_iload_n hx hb eL_law_1204.2.2.1 rfl (lv_at hl 0 rfl) ?_
  refine lv_iconst (v := 2) hx hb eL_law_1204.2.2.2.1 (by decide) ?_
  refine lv_iadd hx hb eL_law_1204.2.2.2.2.1 ?_
  refine va_sld hx hb hX hbl hbA hI.S (lw_in (j := 2) (by decide) (by omega) hL) eL_law_1204.2.2.2.2.2.1 ?_
  have h3 := (q_bd hI hmo (rfl : q_bn 12 24 = (0, 3))).2
  refine q_ci (q_runV (As := [.int (xs (nI i + 1).toNatClampNeg), .int (xs (nI i + 2).toNatClampNeg)]) (rest := []) E (hml.trans hl.1.symm) hI (c_X12_heap l X σ1 mo ((xs (nI i + 1).toNatClampNeg)) ((xs (nI i + 2).toNatClampNeg)) hmo hM.1.1) kl_150 hmo ⟨rfl, by decide⟩ (show vwCl[11]? = some (RX12, TX12, 46) from rfl) rfl ⟨Nat.le_of_ble_eq_true rfl, Nat.le_of_ble_eq_true rfl⟩ hcs rfl (Nat.le_of_ble_eq_true rfl) eL_law_1204.2.2.2.2.2.2.1) hI (by decide) (fun r2 σ2 H locs hp hk hI => ?_)
  obtain ⟨pq0, hex2, how2⟩ := hp
  have hp := pq0
  have hB := lw_BK how2 hI.1 hxo hmo rfl rfl (how2.1 xo 5 (by rw [hxo]; rfl)) hB
  have hA := (hA.post hal how2 rfl).pre hal how2 rfl
  have hE := lw_EK hk (by decide) hxo hmo hE
  have hM := lw_up (lw_kM hk hI.1 hmo (by decide) hM) (q_bd hI hmo (rfl : q_bn 12 24 = (0, 3))).2
  have hpp2 := hp
  clear hp hk
  clear h3
  refine lv_pop hx hb eL_law_1204.2.2.2.2.2.2.2.1 rfl ?_
  refine lv_goto (tgt := 1796) hx hb eL_law_1214.1 (by decide) ?_
  exact kk _ _ _ hI hM hE hB hA

set_option maxRecDepth 100000 in
set_option maxHeartbeats 4000000 in
theorem lw_c31 {p : Program} {l : Launch} {e : Env} {s : State} {m : MethodId} {below : List Frame} {meth : Method} {c : Code} {b L : Nat} {xs : Nat → Int32} {X : XW} {xo mo : Nat} {σ0 : ST} {cells slots : Nat} {Q : State → Prop} {lb : Nat → Nat} (hcl : tb_Cls X lb xo mo) (hal : al_C X lb xo mo) (E : q_E p c cL_law s m #[Value.ref b] RL X) (hX : va_X b L xs s s.heap) (hbl : b < s.heap.size) (hbA : ¬ q_reg X b) (hml : c.maxLocals = 4) (hxo : q_kd X xo = 11) (hmo : q_kd X mo = 12) (hcs : cells ≤ room_1.cells ∧ slots ≤ room_1.slots) (hL : L ≤ 3072) {i : Nat} (hi : i + 6 ≤ L) {n : Int} (hn : 0 ≤ n ∧ n ≤ 199000) {σ : ST} {H : Heap} {locs : List Loc} {ls : Array Slot} (hI : q_I X 0 σ0 s.heap locs σ H) (hM : m_M (m_c X σ mo) (σ.1 mo 24).toInt n) (hl : lv_has ls 4 [(3, .int (nI i)), (2, .ref mo), (1, .ref xo), (0, .ref b)]) (hE : lw_E xo mo σ) (hB : lw_B X xo mo σ) (hA : al_R X xo mo σ σ)
    (kk : ∀ (σ : ST) (H : Heap) (locs : List Loc), q_I X 0 σ0 s.heap locs σ H → m_M (m_c X σ mo) (σ.1 mo 24).toInt (n + 301) → lw_E xo mo σ → lw_B X xo mo σ → al_R X xo mo σ σ → W p l e room_1 s m #[Value.ref b] below meth c H locs cells slots Q (F0 m 1796 ls [])) : W p l e room_1 s m #[Value.ref b] below meth c H locs cells slots Q (F0 m 1217 ls []) := by
  have hx := E.1
  have hb := E.2.1
  have hI0 := hI
  have hE0 := hE
  have hB0 := hB
  have hA0 := hA
  have hM0 := hM
  refine lv_aload_n hx hb eL_law_1214.2.1 rfl (lv_at hl 2 rfl) ?_
  refine lv_aload_n hx hb eL_law_1214.2.2.1 rfl (lv_at hl 3 rfl) ?_
  refine lv_iload_n hx hb eL_law_1214.2.2.2.1 rfl (lv_at hl 0 rfl) ?_
  refine lv_iconst (v := 1) hx hb eL_law_1214.2.2.2.2.1 (by decide) ?_
  refine lv_iadd hx hb eL_law_1214.2.2.2.2.2.1 ?_
  refine va_sld hx hb hX hbl hbA hI.S (lw_in (j := 1) (by decide) (by omega) hL) eL_law_1214.2.2.2.2.2.2.1 ?_
  refine lv_aload_n hx hb eL_law_1214.2.2.2.2.2.2.2.1 rfl (lv_at hl 3 rfl) ?_
  refine lv_iload_n hx hb eL_law_1224.1 rfl (lv_at hl 0 rfl) ?_
  refine lv_iconst (v := 2) hx hb eL_law_1224.2.1 (by decide) ?_
  refine lv_iadd hx hb eL_law_1224.2.2.1 ?_
  refine va_sld hx hb hX hbl hbA hI.S (lw_in (j := 2) (by decide) (by omega) hL) eL_law_1224.2.2.2.1 ?_
  have h3 := (q_bd hI hmo (rfl : q_bn 12 24 = (0, 3))).2
  refine q_ci (q_runV (As := [.int (xs (nI i + 1).toNatClampNeg), .int (xs (nI i + 2).toNatClampNeg)]) (rest := []) E (hml.trans hl.1.symm) hI (c_X11_said l X σ xo ((xs (nI i + 1).toNatClampNeg)) ((xs (nI i + 2).toNatClampNeg)) hxo) kl_151 hxo ⟨rfl, by decide⟩ (show vwCl[10]? = some (RX11, TX11, 17) from rfl) rfl ⟨Nat.le_of_ble_eq_true rfl, Nat.le_of_ble_eq_true rfl⟩ hcs rfl (Nat.le_of_ble_eq_true rfl) eL_law_1224.2.2.2.2.1) hI (by decide) (fun r1 σ1 H locs hp hk hI => ?_)
  obtain ⟨hex1, how1⟩ := hp
  have hp := True.intro
  have hB := lw_BK how1 hI.1 hxo hmo rfl rfl (how1.1 xo 5 (by rw [hxo]; rfl)) hB
  have hA1 := hA0.pre hal how1 rfl
  have hA := (hA.post hal how1 rfl).pre hal how1 rfl
  have hE := lw_EK hk (by decide) hxo hmo hE
  have hM := lw_kM hk hI.1 hmo (by decide) hM
  have hpp1 := hp
  have hMc := hM
  clear hp hk
  clear h3
  refine lv_pop hx hb eL_law_1224.2.2.2.2.2.1 rfl ?_
  refine lv_aload_n hx hb eL_law_1224.2.2.2.2.2.2.1 rfl (lv_at hl 1 rfl) ?_
  refine lv_aload_n hx hb eL_law_1224.2.2.2.2.2.2.2.1 rfl (lv_at hl 3 rfl) ?_
  refine lv_iload_n hx hb eL_law_1234.1 rfl (lv_at hl 0 rfl) ?_
  refine lv_iconst (v := 1) hx hb eL_law_1234.2.1 (by decide) ?_
  refine lv_iadd hx hb eL_law_1234.2.2.1 ?_
  refine va_sld hx hb hX hbl hbA hI.S (lw_in (j := 1) (by decide) (by omega) hL) eL_law_1234.2.2.2.1 ?_
  refine lv_aload_n hx hb eL_law_1234.2.2.2.2.1 rfl (lv_at hl 3 rfl) ?_
  refine lv_iload_n hx hb eL_law_1234.2.2.2.2.2.1 rfl (lv_at hl 0 rfl) ?_
  refine lv_iconst (v := 2) hx hb eL_law_1234.2.2.2.2.2.2.1 (by decide) ?_
  refine lv_iadd hx hb eL_law_1234.2.2.2.2.2.2.2.1 ?_
  refine va_sld hx hb hX hbl hbA hI.S (lw_in (j := 2) (by decide) (by omega) hL) eL_law_1242.1 ?_
  have h3 := (q_bd hI hmo (rfl : q_bn 12 24 = (0, 3))).2
  refine q_ci (q_runV (As := [.int (xs (nI i + 1).toNatClampNeg), .int (xs (nI i + 2).toNatClampNeg)]) (rest := []) E (hml.trans hl.1.symm) hI (c_X12_said l X σ1 mo ((xs (nI i + 1).toNatClampNeg)) ((xs (nI i + 2).toNatClampNeg)) hmo hM.1.1) kl_154 hmo ⟨rfl, by decide⟩ (show vwCl[11]? = some (RX12, TX12, 46) from rfl) rfl ⟨Nat.le_of_ble_eq_true rfl, Nat.le_of_ble_eq_true rfl⟩ hcs rfl (Nat.le_of_ble_eq_true rfl) eL_law_1242.2.1) hI (by decide) (fun r2 σ2 H locs hp hk hI => ?_)
  obtain ⟨hex2, how2⟩ := hp
  have hp := True.intro
  have hB := lw_BK how2 hI.1 hxo hmo rfl rfl (how2.1 xo 5 (by rw [hxo]; rfl)) hB
  have hA := (hA.post hal how2 rfl).pre hal how2 rfl
  have hE := lw_EK hk (by decide) hxo hmo hE
  have hM := lw_up (lw_kM hk hI.1 hmo (by decide) hM) (q_bd hI hmo (rfl : q_bn 12 24 = (0, 3))).2
  have hpp2 := hp
  clear hp hk
  clear h3
  refine lv_pop hx hb eL_law_1242.2.2.1 rfl ?_
  refine lv_goto (tgt := 1796) hx hb eL_law_1242.2.2.2.1 (by decide) ?_
  exact kk _ _ _ hI hM hE hB hA

set_option maxRecDepth 100000 in
set_option maxHeartbeats 4000000 in
theorem lw_c32 {p : Program} {l : Launch} {e : Env} {s : State} {m : MethodId} {below : List Frame} {meth : Method} {c : Code} {b L : Nat} {xs : Nat → Int32} {X : XW} {xo mo : Nat} {σ0 : ST} {cells slots : Nat} {Q : State → Prop} {lb : Nat → Nat} (hcl : tb_Cls X lb xo mo) (hal : al_C X lb xo mo) (E : q_E p c cL_law s m #[Value.ref b] RL X) (hX : va_X b L xs s s.heap) (hbl : b < s.heap.size) (hbA : ¬ q_reg X b) (hml : c.maxLocals = 4) (hxo : q_kd X xo = 11) (hmo : q_kd X mo = 12) (hcs : cells ≤ room_1.cells ∧ slots ≤ room_1.slots) (hL : L ≤ 3072) {i : Nat} (hi : i + 6 ≤ L) {n : Int} (hn : 0 ≤ n ∧ n ≤ 199000) {σ : ST} {H : Heap} {locs : List Loc} {ls : Array Slot} (hI : q_I X 0 σ0 s.heap locs σ H) (hM : m_M (m_c X σ mo) (σ.1 mo 24).toInt n) (hl : lv_has ls 4 [(3, .int (nI i)), (2, .ref mo), (1, .ref xo), (0, .ref b)]) (hE : lw_E xo mo σ) (hB : lw_B X xo mo σ) (hA : al_R X xo mo σ σ)
    (kk : ∀ (σ : ST) (H : Heap) (locs : List Loc), q_I X 0 σ0 s.heap locs σ H → m_M (m_c X σ mo) (σ.1 mo 24).toInt (n + 301) → lw_E xo mo σ → lw_B X xo mo σ → al_R X xo mo σ σ → W p l e room_1 s m #[Value.ref b] below meth c H locs cells slots Q (F0 m 1796 ls [])) : W p l e room_1 s m #[Value.ref b] below meth c H locs cells slots Q (F0 m 1250 ls []) := by
  have hx := E.1
  have hb := E.2.1
  have hI0 := hI
  have hE0 := hE
  have hB0 := hB
  have hA0 := hA
  have hM0 := hM
  refine lv_aload_n hx hb eL_law_1242.2.2.2.2.1 rfl (lv_at hl 2 rfl) ?_
  refine lv_aload_n hx hb eL_law_1242.2.2.2.2.2.1 rfl (lv_at hl 3 rfl) ?_
  refine lv_iload_n hx hb eL_law_1242.2.2.2.2.2.2.1 rfl (lv_at hl 0 rfl) ?_
  refine lv_iconst (v := 1) hx hb eL_law_1242.2.2.2.2.2.2.2.1 (by decide) ?_
  refine lv_iadd hx hb eL_law_1254.1 ?_
  refine va_sld hx hb hX hbl hbA hI.S (lw_in (j := 1) (by decide) (by omega) hL) eL_law_1254.2.1 ?_
  have h3 := (q_bd hI hmo (rfl : q_bn 12 24 = (0, 3))).2
  refine q_ci (q_runV (As := [.int (xs (nI i + 1).toNatClampNeg)]) (rest := []) E (hml.trans hl.1.symm) hI (c_X11_waits l X σ xo ((xs (nI i + 1).toNatClampNeg)) hxo) kl_155 hxo ⟨rfl, by decide⟩ (show vwCl[10]? = some (RX11, TX11, 17) from rfl) rfl ⟨Nat.le_of_ble_eq_true rfl, Nat.le_of_ble_eq_true rfl⟩ hcs rfl (Nat.le_of_ble_eq_true rfl) eL_law_1254.2.2.1) hI (by decide) (fun r1 σ1 H locs hp hk hI => ?_)
  obtain ⟨hex1, how1⟩ := hp
  have hp := True.intro
  have hB := lw_BK how1 hI.1 hxo hmo rfl rfl (how1.1 xo 5 (by rw [hxo]; rfl)) hB
  have hA1 := hA0.pre hal how1 rfl
  have hA := (hA.post hal how1 rfl).pre hal how1 rfl
  have hE := lw_EK hk (by decide) hxo hmo hE
  have hM := lw_kM hk hI.1 hmo (by decide) hM
  have hpp1 := hp
  have hMc := hM
  clear hp hk
  clear h3
  refine lv_pop hx hb eL_law_1254.2.2.2.1 rfl ?_
  refine lv_aload_n hx hb eL_law_1254.2.2.2.2.1 rfl (lv_at hl 1 rfl) ?_
  refine lv_aload_n hx hb eL_law_1254.2.2.2.2.2.1 rfl (lv_at hl 3 rfl) ?_
  refine lv_iload_n hx hb eL_law_1254.2.2.2.2.2.2.1 rfl (lv_at hl 0 rfl) ?_
  refine lv_iconst (v := 1) hx hb eL_law_1254.2.2.2.2.2.2.2.1 (by decide) ?_
  refine lv_iadd hx hb eL_law_1264.1 ?_
  refine va_sld hx hb hX hbl hbA hI.S (lw_in (j := 1) (by decide) (by omega) hL) eL_law_1264.2.1 ?_
  have h3 := (q_bd hI hmo (rfl : q_bn 12 24 = (0, 3))).2
  refine q_ci (q_runV (As := [.int (xs (nI i + 1).toNatClampNeg)]) (rest := []) E (hml.trans hl.1.symm) hI (c_X12_waits l X σ1 mo ((xs (nI i + 1).toNatClampNeg)) hmo hM.1.1) kl_158 hmo ⟨rfl, by decide⟩ (show vwCl[11]? = some (RX12, TX12, 46) from rfl) rfl ⟨Nat.le_of_ble_eq_true rfl, Nat.le_of_ble_eq_true rfl⟩ hcs rfl (Nat.le_of_ble_eq_true rfl) eL_law_1264.2.2.1) hI (by decide) (fun r2 σ2 H locs hp hk hI => ?_)
  obtain ⟨hex2, how2⟩ := hp
  have hp := True.intro
  have hB := lw_BK how2 hI.1 hxo hmo rfl rfl (how2.1 xo 5 (by rw [hxo]; rfl)) hB
  have hA := (hA.post hal how2 rfl).pre hal how2 rfl
  have hE := lw_EK hk (by decide) hxo hmo hE
  have hM := lw_up (lw_kM hk hI.1 hmo (by decide) hM) (q_bd hI hmo (rfl : q_bn 12 24 = (0, 3))).2
  have hpp2 := hp
  clear hp hk
  clear h3
  refine lv_pop hx hb eL_law_1264.2.2.2.1 rfl ?_
  refine lv_goto (tgt := 1796) hx hb eL_law_1264.2.2.2.2.1 (by decide) ?_
  exact kk _ _ _ hI hM hE hB hA

set_option maxRecDepth 100000 in
set_option maxHeartbeats 4000000 in
theorem lw_c33 {p : Program} {l : Launch} {e : Env} {s : State} {m : MethodId} {below : List Frame} {meth : Method} {c : Code} {b L : Nat} {xs : Nat → Int32} {X : XW} {xo mo : Nat} {σ0 : ST} {cells slots : Nat} {Q : State → Prop} {lb : Nat → Nat} (hcl : tb_Cls X lb xo mo) (hal : al_C X lb xo mo) (E : q_E p c cL_law s m #[Value.ref b] RL X) (hX : va_X b L xs s s.heap) (hbl : b < s.heap.size) (hbA : ¬ q_reg X b) (hml : c.maxLocals = 4) (hxo : q_kd X xo = 11) (hmo : q_kd X mo = 12) (hcs : cells ≤ room_1.cells ∧ slots ≤ room_1.slots) (hL : L ≤ 3072) {i : Nat} (hi : i + 6 ≤ L) {n : Int} (hn : 0 ≤ n ∧ n ≤ 199000) {σ : ST} {H : Heap} {locs : List Loc} {ls : Array Slot} (hI : q_I X 0 σ0 s.heap locs σ H) (hM : m_M (m_c X σ mo) (σ.1 mo 24).toInt n) (hl : lv_has ls 4 [(3, .int (nI i)), (2, .ref mo), (1, .ref xo), (0, .ref b)]) (hE : lw_E xo mo σ) (hB : lw_B X xo mo σ) (hA : al_R X xo mo σ σ)
    (kk : ∀ (σ : ST) (H : Heap) (locs : List Loc), q_I X 0 σ0 s.heap locs σ H → m_M (m_c X σ mo) (σ.1 mo 24).toInt (n + 301) → lw_E xo mo σ → lw_B X xo mo σ → al_R X xo mo σ σ → W p l e room_1 s m #[Value.ref b] below meth c H locs cells slots Q (F0 m 1796 ls [])) : W p l e room_1 s m #[Value.ref b] below meth c H locs cells slots Q (F0 m 1273 ls []) := by
  have hx := E.1
  have hb := E.2.1
  have hI0 := hI
  have hE0 := hE
  have hB0 := hB
  have hA0 := hA
  have hM0 := hM
  refine lv_aload_n hx hb eL_law_1264.2.2.2.2.2.1 rfl (lv_at hl 2 rfl) ?_
  refine lv_aload_n hx hb eL_law_1264.2.2.2.2.2.2.1 rfl (lv_at hl 3 rfl) ?_
  refine lv_iload_n hx hb eL_law_1264.2.2.2.2.2.2.2.1 rfl (lv_at hl 0 rfl) ?_
  refine lv_iconst (v := 1) hx hb eL_law_1276.1 (by decide) ?_
  refine lv_iadd hx hb eL_law_1276.2.1 ?_
  refine va_sld hx hb hX hbl hbA hI.S (lw_in (j := 1) (by decide) (by omega) hL) eL_law_1276.2.2.1 ?_
  refine lv_aload_n hx hb eL_law_1276.2.2.2.1 rfl (lv_at hl 3 rfl) ?_
  refine lv_iload_n hx hb eL_law_1276.2.2.2.2.1 rfl (lv_at hl 0 rfl) ?_
  refine lv_iconst (v := 2) hx hb eL_law_1276.2.2.2.2.2.1 (by decide) ?_
  refine lv_iadd hx hb eL_law_1276.2.2.2.2.2.2.1 ?_
  refine va_sld hx hb hX hbl hbA hI.S (lw_in (j := 2) (by decide) (by omega) hL) eL_law_1276.2.2.2.2.2.2.2.1 ?_
  have h3 := (q_bd hI hmo (rfl : q_bn 12 24 = (0, 3))).2
  refine q_ci (q_runV (As := [.int (xs (nI i + 1).toNatClampNeg), .int (xs (nI i + 2).toNatClampNeg)]) (rest := []) E (hml.trans hl.1.symm) hI (c_X11_falls l X σ xo ((xs (nI i + 1).toNatClampNeg)) ((xs (nI i + 2).toNatClampNeg)) hxo) kl_159 hxo ⟨rfl, by decide⟩ (show vwCl[10]? = some (RX11, TX11, 17) from rfl) rfl ⟨Nat.le_of_ble_eq_true rfl, Nat.le_of_ble_eq_true rfl⟩ hcs rfl (Nat.le_of_ble_eq_true rfl) eL_law_1284.1) hI (by decide) (fun r1 σ1 H locs hp hk hI => ?_)
  obtain ⟨hex1, how1⟩ := hp
  have hp := True.intro
  have hB := lw_BK how1 hI.1 hxo hmo rfl rfl (how1.1 xo 5 (by rw [hxo]; rfl)) hB
  have hA1 := hA0.pre hal how1 rfl
  have hA := (hA.post hal how1 rfl).pre hal how1 rfl
  have hE := lw_EK hk (by decide) hxo hmo hE
  have hM := lw_kM hk hI.1 hmo (by decide) hM
  have hpp1 := hp
  have hMc := hM
  clear hp hk
  clear h3
  refine lv_pop hx hb eL_law_1284.2.1 rfl ?_
  refine lv_aload_n hx hb eL_law_1284.2.2.1 rfl (lv_at hl 1 rfl) ?_
  refine lv_aload_n hx hb eL_law_1284.2.2.2.1 rfl (lv_at hl 3 rfl) ?_
  refine lv_iload_n hx hb eL_law_1284.2.2.2.2.1 rfl (lv_at hl 0 rfl) ?_
  refine lv_iconst (v := 1) hx hb eL_law_1284.2.2.2.2.2.1 (by decide) ?_
  refine lv_iadd hx hb eL_law_1284.2.2.2.2.2.2.1 ?_
  refine va_sld hx hb hX hbl hbA hI.S (lw_in (j := 1) (by decide) (by omega) hL) eL_law_1284.2.2.2.2.2.2.2.1 ?_
  refine lv_aload_n hx hb eL_law_1294.1 rfl (lv_at hl 3 rfl) ?_
  refine lv_iload_n hx hb eL_law_1294.2.1 rfl (lv_at hl 0 rfl) ?_
  refine lv_iconst (v := 2) hx hb eL_law_1294.2.2.1 (by decide) ?_
  refine lv_iadd hx hb eL_law_1294.2.2.2.1 ?_
  refine va_sld hx hb hX hbl hbA hI.S (lw_in (j := 2) (by decide) (by omega) hL) eL_law_1294.2.2.2.2.1 ?_
  have h3 := (q_bd hI hmo (rfl : q_bn 12 24 = (0, 3))).2
  refine q_ci (q_runV (As := [.int (xs (nI i + 1).toNatClampNeg), .int (xs (nI i + 2).toNatClampNeg)]) (rest := []) E (hml.trans hl.1.symm) hI (c_X12_falls l X σ1 mo ((xs (nI i + 1).toNatClampNeg)) ((xs (nI i + 2).toNatClampNeg)) hmo hM.1.1) kl_162 hmo ⟨rfl, by decide⟩ (show vwCl[11]? = some (RX12, TX12, 46) from rfl) rfl ⟨Nat.le_of_ble_eq_true rfl, Nat.le_of_ble_eq_true rfl⟩ hcs rfl (Nat.le_of_ble_eq_true rfl) eL_law_1294.2.2.2.2.2.1) hI (by decide) (fun r2 σ2 H locs hp hk hI => ?_)
  obtain ⟨hex2, how2⟩ := hp
  have hp := True.intro
  have hB := lw_BK how2 hI.1 hxo hmo rfl rfl (how2.1 xo 5 (by rw [hxo]; rfl)) hB
  have hA := (hA.post hal how2 rfl).pre hal how2 rfl
  have hE := lw_EK hk (by decide) hxo hmo hE
  have hM := lw_up (lw_kM hk hI.1 hmo (by decide) hM) (q_bd hI hmo (rfl : q_bn 12 24 = (0, 3))).2
  have hpp2 := hp
  clear hp hk
  clear h3
  refine lv_pop hx hb eL_law_1294.2.2.2.2.2.2.1 rfl ?_
  refine lv_goto (tgt := 1796) hx hb eL_law_1294.2.2.2.2.2.2.2.1 (by decide) ?_
  exact kk _ _ _ hI hM hE hB hA

set_option maxRecDepth 100000 in
set_option maxHeartbeats 4000000 in
theorem lw_c34 {p : Program} {l : Launch} {e : Env} {s : State} {m : MethodId} {below : List Frame} {meth : Method} {c : Code} {b L : Nat} {xs : Nat → Int32} {X : XW} {xo mo : Nat} {σ0 : ST} {cells slots : Nat} {Q : State → Prop} {lb : Nat → Nat} (hcl : tb_Cls X lb xo mo) (hal : al_C X lb xo mo) (E : q_E p c cL_law s m #[Value.ref b] RL X) (hX : va_X b L xs s s.heap) (hbl : b < s.heap.size) (hbA : ¬ q_reg X b) (hml : c.maxLocals = 4) (hxo : q_kd X xo = 11) (hmo : q_kd X mo = 12) (hcs : cells ≤ room_1.cells ∧ slots ≤ room_1.slots) (hL : L ≤ 3072) {i : Nat} (hi : i + 6 ≤ L) {n : Int} (hn : 0 ≤ n ∧ n ≤ 199000) {σ : ST} {H : Heap} {locs : List Loc} {ls : Array Slot} (hI : q_I X 0 σ0 s.heap locs σ H) (hM : m_M (m_c X σ mo) (σ.1 mo 24).toInt n) (hl : lv_has ls 4 [(3, .int (nI i)), (2, .ref mo), (1, .ref xo), (0, .ref b)]) (hE : lw_E xo mo σ) (hB : lw_B X xo mo σ) (hA : al_R X xo mo σ σ)
    (kk : ∀ (σ : ST) (H : Heap) (locs : List Loc), q_I X 0 σ0 s.heap locs σ H → m_M (m_c X σ mo) (σ.1 mo 24).toInt (n + 301) → lw_E xo mo σ → lw_B X xo mo σ → al_R X xo mo σ σ → W p l e room_1 s m #[Value.ref b] below meth c H locs cells slots Q (F0 m 1796 ls [])) : W p l e room_1 s m #[Value.ref b] below meth c H locs cells slots Q (F0 m 1306 ls []) := by
  have hx := E.1
  have hb := E.2.1
  have hI0 := hI
  have hE0 := hE
  have hB0 := hB
  have hA0 := hA
  have hM0 := hM
  refine lv_aload_n hx hb eL_law_1306.1 rfl (lv_at hl 2 rfl) ?_
  refine lv_aload_n hx hb eL_law_1306.2.1 rfl (lv_at hl 3 rfl) ?_
  refine lv_iload_n hx hb eL_law_1306.2.2.1 rfl (lv_at hl 0 rfl) ?_
  refine lv_iconst (v := 1) hx hb eL_law_1306.2.2.2.1 (by decide) ?_
  refine lv_iadd hx hb eL_law_1306.2.2.2.2.1 ?_
  refine va_sld hx hb hX hbl hbA hI.S (lw_in (j := 1) (by decide) (by omega) hL) eL_law_1306.2.2.2.2.2.1 ?_
  refine lv_aload_n hx hb eL_law_1306.2.2.2.2.2.2.1 rfl (lv_at hl 3 rfl) ?_
  refine lv_iload_n hx hb eL_law_1306.2.2.2.2.2.2.2.1 rfl (lv_at hl 0 rfl) ?_
  refine lv_iconst (v := 2) hx hb eL_law_1314.1 (by decide) ?_
  refine lv_iadd hx hb eL_law_1314.2.1 ?_
  refine va_sld hx hb hX hbl hbA hI.S (lw_in (j := 2) (by decide) (by omega) hL) eL_law_1314.2.2.1 ?_
  have h3 := (q_bd hI hmo (rfl : q_bn 12 24 = (0, 3))).2
  refine q_ci (q_runV (As := [.int (xs (nI i + 1).toNatClampNeg), .int (xs (nI i + 2).toNatClampNeg)]) (rest := []) E (hml.trans hl.1.symm) hI (c_X11_honestly l X σ xo ((xs (nI i + 1).toNatClampNeg)) ((xs (nI i + 2).toNatClampNeg)) hxo) kl_163 hxo ⟨rfl, by decide⟩ (show vwCl[10]? = some (RX11, TX11, 17) from rfl) rfl ⟨Nat.le_of_ble_eq_true rfl, Nat.le_of_ble_eq_true rfl⟩ hcs rfl (Nat.le_of_ble_eq_true rfl) eL_law_1314.2.2.2.1) hI (by decide) (fun r1 σ1 H locs hp hk hI => ?_)
  obtain ⟨hex1, how1⟩ := hp
  have hp := True.intro
  have hB := lw_BK how1 hI.1 hxo hmo rfl rfl (how1.1 xo 5 (by rw [hxo]; rfl)) hB
  have hA1 := hA0.pre hal how1 rfl
  have hA := (hA.fs hal hM0 (lw_fs hex1 (fs_honestly ((xs (nI i + 1).toNatClampNeg)) ((xs (nI i + 2).toNatClampNeg))))).pre hal how1 rfl
  have hE := lw_EK hk (by decide) hxo hmo hE
  have hM := lw_kM hk hI.1 hmo (by decide) hM
  have hpp1 := hp
  have hMc := hM
  clear hp hk
  clear h3
  refine lv_pop hx hb eL_law_1314.2.2.2.2.1 rfl ?_
  refine lv_aload_n hx hb eL_law_1314.2.2.2.2.2.1 rfl (lv_at hl 1 rfl) ?_
  refine lv_aload_n hx hb eL_law_1314.2.2.2.2.2.2.1 rfl (lv_at hl 3 rfl) ?_
  refine lv_iload_n hx hb eL_law_1314.2.2.2.2.2.2.2.1 rfl (lv_at hl 0 rfl) ?_
  refine lv_iconst (v := 1) hx hb eL_law_1324.1 (by decide) ?_
  refine lv_iadd hx hb eL_law_1324.2.1 ?_
  refine va_sld hx hb hX hbl hbA hI.S (lw_in (j := 1) (by decide) (by omega) hL) eL_law_1324.2.2.1 ?_
  refine lv_aload_n hx hb eL_law_1324.2.2.2.1 rfl (lv_at hl 3 rfl) ?_
  refine lv_iload_n hx hb eL_law_1324.2.2.2.2.1 rfl (lv_at hl 0 rfl) ?_
  refine lv_iconst (v := 2) hx hb eL_law_1324.2.2.2.2.2.1 (by decide) ?_
  refine lv_iadd hx hb eL_law_1324.2.2.2.2.2.2.1 ?_
  refine va_sld hx hb hX hbl hbA hI.S (lw_in (j := 2) (by decide) (by omega) hL) eL_law_1324.2.2.2.2.2.2.2.1 ?_
  have h3 := (q_bd hI hmo (rfl : q_bn 12 24 = (0, 3))).2
  refine q_ci (q_runV (As := [.int (xs (nI i + 1).toNatClampNeg), .int (xs (nI i + 2).toNatClampNeg)]) (rest := []) E (hml.trans hl.1.symm) hI (c_X12_honestly l X σ1 mo ((xs (nI i + 1).toNatClampNeg)) ((xs (nI i + 2).toNatClampNeg)) hmo hM.1.1) kl_166 hmo ⟨rfl, by decide⟩ (show vwCl[11]? = some (RX12, TX12, 46) from rfl) rfl ⟨Nat.le_of_ble_eq_true rfl, Nat.le_of_ble_eq_true rfl⟩ hcs rfl (Nat.le_of_ble_eq_true rfl) eL_law_1332.1) hI (by decide) (fun r2 σ2 H locs hp hk hI => ?_)
  obtain ⟨hex2, how2⟩ := hp
  have hp := True.intro
  have hB := lw_BK how2 hI.1 hxo hmo rfl rfl (how2.1 xo 5 (by rw [hxo]; rfl)) hB
  have hA := (hA.post hal how2 rfl).pre hal how2 rfl
  have hE := lw_EK hk (by decide) hxo hmo hE
  have hM := lw_up (lw_kM hk hI.1 hmo (by decide) hM) (q_bd hI hmo (rfl : q_bn 12 24 = (0, 3))).2
  have hpp2 := hp
  clear hp hk
  clear h3
  refine lv_pop hx hb eL_law_1332.2.1 rfl ?_
  refine lv_goto (tgt := 1796) hx hb eL_law_1332.2.2.1 (by decide) ?_
  exact kk _ _ _ hI hM hE hB hA

set_option maxRecDepth 100000 in
set_option maxHeartbeats 4000000 in
theorem lw_c35 {p : Program} {l : Launch} {e : Env} {s : State} {m : MethodId} {below : List Frame} {meth : Method} {c : Code} {b L : Nat} {xs : Nat → Int32} {X : XW} {xo mo : Nat} {σ0 : ST} {cells slots : Nat} {Q : State → Prop} {lb : Nat → Nat} (hcl : tb_Cls X lb xo mo) (hal : al_C X lb xo mo) (E : q_E p c cL_law s m #[Value.ref b] RL X) (hX : va_X b L xs s s.heap) (hbl : b < s.heap.size) (hbA : ¬ q_reg X b) (hml : c.maxLocals = 4) (hxo : q_kd X xo = 11) (hmo : q_kd X mo = 12) (hcs : cells ≤ room_1.cells ∧ slots ≤ room_1.slots) (hL : L ≤ 3072) {i : Nat} (hi : i + 6 ≤ L) {n : Int} (hn : 0 ≤ n ∧ n ≤ 199000) {σ : ST} {H : Heap} {locs : List Loc} {ls : Array Slot} (hI : q_I X 0 σ0 s.heap locs σ H) (hM : m_M (m_c X σ mo) (σ.1 mo 24).toInt n) (hl : lv_has ls 4 [(3, .int (nI i)), (2, .ref mo), (1, .ref xo), (0, .ref b)]) (hE : lw_E xo mo σ) (hB : lw_B X xo mo σ) (hA : al_R X xo mo σ σ)
    (kk : ∀ (σ : ST) (H : Heap) (locs : List Loc), q_I X 0 σ0 s.heap locs σ H → m_M (m_c X σ mo) (σ.1 mo 24).toInt (n + 301) → lw_E xo mo σ → lw_B X xo mo σ → al_R X xo mo σ σ → W p l e room_1 s m #[Value.ref b] below meth c H locs cells slots Q (F0 m 1796 ls [])) : W p l e room_1 s m #[Value.ref b] below meth c H locs cells slots Q (F0 m 1339 ls []) := by
  have hx := E.1
  have hb := E.2.1
  have hI0 := hI
  have hE0 := hE
  have hB0 := hB
  have hA0 := hA
  have hM0 := hM
  refine lv_aload_n hx hb eL_law_1332.2.2.2.1 rfl (lv_at hl 2 rfl) ?_
  refine lv_aload_n hx hb eL_law_1332.2.2.2.2.1 rfl (lv_at hl 3 rfl) ?_
  refine lv_iload_n hx hb eL_law_1332.2.2.2.2.2.1 rfl (lv_at hl 0 rfl) ?_
  refine lv_iconst (v := 1) hx hb eL_law_1332.2.2.2.2.2.2.1 (by decide) ?_
  refine lv_iadd hx hb eL_law_1332.2.2.2.2.2.2.2.1 ?_
  refine va_sld hx hb hX hbl hbA hI.S (lw_in (j := 1) (by decide) (by omega) hL) eL_law_1344.1 ?_
  have h3 := (q_bd hI hmo (rfl : q_bn 12 24 = (0, 3))).2
  refine q_ci (q_runV (As := [.int (xs (nI i + 1).toNatClampNeg)]) (rest := []) E (hml.trans hl.1.symm) hI (c_X11_rid l X σ xo ((xs (nI i + 1).toNatClampNeg)) hxo) kl_167 hxo ⟨rfl, by decide⟩ (show vwCl[10]? = some (RX11, TX11, 17) from rfl) rfl ⟨Nat.le_of_ble_eq_true rfl, Nat.le_of_ble_eq_true rfl⟩ hcs rfl (Nat.le_of_ble_eq_true rfl) eL_law_1344.2.1) hI (by decide) (fun r1 σ1 H locs hp hk hI => ?_)
  obtain ⟨hex1, how1⟩ := hp
  have hp := True.intro
  have hB := lw_BK how1 hI.1 hxo hmo rfl rfl (how1.1 xo 5 (by rw [hxo]; rfl)) hB
  have hA1 := hA0.pre hal how1 rfl
  have hA := (hA.fs hal hM0 (lw_fs hex1 (fs_rid ((xs (nI i + 1).toNatClampNeg))))).pre hal how1 rfl
  have hE := lw_EK hk (by decide) hxo hmo hE
  have hM := lw_kM hk hI.1 hmo (by decide) hM
  have hpp1 := hp
  have hMc := hM
  clear hp hk
  clear h3
  refine lv_pop hx hb eL_law_1344.2.2.1 rfl ?_
  refine lv_aload_n hx hb eL_law_1344.2.2.2.1 rfl (lv_at hl 1 rfl) ?_
  refine lv_aload_n hx hb eL_law_1344.2.2.2.2.1 rfl (lv_at hl 3 rfl) ?_
  refine lv_iload_n hx hb eL_law_1344.2.2.2.2.2.1 rfl (lv_at hl 0 rfl) ?_
  refine lv_iconst (v := 1) hx hb eL_law_1344.2.2.2.2.2.2.1 (by decide) ?_
  refine lv_iadd hx hb eL_law_1344.2.2.2.2.2.2.2.1 ?_
  refine va_sld hx hb hX hbl hbA hI.S (lw_in (j := 1) (by decide) (by omega) hL) eL_law_1354.1 ?_
  have h3 := (q_bd hI hmo (rfl : q_bn 12 24 = (0, 3))).2
  refine q_ci (q_runV (As := [.int (xs (nI i + 1).toNatClampNeg)]) (rest := []) E (hml.trans hl.1.symm) hI (c_X12_rid l X σ1 mo ((xs (nI i + 1).toNatClampNeg)) hmo hM.1.1) kl_170 hmo ⟨rfl, by decide⟩ (show vwCl[11]? = some (RX12, TX12, 46) from rfl) rfl ⟨Nat.le_of_ble_eq_true rfl, Nat.le_of_ble_eq_true rfl⟩ hcs rfl (Nat.le_of_ble_eq_true rfl) eL_law_1354.2.1) hI (by decide) (fun r2 σ2 H locs hp hk hI => ?_)
  obtain ⟨hex2, how2⟩ := hp
  have hp := True.intro
  have hB := lw_BK how2 hI.1 hxo hmo rfl rfl (how2.1 xo 5 (by rw [hxo]; rfl)) hB
  have hA := (hA.post hal how2 rfl).pre hal how2 rfl
  have hE := lw_EK hk (by decide) hxo hmo hE
  have hM := lw_up (lw_kM hk hI.1 hmo (by decide) hM) (q_bd hI hmo (rfl : q_bn 12 24 = (0, 3))).2
  have hpp2 := hp
  clear hp hk
  clear h3
  refine lv_pop hx hb eL_law_1354.2.2.1 rfl ?_
  refine lv_goto (tgt := 1796) hx hb eL_law_1354.2.2.2.1 (by decide) ?_
  exact kk _ _ _ hI hM hE hB hA

set_option maxRecDepth 100000 in
set_option maxHeartbeats 4000000 in
theorem lw_c36 {p : Program} {l : Launch} {e : Env} {s : State} {m : MethodId} {below : List Frame} {meth : Method} {c : Code} {b L : Nat} {xs : Nat → Int32} {X : XW} {xo mo : Nat} {σ0 : ST} {cells slots : Nat} {Q : State → Prop} {lb : Nat → Nat} (hcl : tb_Cls X lb xo mo) (hal : al_C X lb xo mo) (E : q_E p c cL_law s m #[Value.ref b] RL X) (hX : va_X b L xs s s.heap) (hbl : b < s.heap.size) (hbA : ¬ q_reg X b) (hml : c.maxLocals = 4) (hxo : q_kd X xo = 11) (hmo : q_kd X mo = 12) (hcs : cells ≤ room_1.cells ∧ slots ≤ room_1.slots) (hL : L ≤ 3072) {i : Nat} (hi : i + 6 ≤ L) {n : Int} (hn : 0 ≤ n ∧ n ≤ 199000) {σ : ST} {H : Heap} {locs : List Loc} {ls : Array Slot} (hI : q_I X 0 σ0 s.heap locs σ H) (hM : m_M (m_c X σ mo) (σ.1 mo 24).toInt n) (hl : lv_has ls 4 [(3, .int (nI i)), (2, .ref mo), (1, .ref xo), (0, .ref b)]) (hE : lw_E xo mo σ) (hB : lw_B X xo mo σ) (hA : al_R X xo mo σ σ)
    (kk : ∀ (σ : ST) (H : Heap) (locs : List Loc), q_I X 0 σ0 s.heap locs σ H → m_M (m_c X σ mo) (σ.1 mo 24).toInt (n + 301) → lw_E xo mo σ → lw_B X xo mo σ → al_R X xo mo σ σ → W p l e room_1 s m #[Value.ref b] below meth c H locs cells slots Q (F0 m 1796 ls [])) : W p l e room_1 s m #[Value.ref b] below meth c H locs cells slots Q (F0 m 1362 ls []) := by
  have hx := E.1
  have hb := E.2.1
  have hI0 := hI
  have hE0 := hE
  have hB0 := hB
  have hA0 := hA
  have hM0 := hM
  refine lv_aload_n hx hb eL_law_1354.2.2.2.2.1 rfl (lv_at hl 2 rfl) ?_
  refine lv_aload_n hx hb eL_law_1354.2.2.2.2.2.1 rfl (lv_at hl 3 rfl) ?_
  refine lv_iload_n hx hb eL_law_1354.2.2.2.2.2.2.1 rfl (lv_at hl 0 rfl) ?_
  refine lv_iconst (v := 1) hx hb eL_law_1354.2.2.2.2.2.2.2.1 (by decide) ?_
  refine lv_iadd hx hb eL_law_1366.1 ?_
  refine va_sld hx hb hX hbl hbA hI.S (lw_in (j := 1) (by decide) (by omega) hL) eL_law_1366.2.1 ?_
  have h3 := (q_bd hI hmo (rfl : q_bn 12 24 = (0, 3))).2
  refine q_ci (q_runV (As := [.int (xs (nI i + 1).toNatClampNeg)]) (rest := []) E (hml.trans hl.1.symm) hI (c_X11_lastKind l X σ xo ((xs (nI i + 1).toNatClampNeg)) hxo) kl_171 hxo ⟨rfl, by decide⟩ (show vwCl[10]? = some (RX11, TX11, 17) from rfl) rfl ⟨Nat.le_of_ble_eq_true rfl, Nat.le_of_ble_eq_true rfl⟩ hcs rfl (Nat.le_of_ble_eq_true rfl) eL_law_1366.2.2.1) hI (by decide) (fun r1 σ1 H locs hp hk hI => ?_)
  obtain ⟨hex1, how1⟩ := hp
  have hp := True.intro
  have hB := lw_BK how1 hI.1 hxo hmo rfl rfl (how1.1 xo 5 (by rw [hxo]; rfl)) hB
  have hA1 := hA0.pre hal how1 rfl
  have hA := (hA.fs hal hM0 (lw_fs hex1 (fs_lastKind ((xs (nI i + 1).toNatClampNeg))))).pre hal how1 rfl
  have hE := lw_EK hk (by decide) hxo hmo hE
  have hM := lw_kM hk hI.1 hmo (by decide) hM
  have hpp1 := hp
  have hMc := hM
  clear hp hk
  clear h3
  refine lv_pop hx hb eL_law_1366.2.2.2.1 rfl ?_
  refine lv_aload_n hx hb eL_law_1366.2.2.2.2.1 rfl (lv_at hl 1 rfl) ?_
  refine lv_aload_n hx hb eL_law_1366.2.2.2.2.2.1 rfl (lv_at hl 3 rfl) ?_
  refine lv_iload_n hx hb eL_law_1366.2.2.2.2.2.2.1 rfl (lv_at hl 0 rfl) ?_
  refine lv_iconst (v := 1) hx hb eL_law_1366.2.2.2.2.2.2.2.1 (by decide) ?_
  refine lv_iadd hx hb eL_law_1376.1 ?_
  refine va_sld hx hb hX hbl hbA hI.S (lw_in (j := 1) (by decide) (by omega) hL) eL_law_1376.2.1 ?_
  have h3 := (q_bd hI hmo (rfl : q_bn 12 24 = (0, 3))).2
  refine q_ci (q_runV (As := [.int (xs (nI i + 1).toNatClampNeg)]) (rest := []) E (hml.trans hl.1.symm) hI (c_X12_lastKind l X σ1 mo ((xs (nI i + 1).toNatClampNeg)) hmo hM.1.1) kl_174 hmo ⟨rfl, by decide⟩ (show vwCl[11]? = some (RX12, TX12, 46) from rfl) rfl ⟨Nat.le_of_ble_eq_true rfl, Nat.le_of_ble_eq_true rfl⟩ hcs rfl (Nat.le_of_ble_eq_true rfl) eL_law_1376.2.2.1) hI (by decide) (fun r2 σ2 H locs hp hk hI => ?_)
  obtain ⟨hex2, how2⟩ := hp
  have hp := True.intro
  have hB := lw_BK how2 hI.1 hxo hmo rfl rfl (how2.1 xo 5 (by rw [hxo]; rfl)) hB
  have hA := (hA.post hal how2 rfl).pre hal how2 rfl
  have hE := lw_EK hk (by decide) hxo hmo hE
  have hM := lw_up (lw_kM hk hI.1 hmo (by decide) hM) (q_bd hI hmo (rfl : q_bn 12 24 = (0, 3))).2
  have hpp2 := hp
  clear hp hk
  clear h3
  refine lv_pop hx hb eL_law_1376.2.2.2.1 rfl ?_
  refine lv_goto (tgt := 1796) hx hb eL_law_1376.2.2.2.2.1 (by decide) ?_
  exact kk _ _ _ hI hM hE hB hA

set_option maxRecDepth 100000 in
set_option maxHeartbeats 4000000 in
theorem lw_c37 {p : Program} {l : Launch} {e : Env} {s : State} {m : MethodId} {below : List Frame} {meth : Method} {c : Code} {b L : Nat} {xs : Nat → Int32} {X : XW} {xo mo : Nat} {σ0 : ST} {cells slots : Nat} {Q : State → Prop} {lb : Nat → Nat} (hcl : tb_Cls X lb xo mo) (hal : al_C X lb xo mo) (E : q_E p c cL_law s m #[Value.ref b] RL X) (hX : va_X b L xs s s.heap) (hbl : b < s.heap.size) (hbA : ¬ q_reg X b) (hml : c.maxLocals = 4) (hxo : q_kd X xo = 11) (hmo : q_kd X mo = 12) (hcs : cells ≤ room_1.cells ∧ slots ≤ room_1.slots) (hL : L ≤ 3072) {i : Nat} (hi : i + 6 ≤ L) {n : Int} (hn : 0 ≤ n ∧ n ≤ 199000) {σ : ST} {H : Heap} {locs : List Loc} {ls : Array Slot} (hI : q_I X 0 σ0 s.heap locs σ H) (hM : m_M (m_c X σ mo) (σ.1 mo 24).toInt n) (hl : lv_has ls 4 [(3, .int (nI i)), (2, .ref mo), (1, .ref xo), (0, .ref b)]) (hE : lw_E xo mo σ) (hB : lw_B X xo mo σ) (hA : al_R X xo mo σ σ)
    (kk : ∀ (σ : ST) (H : Heap) (locs : List Loc), q_I X 0 σ0 s.heap locs σ H → m_M (m_c X σ mo) (σ.1 mo 24).toInt (n + 301) → lw_E xo mo σ → lw_B X xo mo σ → al_R X xo mo σ σ → W p l e room_1 s m #[Value.ref b] below meth c H locs cells slots Q (F0 m 1796 ls [])) : W p l e room_1 s m #[Value.ref b] below meth c H locs cells slots Q (F0 m 1385 ls []) := by
  have hx := E.1
  have hb := E.2.1
  have hI0 := hI
  have hE0 := hE
  have hB0 := hB
  have hA0 := hA
  have hM0 := hM
  refine lv_aload_n hx hb eL_law_1376.2.2.2.2.2.1 rfl (lv_at hl 2 rfl) ?_
  refine lv_aload_n hx hb eL_law_1376.2.2.2.2.2.2.1 rfl (lv_at hl 3 rfl) ?_
  refine lv_iload_n hx hb eL_law_1376.2.2.2.2.2.2.2.1 rfl (lv_at hl 0 rfl) ?_
  refine lv_iconst (v := 1) hx hb eL_law_1388.1 (by decide) ?_
  refine lv_iadd hx hb eL_law_1388.2.1 ?_
  refine va_sld hx hb hX hbl hbA hI.S (lw_in (j := 1) (by decide) (by omega) hL) eL_law_1388.2.2.1 ?_
  have h3 := (q_bd hI hmo (rfl : q_bn 12 24 = (0, 3))).2
  refine q_ci (q_runV (As := [.int (xs (nI i + 1).toNatClampNeg)]) (rest := []) E (hml.trans hl.1.symm) hI (c_X11_mustLie l X σ xo ((xs (nI i + 1).toNatClampNeg)) hxo) kl_175 hxo ⟨rfl, by decide⟩ (show vwCl[10]? = some (RX11, TX11, 17) from rfl) rfl ⟨Nat.le_of_ble_eq_true rfl, Nat.le_of_ble_eq_true rfl⟩ hcs rfl (Nat.le_of_ble_eq_true rfl) eL_law_1388.2.2.2.1) hI (by decide) (fun r1 σ1 H locs hp hk hI => ?_)
  obtain ⟨hex1, how1⟩ := hp
  have hp := True.intro
  have hB := lw_BK how1 hI.1 hxo hmo rfl rfl (how1.1 xo 5 (by rw [hxo]; rfl)) hB
  have hA1 := hA0.pre hal how1 rfl
  have hA := (hA.fs hal hM0 (lw_fs hex1 (fs_mustLie ((xs (nI i + 1).toNatClampNeg))))).pre hal how1 rfl
  have hE := lw_EK hk (by decide) hxo hmo hE
  have hM := lw_kM hk hI.1 hmo (by decide) hM
  have hpp1 := hp
  have hMc := hM
  clear hp hk
  clear h3
  refine lv_pop hx hb eL_law_1388.2.2.2.2.1 rfl ?_
  refine lv_aload_n hx hb eL_law_1388.2.2.2.2.2.1 rfl (lv_at hl 1 rfl) ?_
  refine lv_aload_n hx hb eL_law_1388.2.2.2.2.2.2.1 rfl (lv_at hl 3 rfl) ?_
  refine lv_iload_n hx hb eL_law_1388.2.2.2.2.2.2.2.1 rfl (lv_at hl 0 rfl) ?_
  refine lv_iconst (v := 1) hx hb eL_law_1398.1 (by decide) ?_
  refine lv_iadd hx hb eL_law_1398.2.1 ?_
  refine va_sld hx hb hX hbl hbA hI.S (lw_in (j := 1) (by decide) (by omega) hL) eL_law_1398.2.2.1 ?_
  have h3 := (q_bd hI hmo (rfl : q_bn 12 24 = (0, 3))).2
  refine q_ci (q_runV (As := [.int (xs (nI i + 1).toNatClampNeg)]) (rest := []) E (hml.trans hl.1.symm) hI (c_X12_mustLie l X σ1 mo ((xs (nI i + 1).toNatClampNeg)) hmo hM.1.1) kl_178 hmo ⟨rfl, by decide⟩ (show vwCl[11]? = some (RX12, TX12, 46) from rfl) rfl ⟨Nat.le_of_ble_eq_true rfl, Nat.le_of_ble_eq_true rfl⟩ hcs rfl (Nat.le_of_ble_eq_true rfl) eL_law_1398.2.2.2.1) hI (by decide) (fun r2 σ2 H locs hp hk hI => ?_)
  obtain ⟨hex2, how2⟩ := hp
  have hp := True.intro
  have hB := lw_BK how2 hI.1 hxo hmo rfl rfl (how2.1 xo 5 (by rw [hxo]; rfl)) hB
  have hA := (hA.post hal how2 rfl).pre hal how2 rfl
  have hE := lw_EK hk (by decide) hxo hmo hE
  have hM := lw_up (lw_kM hk hI.1 hmo (by decide) hM) (q_bd hI hmo (rfl : q_bn 12 24 = (0, 3))).2
  have hpp2 := hp
  clear hp hk
  clear h3
  refine lv_pop hx hb eL_law_1398.2.2.2.2.1 rfl ?_
  refine lv_goto (tgt := 1796) hx hb eL_law_1398.2.2.2.2.2.1 (by decide) ?_
  exact kk _ _ _ hI hM hE hB hA

set_option maxRecDepth 100000 in
set_option maxHeartbeats 4000000 in
theorem lw_c38 {p : Program} {l : Launch} {e : Env} {s : State} {m : MethodId} {below : List Frame} {meth : Method} {c : Code} {b L : Nat} {xs : Nat → Int32} {X : XW} {xo mo : Nat} {σ0 : ST} {cells slots : Nat} {Q : State → Prop} {lb : Nat → Nat} (hcl : tb_Cls X lb xo mo) (hal : al_C X lb xo mo) (E : q_E p c cL_law s m #[Value.ref b] RL X) (hX : va_X b L xs s s.heap) (hbl : b < s.heap.size) (hbA : ¬ q_reg X b) (hml : c.maxLocals = 4) (hxo : q_kd X xo = 11) (hmo : q_kd X mo = 12) (hcs : cells ≤ room_1.cells ∧ slots ≤ room_1.slots) (hL : L ≤ 3072) {i : Nat} (hi : i + 6 ≤ L) {n : Int} (hn : 0 ≤ n ∧ n ≤ 199000) {σ : ST} {H : Heap} {locs : List Loc} {ls : Array Slot} (hI : q_I X 0 σ0 s.heap locs σ H) (hM : m_M (m_c X σ mo) (σ.1 mo 24).toInt n) (hl : lv_has ls 4 [(3, .int (nI i)), (2, .ref mo), (1, .ref xo), (0, .ref b)]) (hE : lw_E xo mo σ) (hB : lw_B X xo mo σ) (hA : al_R X xo mo σ σ)
    (kk : ∀ (σ : ST) (H : Heap) (locs : List Loc), q_I X 0 σ0 s.heap locs σ H → m_M (m_c X σ mo) (σ.1 mo 24).toInt (n + 301) → lw_E xo mo σ → lw_B X xo mo σ → al_R X xo mo σ σ → W p l e room_1 s m #[Value.ref b] below meth c H locs cells slots Q (F0 m 1796 ls [])) : W p l e room_1 s m #[Value.ref b] below meth c H locs cells slots Q (F0 m 1408 ls []) := by
  have hx := E.1
  have hb := E.2.1
  have hI0 := hI
  have hE0 := hE
  have hB0 := hB
  have hA0 := hA
  have hM0 := hM
  refine lv_aload_n hx hb eL_law_1398.2.2.2.2.2.2.1 rfl (lv_at hl 2 rfl) ?_
  have h3 := (q_bd hI hmo (rfl : q_bn 12 24 = (0, 3))).2
  refine q_ci (q_runV (As := []) (rest := []) E (hml.trans hl.1.symm) hI (c_X11_soonest l X σ xo hxo) kl_179 hxo ⟨rfl, by decide⟩ (show vwCl[10]? = some (RX11, TX11, 17) from rfl) rfl ⟨Nat.le_of_ble_eq_true rfl, Nat.le_of_ble_eq_true rfl⟩ hcs rfl (Nat.le_of_ble_eq_true rfl) eL_law_1398.2.2.2.2.2.2.2.1) hI (by decide) (fun r1 σ1 H locs hp hk hI => ?_)
  obtain ⟨hex1, how1⟩ := hp
  have hp := True.intro
  have hB := lw_BK how1 hI.1 hxo hmo rfl rfl (how1.1 xo 5 (by rw [hxo]; rfl)) hB
  have hA1 := hA0.pre hal how1 rfl
  have hA := (hA.fs hal hM0 (lw_fs hex1 (fs_soonest))).pre hal how1 rfl
  have hE := lw_EK hk (by decide) hxo hmo hE
  have hM := lw_kM hk hI.1 hmo (by decide) hM
  have hpp1 := hp
  have hMc := hM
  clear hp hk
  clear h3
  refine lv_pop hx hb eL_law_1412.1 rfl ?_
  refine lv_aload_n hx hb eL_law_1412.2.1 rfl (lv_at hl 1 rfl) ?_
  have h3 := (q_bd hI hmo (rfl : q_bn 12 24 = (0, 3))).2
  refine q_ci (q_runV (As := []) (rest := []) E (hml.trans hl.1.symm) hI (c_X12_soonest l X σ1 mo hmo hM.1.1) kl_182 hmo ⟨rfl, by decide⟩ (show vwCl[11]? = some (RX12, TX12, 46) from rfl) rfl ⟨Nat.le_of_ble_eq_true rfl, Nat.le_of_ble_eq_true rfl⟩ hcs rfl (Nat.le_of_ble_eq_true rfl) eL_law_1412.2.2.1) hI (by decide) (fun r2 σ2 H locs hp hk hI => ?_)
  obtain ⟨hex2, how2⟩ := hp
  have hp := True.intro
  have hB := lw_BK how2 hI.1 hxo hmo rfl rfl (how2.1 xo 5 (by rw [hxo]; rfl)) hB
  have hA := (hA.post hal how2 rfl).pre hal how2 rfl
  have hE := lw_EK hk (by decide) hxo hmo hE
  have hM := lw_up (lw_kM hk hI.1 hmo (by decide) hM) (q_bd hI hmo (rfl : q_bn 12 24 = (0, 3))).2
  have hpp2 := hp
  clear hp hk
  clear h3
  refine lv_pop hx hb eL_law_1412.2.2.2.1 rfl ?_
  refine lv_goto (tgt := 1796) hx hb eL_law_1412.2.2.2.2.1 (by decide) ?_
  exact kk _ _ _ hI hM hE hB hA

set_option maxRecDepth 100000 in
set_option maxHeartbeats 4000000 in
theorem lw_c39 {p : Program} {l : Launch} {e : Env} {s : State} {m : MethodId} {below : List Frame} {meth : Method} {c : Code} {b L : Nat} {xs : Nat → Int32} {X : XW} {xo mo : Nat} {σ0 : ST} {cells slots : Nat} {Q : State → Prop} {lb : Nat → Nat} (hcl : tb_Cls X lb xo mo) (hal : al_C X lb xo mo) (E : q_E p c cL_law s m #[Value.ref b] RL X) (hX : va_X b L xs s s.heap) (hbl : b < s.heap.size) (hbA : ¬ q_reg X b) (hml : c.maxLocals = 4) (hxo : q_kd X xo = 11) (hmo : q_kd X mo = 12) (hcs : cells ≤ room_1.cells ∧ slots ≤ room_1.slots) (hL : L ≤ 3072) {i : Nat} (hi : i + 6 ≤ L) {n : Int} (hn : 0 ≤ n ∧ n ≤ 199000) {σ : ST} {H : Heap} {locs : List Loc} {ls : Array Slot} (hI : q_I X 0 σ0 s.heap locs σ H) (hM : m_M (m_c X σ mo) (σ.1 mo 24).toInt n) (hl : lv_has ls 4 [(3, .int (nI i)), (2, .ref mo), (1, .ref xo), (0, .ref b)]) (hE : lw_E xo mo σ) (hB : lw_B X xo mo σ) (hA : al_R X xo mo σ σ)
    (kk : ∀ (σ : ST) (H : Heap) (locs : List Loc), q_I X 0 σ0 s.heap locs σ H → m_M (m_c X σ mo) (σ.1 mo 24).toInt (n + 301) → lw_E xo mo σ → lw_B X xo mo σ → al_R X xo mo σ σ → W p l e room_1 s m #[Value.ref b] below meth c H locs cells slots Q (F0 m 1796 ls [])) : W p l e room_1 s m #[Value.ref b] below meth c H locs cells slots Q (F0 m 1421 ls []) := by
  have hx := E.1
  have hb := E.2.1
  have hI0 := hI
  have hE0 := hE
  have hB0 := hB
  have hA0 := hA
  have hM0 := hM
  refine lv_aload_n hx hb eL_law_1412.2.2.2.2.2.1 rfl (lv_at hl 2 rfl) ?_
  refine lv_aload_n hx hb eL_law_1412.2.2.2.2.2.2.1 rfl (lv_at hl 3 rfl) ?_
  refine lv_iload_n hx hb eL_law_1412.2.2.2.2.2.2.2.1 rfl (lv_at hl 0 rfl) ?_
  refine lv_iconst (v := 1) hx hb eL_law_1424.1 (by decide) ?_
  refine lv_iadd hx hb eL_law_1424.2.1 ?_
  refine va_sld hx hb hX hbl hbA hI.S (lw_in (j := 1) (by decide) (by omega) hL) eL_law_1424.2.2.1 ?_
  refine lv_aload_n hx hb eL_law_1424.2.2.2.1 rfl (lv_at hl 3 rfl) ?_
  refine lv_iload_n hx hb eL_law_1424.2.2.2.2.1 rfl (lv_at hl 0 rfl) ?_
  refine lv_iconst (v := 2) hx hb eL_law_1424.2.2.2.2.2.1 (by decide) ?_
  refine lv_iadd hx hb eL_law_1424.2.2.2.2.2.2.1 ?_
  refine va_sld hx hb hX hbl hbA hI.S (lw_in (j := 2) (by decide) (by omega) hL) eL_law_1424.2.2.2.2.2.2.2.1 ?_
  have h3 := (q_bd hI hmo (rfl : q_bn 12 24 = (0, 3))).2
  refine q_ci (q_runV (As := [.int (xs (nI i + 1).toNatClampNeg), .int (xs (nI i + 2).toNatClampNeg)]) (rest := []) E (hml.trans hl.1.symm) hI (c_X11_best l X σ xo ((xs (nI i + 1).toNatClampNeg)) ((xs (nI i + 2).toNatClampNeg)) hxo) kl_183 hxo ⟨rfl, by decide⟩ (show vwCl[10]? = some (RX11, TX11, 17) from rfl) rfl ⟨Nat.le_of_ble_eq_true rfl, Nat.le_of_ble_eq_true rfl⟩ hcs rfl (Nat.le_of_ble_eq_true rfl) eL_law_1432.1) hI (by decide) (fun r1 σ1 H locs hp hk hI => ?_)
  obtain ⟨hex1, how1⟩ := hp
  have hp := True.intro
  have hB := lw_BK how1 hI.1 hxo hmo rfl rfl (how1.1 xo 5 (by rw [hxo]; rfl)) hB
  have hA1 := hA0.pre hal how1 rfl
  have hA := (hA.post hal how1 rfl).pre hal how1 rfl
  have hE := lw_EK hk (by decide) hxo hmo hE
  have hM := lw_kM hk hI.1 hmo (by decide) hM
  have hpp1 := hp
  have hMc := hM
  clear hp hk
  clear h3
  refine lv_pop hx hb eL_law_1432.2.1 rfl ?_
  refine lv_aload_n hx hb eL_law_1432.2.2.1 rfl (lv_at hl 1 rfl) ?_
  refine lv_aload_n hx hb eL_law_1432.2.2.2.1 rfl (lv_at hl 3 rfl) ?_
  refine lv_iload_n hx hb eL_law_1432.2.2.2.2.1 rfl (lv_at hl 0 rfl) ?_
  refine lv_iconst (v := 1) hx hb eL_law_1432.2.2.2.2.2.1 (by decide) ?_
  refine lv_iadd hx hb eL_law_1432.2.2.2.2.2.2.1 ?_
  refine va_sld hx hb hX hbl hbA hI.S (lw_in (j := 1) (by decide) (by omega) hL) eL_law_1432.2.2.2.2.2.2.2.1 ?_
  refine lv_aload_n hx hb eL_law_1442.1 rfl (lv_at hl 3 rfl) ?_
  refine lv_iload_n hx hb eL_law_1442.2.1 rfl (lv_at hl 0 rfl) ?_
  refine lv_iconst (v := 2) hx hb eL_law_1442.2.2.1 (by decide) ?_
  refine lv_iadd hx hb eL_law_1442.2.2.2.1 ?_
  refine va_sld hx hb hX hbl hbA hI.S (lw_in (j := 2) (by decide) (by omega) hL) eL_law_1442.2.2.2.2.1 ?_
  have h3 := (q_bd hI hmo (rfl : q_bn 12 24 = (0, 3))).2
  refine q_ci (q_runV (As := [.int (xs (nI i + 1).toNatClampNeg), .int (xs (nI i + 2).toNatClampNeg)]) (rest := []) E (hml.trans hl.1.symm) hI (c_X12_best l X σ1 mo ((xs (nI i + 1).toNatClampNeg)) ((xs (nI i + 2).toNatClampNeg)) hmo hM.1.1) kl_186 hmo ⟨rfl, by decide⟩ (show vwCl[11]? = some (RX12, TX12, 46) from rfl) rfl ⟨Nat.le_of_ble_eq_true rfl, Nat.le_of_ble_eq_true rfl⟩ hcs rfl (Nat.le_of_ble_eq_true rfl) eL_law_1442.2.2.2.2.2.1) hI (by decide) (fun r2 σ2 H locs hp hk hI => ?_)
  obtain ⟨hex2, how2⟩ := hp
  have hp := True.intro
  have hB := lw_BK how2 hI.1 hxo hmo rfl rfl (how2.1 xo 5 (by rw [hxo]; rfl)) hB
  have hA := (hA.post hal how2 rfl).pre hal how2 rfl
  have hE := lw_EK hk (by decide) hxo hmo hE
  have hM := lw_up (lw_kM hk hI.1 hmo (by decide) hM) (q_bd hI hmo (rfl : q_bn 12 24 = (0, 3))).2
  have hpp2 := hp
  clear hp hk
  clear h3
  refine lv_pop hx hb eL_law_1442.2.2.2.2.2.2.1 rfl ?_
  refine lv_goto (tgt := 1796) hx hb eL_law_1442.2.2.2.2.2.2.2.1 (by decide) ?_
  exact kk _ _ _ hI hM hE hB hA

set_option maxRecDepth 100000 in
set_option maxHeartbeats 4000000 in
theorem lw_c40 {p : Program} {l : Launch} {e : Env} {s : State} {m : MethodId} {below : List Frame} {meth : Method} {c : Code} {b L : Nat} {xs : Nat → Int32} {X : XW} {xo mo : Nat} {σ0 : ST} {cells slots : Nat} {Q : State → Prop} {lb : Nat → Nat} (hcl : tb_Cls X lb xo mo) (hal : al_C X lb xo mo) (E : q_E p c cL_law s m #[Value.ref b] RL X) (hX : va_X b L xs s s.heap) (hbl : b < s.heap.size) (hbA : ¬ q_reg X b) (hml : c.maxLocals = 4) (hxo : q_kd X xo = 11) (hmo : q_kd X mo = 12) (hcs : cells ≤ room_1.cells ∧ slots ≤ room_1.slots) (hL : L ≤ 3072) {i : Nat} (hi : i + 6 ≤ L) {n : Int} (hn : 0 ≤ n ∧ n ≤ 199000) {σ : ST} {H : Heap} {locs : List Loc} {ls : Array Slot} (hI : q_I X 0 σ0 s.heap locs σ H) (hM : m_M (m_c X σ mo) (σ.1 mo 24).toInt n) (hl : lv_has ls 4 [(3, .int (nI i)), (2, .ref mo), (1, .ref xo), (0, .ref b)]) (hE : lw_E xo mo σ) (hB : lw_B X xo mo σ) (hA : al_R X xo mo σ σ)
    (kk : ∀ (σ : ST) (H : Heap) (locs : List Loc), q_I X 0 σ0 s.heap locs σ H → m_M (m_c X σ mo) (σ.1 mo 24).toInt (n + 301) → lw_E xo mo σ → lw_B X xo mo σ → al_R X xo mo σ σ → W p l e room_1 s m #[Value.ref b] below meth c H locs cells slots Q (F0 m 1796 ls [])) : W p l e room_1 s m #[Value.ref b] below meth c H locs cells slots Q (F0 m 1454 ls []) := by
  have hx := E.1
  have hb := E.2.1
  have hI0 := hI
  have hE0 := hE
  have hB0 := hB
  have hA0 := hA
  have hM0 := hM
  refine lv_aload_n hx hb eL_law_1454.1 rfl (lv_at hl 2 rfl) ?_
  refine lv_aload_n hx hb eL_law_1454.2.1 rfl (lv_at hl 3 rfl) ?_
  refine lv_iload_n hx hb eL_law_1454.2.2.1 rfl (lv_at hl 0 rfl) ?_
  refine lv_iconst (v := 1) hx hb eL_law_1454.2.2.2.1 (by decide) ?_
  refine lv_iadd hx hb eL_law_1454.2.2.2.2.1 ?_
  refine va_sld hx hb hX hbl hbA hI.S (lw_in (j := 1) (by decide) (by omega) hL) eL_law_1454.2.2.2.2.2.1 ?_
  have h3 := (q_bd hI hmo (rfl : q_bn 12 24 = (0, 3))).2
  refine q_ci (q_runV (As := [.int (xs (nI i + 1).toNatClampNeg)]) (rest := []) E (hml.trans hl.1.symm) hI (c_X11_sayer l X σ xo ((xs (nI i + 1).toNatClampNeg)) hxo) kl_187 hxo ⟨rfl, by decide⟩ (show vwCl[10]? = some (RX11, TX11, 17) from rfl) rfl ⟨Nat.le_of_ble_eq_true rfl, Nat.le_of_ble_eq_true rfl⟩ hcs rfl (Nat.le_of_ble_eq_true rfl) eL_law_1454.2.2.2.2.2.2.1) hI (by decide) (fun r1 σ1 H locs hp hk hI => ?_)
  obtain ⟨hex1, how1⟩ := hp
  have hp := True.intro
  have hB := lw_BK how1 hI.1 hxo hmo rfl rfl (how1.1 xo 5 (by rw [hxo]; rfl)) hB
  have hA1 := hA0.pre hal how1 rfl
  have hA := (hA.post hal how1 rfl).pre hal how1 rfl
  have hE := lw_EK hk (by decide) hxo hmo hE
  have hM := lw_kM hk hI.1 hmo (by decide) hM
  have hpp1 := hp
  have hMc := hM
  clear hp hk
  clear h3
  refine lv_pop hx hb eL_law_1454.2.2.2.2.2.2.2.1 rfl ?_
  refine lv_aload_n hx hb eL_law_1464.1 rfl (lv_at hl 1 rfl) ?_
  refine lv_aload_n hx hb eL_law_1464.2.1 rfl (lv_at hl 3 rfl) ?_
  refine lv_iload_n hx hb eL_law_1464.2.2.1 rfl (lv_at hl 0 rfl) ?_
  refine lv_iconst (v := 1) hx hb eL_law_1464.2.2.2.1 (by decide) ?_
  refine lv_iadd hx hb eL_law_1464.2.2.2.2.1 ?_
  refine va_sld hx hb hX hbl hbA hI.S (lw_in (j := 1) (by decide) (by omega) hL) eL_law_1464.2.2.2.2.2.1 ?_
  have h3 := (q_bd hI hmo (rfl : q_bn 12 24 = (0, 3))).2
  refine q_ci (q_runV (As := [.int (xs (nI i + 1).toNatClampNeg)]) (rest := []) E (hml.trans hl.1.symm) hI (c_X12_sayer l X σ1 mo ((xs (nI i + 1).toNatClampNeg)) hmo hM.1.1) kl_190 hmo ⟨rfl, by decide⟩ (show vwCl[11]? = some (RX12, TX12, 46) from rfl) rfl ⟨Nat.le_of_ble_eq_true rfl, Nat.le_of_ble_eq_true rfl⟩ hcs rfl (Nat.le_of_ble_eq_true rfl) eL_law_1464.2.2.2.2.2.2.1) hI (by decide) (fun r2 σ2 H locs hp hk hI => ?_)
  obtain ⟨hex2, how2⟩ := hp
  have hp := True.intro
  have hB := lw_BK how2 hI.1 hxo hmo rfl rfl (how2.1 xo 5 (by rw [hxo]; rfl)) hB
  have hA := (hA.post hal how2 rfl).pre hal how2 rfl
  have hE := lw_EK hk (by decide) hxo hmo hE
  have hM := lw_up (lw_kM hk hI.1 hmo (by decide) hM) (q_bd hI hmo (rfl : q_bn 12 24 = (0, 3))).2
  have hpp2 := hp
  clear hp hk
  clear h3
  refine lv_pop hx hb eL_law_1464.2.2.2.2.2.2.2.1 rfl ?_
  refine lv_goto (tgt := 1796) hx hb eL_law_1474.1 (by decide) ?_
  exact kk _ _ _ hI hM hE hB hA

set_option maxRecDepth 100000 in
set_option maxHeartbeats 4000000 in
theorem lw_c41 {p : Program} {l : Launch} {e : Env} {s : State} {m : MethodId} {below : List Frame} {meth : Method} {c : Code} {b L : Nat} {xs : Nat → Int32} {X : XW} {xo mo : Nat} {σ0 : ST} {cells slots : Nat} {Q : State → Prop} {lb : Nat → Nat} (hcl : tb_Cls X lb xo mo) (hal : al_C X lb xo mo) (E : q_E p c cL_law s m #[Value.ref b] RL X) (hX : va_X b L xs s s.heap) (hbl : b < s.heap.size) (hbA : ¬ q_reg X b) (hml : c.maxLocals = 4) (hxo : q_kd X xo = 11) (hmo : q_kd X mo = 12) (hcs : cells ≤ room_1.cells ∧ slots ≤ room_1.slots) (hL : L ≤ 3072) {i : Nat} (hi : i + 6 ≤ L) {n : Int} (hn : 0 ≤ n ∧ n ≤ 199000) {σ : ST} {H : Heap} {locs : List Loc} {ls : Array Slot} (hI : q_I X 0 σ0 s.heap locs σ H) (hM : m_M (m_c X σ mo) (σ.1 mo 24).toInt n) (hl : lv_has ls 4 [(3, .int (nI i)), (2, .ref mo), (1, .ref xo), (0, .ref b)]) (hE : lw_E xo mo σ) (hB : lw_B X xo mo σ) (hA : al_R X xo mo σ σ)
    (kk : ∀ (σ : ST) (H : Heap) (locs : List Loc), q_I X 0 σ0 s.heap locs σ H → m_M (m_c X σ mo) (σ.1 mo 24).toInt (n + 301) → lw_E xo mo σ → lw_B X xo mo σ → al_R X xo mo σ σ → W p l e room_1 s m #[Value.ref b] below meth c H locs cells slots Q (F0 m 1796 ls [])) : W p l e room_1 s m #[Value.ref b] below meth c H locs cells slots Q (F0 m 1477 ls []) := by
  have hx := E.1
  have hb := E.2.1
  have hI0 := hI
  have hE0 := hE
  have hB0 := hB
  have hA0 := hA
  have hM0 := hM
  refine lv_aload_n hx hb eL_law_1474.2.1 rfl (lv_at hl 2 rfl) ?_
  refine lv_aload_n hx hb eL_law_1474.2.2.1 rfl (lv_at hl 3 rfl) ?_
  refine lv_iload_n hx hb eL_law_1474.2.2.2.1 rfl (lv_at hl 0 rfl) ?_
  refine lv_iconst (v := 1) hx hb eL_law_1474.2.2.2.2.1 (by decide) ?_
  refine lv_iadd hx hb eL_law_1474.2.2.2.2.2.1 ?_
  refine va_sld hx hb hX hbl hbA hI.S (lw_in (j := 1) (by decide) (by omega) hL) eL_law_1474.2.2.2.2.2.2.1 ?_
  have h3 := (q_bd hI hmo (rfl : q_bn 12 24 = (0, 3))).2
  refine q_ci (q_runV (As := [.int (xs (nI i + 1).toNatClampNeg)]) (rest := []) E (hml.trans hl.1.symm) hI (c_X11_has l X σ xo ((xs (nI i + 1).toNatClampNeg)) hxo) kl_191 hxo ⟨rfl, by decide⟩ (show vwCl[10]? = some (RX11, TX11, 17) from rfl) rfl ⟨Nat.le_of_ble_eq_true rfl, Nat.le_of_ble_eq_true rfl⟩ hcs rfl (Nat.le_of_ble_eq_true rfl) eL_law_1474.2.2.2.2.2.2.2.1) hI (by decide) (fun r1 σ1 H locs hp hk hI => ?_)
  obtain ⟨hex1, how1⟩ := hp
  have hp := True.intro
  have hB := lw_BK how1 hI.1 hxo hmo rfl rfl (how1.1 xo 5 (by rw [hxo]; rfl)) hB
  have hA1 := hA0.pre hal how1 rfl
  have hA := (hA.post hal how1 rfl).pre hal how1 rfl
  have hE := lw_EK hk (by decide) hxo hmo hE
  have hM := lw_kM hk hI.1 hmo (by decide) hM
  have hpp1 := hp
  have hMc := hM
  clear hp hk
  clear h3
  refine lv_pop hx hb eL_law_1486.1 rfl ?_
  refine lv_aload_n hx hb eL_law_1486.2.1 rfl (lv_at hl 1 rfl) ?_
  refine lv_aload_n hx hb eL_law_1486.2.2.1 rfl (lv_at hl 3 rfl) ?_
  refine lv_iload_n hx hb eL_law_1486.2.2.2.1 rfl (lv_at hl 0 rfl) ?_
  refine lv_iconst (v := 1) hx hb eL_law_1486.2.2.2.2.1 (by decide) ?_
  refine lv_iadd hx hb eL_law_1486.2.2.2.2.2.1 ?_
  refine va_sld hx hb hX hbl hbA hI.S (lw_in (j := 1) (by decide) (by omega) hL) eL_law_1486.2.2.2.2.2.2.1 ?_
  have h3 := (q_bd hI hmo (rfl : q_bn 12 24 = (0, 3))).2
  refine q_ci (q_runV (As := [.int (xs (nI i + 1).toNatClampNeg)]) (rest := []) E (hml.trans hl.1.symm) hI (c_X12_has l X σ1 mo ((xs (nI i + 1).toNatClampNeg)) hmo hM.1.1) kl_194 hmo ⟨rfl, by decide⟩ (show vwCl[11]? = some (RX12, TX12, 46) from rfl) rfl ⟨Nat.le_of_ble_eq_true rfl, Nat.le_of_ble_eq_true rfl⟩ hcs rfl (Nat.le_of_ble_eq_true rfl) eL_law_1486.2.2.2.2.2.2.2.1) hI (by decide) (fun r2 σ2 H locs hp hk hI => ?_)
  obtain ⟨hex2, how2⟩ := hp
  have hp := True.intro
  have hB := lw_BK how2 hI.1 hxo hmo rfl rfl (how2.1 xo 5 (by rw [hxo]; rfl)) hB
  have hA := (hA.post hal how2 rfl).pre hal how2 rfl
  have hE := lw_EK hk (by decide) hxo hmo hE
  have hM := lw_up (lw_kM hk hI.1 hmo (by decide) hM) (q_bd hI hmo (rfl : q_bn 12 24 = (0, 3))).2
  have hpp2 := hp
  clear hp hk
  clear h3
  refine lv_pop hx hb eL_law_1496.1 rfl ?_
  refine lv_goto (tgt := 1796) hx hb eL_law_1496.2.1 (by decide) ?_
  exact kk _ _ _ hI hM hE hB hA

set_option maxRecDepth 100000 in
set_option maxHeartbeats 4000000 in
theorem lw_c42 {p : Program} {l : Launch} {e : Env} {s : State} {m : MethodId} {below : List Frame} {meth : Method} {c : Code} {b L : Nat} {xs : Nat → Int32} {X : XW} {xo mo : Nat} {σ0 : ST} {cells slots : Nat} {Q : State → Prop} {lb : Nat → Nat} (hcl : tb_Cls X lb xo mo) (hal : al_C X lb xo mo) (E : q_E p c cL_law s m #[Value.ref b] RL X) (hX : va_X b L xs s s.heap) (hbl : b < s.heap.size) (hbA : ¬ q_reg X b) (hml : c.maxLocals = 4) (hxo : q_kd X xo = 11) (hmo : q_kd X mo = 12) (hcs : cells ≤ room_1.cells ∧ slots ≤ room_1.slots) (hL : L ≤ 3072) {i : Nat} (hi : i + 6 ≤ L) {n : Int} (hn : 0 ≤ n ∧ n ≤ 199000) {σ : ST} {H : Heap} {locs : List Loc} {ls : Array Slot} (hI : q_I X 0 σ0 s.heap locs σ H) (hM : m_M (m_c X σ mo) (σ.1 mo 24).toInt n) (hl : lv_has ls 4 [(3, .int (nI i)), (2, .ref mo), (1, .ref xo), (0, .ref b)]) (hE : lw_E xo mo σ) (hB : lw_B X xo mo σ) (hA : al_R X xo mo σ σ)
    (kk : ∀ (σ : ST) (H : Heap) (locs : List Loc), q_I X 0 σ0 s.heap locs σ H → m_M (m_c X σ mo) (σ.1 mo 24).toInt (n + 301) → lw_E xo mo σ → lw_B X xo mo σ → al_R X xo mo σ σ → W p l e room_1 s m #[Value.ref b] below meth c H locs cells slots Q (F0 m 1796 ls [])) : W p l e room_1 s m #[Value.ref b] below meth c H locs cells slots Q (F0 m 1500 ls []) := by
  have hx := E.1
  have hb := E.2.1
  have hI0 := hI
  have hE0 := hE
  have hB0 := hB
  have hA0 := hA
  have hM0 := hM
  refine lv_aload_n hx hb eL_law_1496.2.2.1 rfl (lv_at hl 2 rfl) ?_
  refine lv_aload_n hx hb eL_law_1496.2.2.2.1 rfl (lv_at hl 3 rfl) ?_
  refine lv_iload_n hx hb eL_law_1496.2.2.2.2.1 rfl (lv_at hl 0 rfl) ?_
  refine lv_iconst (v := 1) hx hb eL_law_1496.2.2.2.2.2.1 (by decide) ?_
  refine lv_iadd hx hb eL_law_1496.2.2.2.2.2.2.1 ?_
  refine va_sld hx hb hX hbl hbA hI.S (lw_in (j := 1) (by decide) (by omega) hL) eL_law_1496.2.2.2.2.2.2.2.1 ?_
  have h3 := (q_bd hI hmo (rfl : q_bn 12 24 = (0, 3))).2
  refine q_ci (q_runV (As := [.int (xs (nI i + 1).toNatClampNeg)]) (rest := []) E (hml.trans hl.1.symm) hI (c_X11_lies l X σ xo ((xs (nI i + 1).toNatClampNeg)) hxo) kl_195 hxo ⟨rfl, by decide⟩ (show vwCl[10]? = some (RX11, TX11, 17) from rfl) rfl ⟨Nat.le_of_ble_eq_true rfl, Nat.le_of_ble_eq_true rfl⟩ hcs rfl (Nat.le_of_ble_eq_true rfl) eL_law_1506.1) hI (by decide) (fun r1 σ1 H locs hp hk hI => ?_)
  obtain ⟨hex1, how1⟩ := hp
  have hp := True.intro
  have hB := lw_BK how1 hI.1 hxo hmo rfl rfl (how1.1 xo 5 (by rw [hxo]; rfl)) hB
  have hA1 := hA0.pre hal how1 rfl
  have hA := (hA.post hal how1 rfl).pre hal how1 rfl
  have hE := lw_EK hk (by decide) hxo hmo hE
  have hM := lw_kM hk hI.1 hmo (by decide) hM
  have hpp1 := hp
  have hMc := hM
  clear hp hk
  clear h3
  refine lv_pop hx hb eL_law_1506.2.1 rfl ?_
  refine lv_aload_n hx hb eL_law_1506.2.2.1 rfl (lv_at hl 1 rfl) ?_
  refine lv_aload_n hx hb eL_law_1506.2.2.2.1 rfl (lv_at hl 3 rfl) ?_
  refine lv_iload_n hx hb eL_law_1506.2.2.2.2.1 rfl (lv_at hl 0 rfl) ?_
  refine lv_iconst (v := 1) hx hb eL_law_1506.2.2.2.2.2.1 (by decide) ?_
  refine lv_iadd hx hb eL_law_1506.2.2.2.2.2.2.1 ?_
  refine va_sld hx hb hX hbl hbA hI.S (lw_in (j := 1) (by decide) (by omega) hL) eL_law_1506.2.2.2.2.2.2.2.1 ?_
  have h3 := (q_bd hI hmo (rfl : q_bn 12 24 = (0, 3))).2
  refine q_ci (q_runV (As := [.int (xs (nI i + 1).toNatClampNeg)]) (rest := []) E (hml.trans hl.1.symm) hI (c_X12_lies l X σ1 mo ((xs (nI i + 1).toNatClampNeg)) hmo hM.1.1) kl_198 hmo ⟨rfl, by decide⟩ (show vwCl[11]? = some (RX12, TX12, 46) from rfl) rfl ⟨Nat.le_of_ble_eq_true rfl, Nat.le_of_ble_eq_true rfl⟩ hcs rfl (Nat.le_of_ble_eq_true rfl) eL_law_1516.1) hI (by decide) (fun r2 σ2 H locs hp hk hI => ?_)
  obtain ⟨hex2, how2⟩ := hp
  have hp := True.intro
  have hB := lw_BK how2 hI.1 hxo hmo rfl rfl (how2.1 xo 5 (by rw [hxo]; rfl)) hB
  have hA := (hA.post hal how2 rfl).pre hal how2 rfl
  have hE := lw_EK hk (by decide) hxo hmo hE
  have hM := lw_up (lw_kM hk hI.1 hmo (by decide) hM) (q_bd hI hmo (rfl : q_bn 12 24 = (0, 3))).2
  have hpp2 := hp
  clear hp hk
  clear h3
  refine lv_pop hx hb eL_law_1516.2.1 rfl ?_
  refine lv_goto (tgt := 1796) hx hb eL_law_1516.2.2.1 (by decide) ?_
  exact kk _ _ _ hI hM hE hB hA

set_option maxRecDepth 100000 in
set_option maxHeartbeats 4000000 in
theorem lw_c43 {p : Program} {l : Launch} {e : Env} {s : State} {m : MethodId} {below : List Frame} {meth : Method} {c : Code} {b L : Nat} {xs : Nat → Int32} {X : XW} {xo mo : Nat} {σ0 : ST} {cells slots : Nat} {Q : State → Prop} {lb : Nat → Nat} (hcl : tb_Cls X lb xo mo) (hal : al_C X lb xo mo) (E : q_E p c cL_law s m #[Value.ref b] RL X) (hX : va_X b L xs s s.heap) (hbl : b < s.heap.size) (hbA : ¬ q_reg X b) (hml : c.maxLocals = 4) (hxo : q_kd X xo = 11) (hmo : q_kd X mo = 12) (hcs : cells ≤ room_1.cells ∧ slots ≤ room_1.slots) (hL : L ≤ 3072) {i : Nat} (hi : i + 6 ≤ L) {n : Int} (hn : 0 ≤ n ∧ n ≤ 199000) {σ : ST} {H : Heap} {locs : List Loc} {ls : Array Slot} (hI : q_I X 0 σ0 s.heap locs σ H) (hM : m_M (m_c X σ mo) (σ.1 mo 24).toInt n) (hl : lv_has ls 4 [(3, .int (nI i)), (2, .ref mo), (1, .ref xo), (0, .ref b)]) (hE : lw_E xo mo σ) (hB : lw_B X xo mo σ) (hA : al_R X xo mo σ σ)
    (kk : ∀ (σ : ST) (H : Heap) (locs : List Loc), q_I X 0 σ0 s.heap locs σ H → m_M (m_c X σ mo) (σ.1 mo 24).toInt (n + 301) → lw_E xo mo σ → lw_B X xo mo σ → al_R X xo mo σ σ → W p l e room_1 s m #[Value.ref b] below meth c H locs cells slots Q (F0 m 1796 ls [])) : W p l e room_1 s m #[Value.ref b] below meth c H locs cells slots Q (F0 m 1523 ls []) := by
  have hx := E.1
  have hb := E.2.1
  have hI0 := hI
  have hE0 := hE
  have hB0 := hB
  have hA0 := hA
  have hM0 := hM
  refine lv_aload_n hx hb eL_law_1516.2.2.2.1 rfl (lv_at hl 2 rfl) ?_
  refine lv_aload_n hx hb eL_law_1516.2.2.2.2.1 rfl (lv_at hl 3 rfl) ?_
  refine lv_iload_n hx hb eL_law_1516.2.2.2.2.2.1 rfl (lv_at hl 0 rfl) ?_
  refine lv_iconst (v := 1) hx hb eL_law_1516.2.2.2.2.2.2.1 (by decide) ?_
  refine lv_iadd hx hb eL_law_1516.2.2.2.2.2.2.2.1 ?_
  refine va_sld hx hb hX hbl hbA hI.S (lw_in (j := 1) (by decide) (by omega) hL) eL_law_1528.1 ?_
  refine lv_aload_n hx hb eL_law_1528.2.1 rfl (lv_at hl 3 rfl) ?_
  refine lv_iload_n hx hb eL_law_1528.2.2.1 rfl (lv_at hl 0 rfl) ?_
  refine lv_iconst (v := 2) hx hb eL_law_1528.2.2.2.1 (by decide) ?_
  refine lv_iadd hx hb eL_law_1528.2.2.2.2.1 ?_
  refine va_sld hx hb hX hbl hbA hI.S (lw_in (j := 2) (by decide) (by omega) hL) eL_law_1528.2.2.2.2.2.1 ?_
  refine lv_aload_n hx hb eL_law_1528.2.2.2.2.2.2.1 rfl (lv_at hl 3 rfl) ?_
  refine lv_iload_n hx hb eL_law_1528.2.2.2.2.2.2.2.1 rfl (lv_at hl 0 rfl) ?_
  refine lv_iconst (v := 3) hx hb eL_law_1536.1 (by decide) ?_
  refine lv_iadd hx hb eL_law_1536.2.1 ?_
  refine va_sld hx hb hX hbl hbA hI.S (lw_in (j := 3) (by decide) (by omega) hL) eL_law_1536.2.2.1 ?_
  have h3 := (q_bd hI hmo (rfl : q_bn 12 24 = (0, 3))).2
  refine q_ci (q_runV (As := [.int (xs (nI i + 1).toNatClampNeg), .int (xs (nI i + 2).toNatClampNeg), .int (xs (nI i + 3).toNatClampNeg)]) (rest := []) E (hml.trans hl.1.symm) hI (c_X11_guess l X σ xo ((xs (nI i + 1).toNatClampNeg)) ((xs (nI i + 2).toNatClampNeg)) ((xs (nI i + 3).toNatClampNeg)) hxo) kl_199 hxo ⟨rfl, by decide⟩ (show vwCl[10]? = some (RX11, TX11, 17) from rfl) rfl ⟨Nat.le_of_ble_eq_true rfl, Nat.le_of_ble_eq_true rfl⟩ hcs rfl (Nat.le_of_ble_eq_true rfl) eL_law_1536.2.2.2.1) hI (by decide) (fun r1 σ1 H locs hp hk hI => ?_)
  obtain ⟨pq0, hex1, how1⟩ := hp
  have hp := pq0
  have hB := lw_BK how1 hI.1 hxo hmo rfl rfl (how1.1 xo 5 (by rw [hxo]; rfl)) hB
  have hA1 := hA0.pre hal how1 rfl
  have hA := (hA.post hal how1 rfl).pre hal how1 rfl
  have hE := lw_EK hk (by decide) hxo hmo hE
  have hM := lw_kM hk hI.1 hmo (by decide) hM
  have hpp1 := hp
  have hMc := hM
  clear hp hk
  clear h3
  refine lv_pop hx hb eL_law_1536.2.2.2.2.1 rfl ?_
  refine lv_aload_n hx hb eL_law_1536.2.2.2.2.2.1 rfl (lv_at hl 1 rfl) ?_
  refine lv_aload_n hx hb eL_law_1536.2.2.2.2.2.2.1 rfl (lv_at hl 3 rfl) ?_
  refine lv_iload_n hx hb eL_law_1536.2.2.2.2.2.2.2.1 rfl (lv_at hl 0 rfl) ?_
  refine lv_iconst (v := 1) hx hb eL_law_1546.1 (by decide) ?_
  refine lv_iadd hx hb eL_law_1546.2.1 ?_
  refine va_sld hx hb hX hbl hbA hI.S (lw_in (j := 1) (by decide) (by omega) hL) eL_law_1546.2.2.1 ?_
  refine lv_aload_n hx hb eL_law_1546.2.2.2.1 rfl (lv_at hl 3 rfl) ?_
  refine lv_iload_n hx hb eL_law_1546.2.2.2.2.1 rfl (lv_at hl 0 rfl) ?_
  refine lv_iconst (v := 2) hx hb eL_law_1546.2.2.2.2.2.1 (by decide) ?_
  refine lv_iadd hx hb eL_law_1546.2.2.2.2.2.2.1 ?_
  refine va_sld hx hb hX hbl hbA hI.S (lw_in (j := 2) (by decide) (by omega) hL) eL_law_1546.2.2.2.2.2.2.2.1 ?_
  refine lv_aload_n hx hb eL_law_1554.1 rfl (lv_at hl 3 rfl) ?_
  refine lv_iload_n hx hb eL_law_1554.2.1 rfl (lv_at hl 0 rfl) ?_
  refine lv_iconst (v := 3) hx hb eL_law_1554.2.2.1 (by decide) ?_
  refine lv_iadd hx hb eL_law_1554.2.2.2.1 ?_
  refine va_sld hx hb hX hbl hbA hI.S (lw_in (j := 3) (by decide) (by omega) hL) eL_law_1554.2.2.2.2.1 ?_
  have h3 := (q_bd hI hmo (rfl : q_bn 12 24 = (0, 3))).2
  refine q_ci (q_runV (As := [.int (xs (nI i + 1).toNatClampNeg), .int (xs (nI i + 2).toNatClampNeg), .int (xs (nI i + 3).toNatClampNeg)]) (rest := []) E (hml.trans hl.1.symm) hI (c_X12_guess l X σ1 mo ((xs (nI i + 1).toNatClampNeg)) ((xs (nI i + 2).toNatClampNeg)) ((xs (nI i + 3).toNatClampNeg)) hmo hM.1.1) kl_202 hmo ⟨rfl, by decide⟩ (show vwCl[11]? = some (RX12, TX12, 46) from rfl) rfl ⟨Nat.le_of_ble_eq_true rfl, Nat.le_of_ble_eq_true rfl⟩ hcs rfl (Nat.le_of_ble_eq_true rfl) eL_law_1554.2.2.2.2.2.1) hI (by decide) (fun r2 σ2 H locs hp hk hI => ?_)
  obtain ⟨pq0, hex2, how2⟩ := hp
  have hp := pq0
  have hB := lw_BK how2 hI.1 hxo hmo rfl rfl (how2.1 xo 5 (by rw [hxo]; rfl)) hB
  have hA := (hA.post hal how2 rfl).pre hal how2 rfl
  have hE := lw_EK hk (by decide) hxo hmo hE
  have hM := lw_up (lw_kM hk hI.1 hmo (by decide) hM) (q_bd hI hmo (rfl : q_bn 12 24 = (0, 3))).2
  have hpp2 := hp
  clear hp hk
  clear h3
  refine lv_pop hx hb eL_law_1554.2.2.2.2.2.2.1 rfl ?_
  refine lv_goto (tgt := 1796) hx hb eL_law_1554.2.2.2.2.2.2.2.1 (by decide) ?_
  exact kk _ _ _ hI hM hE hB hA

set_option maxRecDepth 100000 in
set_option maxHeartbeats 4000000 in
theorem lw_c44 {p : Program} {l : Launch} {e : Env} {s : State} {m : MethodId} {below : List Frame} {meth : Method} {c : Code} {b L : Nat} {xs : Nat → Int32} {X : XW} {xo mo : Nat} {σ0 : ST} {cells slots : Nat} {Q : State → Prop} {lb : Nat → Nat} (hcl : tb_Cls X lb xo mo) (hal : al_C X lb xo mo) (E : q_E p c cL_law s m #[Value.ref b] RL X) (hX : va_X b L xs s s.heap) (hbl : b < s.heap.size) (hbA : ¬ q_reg X b) (hml : c.maxLocals = 4) (hxo : q_kd X xo = 11) (hmo : q_kd X mo = 12) (hcs : cells ≤ room_1.cells ∧ slots ≤ room_1.slots) (hL : L ≤ 3072) {i : Nat} (hi : i + 6 ≤ L) {n : Int} (hn : 0 ≤ n ∧ n ≤ 199000) {σ : ST} {H : Heap} {locs : List Loc} {ls : Array Slot} (hI : q_I X 0 σ0 s.heap locs σ H) (hM : m_M (m_c X σ mo) (σ.1 mo 24).toInt n) (hl : lv_has ls 4 [(3, .int (nI i)), (2, .ref mo), (1, .ref xo), (0, .ref b)]) (hE : lw_E xo mo σ) (hB : lw_B X xo mo σ) (hA : al_R X xo mo σ σ)
    (kk : ∀ (σ : ST) (H : Heap) (locs : List Loc), q_I X 0 σ0 s.heap locs σ H → m_M (m_c X σ mo) (σ.1 mo 24).toInt (n + 301) → lw_E xo mo σ → lw_B X xo mo σ → al_R X xo mo σ σ → W p l e room_1 s m #[Value.ref b] below meth c H locs cells slots Q (F0 m 1796 ls [])) : W p l e room_1 s m #[Value.ref b] below meth c H locs cells slots Q (F0 m 1566 ls []) := by
  have hx := E.1
  have hb := E.2.1
  have hI0 := hI
  have hE0 := hE
  have hB0 := hB
  have hA0 := hA
  have hM0 := hM
  refine lv_aload_n hx hb eL_law_1566.1 rfl (lv_at hl 2 rfl) ?_
  have h3 := (q_bd hI hmo (rfl : q_bn 12 24 = (0, 3))).2
  refine q_ci (q_runV (As := []) (rest := []) E (hml.trans hl.1.symm) hI (c_X11_fullest l X σ xo hxo) kl_203 hxo ⟨rfl, by decide⟩ (show vwCl[10]? = some (RX11, TX11, 17) from rfl) rfl ⟨Nat.le_of_ble_eq_true rfl, Nat.le_of_ble_eq_true rfl⟩ hcs rfl (Nat.le_of_ble_eq_true rfl) eL_law_1566.2.1) hI (by decide) (fun r1 σ1 H locs hp hk hI => ?_)
  obtain ⟨hex1, how1⟩ := hp
  have hp := True.intro
  have hB := lw_BK how1 hI.1 hxo hmo rfl rfl (how1.1 xo 5 (by rw [hxo]; rfl)) hB
  have hA1 := hA0.pre hal how1 rfl
  have hA := (hA.post hal how1 rfl).pre hal how1 rfl
  have hE := lw_EK hk (by decide) hxo hmo hE
  have hM := lw_kM hk hI.1 hmo (by decide) hM
  have hpp1 := hp
  have hMc := hM
  clear hp hk
  clear h3
  refine lv_pop hx hb eL_law_1566.2.2.1 rfl ?_
  refine lv_aload_n hx hb eL_law_1566.2.2.2.1 rfl (lv_at hl 1 rfl) ?_
  have h3 := (q_bd hI hmo (rfl : q_bn 12 24 = (0, 3))).2
  refine q_ci (q_runV (As := []) (rest := []) E (hml.trans hl.1.symm) hI (c_X12_fullest l X σ1 mo hmo hM.1.1) kl_206 hmo ⟨rfl, by decide⟩ (show vwCl[11]? = some (RX12, TX12, 46) from rfl) rfl ⟨Nat.le_of_ble_eq_true rfl, Nat.le_of_ble_eq_true rfl⟩ hcs rfl (Nat.le_of_ble_eq_true rfl) eL_law_1566.2.2.2.2.1) hI (by decide) (fun r2 σ2 H locs hp hk hI => ?_)
  obtain ⟨hex2, how2⟩ := hp
  have hp := True.intro
  have hB := lw_BK how2 hI.1 hxo hmo rfl rfl (how2.1 xo 5 (by rw [hxo]; rfl)) hB
  have hA := (hA.post hal how2 rfl).pre hal how2 rfl
  have hE := lw_EK hk (by decide) hxo hmo hE
  have hM := lw_up (lw_kM hk hI.1 hmo (by decide) hM) (q_bd hI hmo (rfl : q_bn 12 24 = (0, 3))).2
  have hpp2 := hp
  clear hp hk
  clear h3
  refine lv_pop hx hb eL_law_1566.2.2.2.2.2.1 rfl ?_
  refine lv_goto (tgt := 1796) hx hb eL_law_1566.2.2.2.2.2.2.1 (by decide) ?_
  exact kk _ _ _ hI hM hE hB hA

set_option maxRecDepth 100000 in
set_option maxHeartbeats 4000000 in
theorem lw_c45 {p : Program} {l : Launch} {e : Env} {s : State} {m : MethodId} {below : List Frame} {meth : Method} {c : Code} {b L : Nat} {xs : Nat → Int32} {X : XW} {xo mo : Nat} {σ0 : ST} {cells slots : Nat} {Q : State → Prop} {lb : Nat → Nat} (hcl : tb_Cls X lb xo mo) (hal : al_C X lb xo mo) (E : q_E p c cL_law s m #[Value.ref b] RL X) (hX : va_X b L xs s s.heap) (hbl : b < s.heap.size) (hbA : ¬ q_reg X b) (hml : c.maxLocals = 4) (hxo : q_kd X xo = 11) (hmo : q_kd X mo = 12) (hcs : cells ≤ room_1.cells ∧ slots ≤ room_1.slots) (hL : L ≤ 3072) {i : Nat} (hi : i + 6 ≤ L) {n : Int} (hn : 0 ≤ n ∧ n ≤ 199000) {σ : ST} {H : Heap} {locs : List Loc} {ls : Array Slot} (hI : q_I X 0 σ0 s.heap locs σ H) (hM : m_M (m_c X σ mo) (σ.1 mo 24).toInt n) (hl : lv_has ls 4 [(3, .int (nI i)), (2, .ref mo), (1, .ref xo), (0, .ref b)]) (hE : lw_E xo mo σ) (hB : lw_B X xo mo σ) (hA : al_R X xo mo σ σ)
    (kk : ∀ (σ : ST) (H : Heap) (locs : List Loc), q_I X 0 σ0 s.heap locs σ H → m_M (m_c X σ mo) (σ.1 mo 24).toInt (n + 301) → lw_E xo mo σ → lw_B X xo mo σ → al_R X xo mo σ σ → W p l e room_1 s m #[Value.ref b] below meth c H locs cells slots Q (F0 m 1796 ls [])) : W p l e room_1 s m #[Value.ref b] below meth c H locs cells slots Q (F0 m 1579 ls []) := by
  have hx := E.1
  have hb := E.2.1
  have hI0 := hI
  have hE0 := hE
  have hB0 := hB
  have hA0 := hA
  have hM0 := hM
  refine lv_aload_n hx hb eL_law_1566.2.2.2.2.2.2.2.1 rfl (lv_at hl 2 rfl) ?_
  refine lv_aload_n hx hb eL_law_1580.1 rfl (lv_at hl 3 rfl) ?_
  refine lv_iload_n hx hb eL_law_1580.2.1 rfl (lv_at hl 0 rfl) ?_
  refine lv_iconst (v := 1) hx hb eL_law_1580.2.2.1 (by decide) ?_
  refine lv_iadd hx hb eL_law_1580.2.2.2.1 ?_
  refine va_sld hx hb hX hbl hbA hI.S (lw_in (j := 1) (by decide) (by omega) hL) eL_law_1580.2.2.2.2.1 ?_
  have h3 := (q_bd hI hmo (rfl : q_bn 12 24 = (0, 3))).2
  refine q_ci (q_runV (As := [.int (xs (nI i + 1).toNatClampNeg)]) (rest := []) E (hml.trans hl.1.symm) hI (c_X11_quartet l X σ xo ((xs (nI i + 1).toNatClampNeg)) hxo) kl_207 hxo ⟨rfl, by decide⟩ (show vwCl[10]? = some (RX11, TX11, 17) from rfl) rfl ⟨Nat.le_of_ble_eq_true rfl, Nat.le_of_ble_eq_true rfl⟩ hcs rfl (Nat.le_of_ble_eq_true rfl) eL_law_1580.2.2.2.2.2.1) hI (by decide) (fun r1 σ1 H locs hp hk hI => ?_)
  obtain ⟨hex1, how1⟩ := hp
  have hp := True.intro
  have hB := lw_BK how1 hI.1 hxo hmo rfl rfl (how1.1 xo 5 (by rw [hxo]; rfl)) hB
  have hA1 := hA0.pre hal how1 rfl
  have hA := (hA.post hal how1 rfl).pre hal how1 rfl
  have hE := lw_EK hk (by decide) hxo hmo hE
  have hM := lw_kM hk hI.1 hmo (by decide) hM
  have hpp1 := hp
  have hMc := hM
  clear hp hk
  clear h3
  refine lv_pop hx hb eL_law_1580.2.2.2.2.2.2.1 rfl ?_
  refine lv_aload_n hx hb eL_law_1580.2.2.2.2.2.2.2.1 rfl (lv_at hl 1 rfl) ?_
  refine lv_aload_n hx hb eL_law_1590.1 rfl (lv_at hl 3 rfl) ?_
  refine lv_iload_n hx hb eL_law_1590.2.1 rfl (lv_at hl 0 rfl) ?_
  refine lv_iconst (v := 1) hx hb eL_law_1590.2.2.1 (by decide) ?_
  refine lv_iadd hx hb eL_law_1590.2.2.2.1 ?_
  refine va_sld hx hb hX hbl hbA hI.S (lw_in (j := 1) (by decide) (by omega) hL) eL_law_1590.2.2.2.2.1 ?_
  have h3 := (q_bd hI hmo (rfl : q_bn 12 24 = (0, 3))).2
  refine q_ci (q_runV (As := [.int (xs (nI i + 1).toNatClampNeg)]) (rest := []) E (hml.trans hl.1.symm) hI (c_X12_quartet l X σ1 mo ((xs (nI i + 1).toNatClampNeg)) hmo hM.1.1) kl_210 hmo ⟨rfl, by decide⟩ (show vwCl[11]? = some (RX12, TX12, 46) from rfl) rfl ⟨Nat.le_of_ble_eq_true rfl, Nat.le_of_ble_eq_true rfl⟩ hcs rfl (Nat.le_of_ble_eq_true rfl) eL_law_1590.2.2.2.2.2.1) hI (by decide) (fun r2 σ2 H locs hp hk hI => ?_)
  obtain ⟨hex2, how2⟩ := hp
  have hp := True.intro
  have hB := lw_BK how2 hI.1 hxo hmo rfl rfl (how2.1 xo 5 (by rw [hxo]; rfl)) hB
  have hA := (hA.post hal how2 rfl).pre hal how2 rfl
  have hE := lw_EK hk (by decide) hxo hmo hE
  have hM := lw_up (lw_kM hk hI.1 hmo (by decide) hM) (q_bd hI hmo (rfl : q_bn 12 24 = (0, 3))).2
  have hpp2 := hp
  clear hp hk
  clear h3
  refine lv_pop hx hb eL_law_1590.2.2.2.2.2.2.1 rfl ?_
  refine lv_goto (tgt := 1796) hx hb eL_law_1590.2.2.2.2.2.2.2.1 (by decide) ?_
  exact kk _ _ _ hI hM hE hB hA

set_option maxRecDepth 100000 in
set_option maxHeartbeats 4000000 in
theorem lw_c46 {p : Program} {l : Launch} {e : Env} {s : State} {m : MethodId} {below : List Frame} {meth : Method} {c : Code} {b L : Nat} {xs : Nat → Int32} {X : XW} {xo mo : Nat} {σ0 : ST} {cells slots : Nat} {Q : State → Prop} {lb : Nat → Nat} (hcl : tb_Cls X lb xo mo) (hal : al_C X lb xo mo) (E : q_E p c cL_law s m #[Value.ref b] RL X) (hX : va_X b L xs s s.heap) (hbl : b < s.heap.size) (hbA : ¬ q_reg X b) (hml : c.maxLocals = 4) (hxo : q_kd X xo = 11) (hmo : q_kd X mo = 12) (hcs : cells ≤ room_1.cells ∧ slots ≤ room_1.slots) (hL : L ≤ 3072) {i : Nat} (hi : i + 6 ≤ L) {n : Int} (hn : 0 ≤ n ∧ n ≤ 199000) {σ : ST} {H : Heap} {locs : List Loc} {ls : Array Slot} (hI : q_I X 0 σ0 s.heap locs σ H) (hM : m_M (m_c X σ mo) (σ.1 mo 24).toInt n) (hl : lv_has ls 4 [(3, .int (nI i)), (2, .ref mo), (1, .ref xo), (0, .ref b)]) (hE : lw_E xo mo σ) (hB : lw_B X xo mo σ) (hA : al_R X xo mo σ σ)
    (kk : ∀ (σ : ST) (H : Heap) (locs : List Loc), q_I X 0 σ0 s.heap locs σ H → m_M (m_c X σ mo) (σ.1 mo 24).toInt (n + 301) → lw_E xo mo σ → lw_B X xo mo σ → al_R X xo mo σ σ → W p l e room_1 s m #[Value.ref b] below meth c H locs cells slots Q (F0 m 1796 ls [])) : W p l e room_1 s m #[Value.ref b] below meth c H locs cells slots Q (F0 m 1602 ls []) := by
  have hx := E.1
  have hb := E.2.1
  have hI0 := hI
  have hE0 := hE
  have hB0 := hB
  have hA0 := hA
  have hM0 := hM
  refine lv_aload_n hx hb eL_law_1602.1 rfl (lv_at hl 2 rfl) ?_
  refine lv_aload_n hx hb eL_law_1602.2.1 rfl (lv_at hl 3 rfl) ?_
  refine lv_iload_n hx hb eL_law_1602.2.2.1 rfl (lv_at hl 0 rfl) ?_
  refine lv_iconst (v := 1) hx hb eL_law_1602.2.2.2.1 (by decide) ?_
  refine lv_iadd hx hb eL_law_1602.2.2.2.2.1 ?_
  refine va_sld hx hb hX hbl hbA hI.S (lw_in (j := 1) (by decide) (by omega) hL) eL_law_1602.2.2.2.2.2.1 ?_
  have h3 := (q_bd hI hmo (rfl : q_bn 12 24 = (0, 3))).2
  refine q_ci (q_runV (As := [.int (xs (nI i + 1).toNatClampNeg)]) (rest := []) E (hml.trans hl.1.symm) hI (c_X11_sorts l X σ xo ((xs (nI i + 1).toNatClampNeg)) hxo) kl_211 hxo ⟨rfl, by decide⟩ (show vwCl[10]? = some (RX11, TX11, 17) from rfl) rfl ⟨Nat.le_of_ble_eq_true rfl, Nat.le_of_ble_eq_true rfl⟩ hcs rfl (Nat.le_of_ble_eq_true rfl) eL_law_1602.2.2.2.2.2.2.1) hI (by decide) (fun r1 σ1 H locs hp hk hI => ?_)
  obtain ⟨hex1, how1⟩ := hp
  have hp := True.intro
  have hB := lw_BK how1 hI.1 hxo hmo rfl rfl (how1.1 xo 5 (by rw [hxo]; rfl)) hB
  have hA1 := hA0.pre hal how1 rfl
  have hA := (hA.post hal how1 rfl).pre hal how1 rfl
  have hE := lw_EK hk (by decide) hxo hmo hE
  have hM := lw_kM hk hI.1 hmo (by decide) hM
  have hpp1 := hp
  have hMc := hM
  clear hp hk
  clear h3
  refine lv_pop hx hb eL_law_1602.2.2.2.2.2.2.2.1 rfl ?_
  refine lv_aload_n hx hb eL_law_1612.1 rfl (lv_at hl 1 rfl) ?_
  refine lv_aload_n hx hb eL_law_1612.2.1 rfl (lv_at hl 3 rfl) ?_
  refine lv_iload_n hx hb eL_law_1612.2.2.1 rfl (lv_at hl 0 rfl) ?_
  refine lv_iconst (v := 1) hx hb eL_law_1612.2.2.2.1 (by decide) ?_
  refine lv_iadd hx hb eL_law_1612.2.2.2.2.1 ?_
  refine va_sld hx hb hX hbl hbA hI.S (lw_in (j := 1) (by decide) (by omega) hL) eL_law_1612.2.2.2.2.2.1 ?_
  have h3 := (q_bd hI hmo (rfl : q_bn 12 24 = (0, 3))).2
  refine q_ci (q_runV (As := [.int (xs (nI i + 1).toNatClampNeg)]) (rest := []) E (hml.trans hl.1.symm) hI (c_X12_sorts l X σ1 mo ((xs (nI i + 1).toNatClampNeg)) hmo hM.1.1) kl_214 hmo ⟨rfl, by decide⟩ (show vwCl[11]? = some (RX12, TX12, 46) from rfl) rfl ⟨Nat.le_of_ble_eq_true rfl, Nat.le_of_ble_eq_true rfl⟩ hcs rfl (Nat.le_of_ble_eq_true rfl) eL_law_1612.2.2.2.2.2.2.1) hI (by decide) (fun r2 σ2 H locs hp hk hI => ?_)
  obtain ⟨hex2, how2⟩ := hp
  have hp := True.intro
  have hB := lw_BK how2 hI.1 hxo hmo rfl rfl (how2.1 xo 5 (by rw [hxo]; rfl)) hB
  have hA := (hA.post hal how2 rfl).pre hal how2 rfl
  have hE := lw_EK hk (by decide) hxo hmo hE
  have hM := lw_up (lw_kM hk hI.1 hmo (by decide) hM) (q_bd hI hmo (rfl : q_bn 12 24 = (0, 3))).2
  have hpp2 := hp
  clear hp hk
  clear h3
  refine lv_pop hx hb eL_law_1612.2.2.2.2.2.2.2.1 rfl ?_
  refine lv_goto (tgt := 1796) hx hb eL_law_1622.1 (by decide) ?_
  exact kk _ _ _ hI hM hE hB hA

set_option maxRecDepth 100000 in
set_option maxHeartbeats 4000000 in
theorem lw_c47 {p : Program} {l : Launch} {e : Env} {s : State} {m : MethodId} {below : List Frame} {meth : Method} {c : Code} {b L : Nat} {xs : Nat → Int32} {X : XW} {xo mo : Nat} {σ0 : ST} {cells slots : Nat} {Q : State → Prop} {lb : Nat → Nat} (hcl : tb_Cls X lb xo mo) (hal : al_C X lb xo mo) (E : q_E p c cL_law s m #[Value.ref b] RL X) (hX : va_X b L xs s s.heap) (hbl : b < s.heap.size) (hbA : ¬ q_reg X b) (hml : c.maxLocals = 4) (hxo : q_kd X xo = 11) (hmo : q_kd X mo = 12) (hcs : cells ≤ room_1.cells ∧ slots ≤ room_1.slots) (hL : L ≤ 3072) {i : Nat} (hi : i + 6 ≤ L) {n : Int} (hn : 0 ≤ n ∧ n ≤ 199000) {σ : ST} {H : Heap} {locs : List Loc} {ls : Array Slot} (hI : q_I X 0 σ0 s.heap locs σ H) (hM : m_M (m_c X σ mo) (σ.1 mo 24).toInt n) (hl : lv_has ls 4 [(3, .int (nI i)), (2, .ref mo), (1, .ref xo), (0, .ref b)]) (hE : lw_E xo mo σ) (hB : lw_B X xo mo σ) (hA : al_R X xo mo σ σ)
    (kk : ∀ (σ : ST) (H : Heap) (locs : List Loc), q_I X 0 σ0 s.heap locs σ H → m_M (m_c X σ mo) (σ.1 mo 24).toInt (n + 301) → lw_E xo mo σ → lw_B X xo mo σ → al_R X xo mo σ σ → W p l e room_1 s m #[Value.ref b] below meth c H locs cells slots Q (F0 m 1796 ls [])) : W p l e room_1 s m #[Value.ref b] below meth c H locs cells slots Q (F0 m 1625 ls []) := by
  have hx := E.1
  have hb := E.2.1
  have hI0 := hI
  have hE0 := hE
  have hB0 := hB
  have hA0 := hA
  have hM0 := hM
  refine lv_aload_n hx hb eL_law_1622.2.1 rfl (lv_at hl 2 rfl) ?_
  have h3 := (q_bd hI hmo (rfl : q_bn 12 24 = (0, 3))).2
  refine q_ci (q_runV (As := []) (rest := []) E (hml.trans hl.1.symm) hI (c_X11_liar l X σ xo hxo) kl_215 hxo ⟨rfl, by decide⟩ (show vwCl[10]? = some (RX11, TX11, 17) from rfl) rfl ⟨Nat.le_of_ble_eq_true rfl, Nat.le_of_ble_eq_true rfl⟩ hcs rfl (Nat.le_of_ble_eq_true rfl) eL_law_1622.2.2.1) hI (by decide) (fun r1 σ1 H locs hp hk hI => ?_)
  obtain ⟨hex1, how1⟩ := hp
  have hp := True.intro
  have hB := lw_BK how1 hI.1 hxo hmo rfl rfl (how1.1 xo 5 (by rw [hxo]; rfl)) hB
  have hA1 := hA0.pre hal how1 rfl
  have hA := (hA.post hal how1 rfl).pre hal how1 rfl
  have hE := lw_EK hk (by decide) hxo hmo hE
  have hM := lw_kM hk hI.1 hmo (by decide) hM
  have hpp1 := hp
  have hMc := hM
  clear hp hk
  clear h3
  refine lv_pop hx hb eL_law_1622.2.2.2.1 rfl ?_
  refine lv_aload_n hx hb eL_law_1622.2.2.2.2.1 rfl (lv_at hl 1 rfl) ?_
  have h3 := (q_bd hI hmo (rfl : q_bn 12 24 = (0, 3))).2
  refine q_ci (q_runV (As := []) (rest := []) E (hml.trans hl.1.symm) hI (c_X12_liar l X σ1 mo hmo hM.1.1) kl_218 hmo ⟨rfl, by decide⟩ (show vwCl[11]? = some (RX12, TX12, 46) from rfl) rfl ⟨Nat.le_of_ble_eq_true rfl, Nat.le_of_ble_eq_true rfl⟩ hcs rfl (Nat.le_of_ble_eq_true rfl) eL_law_1622.2.2.2.2.2.1) hI (by decide) (fun r2 σ2 H locs hp hk hI => ?_)
  obtain ⟨hex2, how2⟩ := hp
  have hp := True.intro
  have hB := lw_BK how2 hI.1 hxo hmo rfl rfl (how2.1 xo 5 (by rw [hxo]; rfl)) hB
  have hA := (hA.post hal how2 rfl).pre hal how2 rfl
  have hE := lw_EK hk (by decide) hxo hmo hE
  have hM := lw_up (lw_kM hk hI.1 hmo (by decide) hM) (q_bd hI hmo (rfl : q_bn 12 24 = (0, 3))).2
  have hpp2 := hp
  clear hp hk
  clear h3
  refine lv_pop hx hb eL_law_1622.2.2.2.2.2.2.1 rfl ?_
  refine lv_goto (tgt := 1796) hx hb eL_law_1622.2.2.2.2.2.2.2.1 (by decide) ?_
  exact kk _ _ _ hI hM hE hB hA

set_option maxRecDepth 100000 in
set_option maxHeartbeats 4000000 in
theorem lw_c48 {p : Program} {l : Launch} {e : Env} {s : State} {m : MethodId} {below : List Frame} {meth : Method} {c : Code} {b L : Nat} {xs : Nat → Int32} {X : XW} {xo mo : Nat} {σ0 : ST} {cells slots : Nat} {Q : State → Prop} {lb : Nat → Nat} (hcl : tb_Cls X lb xo mo) (hal : al_C X lb xo mo) (E : q_E p c cL_law s m #[Value.ref b] RL X) (hX : va_X b L xs s s.heap) (hbl : b < s.heap.size) (hbA : ¬ q_reg X b) (hml : c.maxLocals = 4) (hxo : q_kd X xo = 11) (hmo : q_kd X mo = 12) (hcs : cells ≤ room_1.cells ∧ slots ≤ room_1.slots) (hL : L ≤ 3072) {i : Nat} (hi : i + 6 ≤ L) {n : Int} (hn : 0 ≤ n ∧ n ≤ 199000) {σ : ST} {H : Heap} {locs : List Loc} {ls : Array Slot} (hI : q_I X 0 σ0 s.heap locs σ H) (hM : m_M (m_c X σ mo) (σ.1 mo 24).toInt n) (hl : lv_has ls 4 [(3, .int (nI i)), (2, .ref mo), (1, .ref xo), (0, .ref b)]) (hE : lw_E xo mo σ) (hB : lw_B X xo mo σ) (hA : al_R X xo mo σ σ)
    (kk : ∀ (σ : ST) (H : Heap) (locs : List Loc), q_I X 0 σ0 s.heap locs σ H → m_M (m_c X σ mo) (σ.1 mo 24).toInt (n + 301) → lw_E xo mo σ → lw_B X xo mo σ → al_R X xo mo σ σ → W p l e room_1 s m #[Value.ref b] below meth c H locs cells slots Q (F0 m 1796 ls [])) : W p l e room_1 s m #[Value.ref b] below meth c H locs cells slots Q (F0 m 1638 ls []) := by
  have hx := E.1
  have hb := E.2.1
  have hI0 := hI
  have hE0 := hE
  have hB0 := hB
  have hA0 := hA
  have hM0 := hM
  refine lv_aload_n hx hb eL_law_1638.1 rfl (lv_at hl 2 rfl) ?_
  refine lv_aload_n hx hb eL_law_1638.2.1 rfl (lv_at hl 3 rfl) ?_
  refine lv_iload_n hx hb eL_law_1638.2.2.1 rfl (lv_at hl 0 rfl) ?_
  refine lv_iconst (v := 1) hx hb eL_law_1638.2.2.2.1 (by decide) ?_
  refine lv_iadd hx hb eL_law_1638.2.2.2.2.1 ?_
  refine va_sld hx hb hX hbl hbA hI.S (lw_in (j := 1) (by decide) (by omega) hL) eL_law_1638.2.2.2.2.2.1 ?_
  have h3 := (q_bd hI hmo (rfl : q_bn 12 24 = (0, 3))).2
  refine q_ci (q_runV (As := [.int (xs (nI i + 1).toNatClampNeg)]) (rest := []) E (hml.trans hl.1.symm) hI (c_X11_play l X σ xo ((xs (nI i + 1).toNatClampNeg)) hxo) kl_219 hxo ⟨rfl, by decide⟩ (show vwCl[10]? = some (RX11, TX11, 17) from rfl) rfl ⟨Nat.le_of_ble_eq_true rfl, Nat.le_of_ble_eq_true rfl⟩ hcs rfl (Nat.le_of_ble_eq_true rfl) eL_law_1638.2.2.2.2.2.2.1) hI (by decide) (fun r1 σ1 H locs hp hk hI => ?_)
  obtain ⟨hex1, how1⟩ := hp
  have hp := True.intro
  have hB := lw_BK how1 hI.1 hxo hmo rfl rfl (how1.1 xo 5 (by rw [hxo]; rfl)) hB
  have hA1 := hA0.pre hal how1 rfl
  have hE := lw_EK hk (by decide) hxo hmo hE
  have hM := lw_kM hk hI.1 hmo (by decide) hM
  have hpp1 := hp
  have hMc := hM
  clear hp hk
  clear h3
  refine lv_pop hx hb eL_law_1638.2.2.2.2.2.2.2.1 rfl ?_
  refine lv_aload_n hx hb eL_law_1648.1 rfl (lv_at hl 1 rfl) ?_
  refine lv_aload_n hx hb eL_law_1648.2.1 rfl (lv_at hl 3 rfl) ?_
  refine lv_iload_n hx hb eL_law_1648.2.2.1 rfl (lv_at hl 0 rfl) ?_
  refine lv_iconst (v := 1) hx hb eL_law_1648.2.2.2.1 (by decide) ?_
  refine lv_iadd hx hb eL_law_1648.2.2.2.2.1 ?_
  refine va_sld hx hb hX hbl hbA hI.S (lw_in (j := 1) (by decide) (by omega) hL) eL_law_1648.2.2.2.2.2.1 ?_
  have h3 := (q_bd hI hmo (rfl : q_bn 12 24 = (0, 3))).2
  refine q_ci (q_runV (As := [.int (xs (nI i + 1).toNatClampNeg)]) (rest := []) E (hml.trans hl.1.symm) hI (c_X12_play l X σ1 mo ((xs (nI i + 1).toNatClampNeg)) n hmo hM.1.1 hM.1.2 hn) kl_222 hmo ⟨rfl, by decide⟩ (show vwCl[11]? = some (RX12, TX12, 46) from rfl) rfl ⟨Nat.le_of_ble_eq_true rfl, Nat.le_of_ble_eq_true rfl⟩ hcs rfl (Nat.le_of_ble_eq_true rfl) eL_law_1648.2.2.2.2.2.2.1) hI (by decide) (fun r2 σ2 H locs hp hk hI => ?_)
  obtain ⟨pq0, pq1, pq2, hex2, how2⟩ := hp
  have hp := And.intro pq0 (And.intro pq1 pq2)
  have hB := lw_BK how2 hI.1 hxo hmo rfl rfl (how2.1 xo 5 (by rw [hxo]; rfl)) hB
  have hO := lw_Aob hal (al_play hal hA1 hMc (by omega) ((xs (nI i + 1).toNatClampNeg))).1 hex1 hex2 how2 rfl
  have hA := hO.2
  have hE := lw_EK hk (by decide) hxo hmo hE
  have hM := lw_wr (hk mo 24 (by rw [hmo]; decide)) hp.1 hp.2.1 hp.2.2 hM h3 (by omega)
  have hpp2 := hp
  clear hp hk
  clear h3
  refine lv_pop hx hb eL_law_1648.2.2.2.2.2.2.2.1 rfl ?_
  refine lv_goto (tgt := 1796) hx hb eL_law_1658.1 (by decide) ?_
  exact kk _ _ _ hI hM hE hB hA

set_option maxRecDepth 100000 in
set_option maxHeartbeats 4000000 in
theorem lw_c49 {p : Program} {l : Launch} {e : Env} {s : State} {m : MethodId} {below : List Frame} {meth : Method} {c : Code} {b L : Nat} {xs : Nat → Int32} {X : XW} {xo mo : Nat} {σ0 : ST} {cells slots : Nat} {Q : State → Prop} {lb : Nat → Nat} (hcl : tb_Cls X lb xo mo) (hal : al_C X lb xo mo) (E : q_E p c cL_law s m #[Value.ref b] RL X) (hX : va_X b L xs s s.heap) (hbl : b < s.heap.size) (hbA : ¬ q_reg X b) (hml : c.maxLocals = 4) (hxo : q_kd X xo = 11) (hmo : q_kd X mo = 12) (hcs : cells ≤ room_1.cells ∧ slots ≤ room_1.slots) (hL : L ≤ 3072) {i : Nat} (hi : i + 6 ≤ L) {n : Int} (hn : 0 ≤ n ∧ n ≤ 199000) {σ : ST} {H : Heap} {locs : List Loc} {ls : Array Slot} (hI : q_I X 0 σ0 s.heap locs σ H) (hM : m_M (m_c X σ mo) (σ.1 mo 24).toInt n) (hl : lv_has ls 4 [(3, .int (nI i)), (2, .ref mo), (1, .ref xo), (0, .ref b)]) (hE : lw_E xo mo σ) (hB : lw_B X xo mo σ) (hA : al_R X xo mo σ σ)
    (kk : ∀ (σ : ST) (H : Heap) (locs : List Loc), q_I X 0 σ0 s.heap locs σ H → m_M (m_c X σ mo) (σ.1 mo 24).toInt (n + 301) → lw_E xo mo σ → lw_B X xo mo σ → al_R X xo mo σ σ → W p l e room_1 s m #[Value.ref b] below meth c H locs cells slots Q (F0 m 1796 ls [])) : W p l e room_1 s m #[Value.ref b] below meth c H locs cells slots Q (F0 m 1661 ls []) := by
  have hx := E.1
  have hb := E.2.1
  have hI0 := hI
  have hE0 := hE
  have hB0 := hB
  have hA0 := hA
  have hM0 := hM
  refine lv_aload_n hx hb eL_law_1658.2.1 rfl (lv_at hl 2 rfl) ?_
  refine lv_aload_n hx hb eL_law_1658.2.2.1 rfl (lv_at hl 3 rfl) ?_
  refine lv_iload_n hx hb eL_law_1658.2.2.2.1 rfl (lv_at hl 0 rfl) ?_
  refine lv_iconst (v := 1) hx hb eL_law_1658.2.2.2.2.1 (by decide) ?_
  refine lv_iadd hx hb eL_law_1658.2.2.2.2.2.1 ?_
  refine va_sld hx hb hX hbl hbA hI.S (lw_in (j := 1) (by decide) (by omega) hL) eL_law_1658.2.2.2.2.2.2.1 ?_
  have h3 := (q_bd hI hmo (rfl : q_bn 12 24 = (0, 3))).2
  refine q_ci (q_runV (As := [.int (xs (nI i + 1).toNatClampNeg)]) (rest := []) E (hml.trans hl.1.symm) hI (c_X11_played l X σ xo ((xs (nI i + 1).toNatClampNeg)) hxo) kl_223 hxo ⟨rfl, by decide⟩ (show vwCl[10]? = some (RX11, TX11, 17) from rfl) rfl ⟨Nat.le_of_ble_eq_true rfl, Nat.le_of_ble_eq_true rfl⟩ hcs rfl (Nat.le_of_ble_eq_true rfl) eL_law_1658.2.2.2.2.2.2.2.1) hI (by decide) (fun r1 σ1 H locs hp hk hI => ?_)
  obtain ⟨hex1, how1⟩ := hp
  have hp := True.intro
  have hB := lw_BK how1 hI.1 hxo hmo rfl rfl (how1.1 xo 5 (by rw [hxo]; rfl)) hB
  have hA1 := hA0.pre hal how1 rfl
  have hA := (hA.post hal how1 rfl).pre hal how1 rfl
  have hE := lw_EK hk (by decide) hxo hmo hE
  have hM := lw_kM hk hI.1 hmo (by decide) hM
  have hpp1 := hp
  have hMc := hM
  clear hp hk
  clear h3
  refine lv_pop hx hb eL_law_1670.1 rfl ?_
  refine lv_aload_n hx hb eL_law_1670.2.1 rfl (lv_at hl 1 rfl) ?_
  refine lv_aload_n hx hb eL_law_1670.2.2.1 rfl (lv_at hl 3 rfl) ?_
  refine lv_iload_n hx hb eL_law_1670.2.2.2.1 rfl (lv_at hl 0 rfl) ?_
  refine lv_iconst (v := 1) hx hb eL_law_1670.2.2.2.2.1 (by decide) ?_
  refine lv_iadd hx hb eL_law_1670.2.2.2.2.2.1 ?_
  refine va_sld hx hb hX hbl hbA hI.S (lw_in (j := 1) (by decide) (by omega) hL) eL_law_1670.2.2.2.2.2.2.1 ?_
  have h3 := (q_bd hI hmo (rfl : q_bn 12 24 = (0, 3))).2
  refine q_ci (q_runV (As := [.int (xs (nI i + 1).toNatClampNeg)]) (rest := []) E (hml.trans hl.1.symm) hI (c_X12_played l X σ1 mo ((xs (nI i + 1).toNatClampNeg)) hmo hM.1.1) kl_226 hmo ⟨rfl, by decide⟩ (show vwCl[11]? = some (RX12, TX12, 46) from rfl) rfl ⟨Nat.le_of_ble_eq_true rfl, Nat.le_of_ble_eq_true rfl⟩ hcs rfl (Nat.le_of_ble_eq_true rfl) eL_law_1670.2.2.2.2.2.2.2.1) hI (by decide) (fun r2 σ2 H locs hp hk hI => ?_)
  obtain ⟨hex2, how2⟩ := hp
  have hp := True.intro
  have hB := lw_BK how2 hI.1 hxo hmo rfl rfl (how2.1 xo 5 (by rw [hxo]; rfl)) hB
  have hA := (hA.post hal how2 rfl).pre hal how2 rfl
  have hE := lw_EK hk (by decide) hxo hmo hE
  have hM := lw_up (lw_kM hk hI.1 hmo (by decide) hM) (q_bd hI hmo (rfl : q_bn 12 24 = (0, 3))).2
  have hpp2 := hp
  clear hp hk
  clear h3
  refine lv_pop hx hb eL_law_1680.1 rfl ?_
  refine lv_goto (tgt := 1796) hx hb eL_law_1680.2.1 (by decide) ?_
  exact kk _ _ _ hI hM hE hB hA

set_option maxRecDepth 100000 in
set_option maxHeartbeats 4000000 in
theorem lw_c50 {p : Program} {l : Launch} {e : Env} {s : State} {m : MethodId} {below : List Frame} {meth : Method} {c : Code} {b L : Nat} {xs : Nat → Int32} {X : XW} {xo mo : Nat} {σ0 : ST} {cells slots : Nat} {Q : State → Prop} {lb : Nat → Nat} (hcl : tb_Cls X lb xo mo) (hal : al_C X lb xo mo) (E : q_E p c cL_law s m #[Value.ref b] RL X) (hX : va_X b L xs s s.heap) (hbl : b < s.heap.size) (hbA : ¬ q_reg X b) (hml : c.maxLocals = 4) (hxo : q_kd X xo = 11) (hmo : q_kd X mo = 12) (hcs : cells ≤ room_1.cells ∧ slots ≤ room_1.slots) (hL : L ≤ 3072) {i : Nat} (hi : i + 6 ≤ L) {n : Int} (hn : 0 ≤ n ∧ n ≤ 199000) {σ : ST} {H : Heap} {locs : List Loc} {ls : Array Slot} (hI : q_I X 0 σ0 s.heap locs σ H) (hM : m_M (m_c X σ mo) (σ.1 mo 24).toInt n) (hl : lv_has ls 4 [(3, .int (nI i)), (2, .ref mo), (1, .ref xo), (0, .ref b)]) (hE : lw_E xo mo σ) (hB : lw_B X xo mo σ) (hA : al_R X xo mo σ σ)
    (kk : ∀ (σ : ST) (H : Heap) (locs : List Loc), q_I X 0 σ0 s.heap locs σ H → m_M (m_c X σ mo) (σ.1 mo 24).toInt (n + 301) → lw_E xo mo σ → lw_B X xo mo σ → al_R X xo mo σ σ → W p l e room_1 s m #[Value.ref b] below meth c H locs cells slots Q (F0 m 1796 ls [])) : W p l e room_1 s m #[Value.ref b] below meth c H locs cells slots Q (F0 m 1684 ls []) := by
  have hx := E.1
  have hb := E.2.1
  have hI0 := hI
  have hE0 := hE
  have hB0 := hB
  have hA0 := hA
  have hM0 := hM
  refine lv_aload_n hx hb eL_law_1680.2.2.1 rfl (lv_at hl 2 rfl) ?_
  refine lv_aload_n hx hb eL_law_1680.2.2.2.1 rfl (lv_at hl 3 rfl) ?_
  refine lv_iload_n hx hb eL_law_1680.2.2.2.2.1 rfl (lv_at hl 0 rfl) ?_
  refine lv_iconst (v := 1) hx hb eL_law_1680.2.2.2.2.2.1 (by decide) ?_
  refine lv_iadd hx hb eL_law_1680.2.2.2.2.2.2.1 ?_
  refine va_sld hx hb hX hbl hbA hI.S (lw_in (j := 1) (by decide) (by omega) hL) eL_law_1680.2.2.2.2.2.2.2.1 ?_
  refine lv_aload_n hx hb eL_law_1690.1 rfl (lv_at hl 3 rfl) ?_
  refine lv_iload_n hx hb eL_law_1690.2.1 rfl (lv_at hl 0 rfl) ?_
  refine lv_iconst (v := 2) hx hb eL_law_1690.2.2.1 (by decide) ?_
  refine lv_iadd hx hb eL_law_1690.2.2.2.1 ?_
  refine va_sld hx hb hX hbl hbA hI.S (lw_in (j := 2) (by decide) (by omega) hL) eL_law_1690.2.2.2.2.1 ?_
  refine lv_aload_n hx hb eL_law_1690.2.2.2.2.2.1 rfl (lv_at hl 3 rfl) ?_
  refine lv_iload_n hx hb eL_law_1690.2.2.2.2.2.2.1 rfl (lv_at hl 0 rfl) ?_
  refine lv_iconst (v := 3) hx hb eL_law_1690.2.2.2.2.2.2.2.1 (by decide) ?_
  refine lv_iadd hx hb eL_law_1698.1 ?_
  refine va_sld hx hb hX hbl hbA hI.S (lw_in (j := 3) (by decide) (by omega) hL) eL_law_1698.2.1 ?_
  have h3 := (q_bd hI hmo (rfl : q_bn 12 24 = (0, 3))).2
  refine q_ci (q_runV (As := [.int (xs (nI i + 1).toNatClampNeg), .int (xs (nI i + 2).toNatClampNeg), .int (xs (nI i + 3).toNatClampNeg)]) (rest := []) E (hml.trans hl.1.symm) hI (c_X11_wins l X σ xo ((xs (nI i + 1).toNatClampNeg)) ((xs (nI i + 2).toNatClampNeg)) ((xs (nI i + 3).toNatClampNeg)) hxo) kl_227 hxo ⟨rfl, by decide⟩ (show vwCl[10]? = some (RX11, TX11, 17) from rfl) rfl ⟨Nat.le_of_ble_eq_true rfl, Nat.le_of_ble_eq_true rfl⟩ hcs rfl (Nat.le_of_ble_eq_true rfl) eL_law_1698.2.2.1) hI (by decide) (fun r1 σ1 H locs hp hk hI => ?_)
  obtain ⟨pq0, hex1, how1⟩ := hp
  have hp := pq0
  have hB := lw_BK how1 hI.1 hxo hmo rfl rfl (how1.1 xo 5 (by rw [hxo]; rfl)) hB
  have hA1 := hA0.pre hal how1 rfl
  have hE := lw_EK hk (by decide) hxo hmo hE
  have hM := lw_kM hk hI.1 hmo (by decide) hM
  have hpp1 := hp
  have hMc := hM
  clear hp hk
  clear h3
  refine lv_pop hx hb eL_law_1698.2.2.2.1 rfl ?_
  refine lv_aload_n hx hb eL_law_1698.2.2.2.2.1 rfl (lv_at hl 1 rfl) ?_
  refine lv_aload_n hx hb eL_law_1698.2.2.2.2.2.1 rfl (lv_at hl 3 rfl) ?_
  refine lv_iload_n hx hb eL_law_1698.2.2.2.2.2.2.1 rfl (lv_at hl 0 rfl) ?_
  refine lv_iconst (v := 1) hx hb eL_law_1698.2.2.2.2.2.2.2.1 (by decide) ?_
  refine lv_iadd hx hb eL_law_1708.1 ?_
  refine va_sld hx hb hX hbl hbA hI.S (lw_in (j := 1) (by decide) (by omega) hL) eL_law_1708.2.1 ?_
  refine lv_aload_n hx hb eL_law_1708.2.2.1 rfl (lv_at hl 3 rfl) ?_
  refine lv_iload_n hx hb eL_law_1708.2.2.2.1 rfl (lv_at hl 0 rfl) ?_
  refine lv_iconst (v := 2) hx hb eL_law_1708.2.2.2.2.1 (by decide) ?_
  refine lv_iadd hx hb eL_law_1708.2.2.2.2.2.1 ?_
  refine va_sld hx hb hX hbl hbA hI.S (lw_in (j := 2) (by decide) (by omega) hL) eL_law_1708.2.2.2.2.2.2.1 ?_
  refine lv_aload_n hx hb eL_law_1708.2.2.2.2.2.2.2.1 rfl (lv_at hl 3 rfl) ?_
  refine lv_iload_n hx hb eL_law_1716.1 rfl (lv_at hl 0 rfl) ?_
  refine lv_iconst (v := 3) hx hb eL_law_1716.2.1 (by decide) ?_
  refine lv_iadd hx hb eL_law_1716.2.2.1 ?_
  refine va_sld hx hb hX hbl hbA hI.S (lw_in (j := 3) (by decide) (by omega) hL) eL_law_1716.2.2.2.1 ?_
  have h3 := (q_bd hI hmo (rfl : q_bn 12 24 = (0, 3))).2
  refine q_ci (q_runV (As := [.int (xs (nI i + 1).toNatClampNeg), .int (xs (nI i + 2).toNatClampNeg), .int (xs (nI i + 3).toNatClampNeg)]) (rest := []) E (hml.trans hl.1.symm) hI (c_X12_wins l X σ1 mo ((xs (nI i + 1).toNatClampNeg)) ((xs (nI i + 2).toNatClampNeg)) ((xs (nI i + 3).toNatClampNeg)) n hmo hM.1.1 hM.1.2 hn) kl_230 hmo ⟨rfl, by decide⟩ (show vwCl[11]? = some (RX12, TX12, 46) from rfl) rfl ⟨Nat.le_of_ble_eq_true rfl, Nat.le_of_ble_eq_true rfl⟩ hcs rfl (Nat.le_of_ble_eq_true rfl) eL_law_1716.2.2.2.2.1) hI (by decide) (fun r2 σ2 H locs hp hk hI => ?_)
  obtain ⟨pq0, pq1, hex2, how2⟩ := hp
  have hp := And.intro pq0 pq1
  have hB := lw_BK how2 hI.1 hxo hmo rfl rfl (how2.1 xo 5 (by rw [hxo]; rfl)) hB
  have hO := lw_Aob hal (al_tries hal hA1 hMc (by omega) ((xs (nI i + 1).toNatClampNeg)) ((xs (nI i + 2).toNatClampNeg)) ((xs (nI i + 3).toNatClampNeg))).1 hex1 hex2 how2 rfl
  have hA := hO.2
  have hE := lw_EK hk (by decide) hxo hmo hE
  have hM := lw_up (lw_kC (hk mo 24 (by rw [hmo]; decide)) hp.2 hM) (q_bd hI hmo (rfl : q_bn 12 24 = (0, 3))).2
  have hpp2 := hp
  clear hp hk
  clear h3
  refine lv_pop hx hb eL_law_1716.2.2.2.2.2.1 rfl ?_
  refine lv_goto (tgt := 1796) hx hb eL_law_1716.2.2.2.2.2.2.1 (by decide) ?_
  exact kk _ _ _ hI hM hE hB hA

set_option maxRecDepth 100000 in
set_option maxHeartbeats 4000000 in
theorem lw_c51 {p : Program} {l : Launch} {e : Env} {s : State} {m : MethodId} {below : List Frame} {meth : Method} {c : Code} {b L : Nat} {xs : Nat → Int32} {X : XW} {xo mo : Nat} {σ0 : ST} {cells slots : Nat} {Q : State → Prop} {lb : Nat → Nat} (hcl : tb_Cls X lb xo mo) (hal : al_C X lb xo mo) (E : q_E p c cL_law s m #[Value.ref b] RL X) (hX : va_X b L xs s s.heap) (hbl : b < s.heap.size) (hbA : ¬ q_reg X b) (hml : c.maxLocals = 4) (hxo : q_kd X xo = 11) (hmo : q_kd X mo = 12) (hcs : cells ≤ room_1.cells ∧ slots ≤ room_1.slots) (hL : L ≤ 3072) {i : Nat} (hi : i + 6 ≤ L) {n : Int} (hn : 0 ≤ n ∧ n ≤ 199000) {σ : ST} {H : Heap} {locs : List Loc} {ls : Array Slot} (hI : q_I X 0 σ0 s.heap locs σ H) (hM : m_M (m_c X σ mo) (σ.1 mo 24).toInt n) (hl : lv_has ls 4 [(3, .int (nI i)), (2, .ref mo), (1, .ref xo), (0, .ref b)]) (hE : lw_E xo mo σ) (hB : lw_B X xo mo σ) (hA : al_R X xo mo σ σ)
    (kk : ∀ (σ : ST) (H : Heap) (locs : List Loc), q_I X 0 σ0 s.heap locs σ H → m_M (m_c X σ mo) (σ.1 mo 24).toInt (n + 301) → lw_E xo mo σ → lw_B X xo mo σ → al_R X xo mo σ σ → W p l e room_1 s m #[Value.ref b] below meth c H locs cells slots Q (F0 m 1796 ls [])) : W p l e room_1 s m #[Value.ref b] below meth c H locs cells slots Q (F0 m 1727 ls []) := by
  have hx := E.1
  have hb := E.2.1
  have hI0 := hI
  have hE0 := hE
  have hB0 := hB
  have hA0 := hA
  have hM0 := hM
  refine lv_aload_n hx hb eL_law_1716.2.2.2.2.2.2.2.1 rfl (lv_at hl 2 rfl) ?_
  refine lv_aload_n hx hb eL_law_1728.1 rfl (lv_at hl 3 rfl) ?_
  refine lv_iload_n hx hb eL_law_1728.2.1 rfl (lv_at hl 0 rfl) ?_
  refine lv_iconst (v := 1) hx hb eL_law_1728.2.2.1 (by decide) ?_
  refine lv_iadd hx hb eL_law_1728.2.2.2.1 ?_
  refine va_sld hx hb hX hbl hbA hI.S (lw_in (j := 1) (by decide) (by omega) hL) eL_law_1728.2.2.2.2.1 ?_
  refine lv_aload_n hx hb eL_law_1728.2.2.2.2.2.1 rfl (lv_at hl 3 rfl) ?_
  refine lv_iload_n hx hb eL_law_1728.2.2.2.2.2.2.1 rfl (lv_at hl 0 rfl) ?_
  refine lv_iconst (v := 2) hx hb eL_law_1728.2.2.2.2.2.2.2.1 (by decide) ?_
  refine lv_iadd hx hb eL_law_1736.1 ?_
  refine va_sld hx hb hX hbl hbA hI.S (lw_in (j := 2) (by decide) (by omega) hL) eL_law_1736.2.1 ?_
  refine lv_aload_n hx hb eL_law_1736.2.2.1 rfl (lv_at hl 3 rfl) ?_
  refine lv_iload_n hx hb eL_law_1736.2.2.2.1 rfl (lv_at hl 0 rfl) ?_
  refine lv_iconst (v := 3) hx hb eL_law_1736.2.2.2.2.1 (by decide) ?_
  refine lv_iadd hx hb eL_law_1736.2.2.2.2.2.1 ?_
  refine va_sld hx hb hX hbl hbA hI.S (lw_in (j := 3) (by decide) (by omega) hL) eL_law_1736.2.2.2.2.2.2.1 ?_
  have h3 := (q_bd hI hmo (rfl : q_bn 12 24 = (0, 3))).2
  refine q_ci (q_runV (As := [.int (xs (nI i + 1).toNatClampNeg), .int (xs (nI i + 2).toNatClampNeg), .int (xs (nI i + 3).toNatClampNeg)]) (rest := []) E (hml.trans hl.1.symm) hI (c_X11_left l X σ xo ((xs (nI i + 1).toNatClampNeg)) ((xs (nI i + 2).toNatClampNeg)) ((xs (nI i + 3).toNatClampNeg)) hxo) kl_231 hxo ⟨rfl, by decide⟩ (show vwCl[10]? = some (RX11, TX11, 17) from rfl) rfl ⟨Nat.le_of_ble_eq_true rfl, Nat.le_of_ble_eq_true rfl⟩ hcs rfl (Nat.le_of_ble_eq_true rfl) eL_law_1736.2.2.2.2.2.2.2.1) hI (by decide) (fun r1 σ1 H locs hp hk hI => ?_)
  obtain ⟨pq0, hex1, how1⟩ := hp
  have hp := pq0
  have hB := lw_BK how1 hI.1 hxo hmo rfl rfl (how1.1 xo 5 (by rw [hxo]; rfl)) hB
  have hA1 := hA0.pre hal how1 rfl
  have hE := lw_EK hk (by decide) hxo hmo hE
  have hM := lw_kM hk hI.1 hmo (by decide) hM
  have hpp1 := hp
  have hMc := hM
  clear hp hk
  clear h3
  refine lv_pop hx hb eL_law_1746.1 rfl ?_
  refine lv_aload_n hx hb eL_law_1746.2.1 rfl (lv_at hl 1 rfl) ?_
  refine lv_aload_n hx hb eL_law_1746.2.2.1 rfl (lv_at hl 3 rfl) ?_
  refine lv_iload_n hx hb eL_law_1746.2.2.2.1 rfl (lv_at hl 0 rfl) ?_
  refine lv_iconst (v := 1) hx hb eL_law_1746.2.2.2.2.1 (by decide) ?_
  refine lv_iadd hx hb eL_law_1746.2.2.2.2.2.1 ?_
  refine va_sld hx hb hX hbl hbA hI.S (lw_in (j := 1) (by decide) (by omega) hL) eL_law_1746.2.2.2.2.2.2.1 ?_
  refine lv_aload_n hx hb eL_law_1746.2.2.2.2.2.2.2.1 rfl (lv_at hl 3 rfl) ?_
  refine lv_iload_n hx hb eL_law_1754.1 rfl (lv_at hl 0 rfl) ?_
  refine lv_iconst (v := 2) hx hb eL_law_1754.2.1 (by decide) ?_
  refine lv_iadd hx hb eL_law_1754.2.2.1 ?_
  refine va_sld hx hb hX hbl hbA hI.S (lw_in (j := 2) (by decide) (by omega) hL) eL_law_1754.2.2.2.1 ?_
  refine lv_aload_n hx hb eL_law_1754.2.2.2.2.1 rfl (lv_at hl 3 rfl) ?_
  refine lv_iload_n hx hb eL_law_1754.2.2.2.2.2.1 rfl (lv_at hl 0 rfl) ?_
  refine lv_iconst (v := 3) hx hb eL_law_1754.2.2.2.2.2.2.1 (by decide) ?_
  refine lv_iadd hx hb eL_law_1754.2.2.2.2.2.2.2.1 ?_
  refine va_sld hx hb hX hbl hbA hI.S (lw_in (j := 3) (by decide) (by omega) hL) eL_law_1762.1 ?_
  have h3 := (q_bd hI hmo (rfl : q_bn 12 24 = (0, 3))).2
  refine q_ci (q_runV (As := [.int (xs (nI i + 1).toNatClampNeg), .int (xs (nI i + 2).toNatClampNeg), .int (xs (nI i + 3).toNatClampNeg)]) (rest := []) E (hml.trans hl.1.symm) hI (c_X12_left l X σ1 mo ((xs (nI i + 1).toNatClampNeg)) ((xs (nI i + 2).toNatClampNeg)) ((xs (nI i + 3).toNatClampNeg)) n hmo hM.1.1 hM.1.2 hn) kl_234 hmo ⟨rfl, by decide⟩ (show vwCl[11]? = some (RX12, TX12, 46) from rfl) rfl ⟨Nat.le_of_ble_eq_true rfl, Nat.le_of_ble_eq_true rfl⟩ hcs rfl (Nat.le_of_ble_eq_true rfl) eL_law_1762.2.1) hI (by decide) (fun r2 σ2 H locs hp hk hI => ?_)
  obtain ⟨pq0, pq1, hex2, how2⟩ := hp
  have hp := And.intro pq0 pq1
  have hB := lw_BK how2 hI.1 hxo hmo rfl rfl (how2.1 xo 5 (by rw [hxo]; rfl)) hB
  have hO := lw_Aob hal (al_tries hal hA1 hMc (by omega) ((xs (nI i + 1).toNatClampNeg)) ((xs (nI i + 2).toNatClampNeg)) ((xs (nI i + 3).toNatClampNeg))).2 hex1 hex2 how2 rfl
  have hA := hO.2
  have hE := lw_EK hk (by decide) hxo hmo hE
  have hM := lw_up (lw_kC (hk mo 24 (by rw [hmo]; decide)) hp.2 hM) (q_bd hI hmo (rfl : q_bn 12 24 = (0, 3))).2
  have hpp2 := hp
  clear hp hk
  clear h3
  refine lv_pop hx hb eL_law_1762.2.2.1 rfl ?_
  refine lv_goto (tgt := 1796) hx hb eL_law_1762.2.2.2.1 (by decide) ?_
  exact kk _ _ _ hI hM hE hB hA

set_option maxRecDepth 100000 in
set_option maxHeartbeats 4000000 in
theorem lw_c52 {p : Program} {l : Launch} {e : Env} {s : State} {m : MethodId} {below : List Frame} {meth : Method} {c : Code} {b L : Nat} {xs : Nat → Int32} {X : XW} {xo mo : Nat} {σ0 : ST} {cells slots : Nat} {Q : State → Prop} {lb : Nat → Nat} (hcl : tb_Cls X lb xo mo) (hal : al_C X lb xo mo) (E : q_E p c cL_law s m #[Value.ref b] RL X) (hX : va_X b L xs s s.heap) (hbl : b < s.heap.size) (hbA : ¬ q_reg X b) (hml : c.maxLocals = 4) (hxo : q_kd X xo = 11) (hmo : q_kd X mo = 12) (hcs : cells ≤ room_1.cells ∧ slots ≤ room_1.slots) (hL : L ≤ 3072) {i : Nat} (hi : i + 6 ≤ L) {n : Int} (hn : 0 ≤ n ∧ n ≤ 199000) {σ : ST} {H : Heap} {locs : List Loc} {ls : Array Slot} (hI : q_I X 0 σ0 s.heap locs σ H) (hM : m_M (m_c X σ mo) (σ.1 mo 24).toInt n) (hl : lv_has ls 4 [(3, .int (nI i)), (2, .ref mo), (1, .ref xo), (0, .ref b)]) (hE : lw_E xo mo σ) (hB : lw_B X xo mo σ) (hA : al_R X xo mo σ σ)
    (kk : ∀ (σ : ST) (H : Heap) (locs : List Loc), q_I X 0 σ0 s.heap locs σ H → m_M (m_c X σ mo) (σ.1 mo 24).toInt (n + 301) → lw_E xo mo σ → lw_B X xo mo σ → al_R X xo mo σ σ → W p l e room_1 s m #[Value.ref b] below meth c H locs cells slots Q (F0 m 1796 ls [])) : W p l e room_1 s m #[Value.ref b] below meth c H locs cells slots Q (F0 m 1770 ls []) := by
  have hx := E.1
  have hb := E.2.1
  have hI0 := hI
  have hE0 := hE
  have hB0 := hB
  have hA0 := hA
  have hM0 := hM
  refine lv_aload_n hx hb eL_law_1762.2.2.2.2.1 rfl (lv_at hl 2 rfl) ?_
  have h3 := (q_bd hI hmo (rfl : q_bn 12 24 = (0, 3))).2
  refine q_ci (q_runV (As := []) (rest := []) E (hml.trans hl.1.symm) hI (c_X11_mark l X σ xo hxo) kl_235 hxo ⟨rfl, by decide⟩ (show vwCl[10]? = some (RX11, TX11, 17) from rfl) rfl ⟨Nat.le_of_ble_eq_true rfl, Nat.le_of_ble_eq_true rfl⟩ hcs rfl (Nat.le_of_ble_eq_true rfl) eL_law_1762.2.2.2.2.2.1) hI (by decide) (fun r1 σ1 H locs hp hk hI => ?_)
  obtain ⟨pq0, pq1, pq2, hex1, how1⟩ := hp
  have hp := And.intro pq0 (And.intro pq1 pq2)
  have hB := lw_BK how1 hI.1 hxo hmo rfl rfl (how1.1 xo 5 (by rw [hxo]; rfl)) hB
  have hA1 := hA0.pre hal how1 rfl
  have hM := lw_kS hp.1 hI.1 hmo (fun j z => m_ne (q_c34 hI.1 hmo) hxo (by decide) z.1) (fun z => m_ne hmo hxo (by decide) z.1) hM
  have hpp1 := hp
  have hMc := hM
  clear hp hk
  clear h3
  refine lv_pop hx hb eL_law_1762.2.2.2.2.2.2.1 rfl ?_
  refine lv_aload_n hx hb eL_law_1762.2.2.2.2.2.2.2.1 rfl (lv_at hl 1 rfl) ?_
  have h3 := (q_bd hI hmo (rfl : q_bn 12 24 = (0, 3))).2
  refine q_ci (q_runV (As := []) (rest := []) E (hml.trans hl.1.symm) hI (c_X12_mark l X σ1 mo n hmo hM) kl_238 hmo ⟨rfl, by decide⟩ (show vwCl[11]? = some (RX12, TX12, 46) from rfl) rfl ⟨Nat.le_of_ble_eq_true rfl, Nat.le_of_ble_eq_true rfl⟩ hcs rfl (Nat.le_of_ble_eq_true rfl) eL_law_1776.1) hI (by decide) (fun r2 σ2 H locs hp hk hI => ?_)
  obtain ⟨pq0, pq1, pq2, pq3, hex2, how2⟩ := hp
  have hp := And.intro pq0 (And.intro pq1 (And.intro pq2 pq3))
  have hB := lw_BK how2 hI.1 hxo hmo rfl rfl (how2.1 xo 5 (by rw [hxo]; rfl)) hB
  have hO := lw_Aob hal (ob_mark hal hA1 hMc) hex1 hex2 how2 rfl
  have hA := hO.2
  have hF := lw_Emark hxo hmo (q_bd hI0 hxo (rfl : q_bn 11 11 = (0, 3))) hE hpp1.1 hpp1.2.1 hpp1.2.2 hp.1 hp.2.2.1 hp.2.2.2
  have hE := hF.1
  have hM := m_M.up hp.2.1 hp.2.1.1.1 (m_W.le hp.2.1.1.2 (show n ≤ n + 301 by omega)) (fun _ _ _ => rfl) (q_bd hI hmo (rfl : q_bn 12 24 = (0, 3))).2 (Int.le_refl _) (show n ≤ n + 301 by omega)
  have hpp2 := hp
  clear hp hk
  clear h3
  refine lv_pop hx hb eL_law_1776.2.1 rfl ?_
  refine lv_goto (tgt := 1796) hx hb eL_law_1776.2.2.1 (by decide) ?_
  exact kk _ _ _ hI hM hE hB hA

set_option maxRecDepth 100000 in
set_option maxHeartbeats 4000000 in
theorem lw_c53 {p : Program} {l : Launch} {e : Env} {s : State} {m : MethodId} {below : List Frame} {meth : Method} {c : Code} {b L : Nat} {xs : Nat → Int32} {X : XW} {xo mo : Nat} {σ0 : ST} {cells slots : Nat} {Q : State → Prop} {lb : Nat → Nat} (hcl : tb_Cls X lb xo mo) (hal : al_C X lb xo mo) (E : q_E p c cL_law s m #[Value.ref b] RL X) (hX : va_X b L xs s s.heap) (hbl : b < s.heap.size) (hbA : ¬ q_reg X b) (hml : c.maxLocals = 4) (hxo : q_kd X xo = 11) (hmo : q_kd X mo = 12) (hcs : cells ≤ room_1.cells ∧ slots ≤ room_1.slots) (hL : L ≤ 3072) {i : Nat} (hi : i + 6 ≤ L) {n : Int} (hn : 0 ≤ n ∧ n ≤ 199000) {σ : ST} {H : Heap} {locs : List Loc} {ls : Array Slot} (hI : q_I X 0 σ0 s.heap locs σ H) (hM : m_M (m_c X σ mo) (σ.1 mo 24).toInt n) (hl : lv_has ls 4 [(3, .int (nI i)), (2, .ref mo), (1, .ref xo), (0, .ref b)]) (hE : lw_E xo mo σ) (hB : lw_B X xo mo σ) (hA : al_R X xo mo σ σ)
    (kk : ∀ (σ : ST) (H : Heap) (locs : List Loc), q_I X 0 σ0 s.heap locs σ H → m_M (m_c X σ mo) (σ.1 mo 24).toInt (n + 301) → lw_E xo mo σ → lw_B X xo mo σ → al_R X xo mo σ σ → W p l e room_1 s m #[Value.ref b] below meth c H locs cells slots Q (F0 m 1796 ls [])) : W p l e room_1 s m #[Value.ref b] below meth c H locs cells slots Q (F0 m 1783 ls []) := by
  have hx := E.1
  have hb := E.2.1
  have hI0 := hI
  have hE0 := hE
  have hB0 := hB
  have hA0 := hA
  have hM0 := hM
  refine lv_aload_n hx hb eL_law_1776.2.2.2.1 rfl (lv_at hl 2 rfl) ?_
  have h3 := (q_bd hI hmo (rfl : q_bn 12 24 = (0, 3))).2
  refine q_ci (q_runV (As := []) (rest := []) E (hml.trans hl.1.symm) hI (c_X11_back l X σ xo hxo) kl_239 hxo ⟨rfl, by decide⟩ (show vwCl[10]? = some (RX11, TX11, 17) from rfl) rfl ⟨Nat.le_of_ble_eq_true rfl, Nat.le_of_ble_eq_true rfl⟩ hcs rfl (Nat.le_of_ble_eq_true rfl) eL_law_1776.2.2.2.2.1) hI (by decide) (fun r1 σ1 H locs hp hk hI => ?_)
  obtain ⟨pq0, pq1, pq2, hex1, how1⟩ := hp
  have hp := And.intro pq0 (And.intro pq1 pq2)
  have hB := lw_BK how1 hI.1 hxo hmo rfl rfl (how1.1 xo 5 (by rw [hxo]; rfl)) hB
  have hA1 := hA0.pre hal how1 rfl
  have hM := lw_kS hp.1 hI.1 hmo (fun j z => m_ne (q_c34 hI.1 hmo) hxo (by decide) z.1) (fun z => m_ne hmo hxo (by decide) z.1) hM
  have hpp1 := hp
  have hMc := hM
  clear hp hk
  clear h3
  refine lv_pop hx hb eL_law_1776.2.2.2.2.2.1 rfl ?_
  refine lv_aload_n hx hb eL_law_1776.2.2.2.2.2.2.1 rfl (lv_at hl 1 rfl) ?_
  have h3 := (q_bd hI hmo (rfl : q_bn 12 24 = (0, 3))).2
  refine q_ci (q_runV (As := []) (rest := []) E (hml.trans hl.1.symm) hI (c_X12_back l X σ1 mo n hmo hM) kl_242 hmo ⟨rfl, by decide⟩ (show vwCl[11]? = some (RX12, TX12, 46) from rfl) rfl ⟨Nat.le_of_ble_eq_true rfl, Nat.le_of_ble_eq_true rfl⟩ hcs rfl (Nat.le_of_ble_eq_true rfl) eL_law_1776.2.2.2.2.2.2.2.1) hI (by decide) (fun r2 σ2 H locs hp hk hI => ?_)
  obtain ⟨pq0, pq1, pq2, pq3, hex2, how2⟩ := hp
  have hp := And.intro pq0 (And.intro pq1 (And.intro pq2 pq3))
  have hB := lw_BK how2 hI.1 hxo hmo rfl rfl (how2.1 xo 5 (by rw [hxo]; rfl)) hB
  have hO := lw_Aob hal (ob_back hal hA1 hMc) hex1 hex2 how2 rfl
  have hA := hO.2
  have hF := lw_Eback hxo hmo (q_bd hI0 hxo (rfl : q_bn 11 11 = (0, 3))) hE hpp1.1 hpp1.2.1 hpp1.2.2 hp.1 hp.2.2.1 hp.2.2.2
  have hE := hF.1
  have hM := m_M.up hp.2.1 hp.2.1.1.1 (m_W.le hp.2.1.1.2 (show n ≤ n + 301 by omega)) (fun _ _ _ => rfl) (q_bd hI hmo (rfl : q_bn 12 24 = (0, 3))).2 (Int.le_refl _) (show n ≤ n + 301 by omega)
  have hpp2 := hp
  clear hp hk
  clear h3
  refine lv_pop hx hb eL_law_1792.1 rfl ?_
  refine lv_goto (tgt := 1796) hx hb eL_law_1792.2.1 (by decide) ?_
  exact kk _ _ _ hI hM hE hB hA
