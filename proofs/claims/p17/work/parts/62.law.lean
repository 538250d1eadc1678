set_option maxRecDepth 100000 in
set_option maxHeartbeats 4000000 in
theorem lw_c27 {p : Program} {l : Launch} {e : Env} {s : State} {m : MethodId} {below : List Frame} {meth : Method} {c : Code} {b L : Nat} {xs : Nat → Int32} {X : XW} {xo mo : Nat} {σ0 : ST} {cells slots : Nat} {Q : State → Prop} {lb : Nat → Nat} (hcl : tb_Cls X lb xo mo) (hal : al_C X lb xo mo) (E : q_E p c cL_law s m #[Value.ref b] RL X) (hX : va_X b L xs s s.heap) (hbl : b < s.heap.size) (hbA : ¬ q_reg X b) (hml : c.maxLocals = 4) (hxo : q_kd X xo = 11) (hmo : q_kd X mo = 12) (hcs : cells ≤ room_1.cells ∧ slots ≤ room_1.slots) (hL : L ≤ 3072) {i : Nat} (hi : i + 6 ≤ L) {n : Int} (hn : 0 ≤ n ∧ n ≤ 199000) {σ : ST} {H : Heap} {locs : List Loc} {ls : Array Slot} (hI : q_I X 0 σ0 s.heap locs σ H) (hM : m_M (m_c X σ mo) (σ.1 mo 24).toInt n) (hl : lv_has ls 4 [(3, .int (nI i)), (2, .ref mo), (1, .ref xo), (0, .ref b)]) (hE : lw_E xo mo σ) (hB : lw_B X xo mo σ) (hA : al_R X xo mo σ σ)
    (kk : ∀ (σ : ST) (H : Heap) (locs : List Loc), q_I X 0 σ0 s.heap locs σ H → m_M (m_c X σ mo) (σ.1 mo 24).toInt (n + 301) → lw_E xo mo σ → lw_B X xo mo σ → al_R X xo mo σ σ → W p l e room_1 s m #[Value.ref b] below meth c H locs cells slots Q (F0 m 1796 ls [])) : W p l e room_1 s m #[Value.ref b] below meth c H locs cells slots Q (F0 m 1125 ls []) := by
  have hx := E.1
  have hb := E.2.1
  have hI0 := hI
  have hE0 := hE
  have hB0 := hB
  have hA0 := hA
  have hM0 := hM
  refine lv_aload_n hx hb dL_law_1125 rfl (lv_at hl 2 rfl) ?_
  refine lv_aload_n hx hb dL_law_1126 rfl (lv_at hl 3 rfl) ?_
  refine lv_iload_n hx hb dL_law_1127 rfl (lv_at hl 0 rfl) ?_
  refine lv_iconst (v := 1) hx hb dL_law_1128 (by decide) ?_
  refine lv_iadd hx hb dL_law_1129 ?_
  refine va_sld hx hb hX hbl hbA hI.S (lw_in (j := 1) (by decide) (by omega) hL) dL_law_1130 ?_
  have h3 := (q_bd hI hmo (rfl : q_bn 12 24 = (0, 3))).2
  refine q_ci (q_runV (As := [.int (xs (nI i + 1).toNatClampNeg)]) (rest := []) E (hml.trans hl.1.symm) hI (c_X11_belief l X σ xo ((xs (nI i + 1).toNatClampNeg)) hxo) kl_134 hxo ⟨rfl, by decide⟩ (show vwCl[10]? = some (RX11, TX11, 17) from rfl) rfl ⟨Nat.le_of_ble_eq_true rfl, Nat.le_of_ble_eq_true rfl⟩ hcs rfl (Nat.le_of_ble_eq_true rfl) dL_law_1131) hI (by decide) (fun r1 σ1 H locs hp hk hI => ?_)
  obtain ⟨pq0, hex1, how1⟩ := hp
  have hp := pq0
  have hB := lw_BK how1 hI.1 hxo hmo rfl rfl (how1.1 xo 5 (by rw [hxo]; rfl)) hB
  have hA1 := hA0.pre hal how1 rfl
  have hA := (hA.post hal how1 rfl).pre hal how1 rfl
  have hE := lw_EK hk (by decide) hxo hmo hE
  have hM := lw_kM hk hI.1 hmo (by decide) hM
  have hpp1 := hp
  have hMc := hM
  clear hp hk
  clear h3
  refine lv_pop hx hb dL_law_1134 rfl ?_
  refine lv_aload_n hx hb dL_law_1135 rfl (lv_at hl 1 rfl) ?_
  refine lv_aload_n hx hb dL_law_1136 rfl (lv_at hl 3 rfl) ?_
  refine lv_iload_n hx hb dL_law_1137 rfl (lv_at hl 0 rfl) ?_
  refine lv_iconst (v := 1) hx hb dL_law_1138 (by decide) ?_
  refine lv_iadd hx hb dL_law_1139 ?_
  refine va_sld hx hb hX hbl hbA hI.S (lw_in (j := 1) (by decide) (by omega) hL) dL_law_1140 ?_
  have h3 := (q_bd hI hmo (rfl : q_bn 12 24 = (0, 3))).2
  refine q_ci (q_runV (As := [.int (xs (nI i + 1).toNatClampNeg)]) (rest := []) E (hml.trans hl.1.symm) hI (c_X12_belief l X σ1 mo ((xs (nI i + 1).toNatClampNeg)) n hmo hM.1.1 hM.1.2 (by omega)) kl_137 hmo ⟨rfl, by decide⟩ (show vwCl[11]? = some (RX12, TX12, 46) from rfl) rfl ⟨Nat.le_of_ble_eq_true rfl, Nat.le_of_ble_eq_true rfl⟩ hcs rfl (Nat.le_of_ble_eq_true rfl) dL_law_1141) hI (by decide) (fun r2 σ2 H locs hp hk hI => ?_)
  obtain ⟨pq0, hex2, how2⟩ := hp
  have hp := pq0
  have hB := lw_BK how2 hI.1 hxo hmo rfl rfl (how2.1 xo 5 (by rw [hxo]; rfl)) hB
  have hA := (hA.post hal how2 rfl).pre hal how2 rfl
  have hE := lw_EK hk (by decide) hxo hmo hE
  have hM := lw_up (lw_kM hk hI.1 hmo (by decide) hM) (q_bd hI hmo (rfl : q_bn 12 24 = (0, 3))).2
  have hpp2 := hp
  clear hp hk
  clear h3
  refine lv_pop hx hb dL_law_1144 rfl ?_
  refine lv_goto (tgt := 1796) hx hb dL_law_1145 (by decide) ?_
  exact kk _ _ _ hI hM hE hB hA

set_option maxRecDepth 100000 in
set_option maxHeartbeats 4000000 in
theorem lw_c28 {p : Program} {l : Launch} {e : Env} {s : State} {m : MethodId} {below : List Frame} {meth : Method} {c : Code} {b L : Nat} {xs : Nat → Int32} {X : XW} {xo mo : Nat} {σ0 : ST} {cells slots : Nat} {Q : State → Prop} {lb : Nat → Nat} (hcl : tb_Cls X lb xo mo) (hal : al_C X lb xo mo) (E : q_E p c cL_law s m #[Value.ref b] RL X) (hX : va_X b L xs s s.heap) (hbl : b < s.heap.size) (hbA : ¬ q_reg X b) (hml : c.maxLocals = 4) (hxo : q_kd X xo = 11) (hmo : q_kd X mo = 12) (hcs : cells ≤ room_1.cells ∧ slots ≤ room_1.slots) (hL : L ≤ 3072) {i : Nat} (hi : i + 6 ≤ L) {n : Int} (hn : 0 ≤ n ∧ n ≤ 199000) {σ : ST} {H : Heap} {locs : List Loc} {ls : Array Slot} (hI : q_I X 0 σ0 s.heap locs σ H) (hM : m_M (m_c X σ mo) (σ.1 mo 24).toInt n) (hl : lv_has ls 4 [(3, .int (nI i)), (2, .ref mo), (1, .ref xo), (0, .ref b)]) (hE : lw_E xo mo σ) (hB : lw_B X xo mo σ) (hA : al_R X xo mo σ σ)
    (kk : ∀ (σ : ST) (H : Heap) (locs : List Loc), q_I X 0 σ0 s.heap locs σ H → m_M (m_c X σ mo) (σ.1 mo 24).toInt (n + 301) → lw_E xo mo σ → lw_B X xo mo σ → al_R X xo mo σ σ → W p l e room_1 s m #[Value.ref b] below meth c H locs cells slots Q (F0 m 1796 ls [])) : W p l e room_1 s m #[Value.ref b] below meth c H locs cells slots Q (F0 m 1148 ls []) := by
  have hx := E.1
  have hb := E.2.1
  have hI0 := hI
  have hE0 := hE
  have hB0 := hB
  have hA0 := hA
  have hM0 := hM
  refine lv_aload_n hx hb dL_law_1148 rfl (lv_at hl 2 rfl) ?_
  refine lv_aload_n hx hb dL_law_1149 rfl (lv_at hl 3 rfl) ?_
  refine lv_iload_n hx hb dL_law_1150 rfl (lv_at hl 0 rfl) ?_
  refine lv_iconst (v := 1) hx hb dL_law_1151 (by decide) ?_
  refine lv_iadd hx hb dL_law_1152 ?_
  refine va_sld hx hb hX hbl hbA hI.S (lw_in (j := 1) (by decide) (by omega) hL) dL_law_1153 ?_
  have h3 := (q_bd hI hmo (rfl : q_bn 12 24 = (0, 3))).2
  refine q_ci (q_runV (As := [.int (xs (nI i + 1).toNatClampNeg)]) (rest := []) E (hml.trans hl.1.symm) hI (c_X11_worth l X σ xo ((xs (nI i + 1).toNatClampNeg)) hxo) kl_138 hxo ⟨rfl, by decide⟩ (show vwCl[10]? = some (RX11, TX11, 17) from rfl) rfl ⟨Nat.le_of_ble_eq_true rfl, Nat.le_of_ble_eq_true rfl⟩ hcs rfl (Nat.le_of_ble_eq_true rfl) dL_law_1154) hI (by decide) (fun r1 σ1 H locs hp hk hI => ?_)
  obtain ⟨pq0, hex1, how1⟩ := hp
  have hp := pq0
  have hB := lw_BK how1 hI.1 hxo hmo rfl rfl (how1.1 xo 5 (by rw [hxo]; rfl)) hB
  have hA1 := hA0.pre hal how1 rfl
  have hA := (hA.post hal how1 rfl).pre hal how1 rfl
  have hE := lw_EK hk (by decide) hxo hmo hE
  have hM := lw_kM hk hI.1 hmo (by decide) hM
  have hpp1 := hp
  have hMc := hM
  clear hp hk
  clear h3
  refine lv_pop hx hb dL_law_1157 rfl ?_
  refine lv_aload_n hx hb dL_law_1158 rfl (lv_at hl 1 rfl) ?_
  refine lv_aload_n hx hb dL_law_1159 rfl (lv_at hl 3 rfl) ?_
  refine lv_iload_n hx hb dL_law_1160 rfl (lv_at hl 0 rfl) ?_
  refine lv_iconst (v := 1) hx hb dL_law_1161 (by decide) ?_
  refine lv_iadd hx hb dL_law_1162 ?_
  refine va_sld hx hb hX hbl hbA hI.S (lw_in (j := 1) (by decide) (by omega) hL) dL_law_1163 ?_
  have h3 := (q_bd hI hmo (rfl : q_bn 12 24 = (0, 3))).2
  refine q_ci (q_runV (As := [.int (xs (nI i + 1).toNatClampNeg)]) (rest := []) E (hml.trans hl.1.symm) hI (c_X12_worth l X σ1 mo ((xs (nI i + 1).toNatClampNeg)) hmo hM.1.1) kl_141 hmo ⟨rfl, by decide⟩ (show vwCl[11]? = some (RX12, TX12, 46) from rfl) rfl ⟨Nat.le_of_ble_eq_true rfl, Nat.le_of_ble_eq_true rfl⟩ hcs rfl (Nat.le_of_ble_eq_true rfl) dL_law_1164) hI (by decide) (fun r2 σ2 H locs hp hk hI => ?_)
  obtain ⟨pq0, hex2, how2⟩ := hp
  have hp := pq0
  have hB := lw_BK how2 hI.1 hxo hmo rfl rfl (how2.1 xo 5 (by rw [hxo]; rfl)) hB
  have hA := (hA.post hal how2 rfl).pre hal how2 rfl
  have hE := lw_EK hk (by decide) hxo hmo hE
  have hM := lw_up (lw_kM hk hI.1 hmo (by decide) hM) (q_bd hI hmo (rfl : q_bn 12 24 = (0, 3))).2
  have hpp2 := hp
  clear hp hk
  clear h3
  refine lv_pop hx hb dL_law_1167 rfl ?_
  refine lv_goto (tgt := 1796) hx hb dL_law_1168 (by decide) ?_
  exact kk _ _ _ hI hM hE hB hA

set_option maxRecDepth 100000 in
set_option maxHeartbeats 4000000 in
theorem lw_c29 {p : Program} {l : Launch} {e : Env} {s : State} {m : MethodId} {below : List Frame} {meth : Method} {c : Code} {b L : Nat} {xs : Nat → Int32} {X : XW} {xo mo : Nat} {σ0 : ST} {cells slots : Nat} {Q : State → Prop} {lb : Nat → Nat} (hcl : tb_Cls X lb xo mo) (hal : al_C X lb xo mo) (E : q_E p c cL_law s m #[Value.ref b] RL X) (hX : va_X b L xs s s.heap) (hbl : b < s.heap.size) (hbA : ¬ q_reg X b) (hml : c.maxLocals = 4) (hxo : q_kd X xo = 11) (hmo : q_kd X mo = 12) (hcs : cells ≤ room_1.cells ∧ slots ≤ room_1.slots) (hL : L ≤ 3072) {i : Nat} (hi : i + 6 ≤ L) {n : Int} (hn : 0 ≤ n ∧ n ≤ 199000) {σ : ST} {H : Heap} {locs : List Loc} {ls : Array Slot} (hI : q_I X 0 σ0 s.heap locs σ H) (hM : m_M (m_c X σ mo) (σ.1 mo 24).toInt n) (hl : lv_has ls 4 [(3, .int (nI i)), (2, .ref mo), (1, .ref xo), (0, .ref b)]) (hE : lw_E xo mo σ) (hB : lw_B X xo mo σ) (hA : al_R X xo mo σ σ)
    (kk : ∀ (σ : ST) (H : Heap) (locs : List Loc), q_I X 0 σ0 s.heap locs σ H → m_M (m_c X σ mo) (σ.1 mo 24).toInt (n + 301) → lw_E xo mo σ → lw_B X xo mo σ → al_R X xo mo σ σ → W p l e room_1 s m #[Value.ref b] below meth c H locs cells slots Q (F0 m 1796 ls [])) : W p l e room_1 s m #[Value.ref b] below meth c H locs cells slots Q (F0 m 1171 ls []) := by
  have hx := E.1
  have hb := E.2.1
  have hI0 := hI
  have hE0 := hE
  have hB0 := hB
  have hA0 := hA
  have hM0 := hM
  refine lv_aload_n hx hb dL_law_1171 rfl (lv_at hl 2 rfl) ?_
  have h3 := (q_bd hI hmo (rfl : q_bn 12 24 = (0, 3))).2
  refine q_ci (q_runV (As := []) (rest := []) E (hml.trans hl.1.symm) hI (c_X11_ready l X σ xo hxo) kl_142 hxo ⟨rfl, by decide⟩ (show vwCl[10]? = some (RX11, TX11, 17) from rfl) rfl ⟨Nat.le_of_ble_eq_true rfl, Nat.le_of_ble_eq_true rfl⟩ hcs rfl (Nat.le_of_ble_eq_true rfl) dL_law_1172) hI (by decide) (fun r1 σ1 H locs hp hk hI => ?_)
  obtain ⟨hex1, how1⟩ := hp
  have hp := True.intro
  have hB := lw_BK how1 hI.1 hxo hmo rfl rfl (how1.1 xo 5 (by rw [hxo]; rfl)) hB
  have hA1 := hA0.pre hal how1 rfl
  have hA := (hA.post hal how1 rfl).pre hal how1 rfl
  have hE := lw_EK hk (by decide) hxo hmo hE
  have hM := lw_kM hk hI.1 hmo (by decide) hM
  have hpp1 := hp
  have hMc := hM
  clear hp hk
  clear h3
  refine lv_pop hx hb dL_law_1175 rfl ?_
  refine lv_aload_n hx hb dL_law_1176 rfl (lv_at hl 1 rfl) ?_
  have h3 := (q_bd hI hmo (rfl : q_bn 12 24 = (0, 3))).2
  refine q_ci (q_runV (As := []) (rest := []) E (hml.trans hl.1.symm) hI (c_X12_ready l X σ1 mo hmo hM.1.1) kl_145 hmo ⟨rfl, by decide⟩ (show vwCl[11]? = some (RX12, TX12, 46) from rfl) rfl ⟨Nat.le_of_ble_eq_true rfl, Nat.le_of_ble_eq_true rfl⟩ hcs rfl (Nat.le_of_ble_eq_true rfl) dL_law_1177) hI (by decide) (fun r2 σ2 H locs hp hk hI => ?_)
  obtain ⟨hex2, how2⟩ := hp
  have hp := True.intro
  have hB := lw_BK how2 hI.1 hxo hmo rfl rfl (how2.1 xo 5 (by rw [hxo]; rfl)) hB
  have hA := (hA.post hal how2 rfl).pre hal how2 rfl
  have hE := lw_EK hk (by decide) hxo hmo hE
  have hM := lw_up (lw_kM hk hI.1 hmo (by decide) hM) (q_bd hI hmo (rfl : q_bn 12 24 = (0, 3))).2
  have hpp2 := hp
  clear hp hk
  clear h3
  refine lv_pop hx hb dL_law_1180 rfl ?_
  refine lv_goto (tgt := 1796) hx hb dL_law_1181 (by decide) ?_
  exact kk _ _ _ hI hM hE hB hA

set_option maxRecDepth 100000 in
set_option maxHeartbeats 4000000 in
theorem lw_c30 {p : Program} {l : Launch} {e : Env} {s : State} {m : MethodId} {below : List Frame} {meth : Method} {c : Code} {b L : Nat} {xs : Nat → Int32} {X : XW} {xo mo : Nat} {σ0 : ST} {cells slots : Nat} {Q : State → Prop} {lb : Nat → Nat} (hcl : tb_Cls X lb xo mo) (hal : al_C X lb xo mo) (E : q_E p c cL_law s m #[Value.ref b] RL X) (hX : va_X b L xs s s.heap) (hbl : b < s.heap.size) (hbA : ¬ q_reg X b) (hml : c.maxLocals = 4) (hxo : q_kd X xo = 11) (hmo : q_kd X mo = 12) (hcs : cells ≤ room_1.cells ∧ slots ≤ room_1.slots) (hL : L ≤ 3072) {i : Nat} (hi : i + 6 ≤ L) {n : Int} (hn : 0 ≤ n ∧ n ≤ 199000) {σ : ST} {H : Heap} {locs : List Loc} {ls : Array Slot} (hI : q_I X 0 σ0 s.heap locs σ H) (hM : m_M (m_c X σ mo) (σ.1 mo 24).toInt n) (hl : lv_has ls 4 [(3, .int (nI i)), (2, .ref mo), (1, .ref xo), (0, .ref b)]) (hE : lw_E xo mo σ) (hB : lw_B X xo mo σ) (hA : al_R X xo mo σ σ)
    (kk : ∀ (σ : ST) (H : Heap) (locs : List Loc), q_I X 0 σ0 s.heap locs σ H → m_M (m_c X σ mo) (σ.1 mo 24).toInt (n + 301) → lw_E xo mo σ → lw_B X xo mo σ → al_R X xo mo σ σ → W p l e room_1 s m #[Value.ref b] below meth c H locs cells slots Q (F0 m 1796 ls [])) : W p l e room_1 s m #[Value.ref b] below meth c H locs cells slots Q (F0 m 1184 ls []) := by
  have hx := E.1
  have hb := E.2.1
  have hI0 := hI
  have hE0 := hE
  have hB0 := hB
  have hA0 := hA
  have hM0 := hM
  refine lv_aload_n hx hb dL_law_1184 rfl (lv_at hl 2 rfl) ?_
  refine lv_aload_n hx hb dL_law_1185 rfl (lv_at hl 3 rfl) ?_
  refine lv_iload_n hx hb dL_law_1186 rfl (lv_at hl 0 rfl) ?_
  refine lv_iconst (v := 1) hx hb dL_law_1187 (by decide) ?_
  refine lv_iadd hx hb dL_law_1188 ?_
  refine va_sld hx hb hX hbl hbA hI.S (lw_in (j := 1) (by decide) (by omega) hL) dL_law_1189 ?_
  refine lv_aload_n hx hb dL_law_1190 rfl (lv_at hl 3 rfl) ?_
  refine lv_iload_n hx hb dL_law_1191 rfl (lv_at hl 0 rfl) ?_
  refine lv_iconst (v := 2) hx hb dL_law_1192 (by decide) ?_
  refine lv_iadd hx hb dL_law_1193 ?_
  refine va_sld hx hb hX hbl hbA hI.S (lw_in (j := 2) (by decide) (by omega) hL) dL_law_1194 ?_
  have h3 := (q_bd hI hmo (rfl : q_bn 12 24 = (0, 3))).2
  refine q_ci (q_runV (As := [.int (xs (nI i + 1).toNatClampNeg), .int (xs (nI i + 2).toNatClampNeg)]) (rest := []) E (hml.trans hl.1.symm) hI (c_X11_heap l X σ xo ((xs (nI i + 1).toNatClampNeg)) ((xs (nI i + 2).toNatClampNeg)) hxo) kl_146 hxo ⟨rfl, by decide⟩ (show vwCl[10]? = some (RX11, TX11, 17) from rfl) rfl ⟨Nat.le_of_ble_eq_true rfl, Nat.le_of_ble_eq_true rfl⟩ hcs rfl (Nat.le_of_ble_eq_true rfl) dL_law_1195) hI (by decide) (fun r1 σ1 H locs hp hk hI => ?_)
  obtain ⟨pq0, hex1, how1⟩ := hp
  have hp := pq0
  have hB := lw_BK how1 hI.1 hxo hmo rfl rfl (how1.1 xo 5 (by rw [hxo]; rfl)) hB
  have hA1 := hA0.pre hal how1 rfl
  have hA := (hA.post hal how1 rfl).pre hal how1 rfl
  have hE := lw_EK hk (by decide) hxo hmo hE
  have hM := lw_kM hk hI.1 hmo (by decide) hM
  have hpp1 := hp
  have hMc := hM
  clear hp hk
  clear h3
  refine lv_pop hx hb dL_law_1198 rfl ?_
  refine lv_aload_n hx hb dL_law_1199 rfl (lv_at hl 1 rfl) ?_
  refine lv_aload_n hx hb dL_law_1200 rfl (lv_at hl 3 rfl) ?_
  refine lv_iload_n hx hb dL_law_1201 rfl (lv_at hl 0 rfl) ?_
  refine lv_iconst (v := 1) hx hb dL_law_1202 (by decide) ?_
  refine lv_iadd hx hb dL_law_1203 ?_
  refine va_sld hx hb hX hbl hbA hI.S (lw_in (j := 1) (by decide) (by omega) hL) dL_law_1204 ?_
  refine lv_aload_n hx hb dL_law_1205 rfl (lv_at hl 3 rfl) ?_
  refine lv_iload_n hx hb dL_law_1206 rfl (lv_at hl 0 rfl) ?_
  refine lv_iconst (v := 2) hx hb dL_law_1207 (by decide) ?_
  refine lv_iadd hx hb dL_law_1208 ?_
  refine va_sld hx hb hX hbl hbA hI.S (lw_in (j := 2) (by decide) (by omega) hL) dL_law_1209 ?_
  have h3 := (q_bd hI hmo (rfl : q_bn 12 24 = (0, 3))).2
  refine q_ci (q_runV (As := [.int (xs (nI i + 1).toNatClampNeg), .int (xs (nI i + 2).toNatClampNeg)]) (rest := []) E (hml.trans hl.1.symm) hI (c_X12_heap l X σ1 mo ((xs (nI i + 1).toNatClampNeg)) ((xs (nI i + 2).toNatClampNeg)) hmo hM.1.1) kl_150 hmo ⟨rfl, by decide⟩ (show vwCl[11]? = some (RX12, TX12, 46) from rfl) rfl ⟨Nat.le_of_ble_eq_true rfl, Nat.le_of_ble_eq_true rfl⟩ hcs rfl (Nat.le_of_ble_eq_true rfl) dL_law_1210) hI (by decide) (fun r2 σ2 H locs hp hk hI => ?_)
  obtain ⟨pq0, hex2, how2⟩ := hp
  have hp := pq0
  have hB := lw_BK how2 hI.1 hxo hmo rfl rfl (how2.1 xo 5 (by rw [hxo]; rfl)) hB
  have hA := (hA.post hal how2 rfl).pre hal how2 rfl
  have hE := lw_EK hk (by decide) hxo hmo hE
  have hM := lw_up (lw_kM hk hI.1 hmo (by decide) hM) (q_bd hI hmo (rfl : q_bn 12 24 = (0, 3))).2
  have hpp2 := hp
  clear hp hk
  clear h3
  refine lv_pop hx hb dL_law_1213 rfl ?_
  refine lv_goto (tgt := 1796) hx hb dL_law_1214 (by decide) ?_
  exact kk _ _ _ hI hM hE hB hA

set_option maxRecDepth 100000 in
set_option maxHeartbeats 4000000 in
theorem lw_c31 {p : Program} {l : Launch} {e : Env} {s : State} {m : MethodId} {below : List Frame} {meth : Method} {c : Code} {b L : Nat} {xs : Nat → Int32} {X : XW} {xo mo : Nat} {σ0 : ST} {cells slots : Nat} {Q : State → Prop} {lb : Nat → Nat} (hcl : tb_Cls X lb xo mo) (hal : al_C X lb xo mo) (E : q_E p c cL_law s m #[Value.ref b] RL X) (hX : va_X b L xs s s.heap) (hbl : b < s.heap.size) (hbA : ¬ q_reg X b) (hml : c.maxLocals = 4) (hxo : q_kd X xo = 11) (hmo : q_kd X mo = 12) (hcs : cells ≤ room_1.cells ∧ slots ≤ room_1.slots) (hL : L ≤ 3072) {i : Nat} (hi : i + 6 ≤ L) {n : Int} (hn : 0 ≤ n ∧ n ≤ 199000) {σ : ST} {H : Heap} {locs : List Loc} {ls : Array Slot} (hI : q_I X 0 σ0 s.heap locs σ H) (hM : m_M (m_c X σ mo) (σ.1 mo 24).toInt n) (hl : lv_has ls 4 [(3, .int (nI i)), (2, .ref mo), (1, .ref xo), (0, .ref b)]) (hE : lw_E xo mo σ) (hB : lw_B X xo mo σ) (hA : al_R X xo mo σ σ)
    (kk : ∀ (σ : ST) (H : Heap) (locs : List Loc), q_I X 0 σ0 s.heap locs σ H → m_M (m_c X σ mo) (σ.1 mo 24).toInt (n + 301) → lw_E xo mo σ → lw_B X xo mo σ → al_R X xo mo σ σ → W p l e room_1 s m #[Value.ref b] below meth c H locs cells slots Q (F0 m 1796 ls [])) : W p l e room_1 s m #[Value.ref b] below meth c H locs cells slots Q (F0 m 1217 ls []) := by
  have hx := E.1
  have hb := E.2.1
  have hI0 := hI
  have hE0 := hE
  have hB0 := hB
  have hA0 := hA
  have hM0 := hM
  refine lv_aload_n hx hb dL_law_1217 rfl (lv_at hl 2 rfl) ?_
  refine lv_aload_n hx hb dL_law_1218 rfl (lv_at hl 3 rfl) ?_
  refine lv_iload_n hx hb dL_law_1219 rfl (lv_at hl 0 rfl) ?_
  refine lv_iconst (v := 1) hx hb dL_law_1220 (by decide) ?_
  refine lv_iadd hx hb dL_law_1221 ?_
  refine va_sld hx hb hX hbl hbA hI.S (lw_in (j := 1) (by decide) (by omega) hL) dL_law_1222 ?_
  refine lv_aload_n hx hb dL_law_1223 rfl (lv_at hl 3 rfl) ?_
  refine lv_iload_n hx hb dL_law_1224 rfl (lv_at hl 0 rfl) ?_
  refine lv_iconst (v := 2) hx hb dL_law_1225 (by decide) ?_
  refine lv_iadd hx hb dL_law_1226 ?_
  refine va_sld hx hb hX hbl hbA hI.S (lw_in (j := 2) (by decide) (by omega) hL) dL_law_1227 ?_
  have h3 := (q_bd hI hmo (rfl : q_bn 12 24 = (0, 3))).2
  refine q_ci (q_runV (As := [.int (xs (nI i + 1).toNatClampNeg), .int (xs (nI i + 2).toNatClampNeg)]) (rest := []) E (hml.trans hl.1.symm) hI (c_X11_said l X σ xo ((xs (nI i + 1).toNatClampNeg)) ((xs (nI i + 2).toNatClampNeg)) hxo) kl_151 hxo ⟨rfl, by decide⟩ (show vwCl[10]? = some (RX11, TX11, 17) from rfl) rfl ⟨Nat.le_of_ble_eq_true rfl, Nat.le_of_ble_eq_true rfl⟩ hcs rfl (Nat.le_of_ble_eq_true rfl) dL_law_1228) hI (by decide) (fun r1 σ1 H locs hp hk hI => ?_)
  obtain ⟨hex1, how1⟩ := hp
  have hp := True.intro
  have hB := lw_BK how1 hI.1 hxo hmo rfl rfl (how1.1 xo 5 (by rw [hxo]; rfl)) hB
  have hA1 := hA0.pre hal how1 rfl
  have hA := (hA.post hal how1 rfl).pre hal how1 rfl
  have hE := lw_EK hk (by decide) hxo hmo hE
  have hM := lw_kM hk hI.1 hmo (by decide) hM
  have hpp1 := hp
  have hMc := hM
  clear hp hk
  clear h3
  refine lv_pop hx hb dL_law_1231 rfl ?_
  refine lv_aload_n hx hb dL_law_1232 rfl (lv_at hl 1 rfl) ?_
  refine lv_aload_n hx hb dL_law_1233 rfl (lv_at hl 3 rfl) ?_
  refine lv_iload_n hx hb dL_law_1234 rfl (lv_at hl 0 rfl) ?_
  refine lv_iconst (v := 1) hx hb dL_law_1235 (by decide) ?_
  refine lv_iadd hx hb dL_law_1236 ?_
  refine va_sld hx hb hX hbl hbA hI.S (lw_in (j := 1) (by decide) (by omega) hL) dL_law_1237 ?_
  refine lv_aload_n hx hb dL_law_1238 rfl (lv_at hl 3 rfl) ?_
  refine lv_iload_n hx hb dL_law_1239 rfl (lv_at hl 0 rfl) ?_
  refine lv_iconst (v := 2) hx hb dL_law_1240 (by decide) ?_
  refine lv_iadd hx hb dL_law_1241 ?_
  refine va_sld hx hb hX hbl hbA hI.S (lw_in (j := 2) (by decide) (by omega) hL) dL_law_1242 ?_
  have h3 := (q_bd hI hmo (rfl : q_bn 12 24 = (0, 3))).2
  refine q_ci (q_runV (As := [.int (xs (nI i + 1).toNatClampNeg), .int (xs (nI i + 2).toNatClampNeg)]) (rest := []) E (hml.trans hl.1.symm) hI (c_X12_said l X σ1 mo ((xs (nI i + 1).toNatClampNeg)) ((xs (nI i + 2).toNatClampNeg)) hmo hM.1.1) kl_154 hmo ⟨rfl, by decide⟩ (show vwCl[11]? = some (RX12, TX12, 46) from rfl) rfl ⟨Nat.le_of_ble_eq_true rfl, Nat.le_of_ble_eq_true rfl⟩ hcs rfl (Nat.le_of_ble_eq_true rfl) dL_law_1243) hI (by decide) (fun r2 σ2 H locs hp hk hI => ?_)
  obtain ⟨hex2, how2⟩ := hp
  have hp := True.intro
  have hB := lw_BK how2 hI.1 hxo hmo rfl rfl (how2.1 xo 5 (by rw [hxo]; rfl)) hB
  have hA := (hA.post hal how2 rfl).pre hal how2 rfl
  have hE := lw_EK hk (by decide) hxo hmo hE
  have hM := lw_up (lw_kM hk hI.1 hmo (by decide) hM) (q_bd hI hmo (rfl : q_bn 12 24 = (0, 3))).2
  have hpp2 := hp
  clear hp hk
  clear h3
  refine lv_pop hx hb dL_law_1246 rfl ?_
  refine lv_goto (tgt := 1796) hx hb dL_law_1247 (by decide) ?_
  exact kk _ _ _ hI hM hE hB hA

set_option maxRecDepth 100000 in
set_option maxHeartbeats 4000000 in
theorem lw_c32 {p : Program} {l : Launch} {e : Env} {s : State} {m : MethodId} {below : List Frame} {meth : Method} {c : Code} {b L : Nat} {xs : Nat → Int32} {X : XW} {xo mo : Nat} {σ0 : ST} {cells slots : Nat} {Q : State → Prop} {lb : Nat → Nat} (hcl : tb_Cls X lb xo mo) (hal : al_C X lb xo mo) (E : q_E p c cL_law s m #[Value.ref b] RL X) (hX : va_X b L xs s s.heap) (hbl : b < s.heap.size) (hbA : ¬ q_reg X b) (hml : c.maxLocals = 4) (hxo : q_kd X xo = 11) (hmo : q_kd X mo = 12) (hcs : cells ≤ room_1.cells ∧ slots ≤ room_1.slots) (hL : L ≤ 3072) {i : Nat} (hi : i + 6 ≤ L) {n : Int} (hn : 0 ≤ n ∧ n ≤ 199000) {σ : ST} {H : Heap} {locs : List Loc} {ls : Array Slot} (hI : q_I X 0 σ0 s.heap locs σ H) (hM : m_M (m_c X σ mo) (σ.1 mo 24).toInt n) (hl : lv_has ls 4 [(3, .int (nI i)), (2, .ref mo), (1, .ref xo), (0, .ref b)]) (hE : lw_E xo mo σ) (hB : lw_B X xo mo σ) (hA : al_R X xo mo σ σ)
    (kk : ∀ (σ : ST) (H : Heap) (locs : List Loc), q_I X 0 σ0 s.heap locs σ H → m_M (m_c X σ mo) (σ.1 mo 24).toInt (n + 301) → lw_E xo mo σ → lw_B X xo mo σ → al_R X xo mo σ σ → W p l e room_1 s m #[Value.ref b] below meth c H locs cells slots Q (F0 m 1796 ls [])) : W p l e room_1 s m #[Value.ref b] below meth c H locs cells slots Q (F0 m 1250 ls []) := by
  have hx := E.1
  have hb := E.2.1
  have hI0 := hI
  have hE0 := hE
  have hB0 := hB
  have hA0 := hA
  have hM0 := hM
  refine lv_aload_n hx hb dL_law_1250 rfl (lv_at hl 2 rfl) ?_
  refine lv_aload_n hx hb dL_law_1251 rfl (lv_at hl 3 rfl) ?_
  refine lv_iload_n hx hb dL_law_1252 rfl (lv_at hl 0 rfl) ?_
  refine lv_iconst (v := 1) hx hb dL_law_1253 (by decide) ?_
  refine lv_iadd hx hb dL_law_1254 ?_
  refine va_sld hx hb hX hbl hbA hI.S (lw_in (j := 1) (by decide) (by omega) hL) dL_law_1255 ?_
  have h3 := (q_bd hI hmo (rfl : q_bn 12 24 = (0, 3))).2
  refine q_ci (q_runV (As := [.int (xs (nI i + 1).toNatClampNeg)]) (rest := []) E (hml.trans hl.1.symm) hI (c_X11_waits l X σ xo ((xs (nI i + 1).toNatClampNeg)) hxo) kl_155 hxo ⟨rfl, by decide⟩ (show vwCl[10]? = some (RX11, TX11, 17) from rfl) rfl ⟨Nat.le_of_ble_eq_true rfl, Nat.le_of_ble_eq_true rfl⟩ hcs rfl (Nat.le_of_ble_eq_true rfl) dL_law_1256) hI (by decide) (fun r1 σ1 H locs hp hk hI => ?_)
  obtain ⟨hex1, how1⟩ := hp
  have hp := True.intro
  have hB := lw_BK how1 hI.1 hxo hmo rfl rfl (how1.1 xo 5 (by rw [hxo]; rfl)) hB
  have hA1 := hA0.pre hal how1 rfl
  have hA := (hA.post hal how1 rfl).pre hal how1 rfl
  have hE := lw_EK hk (by decide) hxo hmo hE
  have hM := lw_kM hk hI.1 hmo (by decide) hM
  have hpp1 := hp
  have hMc := hM
  clear hp hk
  clear h3
  refine lv_pop hx hb dL_law_1259 rfl ?_
  refine lv_aload_n hx hb dL_law_1260 rfl (lv_at hl 1 rfl) ?_
  refine lv_aload_n hx hb dL_law_1261 rfl (lv_at hl 3 rfl) ?_
  refine lv_iload_n hx hb dL_law_1262 rfl (lv_at hl 0 rfl) ?_
  refine lv_iconst (v := 1) hx hb dL_law_1263 (by decide) ?_
  refine lv_iadd hx hb dL_law_1264 ?_
  refine va_sld hx hb hX hbl hbA hI.S (lw_in (j := 1) (by decide) (by omega) hL) dL_law_1265 ?_
  have h3 := (q_bd hI hmo (rfl : q_bn 12 24 = (0, 3))).2
  refine q_ci (q_runV (As := [.int (xs (nI i + 1).toNatClampNeg)]) (rest := []) E (hml.trans hl.1.symm) hI (c_X12_waits l X σ1 mo ((xs (nI i + 1).toNatClampNeg)) hmo hM.1.1) kl_158 hmo ⟨rfl, by decide⟩ (show vwCl[11]? = some (RX12, TX12, 46) from rfl) rfl ⟨Nat.le_of_ble_eq_true rfl, Nat.le_of_ble_eq_true rfl⟩ hcs rfl (Nat.le_of_ble_eq_true rfl) dL_law_1266) hI (by decide) (fun r2 σ2 H locs hp hk hI => ?_)
  obtain ⟨hex2, how2⟩ := hp
  have hp := True.intro
  have hB := lw_BK how2 hI.1 hxo hmo rfl rfl (how2.1 xo 5 (by rw [hxo]; rfl)) hB
  have hA := (hA.post hal how2 rfl).pre hal how2 rfl
  have hE := lw_EK hk (by decide) hxo hmo hE
  have hM := lw_up (lw_kM hk hI.1 hmo (by decide) hM) (q_bd hI hmo (rfl : q_bn 12 24 = (0, 3))).2
  have hpp2 := hp
  clear hp hk
  clear h3
  refine lv_pop hx hb dL_law_1269 rfl ?_
  refine lv_goto (tgt := 1796) hx hb dL_law_1270 (by decide) ?_
  exact kk _ _ _ hI hM hE hB hA

set_option maxRecDepth 100000 in
set_option maxHeartbeats 4000000 in
theorem lw_c33 {p : Program} {l : Launch} {e : Env} {s : State} {m : MethodId} {below : List Frame} {meth : Method} {c : Code} {b L : Nat} {xs : Nat → Int32} {X : XW} {xo mo : Nat} {σ0 : ST} {cells slots : Nat} {Q : State → Prop} {lb : Nat → Nat} (hcl : tb_Cls X lb xo mo) (hal : al_C X lb xo mo) (E : q_E p c cL_law s m #[Value.ref b] RL X) (hX : va_X b L xs s s.heap) (hbl : b < s.heap.size) (hbA : ¬ q_reg X b) (hml : c.maxLocals = 4) (hxo : q_kd X xo = 11) (hmo : q_kd X mo = 12) (hcs : cells ≤ room_1.cells ∧ slots ≤ room_1.slots) (hL : L ≤ 3072) {i : Nat} (hi : i + 6 ≤ L) {n : Int} (hn : 0 ≤ n ∧ n ≤ 199000) {σ : ST} {H : Heap} {locs : List Loc} {ls : Array Slot} (hI : q_I X 0 σ0 s.heap locs σ H) (hM : m_M (m_c X σ mo) (σ.1 mo 24).toInt n) (hl : lv_has ls 4 [(3, .int (nI i)), (2, .ref mo), (1, .ref xo), (0, .ref b)]) (hE : lw_E xo mo σ) (hB : lw_B X xo mo σ) (hA : al_R X xo mo σ σ)
    (kk : ∀ (σ : ST) (H : Heap) (locs : List Loc), q_I X 0 σ0 s.heap locs σ H → m_M (m_c X σ mo) (σ.1 mo 24).toInt (n + 301) → lw_E xo mo σ → lw_B X xo mo σ → al_R X xo mo σ σ → W p l e room_1 s m #[Value.ref b] below meth c H locs cells slots Q (F0 m 1796 ls [])) : W p l e room_1 s m #[Value.ref b] below meth c H locs cells slots Q (F0 m 1273 ls []) := by
  have hx := E.1
  have hb := E.2.1
  have hI0 := hI
  have hE0 := hE
  have hB0 := hB
  have hA0 := hA
  have hM0 := hM
  refine lv_aload_n hx hb dL_law_1273 rfl (lv_at hl 2 rfl) ?_
  refine lv_aload_n hx hb dL_law_1274 rfl (lv_at hl 3 rfl) ?_
  refine lv_iload_n hx hb dL_law_1275 rfl (lv_at hl 0 rfl) ?_
  refine lv_iconst (v := 1) hx hb dL_law_1276 (by decide) ?_
  refine lv_iadd hx hb dL_law_1277 ?_
  refine va_sld hx hb hX hbl hbA hI.S (lw_in (j := 1) (by decide) (by omega) hL) dL_law_1278 ?_
  refine lv_aload_n hx hb dL_law_1279 rfl (lv_at hl 3 rfl) ?_
  refine lv_iload_n hx hb dL_law_1280 rfl (lv_at hl 0 rfl) ?_
  refine lv_iconst (v := 2) hx hb dL_law_1281 (by decide) ?_
  refine lv_iadd hx hb dL_law_1282 ?_
  refine va_sld hx hb hX hbl hbA hI.S (lw_in (j := 2) (by decide) (by omega) hL) dL_law_1283 ?_
  have h3 := (q_bd hI hmo (rfl : q_bn 12 24 = (0, 3))).2
  refine q_ci (q_runV (As := [.int (xs (nI i + 1).toNatClampNeg), .int (xs (nI i + 2).toNatClampNeg)]) (rest := []) E (hml.trans hl.1.symm) hI (c_X11_falls l X σ xo ((xs (nI i + 1).toNatClampNeg)) ((xs (nI i + 2).toNatClampNeg)) hxo) kl_159 hxo ⟨rfl, by decide⟩ (show vwCl[10]? = some (RX11, TX11, 17) from rfl) rfl ⟨Nat.le_of_ble_eq_true rfl, Nat.le_of_ble_eq_true rfl⟩ hcs rfl (Nat.le_of_ble_eq_true rfl) dL_law_1284) hI (by decide) (fun r1 σ1 H locs hp hk hI => ?_)
  obtain ⟨hex1, how1⟩ := hp
  have hp := True.intro
  have hB := lw_BK how1 hI.1 hxo hmo rfl rfl (how1.1 xo 5 (by rw [hxo]; rfl)) hB
  have hA1 := hA0.pre hal how1 rfl
  have hA := (hA.post hal how1 rfl).pre hal how1 rfl
  have hE := lw_EK hk (by decide) hxo hmo hE
  have hM := lw_kM hk hI.1 hmo (by decide) hM
  have hpp1 := hp
  have hMc := hM
  clear hp hk
  clear h3
  refine lv_pop hx hb dL_law_1287 rfl ?_
  refine lv_aload_n hx hb dL_law_1288 rfl (lv_at hl 1 rfl) ?_
  refine lv_aload_n hx hb dL_law_1289 rfl (lv_at hl 3 rfl) ?_
  refine lv_iload_n hx hb dL_law_1290 rfl (lv_at hl 0 rfl) ?_
  refine lv_iconst (v := 1) hx hb dL_law_1291 (by decide) ?_
  refine lv_iadd hx hb dL_law_1292 ?_
  refine va_sld hx hb hX hbl hbA hI.S (lw_in (j := 1) (by decide) (by omega) hL) dL_law_1293 ?_
  refine lv_aload_n hx hb dL_law_1294 rfl (lv_at hl 3 rfl) ?_
  refine lv_iload_n hx hb dL_law_1295 rfl (lv_at hl 0 rfl) ?_
  refine lv_iconst (v := 2) hx hb dL_law_1296 (by decide) ?_
  refine lv_iadd hx hb dL_law_1297 ?_
  refine va_sld hx hb hX hbl hbA hI.S (lw_in (j := 2) (by decide) (by omega) hL) dL_law_1298 ?_
  have h3 := (q_bd hI hmo (rfl : q_bn 12 24 = (0, 3))).2
  refine q_ci (q_runV (As := [.int (xs (nI i + 1).toNatClampNeg), .int (xs (nI i + 2).toNatClampNeg)]) (rest := []) E (hml.trans hl.1.symm) hI (c_X12_falls l X σ1 mo ((xs (nI i + 1).toNatClampNeg)) ((xs (nI i + 2).toNatClampNeg)) hmo hM.1.1) kl_162 hmo ⟨rfl, by decide⟩ (show vwCl[11]? = some (RX12, TX12, 46) from rfl) rfl ⟨Nat.le_of_ble_eq_true rfl, Nat.le_of_ble_eq_true rfl⟩ hcs rfl (Nat.le_of_ble_eq_true rfl) dL_law_1299) hI (by decide) (fun r2 σ2 H locs hp hk hI => ?_)
  obtain ⟨hex2, how2⟩ := hp
  have hp := True.intro
  have hB := lw_BK how2 hI.1 hxo hmo rfl rfl (how2.1 xo 5 (by rw [hxo]; rfl)) hB
  have hA := (hA.post hal how2 rfl).pre hal how2 rfl
  have hE := lw_EK hk (by decide) hxo hmo hE
  have hM := lw_up (lw_kM hk hI.1 hmo (by decide) hM) (q_bd hI hmo (rfl : q_bn 12 24 = (0, 3))).2
  have hpp2 := hp
  clear hp hk
  clear h3
  refine lv_pop hx hb dL_law_1302 rfl ?_
  refine lv_goto (tgt := 1796) hx hb dL_law_1303 (by decide) ?_
  exact kk _ _ _ hI hM hE hB hA

set_option maxRecDepth 100000 in
set_option maxHeartbeats 4000000 in
theorem lw_c34 {p : Program} {l : Launch} {e : Env} {s : State} {m : MethodId} {below : List Frame} {meth : Method} {c : Code} {b L : Nat} {xs : Nat → Int32} {X : XW} {xo mo : Nat} {σ0 : ST} {cells slots : Nat} {Q : State → Prop} {lb : Nat → Nat} (hcl : tb_Cls X lb xo mo) (hal : al_C X lb xo mo) (E : q_E p c cL_law s m #[Value.ref b] RL X) (hX : va_X b L xs s s.heap) (hbl : b < s.heap.size) (hbA : ¬ q_reg X b) (hml : c.maxLocals = 4) (hxo : q_kd X xo = 11) (hmo : q_kd X mo = 12) (hcs : cells ≤ room_1.cells ∧ slots ≤ room_1.slots) (hL : L ≤ 3072) {i : Nat} (hi : i + 6 ≤ L) {n : Int} (hn : 0 ≤ n ∧ n ≤ 199000) {σ : ST} {H : Heap} {locs : List Loc} {ls : Array Slot} (hI : q_I X 0 σ0 s.heap locs σ H) (hM : m_M (m_c X σ mo) (σ.1 mo 24).toInt n) (hl : lv_has ls 4 [(3, .int (nI i)), (2, .ref mo), (1, .ref xo), (0, .ref b)]) (hE : lw_E xo mo σ) (hB : lw_B X xo mo σ) (hA : al_R X xo mo σ σ)
    (kk : ∀ (σ : ST) (H : Heap) (locs : List Loc), q_I X 0 σ0 s.heap locs σ H → m_M (m_c X σ mo) (σ.1 mo 24).toInt (n + 301) → lw_E xo mo σ → lw_B X xo mo σ → al_R X xo mo σ σ → W p l e room_1 s m #[Value.ref b] below meth c H locs cells slots Q (F0 m 1796 ls [])) : W p l e room_1 s m #[Value.ref b] below meth c H locs cells slots Q (F0 m 1306 ls []) := by
  have hx := E.1
  have hb := E.2.1
  have hI0 := hI
  have hE0 := hE
  have hB0 := hB
  have hA0 := hA
  have hM0 := hM
  refine lv_aload_n hx hb dL_law_1306 rfl (lv_at hl 2 rfl) ?_
  refine lv_aload_n hx hb dL_law_1307 rfl (lv_at hl 3 rfl) ?_
  refine lv_iload_n hx hb dL_law_1308 rfl (lv_at hl 0 rfl) ?_
  refine lv_iconst (v := 1) hx hb dL_law_1309 (by decide) ?_
  refine lv_iadd hx hb dL_law_1310 ?_
  refine va_sld hx hb hX hbl hbA hI.S (lw_in (j := 1) (by decide) (by omega) hL) dL_law_1311 ?_
  refine lv_aload_n hx hb dL_law_1312 rfl (lv_at hl 3 rfl) ?_
  refine lv_iload_n hx hb dL_law_1313 rfl (lv_at hl 0 rfl) ?_
  refine lv_iconst (v := 2) hx hb dL_law_1314 (by decide) ?_
  refine lv_iadd hx hb dL_law_1315 ?_
  refine va_sld hx hb hX hbl hbA hI.S (lw_in (j := 2) (by decide) (by omega) hL) dL_law_1316 ?_
  have h3 := (q_bd hI hmo (rfl : q_bn 12 24 = (0, 3))).2
  refine q_ci (q_runV (As := [.int (xs (nI i + 1).toNatClampNeg), .int (xs (nI i + 2).toNatClampNeg)]) (rest := []) E (hml.trans hl.1.symm) hI (c_X11_honestly l X σ xo ((xs (nI i + 1).toNatClampNeg)) ((xs (nI i + 2).toNatClampNeg)) hxo) kl_163 hxo ⟨rfl, by decide⟩ (show vwCl[10]? = some (RX11, TX11, 17) from rfl) rfl ⟨Nat.le_of_ble_eq_true rfl, Nat.le_of_ble_eq_true rfl⟩ hcs rfl (Nat.le_of_ble_eq_true rfl) dL_law_1317) hI (by decide) (fun r1 σ1 H locs hp hk hI => ?_)
  obtain ⟨hex1, how1⟩ := hp
  have hp := True.intro
  have hB := lw_BK how1 hI.1 hxo hmo rfl rfl (how1.1 xo 5 (by rw [hxo]; rfl)) hB
  have hA1 := hA0.pre hal how1 rfl
  have hA := (hA.fs hal hM0 (lw_fs hex1 (fs_honestly ((xs (nI i + 1).toNatClampNeg)) ((xs (nI i + 2).toNatClampNeg))))).pre hal how1 rfl
  have hE := lw_EK hk (by decide) hxo hmo hE
  have hM := lw_kM hk hI.1 hmo (by decide) hM
  have hpp1 := hp
  have hMc := hM
  clear hp hk
  clear h3
  refine lv_pop hx hb dL_law_1320 rfl ?_
  refine lv_aload_n hx hb dL_law_1321 rfl (lv_at hl 1 rfl) ?_
  refine lv_aload_n hx hb dL_law_1322 rfl (lv_at hl 3 rfl) ?_
  refine lv_iload_n hx hb dL_law_1323 rfl (lv_at hl 0 rfl) ?_
  refine lv_iconst (v := 1) hx hb dL_law_1324 (by decide) ?_
  refine lv_iadd hx hb dL_law_1325 ?_
  refine va_sld hx hb hX hbl hbA hI.S (lw_in (j := 1) (by decide) (by omega) hL) dL_law_1326 ?_
  refine lv_aload_n hx hb dL_law_1327 rfl (lv_at hl 3 rfl) ?_
  refine lv_iload_n hx hb dL_law_1328 rfl (lv_at hl 0 rfl) ?_
  refine lv_iconst (v := 2) hx hb dL_law_1329 (by decide) ?_
  refine lv_iadd hx hb dL_law_1330 ?_
  refine va_sld hx hb hX hbl hbA hI.S (lw_in (j := 2) (by decide) (by omega) hL) dL_law_1331 ?_
  have h3 := (q_bd hI hmo (rfl : q_bn 12 24 = (0, 3))).2
  refine q_ci (q_runV (As := [.int (xs (nI i + 1).toNatClampNeg), .int (xs (nI i + 2).toNatClampNeg)]) (rest := []) E (hml.trans hl.1.symm) hI (c_X12_honestly l X σ1 mo ((xs (nI i + 1).toNatClampNeg)) ((xs (nI i + 2).toNatClampNeg)) hmo hM.1.1) kl_166 hmo ⟨rfl, by decide⟩ (show vwCl[11]? = some (RX12, TX12, 46) from rfl) rfl ⟨Nat.le_of_ble_eq_true rfl, Nat.le_of_ble_eq_true rfl⟩ hcs rfl (Nat.le_of_ble_eq_true rfl) dL_law_1332) hI (by decide) (fun r2 σ2 H locs hp hk hI => ?_)
  obtain ⟨hex2, how2⟩ := hp
  have hp := True.intro
  have hB := lw_BK how2 hI.1 hxo hmo rfl rfl (how2.1 xo 5 (by rw [hxo]; rfl)) hB
  have hA := (hA.post hal how2 rfl).pre hal how2 rfl
  have hE := lw_EK hk (by decide) hxo hmo hE
  have hM := lw_up (lw_kM hk hI.1 hmo (by decide) hM) (q_bd hI hmo (rfl : q_bn 12 24 = (0, 3))).2
  have hpp2 := hp
  clear hp hk
  clear h3
  refine lv_pop hx hb dL_law_1335 rfl ?_
  refine lv_goto (tgt := 1796) hx hb dL_law_1336 (by decide) ?_
  exact kk _ _ _ hI hM hE hB hA

set_option maxRecDepth 100000 in
set_option maxHeartbeats 4000000 in
theorem lw_c35 {p : Program} {l : Launch} {e : Env} {s : State} {m : MethodId} {below : List Frame} {meth : Method} {c : Code} {b L : Nat} {xs : Nat → Int32} {X : XW} {xo mo : Nat} {σ0 : ST} {cells slots : Nat} {Q : State → Prop} {lb : Nat → Nat} (hcl : tb_Cls X lb xo mo) (hal : al_C X lb xo mo) (E : q_E p c cL_law s m #[Value.ref b] RL X) (hX : va_X b L xs s s.heap) (hbl : b < s.heap.size) (hbA : ¬ q_reg X b) (hml : c.maxLocals = 4) (hxo : q_kd X xo = 11) (hmo : q_kd X mo = 12) (hcs : cells ≤ room_1.cells ∧ slots ≤ room_1.slots) (hL : L ≤ 3072) {i : Nat} (hi : i + 6 ≤ L) {n : Int} (hn : 0 ≤ n ∧ n ≤ 199000) {σ : ST} {H : Heap} {locs : List Loc} {ls : Array Slot} (hI : q_I X 0 σ0 s.heap locs σ H) (hM : m_M (m_c X σ mo) (σ.1 mo 24).toInt n) (hl : lv_has ls 4 [(3, .int (nI i)), (2, .ref mo), (1, .ref xo), (0, .ref b)]) (hE : lw_E xo mo σ) (hB : lw_B X xo mo σ) (hA : al_R X xo mo σ σ)
    (kk : ∀ (σ : ST) (H : Heap) (locs : List Loc), q_I X 0 σ0 s.heap locs σ H → m_M (m_c X σ mo) (σ.1 mo 24).toInt (n + 301) → lw_E xo mo σ → lw_B X xo mo σ → al_R X xo mo σ σ → W p l e room_1 s m #[Value.ref b] below meth c H locs cells slots Q (F0 m 1796 ls [])) : W p l e room_1 s m #[Value.ref b] below meth c H locs cells slots Q (F0 m 1339 ls []) := by
  have hx := E.1
  have hb := E.2.1
  have hI0 := hI
  have hE0 := hE
  have hB0 := hB
  have hA0 := hA
  have hM0 := hM
  refine lv_aload_n hx hb dL_law_1339 rfl (lv_at hl 2 rfl) ?_
  refine lv_aload_n hx hb dL_law_1340 rfl (lv_at hl 3 rfl) ?_
  refine lv_iload_n hx hb dL_law_1341 rfl (lv_at hl 0 rfl) ?_
  refine lv_iconst (v := 1) hx hb dL_law_1342 (by decide) ?_
  refine lv_iadd hx hb dL_law_1343 ?_
  refine va_sld hx hb hX hbl hbA hI.S (lw_in (j := 1) (by decide) (by omega) hL) dL_law_1344 ?_
  have h3 := (q_bd hI hmo (rfl : q_bn 12 24 = (0, 3))).2
  refine q_ci (q_runV (As := [.int (xs (nI i + 1).toNatClampNeg)]) (rest := []) E (hml.trans hl.1.symm) hI (c_X11_rid l X σ xo ((xs (nI i + 1).toNatClampNeg)) hxo) kl_167 hxo ⟨rfl, by decide⟩ (show vwCl[10]? = some (RX11, TX11, 17) from rfl) rfl ⟨Nat.le_of_ble_eq_true rfl, Nat.le_of_ble_eq_true rfl⟩ hcs rfl (Nat.le_of_ble_eq_true rfl) dL_law_1345) hI (by decide) (fun r1 σ1 H locs hp hk hI => ?_)
  obtain ⟨hex1, how1⟩ := hp
  have hp := True.intro
  have hB := lw_BK how1 hI.1 hxo hmo rfl rfl (how1.1 xo 5 (by rw [hxo]; rfl)) hB
  have hA1 := hA0.pre hal how1 rfl
  have hA := (hA.fs hal hM0 (lw_fs hex1 (fs_rid ((xs (nI i + 1).toNatClampNeg))))).pre hal how1 rfl
  have hE := lw_EK hk (by decide) hxo hmo hE
  have hM := lw_kM hk hI.1 hmo (by decide) hM
  have hpp1 := hp
  have hMc := hM
  clear hp hk
  clear h3
  refine lv_pop hx hb dL_law_1348 rfl ?_
  refine lv_aload_n hx hb dL_law_1349 rfl (lv_at hl 1 rfl) ?_
  refine lv_aload_n hx hb dL_law_1350 rfl (lv_at hl 3 rfl) ?_
  refine lv_iload_n hx hb dL_law_1351 rfl (lv_at hl 0 rfl) ?_
  refine lv_iconst (v := 1) hx hb dL_law_1352 (by decide) ?_
  refine lv_iadd hx hb dL_law_1353 ?_
  refine va_sld hx hb hX hbl hbA hI.S (lw_in (j := 1) (by decide) (by omega) hL) dL_law_1354 ?_
  have h3 := (q_bd hI hmo (rfl : q_bn 12 24 = (0, 3))).2
  refine q_ci (q_runV (As := [.int (xs (nI i + 1).toNatClampNeg)]) (rest := []) E (hml.trans hl.1.symm) hI (c_X12_rid l X σ1 mo ((xs (nI i + 1).toNatClampNeg)) hmo hM.1.1) kl_170 hmo ⟨rfl, by decide⟩ (show vwCl[11]? = some (RX12, TX12, 46) from rfl) rfl ⟨Nat.le_of_ble_eq_true rfl, Nat.le_of_ble_eq_true rfl⟩ hcs rfl (Nat.le_of_ble_eq_true rfl) dL_law_1355) hI (by decide) (fun r2 σ2 H locs hp hk hI => ?_)
  obtain ⟨hex2, how2⟩ := hp
  have hp := True.intro
  have hB := lw_BK how2 hI.1 hxo hmo rfl rfl (how2.1 xo 5 (by rw [hxo]; rfl)) hB
  have hA := (hA.post hal how2 rfl).pre hal how2 rfl
  have hE := lw_EK hk (by decide) hxo hmo hE
  have hM := lw_up (lw_kM hk hI.1 hmo (by decide) hM) (q_bd hI hmo (rfl : q_bn 12 24 = (0, 3))).2
  have hpp2 := hp
  clear hp hk
  clear h3
  refine lv_pop hx hb dL_law_1358 rfl ?_
  refine lv_goto (tgt := 1796) hx hb dL_law_1359 (by decide) ?_
  exact kk _ _ _ hI hM hE hB hA

set_option maxRecDepth 100000 in
set_option maxHeartbeats 4000000 in
theorem lw_c36 {p : Program} {l : Launch} {e : Env} {s : State} {m : MethodId} {below : List Frame} {meth : Method} {c : Code} {b L : Nat} {xs : Nat → Int32} {X : XW} {xo mo : Nat} {σ0 : ST} {cells slots : Nat} {Q : State → Prop} {lb : Nat → Nat} (hcl : tb_Cls X lb xo mo) (hal : al_C X lb xo mo) (E : q_E p c cL_law s m #[Value.ref b] RL X) (hX : va_X b L xs s s.heap) (hbl : b < s.heap.size) (hbA : ¬ q_reg X b) (hml : c.maxLocals = 4) (hxo : q_kd X xo = 11) (hmo : q_kd X mo = 12) (hcs : cells ≤ room_1.cells ∧ slots ≤ room_1.slots) (hL : L ≤ 3072) {i : Nat} (hi : i + 6 ≤ L) {n : Int} (hn : 0 ≤ n ∧ n ≤ 199000) {σ : ST} {H : Heap} {locs : List Loc} {ls : Array Slot} (hI : q_I X 0 σ0 s.heap locs σ H) (hM : m_M (m_c X σ mo) (σ.1 mo 24).toInt n) (hl : lv_has ls 4 [(3, .int (nI i)), (2, .ref mo), (1, .ref xo), (0, .ref b)]) (hE : lw_E xo mo σ) (hB : lw_B X xo mo σ) (hA : al_R X xo mo σ σ)
    (kk : ∀ (σ : ST) (H : Heap) (locs : List Loc), q_I X 0 σ0 s.heap locs σ H → m_M (m_c X σ mo) (σ.1 mo 24).toInt (n + 301) → lw_E xo mo σ → lw_B X xo mo σ → al_R X xo mo σ σ → W p l e room_1 s m #[Value.ref b] below meth c H locs cells slots Q (F0 m 1796 ls [])) : W p l e room_1 s m #[Value.ref b] below meth c H locs cells slots Q (F0 m 1362 ls []) := by
  have hx := E.1
  have hb := E.2.1
  have hI0 := hI
  have hE0 := hE
  have hB0 := hB
  have hA0 := hA
  have hM0 := hM
  refine lv_aload_n hx hb dL_law_1362 rfl (lv_at hl 2 rfl) ?_
  refine lv_aload_n hx hb dL_law_1363 rfl (lv_at hl 3 rfl) ?_
  refine lv_iload_n hx hb dL_law_1364 rfl (lv_at hl 0 rfl) ?_
  refine lv_iconst (v := 1) hx hb dL_law_1365 (by decide) ?_
  refine lv_iadd hx hb dL_law_1366 ?_
  refine va_sld hx hb hX hbl hbA hI.S (lw_in (j := 1) (by decide) (by omega) hL) dL_law_1367 ?_
  have h3 := (q_bd hI hmo (rfl : q_bn 12 24 = (0, 3))).2
  refine q_ci (q_runV (As := [.int (xs (nI i + 1).toNatClampNeg)]) (rest := []) E (hml.trans hl.1.symm) hI (c_X11_lastKind l X σ xo ((xs (nI i + 1).toNatClampNeg)) hxo) kl_171 hxo ⟨rfl, by decide⟩ (show vwCl[10]? = some (RX11, TX11, 17) from rfl) rfl ⟨Nat.le_of_ble_eq_true rfl, Nat.le_of_ble_eq_true rfl⟩ hcs rfl (Nat.le_of_ble_eq_true rfl) dL_law_1368) hI (by decide) (fun r1 σ1 H locs hp hk hI => ?_)
  obtain ⟨hex1, how1⟩ := hp
  have hp := True.intro
  have hB := lw_BK how1 hI.1 hxo hmo rfl rfl (how1.1 xo 5 (by rw [hxo]; rfl)) hB
  have hA1 := hA0.pre hal how1 rfl
  have hA := (hA.fs hal hM0 (lw_fs hex1 (fs_lastKind ((xs (nI i + 1).toNatClampNeg))))).pre hal how1 rfl
  have hE := lw_EK hk (by decide) hxo hmo hE
  have hM := lw_kM hk hI.1 hmo (by decide) hM
  have hpp1 := hp
  have hMc := hM
  clear hp hk
  clear h3
  refine lv_pop hx hb dL_law_1371 rfl ?_
  refine lv_aload_n hx hb dL_law_1372 rfl (lv_at hl 1 rfl) ?_
  refine lv_aload_n hx hb dL_law_1373 rfl (lv_at hl 3 rfl) ?_
  refine lv_iload_n hx hb dL_law_1374 rfl (lv_at hl 0 rfl) ?_
  refine lv_iconst (v := 1) hx hb dL_law_1375 (by decide) ?_
  refine lv_iadd hx hb dL_law_1376 ?_
  refine va_sld hx hb hX hbl hbA hI.S (lw_in (j := 1) (by decide) (by omega) hL) dL_law_1377 ?_
  have h3 := (q_bd hI hmo (rfl : q_bn 12 24 = (0, 3))).2
  refine q_ci (q_runV (As := [.int (xs (nI i + 1).toNatClampNeg)]) (rest := []) E (hml.trans hl.1.symm) hI (c_X12_lastKind l X σ1 mo ((xs (nI i + 1).toNatClampNeg)) hmo hM.1.1) kl_174 hmo ⟨rfl, by decide⟩ (show vwCl[11]? = some (RX12, TX12, 46) from rfl) rfl ⟨Nat.le_of_ble_eq_true rfl, Nat.le_of_ble_eq_true rfl⟩ hcs rfl (Nat.le_of_ble_eq_true rfl) dL_law_1378) hI (by decide) (fun r2 σ2 H locs hp hk hI => ?_)
  obtain ⟨hex2, how2⟩ := hp
  have hp := True.intro
  have hB := lw_BK how2 hI.1 hxo hmo rfl rfl (how2.1 xo 5 (by rw [hxo]; rfl)) hB
  have hA := (hA.post hal how2 rfl).pre hal how2 rfl
  have hE := lw_EK hk (by decide) hxo hmo hE
  have hM := lw_up (lw_kM hk hI.1 hmo (by decide) hM) (q_bd hI hmo (rfl : q_bn 12 24 = (0, 3))).2
  have hpp2 := hp
  clear hp hk
  clear h3
  refine lv_pop hx hb dL_law_1381 rfl ?_
  refine lv_goto (tgt := 1796) hx hb dL_law_1382 (by decide) ?_
  exact kk _ _ _ hI hM hE hB hA

set_option maxRecDepth 100000 in
set_option maxHeartbeats 4000000 in
theorem lw_c37 {p : Program} {l : Launch} {e : Env} {s : State} {m : MethodId} {below : List Frame} {meth : Method} {c : Code} {b L : Nat} {xs : Nat → Int32} {X : XW} {xo mo : Nat} {σ0 : ST} {cells slots : Nat} {Q : State → Prop} {lb : Nat → Nat} (hcl : tb_Cls X lb xo mo) (hal : al_C X lb xo mo) (E : q_E p c cL_law s m #[Value.ref b] RL X) (hX : va_X b L xs s s.heap) (hbl : b < s.heap.size) (hbA : ¬ q_reg X b) (hml : c.maxLocals = 4) (hxo : q_kd X xo = 11) (hmo : q_kd X mo = 12) (hcs : cells ≤ room_1.cells ∧ slots ≤ room_1.slots) (hL : L ≤ 3072) {i : Nat} (hi : i + 6 ≤ L) {n : Int} (hn : 0 ≤ n ∧ n ≤ 199000) {σ : ST} {H : Heap} {locs : List Loc} {ls : Array Slot} (hI : q_I X 0 σ0 s.heap locs σ H) (hM : m_M (m_c X σ mo) (σ.1 mo 24).toInt n) (hl : lv_has ls 4 [(3, .int (nI i)), (2, .ref mo), (1, .ref xo), (0, .ref b)]) (hE : lw_E xo mo σ) (hB : lw_B X xo mo σ) (hA : al_R X xo mo σ σ)
    (kk : ∀ (σ : ST) (H : Heap) (locs : List Loc), q_I X 0 σ0 s.heap locs σ H → m_M (m_c X σ mo) (σ.1 mo 24).toInt (n + 301) → lw_E xo mo σ → lw_B X xo mo σ → al_R X xo mo σ σ → W p l e room_1 s m #[Value.ref b] below meth c H locs cells slots Q (F0 m 1796 ls [])) : W p l e room_1 s m #[Value.ref b] below meth c H locs cells slots Q (F0 m 1385 ls []) := by
  have hx := E.1
  have hb := E.2.1
  have hI0 := hI
  have hE0 := hE
  have hB0 := hB
  have hA0 := hA
  have hM0 := hM
  refine lv_aload_n hx hb dL_law_1385 rfl (lv_at hl 2 rfl) ?_
  refine lv_aload_n hx hb dL_law_1386 rfl (lv_at hl 3 rfl) ?_
  refine lv_iload_n hx hb dL_law_1387 rfl (lv_at hl 0 rfl) ?_
  refine lv_iconst (v := 1) hx hb dL_law_1388 (by decide) ?_
  refine lv_iadd hx hb dL_law_1389 ?_
  refine va_sld hx hb hX hbl hbA hI.S (lw_in (j := 1) (by decide) (by omega) hL) dL_law_1390 ?_
  have h3 := (q_bd hI hmo (rfl : q_bn 12 24 = (0, 3))).2
  refine q_ci (q_runV (As := [.int (xs (nI i + 1).toNatClampNeg)]) (rest := []) E (hml.trans hl.1.symm) hI (c_X11_mustLie l X σ xo ((xs (nI i + 1).toNatClampNeg)) hxo) kl_175 hxo ⟨rfl, by decide⟩ (show vwCl[10]? = some (RX11, TX11, 17) from rfl) rfl ⟨Nat.le_of_ble_eq_true rfl, Nat.le_of_ble_eq_true rfl⟩ hcs rfl (Nat.le_of_ble_eq_true rfl) dL_law_1391) hI (by decide) (fun r1 σ1 H locs hp hk hI => ?_)
  obtain ⟨hex1, how1⟩ := hp
  have hp := True.intro
  have hB := lw_BK how1 hI.1 hxo hmo rfl rfl (how1.1 xo 5 (by rw [hxo]; rfl)) hB
  have hA1 := hA0.pre hal how1 rfl
  have hA := (hA.fs hal hM0 (lw_fs hex1 (fs_mustLie ((xs (nI i + 1).toNatClampNeg))))).pre hal how1 rfl
  have hE := lw_EK hk (by decide) hxo hmo hE
  have hM := lw_kM hk hI.1 hmo (by decide) hM
  have hpp1 := hp
  have hMc := hM
  clear hp hk
  clear h3
  refine lv_pop hx hb dL_law_1394 rfl ?_
  refine lv_aload_n hx hb dL_law_1395 rfl (lv_at hl 1 rfl) ?_
  refine lv_aload_n hx hb dL_law_1396 rfl (lv_at hl 3 rfl) ?_
  refine lv_iload_n hx hb dL_law_1397 rfl (lv_at hl 0 rfl) ?_
  refine lv_iconst (v := 1) hx hb dL_law_1398 (by decide) ?_
  refine lv_iadd hx hb dL_law_1399 ?_
  refine va_sld hx hb hX hbl hbA hI.S (lw_in (j := 1) (by decide) (by omega) hL) dL_law_1400 ?_
  have h3 := (q_bd hI hmo (rfl : q_bn 12 24 = (0, 3))).2
  refine q_ci (q_runV (As := [.int (xs (nI i + 1).toNatClampNeg)]) (rest := []) E (hml.trans hl.1.symm) hI (c_X12_mustLie l X σ1 mo ((xs (nI i + 1).toNatClampNeg)) hmo hM.1.1) kl_178 hmo ⟨rfl, by decide⟩ (show vwCl[11]? = some (RX12, TX12, 46) from rfl) rfl ⟨Nat.le_of_ble_eq_true rfl, Nat.le_of_ble_eq_true rfl⟩ hcs rfl (Nat.le_of_ble_eq_true rfl) dL_law_1401) hI (by decide) (fun r2 σ2 H locs hp hk hI => ?_)
  obtain ⟨hex2, how2⟩ := hp
  have hp := True.intro
  have hB := lw_BK how2 hI.1 hxo hmo rfl rfl (how2.1 xo 5 (by rw [hxo]; rfl)) hB
  have hA := (hA.post hal how2 rfl).pre hal how2 rfl
  have hE := lw_EK hk (by decide) hxo hmo hE
  have hM := lw_up (lw_kM hk hI.1 hmo (by decide) hM) (q_bd hI hmo (rfl : q_bn 12 24 = (0, 3))).2
  have hpp2 := hp
  clear hp hk
  clear h3
  refine lv_pop hx hb dL_law_1404 rfl ?_
  refine lv_goto (tgt := 1796) hx hb dL_law_1405 (by decide) ?_
  exact kk _ _ _ hI hM hE hB hA

set_option maxRecDepth 100000 in
set_option maxHeartbeats 4000000 in
theorem lw_c38 {p : Program} {l : Launch} {e : Env} {s : State} {m : MethodId} {below : List Frame} {meth : Method} {c : Code} {b L : Nat} {xs : Nat → Int32} {X : XW} {xo mo : Nat} {σ0 : ST} {cells slots : Nat} {Q : State → Prop} {lb : Nat → Nat} (hcl : tb_Cls X lb xo mo) (hal : al_C X lb xo mo) (E : q_E p c cL_law s m #[Value.ref b] RL X) (hX : va_X b L xs s s.heap) (hbl : b < s.heap.size) (hbA : ¬ q_reg X b) (hml : c.maxLocals = 4) (hxo : q_kd X xo = 11) (hmo : q_kd X mo = 12) (hcs : cells ≤ room_1.cells ∧ slots ≤ room_1.slots) (hL : L ≤ 3072) {i : Nat} (hi : i + 6 ≤ L) {n : Int} (hn : 0 ≤ n ∧ n ≤ 199000) {σ : ST} {H : Heap} {locs : List Loc} {ls : Array Slot} (hI : q_I X 0 σ0 s.heap locs σ H) (hM : m_M (m_c X σ mo) (σ.1 mo 24).toInt n) (hl : lv_has ls 4 [(3, .int (nI i)), (2, .ref mo), (1, .ref xo), (0, .ref b)]) (hE : lw_E xo mo σ) (hB : lw_B X xo mo σ) (hA : al_R X xo mo σ σ)
    (kk : ∀ (σ : ST) (H : Heap) (locs : List Loc), q_I X 0 σ0 s.heap locs σ H → m_M (m_c X σ mo) (σ.1 mo 24).toInt (n + 301) → lw_E xo mo σ → lw_B X xo mo σ → al_R X xo mo σ σ → W p l e room_1 s m #[Value.ref b] below meth c H locs cells slots Q (F0 m 1796 ls [])) : W p l e room_1 s m #[Value.ref b] below meth c H locs cells slots Q (F0 m 1408 ls []) := by
  have hx := E.1
  have hb := E.2.1
  have hI0 := hI
  have hE0 := hE
  have hB0 := hB
  have hA0 := hA
  have hM0 := hM
  refine lv_aload_n hx hb dL_law_1408 rfl (lv_at hl 2 rfl) ?_
  have h3 := (q_bd hI hmo (rfl : q_bn 12 24 = (0, 3))).2
  refine q_ci (q_runV (As := []) (rest := []) E (hml.trans hl.1.symm) hI (c_X11_soonest l X σ xo hxo) kl_179 hxo ⟨rfl, by decide⟩ (show vwCl[10]? = some (RX11, TX11, 17) from rfl) rfl ⟨Nat.le_of_ble_eq_true rfl, Nat.le_of_ble_eq_true rfl⟩ hcs rfl (Nat.le_of_ble_eq_true rfl) dL_law_1409) hI (by decide) (fun r1 σ1 H locs hp hk hI => ?_)
  obtain ⟨hex1, how1⟩ := hp
  have hp := True.intro
  have hB := lw_BK how1 hI.1 hxo hmo rfl rfl (how1.1 xo 5 (by rw [hxo]; rfl)) hB
  have hA1 := hA0.pre hal how1 rfl
  have hA := (hA.fs hal hM0 (lw_fs hex1 (fs_soonest))).pre hal how1 rfl
  have hE := lw_EK hk (by decide) hxo hmo hE
  have hM := lw_kM hk hI.1 hmo (by decide) hM
  have hpp1 := hp
  have hMc := hM
  clear hp hk
  clear h3
  refine lv_pop hx hb dL_law_1412 rfl ?_
  refine lv_aload_n hx hb dL_law_1413 rfl (lv_at hl 1 rfl) ?_
  have h3 := (q_bd hI hmo (rfl : q_bn 12 24 = (0, 3))).2
  refine q_ci (q_runV (As := []) (rest := []) E (hml.trans hl.1.symm) hI (c_X12_soonest l X σ1 mo hmo hM.1.1) kl_182 hmo ⟨rfl, by decide⟩ (show vwCl[11]? = some (RX12, TX12, 46) from rfl) rfl ⟨Nat.le_of_ble_eq_true rfl, Nat.le_of_ble_eq_true rfl⟩ hcs rfl (Nat.le_of_ble_eq_true rfl) dL_law_1414) hI (by decide) (fun r2 σ2 H locs hp hk hI => ?_)
  obtain ⟨hex2, how2⟩ := hp
  have hp := True.intro
  have hB := lw_BK how2 hI.1 hxo hmo rfl rfl (how2.1 xo 5 (by rw [hxo]; rfl)) hB
  have hA := (hA.post hal how2 rfl).pre hal how2 rfl
  have hE := lw_EK hk (by decide) hxo hmo hE
  have hM := lw_up (lw_kM hk hI.1 hmo (by decide) hM) (q_bd hI hmo (rfl : q_bn 12 24 = (0, 3))).2
  have hpp2 := hp
  clear hp hk
  clear h3
  refine lv_pop hx hb dL_law_1417 rfl ?_
  refine lv_goto (tgt := 1796) hx hb dL_law_1418 (by decide) ?_
  exact kk _ _ _ hI hM hE hB hA

set_option maxRecDepth 100000 in
set_option maxHeartbeats 4000000 in
theorem lw_c39 {p : Program} {l : Launch} {e : Env} {s : State} {m : MethodId} {below : List Frame} {meth : Method} {c : Code} {b L : Nat} {xs : Nat → Int32} {X : XW} {xo mo : Nat} {σ0 : ST} {cells slots : Nat} {Q : State → Prop} {lb : Nat → Nat} (hcl : tb_Cls X lb xo mo) (hal : al_C X lb xo mo) (E : q_E p c cL_law s m #[Value.ref b] RL X) (hX : va_X b L xs s s.heap) (hbl : b < s.heap.size) (hbA : ¬ q_reg X b) (hml : c.maxLocals = 4) (hxo : q_kd X xo = 11) (hmo : q_kd X mo = 12) (hcs : cells ≤ room_1.cells ∧ slots ≤ room_1.slots) (hL : L ≤ 3072) {i : Nat} (hi : i + 6 ≤ L) {n : Int} (hn : 0 ≤ n ∧ n ≤ 199000) {σ : ST} {H : Heap} {locs : List Loc} {ls : Array Slot} (hI : q_I X 0 σ0 s.heap locs σ H) (hM : m_M (m_c X σ mo) (σ.1 mo 24).toInt n) (hl : lv_has ls 4 [(3, .int (nI i)), (2, .ref mo), (1, .ref xo), (0, .ref b)]) (hE : lw_E xo mo σ) (hB : lw_B X xo mo σ) (hA : al_R X xo mo σ σ)
    (kk : ∀ (σ : ST) (H : Heap) (locs : List Loc), q_I X 0 σ0 s.heap locs σ H → m_M (m_c X σ mo) (σ.1 mo 24).toInt (n + 301) → lw_E xo mo σ → lw_B X xo mo σ → al_R X xo mo σ σ → W p l e room_1 s m #[Value.ref b] below meth c H locs cells slots Q (F0 m 1796 ls [])) : W p l e room_1 s m #[Value.ref b] below meth c H locs cells slots Q (F0 m 1421 ls []) := by
  have hx := E.1
  have hb := E.2.1
  have hI0 := hI
  have hE0 := hE
  have hB0 := hB
  have hA0 := hA
  have hM0 := hM
  refine lv_aload_n hx hb dL_law_1421 rfl (lv_at hl 2 rfl) ?_
  refine lv_aload_n hx hb dL_law_1422 rfl (lv_at hl 3 rfl) ?_
  refine lv_iload_n hx hb dL_law_1423 rfl (lv_at hl 0 rfl) ?_
  refine lv_iconst (v := 1) hx hb dL_law_1424 (by decide) ?_
  refine lv_iadd hx hb dL_law_1425 ?_
  refine va_sld hx hb hX hbl hbA hI.S (lw_in (j := 1) (by decide) (by omega) hL) dL_law_1426 ?_
  refine lv_aload_n hx hb dL_law_1427 rfl (lv_at hl 3 rfl) ?_
  refine lv_iload_n hx hb dL_law_1428 rfl (lv_at hl 0 rfl) ?_
  refine lv_iconst (v := 2) hx hb dL_law_1429 (by decide) ?_
  refine lv_iadd hx hb dL_law_1430 ?_
  refine va_sld hx hb hX hbl hbA hI.S (lw_in (j := 2) (by decide) (by omega) hL) dL_law_1431 ?_
  have h3 := (q_bd hI hmo (rfl : q_bn 12 24 = (0, 3))).2
  refine q_ci (q_runV (As := [.int (xs (nI i + 1).toNatClampNeg), .int (xs (nI i + 2).toNatClampNeg)]) (rest := []) E (hml.trans hl.1.symm) hI (c_X11_best l X σ xo ((xs (nI i + 1).toNatClampNeg)) ((xs (nI i + 2).toNatClampNeg)) hxo) kl_183 hxo ⟨rfl, by decide⟩ (show vwCl[10]? = some (RX11, TX11, 17) from rfl) rfl ⟨Nat.le_of_ble_eq_true rfl, Nat.le_of_ble_eq_true rfl⟩ hcs rfl (Nat.le_of_ble_eq_true rfl) dL_law_1432) hI (by decide) (fun r1 σ1 H locs hp hk hI => ?_)
  obtain ⟨hex1, how1⟩ := hp
  have hp := True.intro
  have hB := lw_BK how1 hI.1 hxo hmo rfl rfl (how1.1 xo 5 (by rw [hxo]; rfl)) hB
  have hA1 := hA0.pre hal how1 rfl
  have hA := (hA.post hal how1 rfl).pre hal how1 rfl
  have hE := lw_EK hk (by decide) hxo hmo hE
  have hM := lw_kM hk hI.1 hmo (by decide) hM
  have hpp1 := hp
  have hMc := hM
  clear hp hk
  clear h3
  refine lv_pop hx hb dL_law_1435 rfl ?_
  refine lv_aload_n hx hb dL_law_1436 rfl (lv_at hl 1 rfl) ?_
  refine lv_aload_n hx hb dL_law_1437 rfl (lv_at hl 3 rfl) ?_
  refine lv_iload_n hx hb dL_law_1438 rfl (lv_at hl 0 rfl) ?_
  refine lv_iconst (v := 1) hx hb dL_law_1439 (by decide) ?_
  refine lv_iadd hx hb dL_law_1440 ?_
  refine va_sld hx hb hX hbl hbA hI.S (lw_in (j := 1) (by decide) (by omega) hL) dL_law_1441 ?_
  refine lv_aload_n hx hb dL_law_1442 rfl (lv_at hl 3 rfl) ?_
  refine lv_iload_n hx hb dL_law_1443 rfl (lv_at hl 0 rfl) ?_
  refine lv_iconst (v := 2) hx hb dL_law_1444 (by decide) ?_
  refine lv_iadd hx hb dL_law_1445 ?_
  refine va_sld hx hb hX hbl hbA hI.S (lw_in (j := 2) (by decide) (by omega) hL) dL_law_1446 ?_
  have h3 := (q_bd hI hmo (rfl : q_bn 12 24 = (0, 3))).2
  refine q_ci (q_runV (As := [.int (xs (nI i + 1).toNatClampNeg), .int (xs (nI i + 2).toNatClampNeg)]) (rest := []) E (hml.trans hl.1.symm) hI (c_X12_best l X σ1 mo ((xs (nI i + 1).toNatClampNeg)) ((xs (nI i + 2).toNatClampNeg)) hmo hM.1.1) kl_186 hmo ⟨rfl, by decide⟩ (show vwCl[11]? = some (RX12, TX12, 46) from rfl) rfl ⟨Nat.le_of_ble_eq_true rfl, Nat.le_of_ble_eq_true rfl⟩ hcs rfl (Nat.le_of_ble_eq_true rfl) dL_law_1447) hI (by decide) (fun r2 σ2 H locs hp hk hI => ?_)
  obtain ⟨hex2, how2⟩ := hp
  have hp := True.intro
  have hB := lw_BK how2 hI.1 hxo hmo rfl rfl (how2.1 xo 5 (by rw [hxo]; rfl)) hB
  have hA := (hA.post hal how2 rfl).pre hal how2 rfl
  have hE := lw_EK hk (by decide) hxo hmo hE
  have hM := lw_up (lw_kM hk hI.1 hmo (by decide) hM) (q_bd hI hmo (rfl : q_bn 12 24 = (0, 3))).2
  have hpp2 := hp
  clear hp hk
  clear h3
  refine lv_pop hx hb dL_law_1450 rfl ?_
  refine lv_goto (tgt := 1796) hx hb dL_law_1451 (by decide) ?_
  exact kk _ _ _ hI hM hE hB hA

set_option maxRecDepth 100000 in
set_option maxHeartbeats 4000000 in
theorem lw_c40 {p : Program} {l : Launch} {e : Env} {s : State} {m : MethodId} {below : List Frame} {meth : Method} {c : Code} {b L : Nat} {xs : Nat → Int32} {X : XW} {xo mo : Nat} {σ0 : ST} {cells slots : Nat} {Q : State → Prop} {lb : Nat → Nat} (hcl : tb_Cls X lb xo mo) (hal : al_C X lb xo mo) (E : q_E p c cL_law s m #[Value.ref b] RL X) (hX : va_X b L xs s s.heap) (hbl : b < s.heap.size) (hbA : ¬ q_reg X b) (hml : c.maxLocals = 4) (hxo : q_kd X xo = 11) (hmo : q_kd X mo = 12) (hcs : cells ≤ room_1.cells ∧ slots ≤ room_1.slots) (hL : L ≤ 3072) {i : Nat} (hi : i + 6 ≤ L) {n : Int} (hn : 0 ≤ n ∧ n ≤ 199000) {σ : ST} {H : Heap} {locs : List Loc} {ls : Array Slot} (hI : q_I X 0 σ0 s.heap locs σ H) (hM : m_M (m_c X σ mo) (σ.1 mo 24).toInt n) (hl : lv_has ls 4 [(3, .int (nI i)), (2, .ref mo), (1, .ref xo), (0, .ref b)]) (hE : lw_E xo mo σ) (hB : lw_B X xo mo σ) (hA : al_R X xo mo σ σ)
    (kk : ∀ (σ : ST) (H : Heap) (locs : List Loc), q_I X 0 σ0 s.heap locs σ H → m_M (m_c X σ mo) (σ.1 mo 24).toInt (n + 301) → lw_E xo mo σ → lw_B X xo mo σ → al_R X xo mo σ σ → W p l e room_1 s m #[Value.ref b] below meth c H locs cells slots Q (F0 m 1796 ls [])) : W p l e room_1 s m #[Value.ref b] below meth c H locs cells slots Q (F0 m 1454 ls []) := by
  have hx := E.1
  have hb := E.2.1
  have hI0 := hI
  have hE0 := hE
  have hB0 := hB
  have hA0 := hA
  have hM0 := hM
  refine lv_aload_n hx hb dL_law_1454 rfl (lv_at hl 2 rfl) ?_
  refine lv_aload_n hx hb dL_law_1455 rfl (lv_at hl 3 rfl) ?_
  refine lv_iload_n hx hb dL_law_1456 rfl (lv_at hl 0 rfl) ?_
  refine lv_iconst (v := 1) hx hb dL_law_1457 (by decide) ?_
  refine lv_iadd hx hb dL_law_1458 ?_
  refine va_sld hx hb hX hbl hbA hI.S (lw_in (j := 1) (by decide) (by omega) hL) dL_law_1459 ?_
  have h3 := (q_bd hI hmo (rfl : q_bn 12 24 = (0, 3))).2
  refine q_ci (q_runV (As := [.int (xs (nI i + 1).toNatClampNeg)]) (rest := []) E (hml.trans hl.1.symm) hI (c_X11_sayer l X σ xo ((xs (nI i + 1).toNatClampNeg)) hxo) kl_187 hxo ⟨rfl, by decide⟩ (show vwCl[10]? = some (RX11, TX11, 17) from rfl) rfl ⟨Nat.le_of_ble_eq_true rfl, Nat.le_of_ble_eq_true rfl⟩ hcs rfl (Nat.le_of_ble_eq_true rfl) dL_law_1460) hI (by decide) (fun r1 σ1 H locs hp hk hI => ?_)
  obtain ⟨hex1, how1⟩ := hp
  have hp := True.intro
  have hB := lw_BK how1 hI.1 hxo hmo rfl rfl (how1.1 xo 5 (by rw [hxo]; rfl)) hB
  have hA1 := hA0.pre hal how1 rfl
  have hA := (hA.post hal how1 rfl).pre hal how1 rfl
  have hE := lw_EK hk (by decide) hxo hmo hE
  have hM := lw_kM hk hI.1 hmo (by decide) hM
  have hpp1 := hp
  have hMc := hM
  clear hp hk
  clear h3
  refine lv_pop hx hb dL_law_1463 rfl ?_
  refine lv_aload_n hx hb dL_law_1464 rfl (lv_at hl 1 rfl) ?_
  refine lv_aload_n hx hb dL_law_1465 rfl (lv_at hl 3 rfl) ?_
  refine lv_iload_n hx hb dL_law_1466 rfl (lv_at hl 0 rfl) ?_
  refine lv_iconst (v := 1) hx hb dL_law_1467 (by decide) ?_
  refine lv_iadd hx hb dL_law_1468 ?_
  refine va_sld hx hb hX hbl hbA hI.S (lw_in (j := 1) (by decide) (by omega) hL) dL_law_1469 ?_
  have h3 := (q_bd hI hmo (rfl : q_bn 12 24 = (0, 3))).2
  refine q_ci (q_runV (As := [.int (xs (nI i + 1).toNatClampNeg)]) (rest := []) E (hml.trans hl.1.symm) hI (c_X12_sayer l X σ1 mo ((xs (nI i + 1).toNatClampNeg)) hmo hM.1.1) kl_190 hmo ⟨rfl, by decide⟩ (show vwCl[11]? = some (RX12, TX12, 46) from rfl) rfl ⟨Nat.le_of_ble_eq_true rfl, Nat.le_of_ble_eq_true rfl⟩ hcs rfl (Nat.le_of_ble_eq_true rfl) dL_law_1470) hI (by decide) (fun r2 σ2 H locs hp hk hI => ?_)
  obtain ⟨hex2, how2⟩ := hp
  have hp := True.intro
  have hB := lw_BK how2 hI.1 hxo hmo rfl rfl (how2.1 xo 5 (by rw [hxo]; rfl)) hB
  have hA := (hA.post hal how2 rfl).pre hal how2 rfl
  have hE := lw_EK hk (by decide) hxo hmo hE
  have hM := lw_up (lw_kM hk hI.1 hmo (by decide) hM) (q_bd hI hmo (rfl : q_bn 12 24 = (0, 3))).2
  have hpp2 := hp
  clear hp hk
  clear h3
  refine lv_pop hx hb dL_law_1473 rfl ?_
  refine lv_goto (tgt := 1796) hx hb dL_law_1474 (by decide) ?_
  exact kk _ _ _ hI hM hE hB hA

set_option maxRecDepth 100000 in
set_option maxHeartbeats 4000000 in
theorem lw_c41 {p : Program} {l : Launch} {e : Env} {s : State} {m : MethodId} {below : List Frame} {meth : Method} {c : Code} {b L : Nat} {xs : Nat → Int32} {X : XW} {xo mo : Nat} {σ0 : ST} {cells slots : Nat} {Q : State → Prop} {lb : Nat → Nat} (hcl : tb_Cls X lb xo mo) (hal : al_C X lb xo mo) (E : q_E p c cL_law s m #[Value.ref b] RL X) (hX : va_X b L xs s s.heap) (hbl : b < s.heap.size) (hbA : ¬ q_reg X b) (hml : c.maxLocals = 4) (hxo : q_kd X xo = 11) (hmo : q_kd X mo = 12) (hcs : cells ≤ room_1.cells ∧ slots ≤ room_1.slots) (hL : L ≤ 3072) {i : Nat} (hi : i + 6 ≤ L) {n : Int} (hn : 0 ≤ n ∧ n ≤ 199000) {σ : ST} {H : Heap} {locs : List Loc} {ls : Array Slot} (hI : q_I X 0 σ0 s.heap locs σ H) (hM : m_M (m_c X σ mo) (σ.1 mo 24).toInt n) (hl : lv_has ls 4 [(3, .int (nI i)), (2, .ref mo), (1, .ref xo), (0, .ref b)]) (hE : lw_E xo mo σ) (hB : lw_B X xo mo σ) (hA : al_R X xo mo σ σ)
    (kk : ∀ (σ : ST) (H : Heap) (locs : List Loc), q_I X 0 σ0 s.heap locs σ H → m_M (m_c X σ mo) (σ.1 mo 24).toInt (n + 301) → lw_E xo mo σ → lw_B X xo mo σ → al_R X xo mo σ σ → W p l e room_1 s m #[Value.ref b] below meth c H locs cells slots Q (F0 m 1796 ls [])) : W p l e room_1 s m #[Value.ref b] below meth c H locs cells slots Q (F0 m 1477 ls []) := by
  have hx := E.1
  have hb := E.2.1
  have hI0 := hI
  have hE0 := hE
  have hB0 := hB
  have hA0 := hA
  have hM0 := hM
  refine lv_aload_n hx hb dL_law_1477 rfl (lv_at hl 2 rfl) ?_
  refine lv_aload_n hx hb dL_law_1478 rfl (lv_at hl 3 rfl) ?_
  refine lv_iload_n hx hb dL_law_1479 rfl (lv_at hl 0 rfl) ?_
  refine lv_iconst (v := 1) hx hb dL_law_1480 (by decide) ?_
  refine lv_iadd hx hb dL_law_1481 ?_
  refine va_sld hx hb hX hbl hbA hI.S (lw_in (j := 1) (by decide) (by omega) hL) dL_law_1482 ?_
  have h3 := (q_bd hI hmo (rfl : q_bn 12 24 = (0, 3))).2
  refine q_ci (q_runV (As := [.int (xs (nI i + 1).toNatClampNeg)]) (rest := []) E (hml.trans hl.1.symm) hI (c_X11_has l X σ xo ((xs (nI i + 1).toNatClampNeg)) hxo) kl_191 hxo ⟨rfl, by decide⟩ (show vwCl[10]? = some (RX11, TX11, 17) from rfl) rfl ⟨Nat.le_of_ble_eq_true rfl, Nat.le_of_ble_eq_true rfl⟩ hcs rfl (Nat.le_of_ble_eq_true rfl) dL_law_1483) hI (by decide) (fun r1 σ1 H locs hp hk hI => ?_)
  obtain ⟨hex1, how1⟩ := hp
  have hp := True.intro
  have hB := lw_BK how1 hI.1 hxo hmo rfl rfl (how1.1 xo 5 (by rw [hxo]; rfl)) hB
  have hA1 := hA0.pre hal how1 rfl
  have hA := (hA.post hal how1 rfl).pre hal how1 rfl
  have hE := lw_EK hk (by decide) hxo hmo hE
  have hM := lw_kM hk hI.1 hmo (by decide) hM
  have hpp1 := hp
  have hMc := hM
  clear hp hk
  clear h3
  refine lv_pop hx hb dL_law_1486 rfl ?_
  refine lv_aload_n hx hb dL_law_1487 rfl (lv_at hl 1 rfl) ?_
  refine lv_aload_n hx hb dL_law_1488 rfl (lv_at hl 3 rfl) ?_
  refine lv_iload_n hx hb dL_law_1489 rfl (lv_at hl 0 rfl) ?_
  refine lv_iconst (v := 1) hx hb dL_law_1490 (by decide) ?_
  refine lv_iadd hx hb dL_law_1491 ?_
  refine va_sld hx hb hX hbl hbA hI.S (lw_in (j := 1) (by decide) (by omega) hL) dL_law_1492 ?_
  have h3 := (q_bd hI hmo (rfl : q_bn 12 24 = (0, 3))).2
  refine q_ci (q_runV (As := [.int (xs (nI i + 1).toNatClampNeg)]) (rest := []) E (hml.trans hl.1.symm) hI (c_X12_has l X σ1 mo ((xs (nI i + 1).toNatClampNeg)) hmo hM.1.1) kl_194 hmo ⟨rfl, by decide⟩ (show vwCl[11]? = some (RX12, TX12, 46) from rfl) rfl ⟨Nat.le_of_ble_eq_true rfl, Nat.le_of_ble_eq_true rfl⟩ hcs rfl (Nat.le_of_ble_eq_true rfl) dL_law_1493) hI (by decide) (fun r2 σ2 H locs hp hk hI => ?_)
  obtain ⟨hex2, how2⟩ := hp
  have hp := True.intro
  have hB := lw_BK how2 hI.1 hxo hmo rfl rfl (how2.1 xo 5 (by rw [hxo]; rfl)) hB
  have hA := (hA.post hal how2 rfl).pre hal how2 rfl
  have hE := lw_EK hk (by decide) hxo hmo hE
  have hM := lw_up (lw_kM hk hI.1 hmo (by decide) hM) (q_bd hI hmo (rfl : q_bn 12 24 = (0, 3))).2
  have hpp2 := hp
  clear hp hk
  clear h3
  refine lv_pop hx hb dL_law_1496 rfl ?_
  refine lv_goto (tgt := 1796) hx hb dL_law_1497 (by decide) ?_
  exact kk _ _ _ hI hM hE hB hA

set_option maxRecDepth 100000 in
set_option maxHeartbeats 4000000 in
theorem lw_c42 {p : Program} {l : Launch} {e : Env} {s : State} {m : MethodId} {below : List Frame} {meth : Method} {c : Code} {b L : Nat} {xs : Nat → Int32} {X : XW} {xo mo : Nat} {σ0 : ST} {cells slots : Nat} {Q : State → Prop} {lb : Nat → Nat} (hcl : tb_Cls X lb xo mo) (hal : al_C X lb xo mo) (E : q_E p c cL_law s m #[Value.ref b] RL X) (hX : va_X b L xs s s.heap) (hbl : b < s.heap.size) (hbA : ¬ q_reg X b) (hml : c.maxLocals = 4) (hxo : q_kd X xo = 11) (hmo : q_kd X mo = 12) (hcs : cells ≤ room_1.cells ∧ slots ≤ room_1.slots) (hL : L ≤ 3072) {i : Nat} (hi : i + 6 ≤ L) {n : Int} (hn : 0 ≤ n ∧ n ≤ 199000) {σ : ST} {H : Heap} {locs : List Loc} {ls : Array Slot} (hI : q_I X 0 σ0 s.heap locs σ H) (hM : m_M (m_c X σ mo) (σ.1 mo 24).toInt n) (hl : lv_has ls 4 [(3, .int (nI i)), (2, .ref mo), (1, .ref xo), (0, .ref b)]) (hE : lw_E xo mo σ) (hB : lw_B X xo mo σ) (hA : al_R X xo mo σ σ)
    (kk : ∀ (σ : ST) (H : Heap) (locs : List Loc), q_I X 0 σ0 s.heap locs σ H → m_M (m_c X σ mo) (σ.1 mo 24).toInt (n + 301) → lw_E xo mo σ → lw_B X xo mo σ → al_R X xo mo σ σ → W p l e room_1 s m #[Value.ref b] below meth c H locs cells slots Q (F0 m 1796 ls [])) : W p l e room_1 s m #[Value.ref b] below meth c H locs cells slots Q (F0 m 1500 ls []) := by
  have hx := E.1
  have hb := E.2.1
  have hI0 := hI
  have hE0 := hE
  have hB0 := hB
  have hA0 := hA
  have hM0 := hM
  refine lv_aload_n hx hb dL_law_1500 rfl (lv_at hl 2 rfl) ?_
  refine lv_aload_n hx hb dL_law_1501 rfl (lv_at hl 3 rfl) ?_
  refine lv_iload_n hx hb dL_law_1502 rfl (lv_at hl 0 rfl) ?_
  refine lv_iconst (v := 1) hx hb dL_law_1503 (by decide) ?_
  refine lv_iadd hx hb dL_law_1504 ?_
  refine va_sld hx hb hX hbl hbA hI.S (lw_in (j := 1) (by decide) (by omega) hL) dL_law_1505 ?_
  have h3 := (q_bd hI hmo (rfl : q_bn 12 24 = (0, 3))).2
  refine q_ci (q_runV (As := [.int (xs (nI i + 1).toNatClampNeg)]) (rest := []) E (hml.trans hl.1.symm) hI (c_X11_lies l X σ xo ((xs (nI i + 1).toNatClampNeg)) hxo) kl_195 hxo ⟨rfl, by decide⟩ (show vwCl[10]? = some (RX11, TX11, 17) from rfl) rfl ⟨Nat.le_of_ble_eq_true rfl, Nat.le_of_ble_eq_true rfl⟩ hcs rfl (Nat.le_of_ble_eq_true rfl) dL_law_1506) hI (by decide) (fun r1 σ1 H locs hp hk hI => ?_)
  obtain ⟨hex1, how1⟩ := hp
  have hp := True.intro
  have hB := lw_BK how1 hI.1 hxo hmo rfl rfl (how1.1 xo 5 (by rw [hxo]; rfl)) hB
  have hA1 := hA0.pre hal how1 rfl
  have hA := (hA.post hal how1 rfl).pre hal how1 rfl
  have hE := lw_EK hk (by decide) hxo hmo hE
  have hM := lw_kM hk hI.1 hmo (by decide) hM
  have hpp1 := hp
  have hMc := hM
  clear hp hk
  clear h3
  refine lv_pop hx hb dL_law_1509 rfl ?_
  refine lv_aload_n hx hb dL_law_1510 rfl (lv_at hl 1 rfl) ?_
  refine lv_aload_n hx hb dL_law_1511 rfl (lv_at hl 3 rfl) ?_
  refine lv_iload_n hx hb dL_law_1512 rfl (lv_at hl 0 rfl) ?_
  refine lv_iconst (v := 1) hx hb dL_law_1513 (by decide) ?_
  refine lv_iadd hx hb dL_law_1514 ?_
  refine va_sld hx hb hX hbl hbA hI.S (lw_in (j := 1) (by decide) (by omega) hL) dL_law_1515 ?_
  have h3 := (q_bd hI hmo (rfl : q_bn 12 24 = (0, 3))).2
  refine q_ci (q_runV (As := [.int (xs (nI i + 1).toNatClampNeg)]) (rest := []) E (hml.trans hl.1.symm) hI (c_X12_lies l X σ1 mo ((xs (nI i + 1).toNatClampNeg)) hmo hM.1.1) kl_198 hmo ⟨rfl, by decide⟩ (show vwCl[11]? = some (RX12, TX12, 46) from rfl) rfl ⟨Nat.le_of_ble_eq_true rfl, Nat.le_of_ble_eq_true rfl⟩ hcs rfl (Nat.le_of_ble_eq_true rfl) dL_law_1516) hI (by decide) (fun r2 σ2 H locs hp hk hI => ?_)
  obtain ⟨hex2, how2⟩ := hp
  have hp := True.intro
  have hB := lw_BK how2 hI.1 hxo hmo rfl rfl (how2.1 xo 5 (by rw [hxo]; rfl)) hB
  have hA := (hA.post hal how2 rfl).pre hal how2 rfl
  have hE := lw_EK hk (by decide) hxo hmo hE
  have hM := lw_up (lw_kM hk hI.1 hmo (by decide) hM) (q_bd hI hmo (rfl : q_bn 12 24 = (0, 3))).2
  have hpp2 := hp
  clear hp hk
  clear h3
  refine lv_pop hx hb dL_law_1519 rfl ?_
  refine lv_goto (tgt := 1796) hx hb dL_law_1520 (by decide) ?_
  exact kk _ _ _ hI hM hE hB hA

set_option maxRecDepth 100000 in
set_option maxHeartbeats 4000000 in
theorem lw_c43 {p : Program} {l : Launch} {e : Env} {s : State} {m : MethodId} {below : List Frame} {meth : Method} {c : Code} {b L : Nat} {xs : Nat → Int32} {X : XW} {xo mo : Nat} {σ0 : ST} {cells slots : Nat} {Q : State → Prop} {lb : Nat → Nat} (hcl : tb_Cls X lb xo mo) (hal : al_C X lb xo mo) (E : q_E p c cL_law s m #[Value.ref b] RL X) (hX : va_X b L xs s s.heap) (hbl : b < s.heap.size) (hbA : ¬ q_reg X b) (hml : c.maxLocals = 4) (hxo : q_kd X xo = 11) (hmo : q_kd X mo = 12) (hcs : cells ≤ room_1.cells ∧ slots ≤ room_1.slots) (hL : L ≤ 3072) {i : Nat} (hi : i + 6 ≤ L) {n : Int} (hn : 0 ≤ n ∧ n ≤ 199000) {σ : ST} {H : Heap} {locs : List Loc} {ls : Array Slot} (hI : q_I X 0 σ0 s.heap locs σ H) (hM : m_M (m_c X σ mo) (σ.1 mo 24).toInt n) (hl : lv_has ls 4 [(3, .int (nI i)), (2, .ref mo), (1, .ref xo), (0, .ref b)]) (hE : lw_E xo mo σ) (hB : lw_B X xo mo σ) (hA : al_R X xo mo σ σ)
    (kk : ∀ (σ : ST) (H : Heap) (locs : List Loc), q_I X 0 σ0 s.heap locs σ H → m_M (m_c X σ mo) (σ.1 mo 24).toInt (n + 301) → lw_E xo mo σ → lw_B X xo mo σ → al_R X xo mo σ σ → W p l e room_1 s m #[Value.ref b] below meth c H locs cells slots Q (F0 m 1796 ls [])) : W p l e room_1 s m #[Value.ref b] below meth c H locs cells slots Q (F0 m 1523 ls []) := by
  have hx := E.1
  have hb := E.2.1
  have hI0 := hI
  have hE0 := hE
  have hB0 := hB
  have hA0 := hA
  have hM0 := hM
  refine lv_aload_n hx hb dL_law_1523 rfl (lv_at hl 2 rfl) ?_
  refine lv_aload_n hx hb dL_law_1524 rfl (lv_at hl 3 rfl) ?_
  refine lv_iload_n hx hb dL_law_1525 rfl (lv_at hl 0 rfl) ?_
  refine lv_iconst (v := 1) hx hb dL_law_1526 (by decide) ?_
  refine lv_iadd hx hb dL_law_1527 ?_
  refine va_sld hx hb hX hbl hbA hI.S (lw_in (j := 1) (by decide) (by omega) hL) dL_law_1528 ?_
  refine lv_aload_n hx hb dL_law_1529 rfl (lv_at hl 3 rfl) ?_
  refine lv_iload_n hx hb dL_law_1530 rfl (lv_at hl 0 rfl) ?_
  refine lv_iconst (v := 2) hx hb dL_law_1531 (by decide) ?_
  refine lv_iadd hx hb dL_law_1532 ?_
  refine va_sld hx hb hX hbl hbA hI.S (lw_in (j := 2) (by decide) (by omega) hL) dL_law_1533 ?_
  refine lv_aload_n hx hb dL_law_1534 rfl (lv_at hl 3 rfl) ?_
  refine lv_iload_n hx hb dL_law_1535 rfl (lv_at hl 0 rfl) ?_
  refine lv_iconst (v := 3) hx hb dL_law_1536 (by decide) ?_
  refine lv_iadd hx hb dL_law_1537 ?_
  refine va_sld hx hb hX hbl hbA hI.S (lw_in (j := 3) (by decide) (by omega) hL) dL_law_1538 ?_
  have h3 := (q_bd hI hmo (rfl : q_bn 12 24 = (0, 3))).2
  refine q_ci (q_runV (As := [.int (xs (nI i + 1).toNatClampNeg), .int (xs (nI i + 2).toNatClampNeg), .int (xs (nI i + 3).toNatClampNeg)]) (rest := []) E (hml.trans hl.1.symm) hI (c_X11_guess l X σ xo ((xs (nI i + 1).toNatClampNeg)) ((xs (nI i + 2).toNatClampNeg)) ((xs (nI i + 3).toNatClampNeg)) hxo) kl_199 hxo ⟨rfl, by decide⟩ (show vwCl[10]? = some (RX11, TX11, 17) from rfl) rfl ⟨Nat.le_of_ble_eq_true rfl, Nat.le_of_ble_eq_true rfl⟩ hcs rfl (Nat.le_of_ble_eq_true rfl) dL_law_1539) hI (by decide) (fun r1 σ1 H locs hp hk hI => ?_)
  obtain ⟨pq0, hex1, how1⟩ := hp
  have hp := pq0
  have hB := lw_BK how1 hI.1 hxo hmo rfl rfl (how1.1 xo 5 (by rw [hxo]; rfl)) hB
  have hA1 := hA0.pre hal how1 rfl
  have hA := (hA.post hal how1 rfl).pre hal how1 rfl
  have hE := lw_EK hk (by decide) hxo hmo hE
  have hM := lw_kM hk hI.1 hmo (by decide) hM
  have hpp1 := hp
  have hMc := hM
  clear hp hk
  clear h3
  refine lv_pop hx hb dL_law_1542 rfl ?_
  refine lv_aload_n hx hb dL_law_1543 rfl (lv_at hl 1 rfl) ?_
  refine lv_aload_n hx hb dL_law_1544 rfl (lv_at hl 3 rfl) ?_
  refine lv_iload_n hx hb dL_law_1545 rfl (lv_at hl 0 rfl) ?_
  refine lv_iconst (v := 1) hx hb dL_law_1546 (by decide) ?_
  refine lv_iadd hx hb dL_law_1547 ?_
  refine va_sld hx hb hX hbl hbA hI.S (lw_in (j := 1) (by decide) (by omega) hL) dL_law_1548 ?_
  refine lv_aload_n hx hb dL_law_1549 rfl (lv_at hl 3 rfl) ?_
  refine lv_iload_n hx hb dL_law_1550 rfl (lv_at hl 0 rfl) ?_
  refine lv_iconst (v := 2) hx hb dL_law_1551 (by decide) ?_
  refine lv_iadd hx hb dL_law_1552 ?_
  refine va_sld hx hb hX hbl hbA hI.S (lw_in (j := 2) (by decide) (by omega) hL) dL_law_1553 ?_
  refine lv_aload_n hx hb dL_law_1554 rfl (lv_at hl 3 rfl) ?_
  refine lv_iload_n hx hb dL_law_1555 rfl (lv_at hl 0 rfl) ?_
  refine lv_iconst (v := 3) hx hb dL_law_1556 (by decide) ?_
  refine lv_iadd hx hb dL_law_1557 ?_
  refine va_sld hx hb hX hbl hbA hI.S (lw_in (j := 3) (by decide) (by omega) hL) dL_law_1558 ?_
  have h3 := (q_bd hI hmo (rfl : q_bn 12 24 = (0, 3))).2
  refine q_ci (q_runV (As := [.int (xs (nI i + 1).toNatClampNeg), .int (xs (nI i + 2).toNatClampNeg), .int (xs (nI i + 3).toNatClampNeg)]) (rest := []) E (hml.trans hl.1.symm) hI (c_X12_guess l X σ1 mo ((xs (nI i + 1).toNatClampNeg)) ((xs (nI i + 2).toNatClampNeg)) ((xs (nI i + 3).toNatClampNeg)) hmo hM.1.1) kl_202 hmo ⟨rfl, by decide⟩ (show vwCl[11]? = some (RX12, TX12, 46) from rfl) rfl ⟨Nat.le_of_ble_eq_true rfl, Nat.le_of_ble_eq_true rfl⟩ hcs rfl (Nat.le_of_ble_eq_true rfl) dL_law_1559) hI (by decide) (fun r2 σ2 H locs hp hk hI => ?_)
  obtain ⟨pq0, hex2, how2⟩ := hp
  have hp := pq0
  have hB := lw_BK how2 hI.1 hxo hmo rfl rfl (how2.1 xo 5 (by rw [hxo]; rfl)) hB
  have hA := (hA.post hal how2 rfl).pre hal how2 rfl
  have hE := lw_EK hk (by decide) hxo hmo hE
  have hM := lw_up (lw_kM hk hI.1 hmo (by decide) hM) (q_bd hI hmo (rfl : q_bn 12 24 = (0, 3))).2
  have hpp2 := hp
  clear hp hk
  clear h3
  refine lv_pop hx hb dL_law_1562 rfl ?_
  refine lv_goto (tgt := 1796) hx hb dL_law_1563 (by decide) ?_
  exact kk _ _ _ hI hM hE hB hA

set_option maxRecDepth 100000 in
set_option maxHeartbeats 4000000 in
theorem lw_c44 {p : Program} {l : Launch} {e : Env} {s : State} {m : MethodId} {below : List Frame} {meth : Method} {c : Code} {b L : Nat} {xs : Nat → Int32} {X : XW} {xo mo : Nat} {σ0 : ST} {cells slots : Nat} {Q : State → Prop} {lb : Nat → Nat} (hcl : tb_Cls X lb xo mo) (hal : al_C X lb xo mo) (E : q_E p c cL_law s m #[Value.ref b] RL X) (hX : va_X b L xs s s.heap) (hbl : b < s.heap.size) (hbA : ¬ q_reg X b) (hml : c.maxLocals = 4) (hxo : q_kd X xo = 11) (hmo : q_kd X mo = 12) (hcs : cells ≤ room_1.cells ∧ slots ≤ room_1.slots) (hL : L ≤ 3072) {i : Nat} (hi : i + 6 ≤ L) {n : Int} (hn : 0 ≤ n ∧ n ≤ 199000) {σ : ST} {H : Heap} {locs : List Loc} {ls : Array Slot} (hI : q_I X 0 σ0 s.heap locs σ H) (hM : m_M (m_c X σ mo) (σ.1 mo 24).toInt n) (hl : lv_has ls 4 [(3, .int (nI i)), (2, .ref mo), (1, .ref xo), (0, .ref b)]) (hE : lw_E xo mo σ) (hB : lw_B X xo mo σ) (hA : al_R X xo mo σ σ)
    (kk : ∀ (σ : ST) (H : Heap) (locs : List Loc), q_I X 0 σ0 s.heap locs σ H → m_M (m_c X σ mo) (σ.1 mo 24).toInt (n + 301) → lw_E xo mo σ → lw_B X xo mo σ → al_R X xo mo σ σ → W p l e room_1 s m #[Value.ref b] below meth c H locs cells slots Q (F0 m 1796 ls [])) : W p l e room_1 s m #[Value.ref b] below meth c H locs cells slots Q (F0 m 1566 ls []) := by
  have hx := E.1
  have hb := E.2.1
  have hI0 := hI
  have hE0 := hE
  have hB0 := hB
  have hA0 := hA
  have hM0 := hM
  refine lv_aload_n hx hb dL_law_1566 rfl (lv_at hl 2 rfl) ?_
  have h3 := (q_bd hI hmo (rfl : q_bn 12 24 = (0, 3))).2
  refine q_ci (q_runV (As := []) (rest := []) E (hml.trans hl.1.symm) hI (c_X11_fullest l X σ xo hxo) kl_203 hxo ⟨rfl, by decide⟩ (show vwCl[10]? = some (RX11, TX11, 17) from rfl) rfl ⟨Nat.le_of_ble_eq_true rfl, Nat.le_of_ble_eq_true rfl⟩ hcs rfl (Nat.le_of_ble_eq_true rfl) dL_law_1567) hI (by decide) (fun r1 σ1 H locs hp hk hI => ?_)
  obtain ⟨hex1, how1⟩ := hp
  have hp := True.intro
  have hB := lw_BK how1 hI.1 hxo hmo rfl rfl (how1.1 xo 5 (by rw [hxo]; rfl)) hB
  have hA1 := hA0.pre hal how1 rfl
  have hA := (hA.post hal how1 rfl).pre hal how1 rfl
  have hE := lw_EK hk (by decide) hxo hmo hE
  have hM := lw_kM hk hI.1 hmo (by decide) hM
  have hpp1 := hp
  have hMc := hM
  clear hp hk
  clear h3
  refine lv_pop hx hb dL_law_1570 rfl ?_
  refine lv_aload_n hx hb dL_law_1571 rfl (lv_at hl 1 rfl) ?_
  have h3 := (q_bd hI hmo (rfl : q_bn 12 24 = (0, 3))).2
  refine q_ci (q_runV (As := []) (rest := []) E (hml.trans hl.1.symm) hI (c_X12_fullest l X σ1 mo hmo hM.1.1) kl_206 hmo ⟨rfl, by decide⟩ (show vwCl[11]? = some (RX12, TX12, 46) from rfl) rfl ⟨Nat.le_of_ble_eq_true rfl, Nat.le_of_ble_eq_true rfl⟩ hcs rfl (Nat.le_of_ble_eq_true rfl) dL_law_1572) hI (by decide) (fun r2 σ2 H locs hp hk hI => ?_)
  obtain ⟨hex2, how2⟩ := hp
  have hp := True.intro
  have hB := lw_BK how2 hI.1 hxo hmo rfl rfl (how2.1 xo 5 (by rw [hxo]; rfl)) hB
  have hA := (hA.post hal how2 rfl).pre hal how2 rfl
  have hE := lw_EK hk (by decide) hxo hmo hE
  have hM := lw_up (lw_kM hk hI.1 hmo (by decide) hM) (q_bd hI hmo (rfl : q_bn 12 24 = (0, 3))).2
  have hpp2 := hp
  clear hp hk
  clear h3
  refine lv_pop hx hb dL_law_1575 rfl ?_
  refine lv_goto (tgt := 1796) hx hb dL_law_1576 (by decide) ?_
  exact kk _ _ _ hI hM hE hB hA

set_option maxRecDepth 100000 in
set_option maxHeartbeats 4000000 in
theorem lw_c45 {p : Program} {l : Launch} {e : Env} {s : State} {m : MethodId} {below : List Frame} {meth : Method} {c : Code} {b L : Nat} {xs : Nat → Int32} {X : XW} {xo mo : Nat} {σ0 : ST} {cells slots : Nat} {Q : State → Prop} {lb : Nat → Nat} (hcl : tb_Cls X lb xo mo) (hal : al_C X lb xo mo) (E : q_E p c cL_law s m #[Value.ref b] RL X) (hX : va_X b L xs s s.heap) (hbl : b < s.heap.size) (hbA : ¬ q_reg X b) (hml : c.maxLocals = 4) (hxo : q_kd X xo = 11) (hmo : q_kd X mo = 12) (hcs : cells ≤ room_1.cells ∧ slots ≤ room_1.slots) (hL : L ≤ 3072) {i : Nat} (hi : i + 6 ≤ L) {n : Int} (hn : 0 ≤ n ∧ n ≤ 199000) {σ : ST} {H : Heap} {locs : List Loc} {ls : Array Slot} (hI : q_I X 0 σ0 s.heap locs σ H) (hM : m_M (m_c X σ mo) (σ.1 mo 24).toInt n) (hl : lv_has ls 4 [(3, .int (nI i)), (2, .ref mo), (1, .ref xo), (0, .ref b)]) (hE : lw_E xo mo σ) (hB : lw_B X xo mo σ) (hA : al_R X xo mo σ σ)
    (kk : ∀ (σ : ST) (H : Heap) (locs : List Loc), q_I X 0 σ0 s.heap locs σ H → m_M (m_c X σ mo) (σ.1 mo 24).toInt (n + 301) → lw_E xo mo σ → lw_B X xo mo σ → al_R X xo mo σ σ → W p l e room_1 s m #[Value.ref b] below meth c H locs cells slots Q (F0 m 1796 ls [])) : W p l e room_1 s m #[Value.ref b] below meth c H locs cells slots Q (F0 m 1579 ls []) := by
  have hx := E.1
  have hb := E.2.1
  have hI0 := hI
  have hE0 := hE
  have hB0 := hB
  have hA0 := hA
  have hM0 := hM
  refine lv_aload_n hx hb dL_law_1579 rfl (lv_at hl 2 rfl) ?_
  refine lv_aload_n hx hb dL_law_1580 rfl (lv_at hl 3 rfl) ?_
  refine lv_iload_n hx hb dL_law_1581 rfl (lv_at hl 0 rfl) ?_
  refine lv_iconst (v := 1) hx hb dL_law_1582 (by decide) ?_
  refine lv_iadd hx hb dL_law_1583 ?_
  refine va_sld hx hb hX hbl hbA hI.S (lw_in (j := 1) (by decide) (by omega) hL) dL_law_1584 ?_
  have h3 := (q_bd hI hmo (rfl : q_bn 12 24 = (0, 3))).2
  refine q_ci (q_runV (As := [.int (xs (nI i + 1).toNatClampNeg)]) (rest := []) E (hml.trans hl.1.symm) hI (c_X11_quartet l X σ xo ((xs (nI i + 1).toNatClampNeg)) hxo) kl_207 hxo ⟨rfl, by decide⟩ (show vwCl[10]? = some (RX11, TX11, 17) from rfl) rfl ⟨Nat.le_of_ble_eq_true rfl, Nat.le_of_ble_eq_true rfl⟩ hcs rfl (Nat.le_of_ble_eq_true rfl) dL_law_1585) hI (by decide) (fun r1 σ1 H locs hp hk hI => ?_)
  obtain ⟨hex1, how1⟩ := hp
  have hp := True.intro
  have hB := lw_BK how1 hI.1 hxo hmo rfl rfl (how1.1 xo 5 (by rw [hxo]; rfl)) hB
  have hA1 := hA0.pre hal how1 rfl
  have hA := (hA.post hal how1 rfl).pre hal how1 rfl
  have hE := lw_EK hk (by decide) hxo hmo hE
  have hM := lw_kM hk hI.1 hmo (by decide) hM
  have hpp1 := hp
  have hMc := hM
  clear hp hk
  clear h3
  refine lv_pop hx hb dL_law_1588 rfl ?_
  refine lv_aload_n hx hb dL_law_1589 rfl (lv_at hl 1 rfl) ?_
  refine lv_aload_n hx hb dL_law_1590 rfl (lv_at hl 3 rfl) ?_
  refine lv_iload_n hx hb dL_law_1591 rfl (lv_at hl 0 rfl) ?_
  refine lv_iconst (v := 1) hx hb dL_law_1592 (by decide) ?_
  refine lv_iadd hx hb dL_law_1593 ?_
  refine va_sld hx hb hX hbl hbA hI.S (lw_in (j := 1) (by decide) (by omega) hL) dL_law_1594 ?_
  have h3 := (q_bd hI hmo (rfl : q_bn 12 24 = (0, 3))).2
  refine q_ci (q_runV (As := [.int (xs (nI i + 1).toNatClampNeg)]) (rest := []) E (hml.trans hl.1.symm) hI (c_X12_quartet l X σ1 mo ((xs (nI i + 1).toNatClampNeg)) hmo hM.1.1) kl_210 hmo ⟨rfl, by decide⟩ (show vwCl[11]? = some (RX12, TX12, 46) from rfl) rfl ⟨Nat.le_of_ble_eq_true rfl, Nat.le_of_ble_eq_true rfl⟩ hcs rfl (Nat.le_of_ble_eq_true rfl) dL_law_1595) hI (by decide) (fun r2 σ2 H locs hp hk hI => ?_)
  obtain ⟨hex2, how2⟩ := hp
  have hp := True.intro
  have hB := lw_BK how2 hI.1 hxo hmo rfl rfl (how2.1 xo 5 (by rw [hxo]; rfl)) hB
  have hA := (hA.post hal how2 rfl).pre hal how2 rfl
  have hE := lw_EK hk (by decide) hxo hmo hE
  have hM := lw_up (lw_kM hk hI.1 hmo (by decide) hM) (q_bd hI hmo (rfl : q_bn 12 24 = (0, 3))).2
  have hpp2 := hp
  clear hp hk
  clear h3
  refine lv_pop hx hb dL_law_1598 rfl ?_
  refine lv_goto (tgt := 1796) hx hb dL_law_1599 (by decide) ?_
  exact kk _ _ _ hI hM hE hB hA

set_option maxRecDepth 100000 in
set_option maxHeartbeats 4000000 in
theorem lw_c46 {p : Program} {l : Launch} {e : Env} {s : State} {m : MethodId} {below : List Frame} {meth : Method} {c : Code} {b L : Nat} {xs : Nat → Int32} {X : XW} {xo mo : Nat} {σ0 : ST} {cells slots : Nat} {Q : State → Prop} {lb : Nat → Nat} (hcl : tb_Cls X lb xo mo) (hal : al_C X lb xo mo) (E : q_E p c cL_law s m #[Value.ref b] RL X) (hX : va_X b L xs s s.heap) (hbl : b < s.heap.size) (hbA : ¬ q_reg X b) (hml : c.maxLocals = 4) (hxo : q_kd X xo = 11) (hmo : q_kd X mo = 12) (hcs : cells ≤ room_1.cells ∧ slots ≤ room_1.slots) (hL : L ≤ 3072) {i : Nat} (hi : i + 6 ≤ L) {n : Int} (hn : 0 ≤ n ∧ n ≤ 199000) {σ : ST} {H : Heap} {locs : List Loc} {ls : Array Slot} (hI : q_I X 0 σ0 s.heap locs σ H) (hM : m_M (m_c X σ mo) (σ.1 mo 24).toInt n) (hl : lv_has ls 4 [(3, .int (nI i)), (2, .ref mo), (1, .ref xo), (0, .ref b)]) (hE : lw_E xo mo σ) (hB : lw_B X xo mo σ) (hA : al_R X xo mo σ σ)
    (kk : ∀ (σ : ST) (H : Heap) (locs : List Loc), q_I X 0 σ0 s.heap locs σ H → m_M (m_c X σ mo) (σ.1 mo 24).toInt (n + 301) → lw_E xo mo σ → lw_B X xo mo σ → al_R X xo mo σ σ → W p l e room_1 s m #[Value.ref b] below meth c H locs cells slots Q (F0 m 1796 ls [])) : W p l e room_1 s m #[Value.ref b] below meth c H locs cells slots Q (F0 m 1602 ls []) := by
  have hx := E.1
  have hb := E.2.1
  have hI0 := hI
  have hE0 := hE
  have hB0 := hB
  have hA0 := hA
  have hM0 := hM
  refine lv_aload_n hx hb dL_law_1602 rfl (lv_at hl 2 rfl) ?_
  refine lv_aload_n hx hb dL_law_1603 rfl (lv_at hl 3 rfl) ?_
  refine lv_iload_n hx hb dL_law_1604 rfl (lv_at hl 0 rfl) ?_
  refine lv_iconst (v := 1) hx hb dL_law_1605 (by decide) ?_
  refine lv_iadd hx hb dL_law_1606 ?_
  refine va_sld hx hb hX hbl hbA hI.S (lw_in (j := 1) (by decide) (by omega) hL) dL_law_1607 ?_
  have h3 := (q_bd hI hmo (rfl : q_bn 12 24 = (0, 3))).2
  refine q_ci (q_runV (As := [.int (xs (nI i + 1).toNatClampNeg)]) (rest := []) E (hml.trans hl.1.symm) hI (c_X11_sorts l X σ xo ((xs (nI i + 1).toNatClampNeg)) hxo) kl_211 hxo ⟨rfl, by decide⟩ (show vwCl[10]? = some (RX11, TX11, 17) from rfl) rfl ⟨Nat.le_of_ble_eq_true rfl, Nat.le_of_ble_eq_true rfl⟩ hcs rfl (Nat.le_of_ble_eq_true rfl) dL_law_1608) hI (by decide) (fun r1 σ1 H locs hp hk hI => ?_)
  obtain ⟨hex1, how1⟩ := hp
  have hp := True.intro
  have hB := lw_BK how1 hI.1 hxo hmo rfl rfl (how1.1 xo 5 (by rw [hxo]; rfl)) hB
  have hA1 := hA0.pre hal how1 rfl
  have hA := (hA.post hal how1 rfl).pre hal how1 rfl
  have hE := lw_EK hk (by decide) hxo hmo hE
  have hM := lw_kM hk hI.1 hmo (by decide) hM
  have hpp1 := hp
  have hMc := hM
  clear hp hk
  clear h3
  refine lv_pop hx hb dL_law_1611 rfl ?_
  refine lv_aload_n hx hb dL_law_1612 rfl (lv_at hl 1 rfl) ?_
  refine lv_aload_n hx hb dL_law_1613 rfl (lv_at hl 3 rfl) ?_
  refine lv_iload_n hx hb dL_law_1614 rfl (lv_at hl 0 rfl) ?_
  refine lv_iconst (v := 1) hx hb dL_law_1615 (by decide) ?_
  refine lv_iadd hx hb dL_law_1616 ?_
  refine va_sld hx hb hX hbl hbA hI.S (lw_in (j := 1) (by decide) (by omega) hL) dL_law_1617 ?_
  have h3 := (q_bd hI hmo (rfl : q_bn 12 24 = (0, 3))).2
  refine q_ci (q_runV (As := [.int (xs (nI i + 1).toNatClampNeg)]) (rest := []) E (hml.trans hl.1.symm) hI (c_X12_sorts l X σ1 mo ((xs (nI i + 1).toNatClampNeg)) hmo hM.1.1) kl_214 hmo ⟨rfl, by decide⟩ (show vwCl[11]? = some (RX12, TX12, 46) from rfl) rfl ⟨Nat.le_of_ble_eq_true rfl, Nat.le_of_ble_eq_true rfl⟩ hcs rfl (Nat.le_of_ble_eq_true rfl) dL_law_1618) hI (by decide) (fun r2 σ2 H locs hp hk hI => ?_)
  obtain ⟨hex2, how2⟩ := hp
  have hp := True.intro
  have hB := lw_BK how2 hI.1 hxo hmo rfl rfl (how2.1 xo 5 (by rw [hxo]; rfl)) hB
  have hA := (hA.post hal how2 rfl).pre hal how2 rfl
  have hE := lw_EK hk (by decide) hxo hmo hE
  have hM := lw_up (lw_kM hk hI.1 hmo (by decide) hM) (q_bd hI hmo (rfl : q_bn 12 24 = (0, 3))).2
  have hpp2 := hp
  clear hp hk
  clear h3
  refine lv_pop hx hb dL_law_1621 rfl ?_
  refine lv_goto (tgt := 1796) hx hb dL_law_1622 (by decide) ?_
  exact kk _ _ _ hI hM hE hB hA

set_option maxRecDepth 100000 in
set_option maxHeartbeats 4000000 in
theorem lw_c47 {p : Program} {l : Launch} {e : Env} {s : State} {m : MethodId} {below : List Frame} {meth : Method} {c : Code} {b L : Nat} {xs : Nat → Int32} {X : XW} {xo mo : Nat} {σ0 : ST} {cells slots : Nat} {Q : State → Prop} {lb : Nat → Nat} (hcl : tb_Cls X lb xo mo) (hal : al_C X lb xo mo) (E : q_E p c cL_law s m #[Value.ref b] RL X) (hX : va_X b L xs s s.heap) (hbl : b < s.heap.size) (hbA : ¬ q_reg X b) (hml : c.maxLocals = 4) (hxo : q_kd X xo = 11) (hmo : q_kd X mo = 12) (hcs : cells ≤ room_1.cells ∧ slots ≤ room_1.slots) (hL : L ≤ 3072) {i : Nat} (hi : i + 6 ≤ L) {n : Int} (hn : 0 ≤ n ∧ n ≤ 199000) {σ : ST} {H : Heap} {locs : List Loc} {ls : Array Slot} (hI : q_I X 0 σ0 s.heap locs σ H) (hM : m_M (m_c X σ mo) (σ.1 mo 24).toInt n) (hl : lv_has ls 4 [(3, .int (nI i)), (2, .ref mo), (1, .ref xo), (0, .ref b)]) (hE : lw_E xo mo σ) (hB : lw_B X xo mo σ) (hA : al_R X xo mo σ σ)
    (kk : ∀ (σ : ST) (H : Heap) (locs : List Loc), q_I X 0 σ0 s.heap locs σ H → m_M (m_c X σ mo) (σ.1 mo 24).toInt (n + 301) → lw_E xo mo σ → lw_B X xo mo σ → al_R X xo mo σ σ → W p l e room_1 s m #[Value.ref b] below meth c H locs cells slots Q (F0 m 1796 ls [])) : W p l e room_1 s m #[Value.ref b] below meth c H locs cells slots Q (F0 m 1625 ls []) := by
  have hx := E.1
  have hb := E.2.1
  have hI0 := hI
  have hE0 := hE
  have hB0 := hB
  have hA0 := hA
  have hM0 := hM
  refine lv_aload_n hx hb dL_law_1625 rfl (lv_at hl 2 rfl) ?_
  have h3 := (q_bd hI hmo (rfl : q_bn 12 24 = (0, 3))).2
  refine q_ci (q_runV (As := []) (rest := []) E (hml.trans hl.1.symm) hI (c_X11_liar l X σ xo hxo) kl_215 hxo ⟨rfl, by decide⟩ (show vwCl[10]? = some (RX11, TX11, 17) from rfl) rfl ⟨Nat.le_of_ble_eq_true rfl, Nat.le_of_ble_eq_true rfl⟩ hcs rfl (Nat.le_of_ble_eq_true rfl) dL_law_1626) hI (by decide) (fun r1 σ1 H locs hp hk hI => ?_)
  obtain ⟨hex1, how1⟩ := hp
  have hp := True.intro
  have hB := lw_BK how1 hI.1 hxo hmo rfl rfl (how1.1 xo 5 (by rw [hxo]; rfl)) hB
  have hA1 := hA0.pre hal how1 rfl
  have hA := (hA.post hal how1 rfl).pre hal how1 rfl
  have hE := lw_EK hk (by decide) hxo hmo hE
  have hM := lw_kM hk hI.1 hmo (by decide) hM
  have hpp1 := hp
  have hMc := hM
  clear hp hk
  clear h3
  refine lv_pop hx hb dL_law_1629 rfl ?_
  refine lv_aload_n hx hb dL_law_1630 rfl (lv_at hl 1 rfl) ?_
  have h3 := (q_bd hI hmo (rfl : q_bn 12 24 = (0, 3))).2
  refine q_ci (q_runV (As := []) (rest := []) E (hml.trans hl.1.symm) hI (c_X12_liar l X σ1 mo hmo hM.1.1) kl_218 hmo ⟨rfl, by decide⟩ (show vwCl[11]? = some (RX12, TX12, 46) from rfl) rfl ⟨Nat.le_of_ble_eq_true rfl, Nat.le_of_ble_eq_true rfl⟩ hcs rfl (Nat.le_of_ble_eq_true rfl) dL_law_1631) hI (by decide) (fun r2 σ2 H locs hp hk hI => ?_)
  obtain ⟨hex2, how2⟩ := hp
  have hp := True.intro
  have hB := lw_BK how2 hI.1 hxo hmo rfl rfl (how2.1 xo 5 (by rw [hxo]; rfl)) hB
  have hA := (hA.post hal how2 rfl).pre hal how2 rfl
  have hE := lw_EK hk (by decide) hxo hmo hE
  have hM := lw_up (lw_kM hk hI.1 hmo (by decide) hM) (q_bd hI hmo (rfl : q_bn 12 24 = (0, 3))).2
  have hpp2 := hp
  clear hp hk
  clear h3
  refine lv_pop hx hb dL_law_1634 rfl ?_
  refine lv_goto (tgt := 1796) hx hb dL_law_1635 (by decide) ?_
  exact kk _ _ _ hI hM hE hB hA

set_option maxRecDepth 100000 in
set_option maxHeartbeats 4000000 in
theorem lw_c48 {p : Program} {l : Launch} {e : Env} {s : State} {m : MethodId} {below : List Frame} {meth : Method} {c : Code} {b L : Nat} {xs : Nat → Int32} {X : XW} {xo mo : Nat} {σ0 : ST} {cells slots : Nat} {Q : State → Prop} {lb : Nat → Nat} (hcl : tb_Cls X lb xo mo) (hal : al_C X lb xo mo) (E : q_E p c cL_law s m #[Value.ref b] RL X) (hX : va_X b L xs s s.heap) (hbl : b < s.heap.size) (hbA : ¬ q_reg X b) (hml : c.maxLocals = 4) (hxo : q_kd X xo = 11) (hmo : q_kd X mo = 12) (hcs : cells ≤ room_1.cells ∧ slots ≤ room_1.slots) (hL : L ≤ 3072) {i : Nat} (hi : i + 6 ≤ L) {n : Int} (hn : 0 ≤ n ∧ n ≤ 199000) {σ : ST} {H : Heap} {locs : List Loc} {ls : Array Slot} (hI : q_I X 0 σ0 s.heap locs σ H) (hM : m_M (m_c X σ mo) (σ.1 mo 24).toInt n) (hl : lv_has ls 4 [(3, .int (nI i)), (2, .ref mo), (1, .ref xo), (0, .ref b)]) (hE : lw_E xo mo σ) (hB : lw_B X xo mo σ) (hA : al_R X xo mo σ σ)
    (kk : ∀ (σ : ST) (H : Heap) (locs : List Loc), q_I X 0 σ0 s.heap locs σ H → m_M (m_c X σ mo) (σ.1 mo 24).toInt (n + 301) → lw_E xo mo σ → lw_B X xo mo σ → al_R X xo mo σ σ → W p l e room_1 s m #[Value.ref b] below meth c H locs cells slots Q (F0 m 1796 ls [])) : W p l e room_1 s m #[Value.ref b] below meth c H locs cells slots Q (F0 m 1638 ls []) := by
  have hx := E.1
  have hb := E.2.1
  have hI0 := hI
  have hE0 := hE
  have hB0 := hB
  have hA0 := hA
  have hM0 := hM
  refine lv_aload_n hx hb dL_law_1638 rfl (lv_at hl 2 rfl) ?_
  refine lv_aload_n hx hb dL_law_1639 rfl (lv_at hl 3 rfl) ?_
  refine lv_iload_n hx hb dL_law_1640 rfl (lv_at hl 0 rfl) ?_
  refine lv_iconst (v := 1) hx hb dL_law_1641 (by decide) ?_
  refine lv_iadd hx hb dL_law_1642 ?_
  refine va_sld hx hb hX hbl hbA hI.S (lw_in (j := 1) (by decide) (by omega) hL) dL_law_1643 ?_
  have h3 := (q_bd hI hmo (rfl : q_bn 12 24 = (0, 3))).2
  refine q_ci (q_runV (As := [.int (xs (nI i + 1).toNatClampNeg)]) (rest := []) E (hml.trans hl.1.symm) hI (c_X11_play l X σ xo ((xs (nI i + 1).toNatClampNeg)) hxo) kl_219 hxo ⟨rfl, by decide⟩ (show vwCl[10]? = some (RX11, TX11, 17) from rfl) rfl ⟨Nat.le_of_ble_eq_true rfl, Nat.le_of_ble_eq_true rfl⟩ hcs rfl (Nat.le_of_ble_eq_true rfl) dL_law_1644) hI (by decide) (fun r1 σ1 H locs hp hk hI => ?_)
  obtain ⟨hex1, how1⟩ := hp
  have hp := True.intro
  have hB := lw_BK how1 hI.1 hxo hmo rfl rfl (how1.1 xo 5 (by rw [hxo]; rfl)) hB
  have hA1 := hA0.pre hal how1 rfl
  have hE := lw_EK hk (by decide) hxo hmo hE
  have hM := lw_kM hk hI.1 hmo (by decide) hM
  have hpp1 := hp
  have hMc := hM
  clear hp hk
  clear h3
  refine lv_pop hx hb dL_law_1647 rfl ?_
  refine lv_aload_n hx hb dL_law_1648 rfl (lv_at hl 1 rfl) ?_
  refine lv_aload_n hx hb dL_law_1649 rfl (lv_at hl 3 rfl) ?_
  refine lv_iload_n hx hb dL_law_1650 rfl (lv_at hl 0 rfl) ?_
  refine lv_iconst (v := 1) hx hb dL_law_1651 (by decide) ?_
  refine lv_iadd hx hb dL_law_1652 ?_
  refine va_sld hx hb hX hbl hbA hI.S (lw_in (j := 1) (by decide) (by omega) hL) dL_law_1653 ?_
  have h3 := (q_bd hI hmo (rfl : q_bn 12 24 = (0, 3))).2
  refine q_ci (q_runV (As := [.int (xs (nI i + 1).toNatClampNeg)]) (rest := []) E (hml.trans hl.1.symm) hI (c_X12_play l X σ1 mo ((xs (nI i + 1).toNatClampNeg)) n hmo hM.1.1 hM.1.2 hn) kl_222 hmo ⟨rfl, by decide⟩ (show vwCl[11]? = some (RX12, TX12, 46) from rfl) rfl ⟨Nat.le_of_ble_eq_true rfl, Nat.le_of_ble_eq_true rfl⟩ hcs rfl (Nat.le_of_ble_eq_true rfl) dL_law_1654) hI (by decide) (fun r2 σ2 H locs hp hk hI => ?_)
  obtain ⟨pq0, pq1, pq2, hex2, how2⟩ := hp
  have hp := And.intro pq0 (And.intro pq1 pq2)
  have hB := lw_BK how2 hI.1 hxo hmo rfl rfl (how2.1 xo 5 (by rw [hxo]; rfl)) hB
  have hO := lw_Aob hal (al_play hal hA1 hMc (by omega) ((xs (nI i + 1).toNatClampNeg))).1 hex1 hex2 how2 rfl
  have hA := hO.2
  have hE := lw_EK hk (by decide) hxo hmo hE
  have hM := lw_wr (hk mo 24 (by rw [hmo]; decide)) hp.1 hp.2.1 hp.2.2 hM h3 (by omega)
  have hpp2 := hp
  clear hp hk
  clear h3
  refine lv_pop hx hb dL_law_1657 rfl ?_
  refine lv_goto (tgt := 1796) hx hb dL_law_1658 (by decide) ?_
  exact kk _ _ _ hI hM hE hB hA

set_option maxRecDepth 100000 in
set_option maxHeartbeats 4000000 in
theorem lw_c49 {p : Program} {l : Launch} {e : Env} {s : State} {m : MethodId} {below : List Frame} {meth : Method} {c : Code} {b L : Nat} {xs : Nat → Int32} {X : XW} {xo mo : Nat} {σ0 : ST} {cells slots : Nat} {Q : State → Prop} {lb : Nat → Nat} (hcl : tb_Cls X lb xo mo) (hal : al_C X lb xo mo) (E : q_E p c cL_law s m #[Value.ref b] RL X) (hX : va_X b L xs s s.heap) (hbl : b < s.heap.size) (hbA : ¬ q_reg X b) (hml : c.maxLocals = 4) (hxo : q_kd X xo = 11) (hmo : q_kd X mo = 12) (hcs : cells ≤ room_1.cells ∧ slots ≤ room_1.slots) (hL : L ≤ 3072) {i : Nat} (hi : i + 6 ≤ L) {n : Int} (hn : 0 ≤ n ∧ n ≤ 199000) {σ : ST} {H : Heap} {locs : List Loc} {ls : Array Slot} (hI : q_I X 0 σ0 s.heap locs σ H) (hM : m_M (m_c X σ mo) (σ.1 mo 24).toInt n) (hl : lv_has ls 4 [(3, .int (nI i)), (2, .ref mo), (1, .ref xo), (0, .ref b)]) (hE : lw_E xo mo σ) (hB : lw_B X xo mo σ) (hA : al_R X xo mo σ σ)
    (kk : ∀ (σ : ST) (H : Heap) (locs : List Loc), q_I X 0 σ0 s.heap locs σ H → m_M (m_c X σ mo) (σ.1 mo 24).toInt (n + 301) → lw_E xo mo σ → lw_B X xo mo σ → al_R X xo mo σ σ → W p l e room_1 s m #[Value.ref b] below meth c H locs cells slots Q (F0 m 1796 ls [])) : W p l e room_1 s m #[Value.ref b] below meth c H locs cells slots Q (F0 m 1661 ls []) := by
  have hx := E.1
  have hb := E.2.1
  have hI0 := hI
  have hE0 := hE
  have hB0 := hB
  have hA0 := hA
  have hM0 := hM
  refine lv_aload_n hx hb dL_law_1661 rfl (lv_at hl 2 rfl) ?_
  refine lv_aload_n hx hb dL_law_1662 rfl (lv_at hl 3 rfl) ?_
  refine lv_iload_n hx hb dL_law_1663 rfl (lv_at hl 0 rfl) ?_
  refine lv_iconst (v := 1) hx hb dL_law_1664 (by decide) ?_
  refine lv_iadd hx hb dL_law_1665 ?_
  refine va_sld hx hb hX hbl hbA hI.S (lw_in (j := 1) (by decide) (by omega) hL) dL_law_1666 ?_
  have h3 := (q_bd hI hmo (rfl : q_bn 12 24 = (0, 3))).2
  refine q_ci (q_runV (As := [.int (xs (nI i + 1).toNatClampNeg)]) (rest := []) E (hml.trans hl.1.symm) hI (c_X11_played l X σ xo ((xs (nI i + 1).toNatClampNeg)) hxo) kl_223 hxo ⟨rfl, by decide⟩ (show vwCl[10]? = some (RX11, TX11, 17) from rfl) rfl ⟨Nat.le_of_ble_eq_true rfl, Nat.le_of_ble_eq_true rfl⟩ hcs rfl (Nat.le_of_ble_eq_true rfl) dL_law_1667) hI (by decide) (fun r1 σ1 H locs hp hk hI => ?_)
  obtain ⟨hex1, how1⟩ := hp
  have hp := True.intro
  have hB := lw_BK how1 hI.1 hxo hmo rfl rfl (how1.1 xo 5 (by rw [hxo]; rfl)) hB
  have hA1 := hA0.pre hal how1 rfl
  have hA := (hA.post hal how1 rfl).pre hal how1 rfl
  have hE := lw_EK hk (by decide) hxo hmo hE
  have hM := lw_kM hk hI.1 hmo (by decide) hM
  have hpp1 := hp
  have hMc := hM
  clear hp hk
  clear h3
  refine lv_pop hx hb dL_law_1670 rfl ?_
  refine lv_aload_n hx hb dL_law_1671 rfl (lv_at hl 1 rfl) ?_
  refine lv_aload_n hx hb dL_law_1672 rfl (lv_at hl 3 rfl) ?_
  refine lv_iload_n hx hb dL_law_1673 rfl (lv_at hl 0 rfl) ?_
  refine lv_iconst (v := 1) hx hb dL_law_1674 (by decide) ?_
  refine lv_iadd hx hb dL_law_1675 ?_
  refine va_sld hx hb hX hbl hbA hI.S (lw_in (j := 1) (by decide) (by omega) hL) dL_law_1676 ?_
  have h3 := (q_bd hI hmo (rfl : q_bn 12 24 = (0, 3))).2
  refine q_ci (q_runV (As := [.int (xs (nI i + 1).toNatClampNeg)]) (rest := []) E (hml.trans hl.1.symm) hI (c_X12_played l X σ1 mo ((xs (nI i + 1).toNatClampNeg)) hmo hM.1.1) kl_226 hmo ⟨rfl, by decide⟩ (show vwCl[11]? = some (RX12, TX12, 46) from rfl) rfl ⟨Nat.le_of_ble_eq_true rfl, Nat.le_of_ble_eq_true rfl⟩ hcs rfl (Nat.le_of_ble_eq_true rfl) dL_law_1677) hI (by decide) (fun r2 σ2 H locs hp hk hI => ?_)
  obtain ⟨hex2, how2⟩ := hp
  have hp := True.intro
  have hB := lw_BK how2 hI.1 hxo hmo rfl rfl (how2.1 xo 5 (by rw [hxo]; rfl)) hB
  have hA := (hA.post hal how2 rfl).pre hal how2 rfl
  have hE := lw_EK hk (by decide) hxo hmo hE
  have hM := lw_up (lw_kM hk hI.1 hmo (by decide) hM) (q_bd hI hmo (rfl : q_bn 12 24 = (0, 3))).2
  have hpp2 := hp
  clear hp hk
  clear h3
  refine lv_pop hx hb dL_law_1680 rfl ?_
  refine lv_goto (tgt := 1796) hx hb dL_law_1681 (by decide) ?_
  exact kk _ _ _ hI hM hE hB hA

set_option maxRecDepth 100000 in
set_option maxHeartbeats 4000000 in
theorem lw_c50 {p : Program} {l : Launch} {e : Env} {s : State} {m : MethodId} {below : List Frame} {meth : Method} {c : Code} {b L : Nat} {xs : Nat → Int32} {X : XW} {xo mo : Nat} {σ0 : ST} {cells slots : Nat} {Q : State → Prop} {lb : Nat → Nat} (hcl : tb_Cls X lb xo mo) (hal : al_C X lb xo mo) (E : q_E p c cL_law s m #[Value.ref b] RL X) (hX : va_X b L xs s s.heap) (hbl : b < s.heap.size) (hbA : ¬ q_reg X b) (hml : c.maxLocals = 4) (hxo : q_kd X xo = 11) (hmo : q_kd X mo = 12) (hcs : cells ≤ room_1.cells ∧ slots ≤ room_1.slots) (hL : L ≤ 3072) {i : Nat} (hi : i + 6 ≤ L) {n : Int} (hn : 0 ≤ n ∧ n ≤ 199000) {σ : ST} {H : Heap} {locs : List Loc} {ls : Array Slot} (hI : q_I X 0 σ0 s.heap locs σ H) (hM : m_M (m_c X σ mo) (σ.1 mo 24).toInt n) (hl : lv_has ls 4 [(3, .int (nI i)), (2, .ref mo), (1, .ref xo), (0, .ref b)]) (hE : lw_E xo mo σ) (hB : lw_B X xo mo σ) (hA : al_R X xo mo σ σ)
    (kk : ∀ (σ : ST) (H : Heap) (locs : List Loc), q_I X 0 σ0 s.heap locs σ H → m_M (m_c X σ mo) (σ.1 mo 24).toInt (n + 301) → lw_E xo mo σ → lw_B X xo mo σ → al_R X xo mo σ σ → W p l e room_1 s m #[Value.ref b] below meth c H locs cells slots Q (F0 m 1796 ls [])) : W p l e room_1 s m #[Value.ref b] below meth c H locs cells slots Q (F0 m 1684 ls []) := by
  have hx := E.1
  have hb := E.2.1
  have hI0 := hI
  have hE0 := hE
  have hB0 := hB
  have hA0 := hA
  have hM0 := hM
  refine lv_aload_n hx hb dL_law_1684 rfl (lv_at hl 2 rfl) ?_
  refine lv_aload_n hx hb dL_law_1685 rfl (lv_at hl 3 rfl) ?_
  refine lv_iload_n hx hb dL_law_1686 rfl (lv_at hl 0 rfl) ?_
  refine lv_iconst (v := 1) hx hb dL_law_1687 (by decide) ?_
  refine lv_iadd hx hb dL_law_1688 ?_
  refine va_sld hx hb hX hbl hbA hI.S (lw_in (j := 1) (by decide) (by omega) hL) dL_law_1689 ?_
  refine lv_aload_n hx hb dL_law_1690 rfl (lv_at hl 3 rfl) ?_
  refine lv_iload_n hx hb dL_law_1691 rfl (lv_at hl 0 rfl) ?_
  refine lv_iconst (v := 2) hx hb dL_law_1692 (by decide) ?_
  refine lv_iadd hx hb dL_law_1693 ?_
  refine va_sld hx hb hX hbl hbA hI.S (lw_in (j := 2) (by decide) (by omega) hL) dL_law_1694 ?_
  refine lv_aload_n hx hb dL_law_1695 rfl (lv_at hl 3 rfl) ?_
  refine lv_iload_n hx hb dL_law_1696 rfl (lv_at hl 0 rfl) ?_
  refine lv_iconst (v := 3) hx hb dL_law_1697 (by decide) ?_
  refine lv_iadd hx hb dL_law_1698 ?_
  refine va_sld hx hb hX hbl hbA hI.S (lw_in (j := 3) (by decide) (by omega) hL) dL_law_1699 ?_
  have h3 := (q_bd hI hmo (rfl : q_bn 12 24 = (0, 3))).2
  refine q_ci (q_runV (As := [.int (xs (nI i + 1).toNatClampNeg), .int (xs (nI i + 2).toNatClampNeg), .int (xs (nI i + 3).toNatClampNeg)]) (rest := []) E (hml.trans hl.1.symm) hI (c_X11_wins l X σ xo ((xs (nI i + 1).toNatClampNeg)) ((xs (nI i + 2).toNatClampNeg)) ((xs (nI i + 3).toNatClampNeg)) hxo) kl_227 hxo ⟨rfl, by decide⟩ (show vwCl[10]? = some (RX11, TX11, 17) from rfl) rfl ⟨Nat.le_of_ble_eq_true rfl, Nat.le_of_ble_eq_true rfl⟩ hcs rfl (Nat.le_of_ble_eq_true rfl) dL_law_1700) hI (by decide) (fun r1 σ1 H locs hp hk hI => ?_)
  obtain ⟨pq0, hex1, how1⟩ := hp
  have hp := pq0
  have hB := lw_BK how1 hI.1 hxo hmo rfl rfl (how1.1 xo 5 (by rw [hxo]; rfl)) hB
  have hA1 := hA0.pre hal how1 rfl
  have hE := lw_EK hk (by decide) hxo hmo hE
  have hM := lw_kM hk hI.1 hmo (by decide) hM
  have hpp1 := hp
  have hMc := hM
  clear hp hk
  clear h3
  refine lv_pop hx hb dL_law_1703 rfl ?_
  refine lv_aload_n hx hb dL_law_1704 rfl (lv_at hl 1 rfl) ?_
  refine lv_aload_n hx hb dL_law_1705 rfl (lv_at hl 3 rfl) ?_
  refine lv_iload_n hx hb dL_law_1706 rfl (lv_at hl 0 rfl) ?_
  refine lv_iconst (v := 1) hx hb dL_law_1707 (by decide) ?_
  refine lv_iadd hx hb dL_law_1708 ?_
  refine va_sld hx hb hX hbl hbA hI.S (lw_in (j := 1) (by decide) (by omega) hL) dL_law_1709 ?_
  refine lv_aload_n hx hb dL_law_1710 rfl (lv_at hl 3 rfl) ?_
  refine lv_iload_n hx hb dL_law_1711 rfl (lv_at hl 0 rfl) ?_
  refine lv_iconst (v := 2) hx hb dL_law_1712 (by decide) ?_
  refine lv_iadd hx hb dL_law_1713 ?_
  refine va_sld hx hb hX hbl hbA hI.S (lw_in (j := 2) (by decide) (by omega) hL) dL_law_1714 ?_
  refine lv_aload_n hx hb dL_law_1715 rfl (lv_at hl 3 rfl) ?_
  refine lv_iload_n hx hb dL_law_1716 rfl (lv_at hl 0 rfl) ?_
  refine lv_iconst (v := 3) hx hb dL_law_1717 (by decide) ?_
  refine lv_iadd hx hb dL_law_1718 ?_
  refine va_sld hx hb hX hbl hbA hI.S (lw_in (j := 3) (by decide) (by omega) hL) dL_law_1719 ?_
  have h3 := (q_bd hI hmo (rfl : q_bn 12 24 = (0, 3))).2
  refine q_ci (q_runV (As := [.int (xs (nI i + 1).toNatClampNeg), .int (xs (nI i + 2).toNatClampNeg), .int (xs (nI i + 3).toNatClampNeg)]) (rest := []) E (hml.trans hl.1.symm) hI (c_X12_wins l X σ1 mo ((xs (nI i + 1).toNatClampNeg)) ((xs (nI i + 2).toNatClampNeg)) ((xs (nI i + 3).toNatClampNeg)) n hmo hM.1.1 hM.1.2 hn) kl_230 hmo ⟨rfl, by decide⟩ (show vwCl[11]? = some (RX12, TX12, 46) from rfl) rfl ⟨Nat.le_of_ble_eq_true rfl, Nat.le_of_ble_eq_true rfl⟩ hcs rfl (Nat.le_of_ble_eq_true rfl) dL_law_1720) hI (by decide) (fun r2 σ2 H locs hp hk hI => ?_)
  obtain ⟨pq0, pq1, hex2, how2⟩ := hp
  have hp := And.intro pq0 pq1
  have hB := lw_BK how2 hI.1 hxo hmo rfl rfl (how2.1 xo 5 (by rw [hxo]; rfl)) hB
  have hO := lw_Aob hal (al_tries hal hA1 hMc (by omega) ((xs (nI i + 1).toNatClampNeg)) ((xs (nI i + 2).toNatClampNeg)) ((xs (nI i + 3).toNatClampNeg))).1 hex1 hex2 how2 rfl
  have hA := hO.2
  have hE := lw_EK hk (by decide) hxo hmo hE
  have hM := lw_up (lw_kC (hk mo 24 (by rw [hmo]; decide)) hp.2 hM) (q_bd hI hmo (rfl : q_bn 12 24 = (0, 3))).2
  have hpp2 := hp
  clear hp hk
  clear h3
  refine lv_pop hx hb dL_law_1723 rfl ?_
  refine lv_goto (tgt := 1796) hx hb dL_law_1724 (by decide) ?_
  exact kk _ _ _ hI hM hE hB hA

set_option maxRecDepth 100000 in
set_option maxHeartbeats 4000000 in
theorem lw_c51 {p : Program} {l : Launch} {e : Env} {s : State} {m : MethodId} {below : List Frame} {meth : Method} {c : Code} {b L : Nat} {xs : Nat → Int32} {X : XW} {xo mo : Nat} {σ0 : ST} {cells slots : Nat} {Q : State → Prop} {lb : Nat → Nat} (hcl : tb_Cls X lb xo mo) (hal : al_C X lb xo mo) (E : q_E p c cL_law s m #[Value.ref b] RL X) (hX : va_X b L xs s s.heap) (hbl : b < s.heap.size) (hbA : ¬ q_reg X b) (hml : c.maxLocals = 4) (hxo : q_kd X xo = 11) (hmo : q_kd X mo = 12) (hcs : cells ≤ room_1.cells ∧ slots ≤ room_1.slots) (hL : L ≤ 3072) {i : Nat} (hi : i + 6 ≤ L) {n : Int} (hn : 0 ≤ n ∧ n ≤ 199000) {σ : ST} {H : Heap} {locs : List Loc} {ls : Array Slot} (hI : q_I X 0 σ0 s.heap locs σ H) (hM : m_M (m_c X σ mo) (σ.1 mo 24).toInt n) (hl : lv_has ls 4 [(3, .int (nI i)), (2, .ref mo), (1, .ref xo), (0, .ref b)]) (hE : lw_E xo mo σ) (hB : lw_B X xo mo σ) (hA : al_R X xo mo σ σ)
    (kk : ∀ (σ : ST) (H : Heap) (locs : List Loc), q_I X 0 σ0 s.heap locs σ H → m_M (m_c X σ mo) (σ.1 mo 24).toInt (n + 301) → lw_E xo mo σ → lw_B X xo mo σ → al_R X xo mo σ σ → W p l e room_1 s m #[Value.ref b] below meth c H locs cells slots Q (F0 m 1796 ls [])) : W p l e room_1 s m #[Value.ref b] below meth c H locs cells slots Q (F0 m 1727 ls []) := by
  have hx := E.1
  have hb := E.2.1
  have hI0 := hI
  have hE0 := hE
  have hB0 := hB
  have hA0 := hA
  have hM0 := hM
  refine lv_aload_n hx hb dL_law_1727 rfl (lv_at hl 2 rfl) ?_
  refine lv_aload_n hx hb dL_law_1728 rfl (lv_at hl 3 rfl) ?_
  refine lv_iload_n hx hb dL_law_1729 rfl (lv_at hl 0 rfl) ?_
  refine lv_iconst (v := 1) hx hb dL_law_1730 (by decide) ?_
  refine lv_iadd hx hb dL_law_1731 ?_
  refine va_sld hx hb hX hbl hbA hI.S (lw_in (j := 1) (by decide) (by omega) hL) dL_law_1732 ?_
  refine lv_aload_n hx hb dL_law_1733 rfl (lv_at hl 3 rfl) ?_
  refine lv_iload_n hx hb dL_law_1734 rfl (lv_at hl 0 rfl) ?_
  refine lv_iconst (v := 2) hx hb dL_law_1735 (by decide) ?_
  refine lv_iadd hx hb dL_law_1736 ?_
  refine va_sld hx hb hX hbl hbA hI.S (lw_in (j := 2) (by decide) (by omega) hL) dL_law_1737 ?_
  refine lv_aload_n hx hb dL_law_1738 rfl (lv_at hl 3 rfl) ?_
  refine lv_iload_n hx hb dL_law_1739 rfl (lv_at hl 0 rfl) ?_
  refine lv_iconst (v := 3) hx hb dL_law_1740 (by decide) ?_
  refine lv_iadd hx hb dL_law_1741 ?_
  refine va_sld hx hb hX hbl hbA hI.S (lw_in (j := 3) (by decide) (by omega) hL) dL_law_1742 ?_
  have h3 := (q_bd hI hmo (rfl : q_bn 12 24 = (0, 3))).2
  refine q_ci (q_runV (As := [.int (xs (nI i + 1).toNatClampNeg), .int (xs (nI i + 2).toNatClampNeg), .int (xs (nI i + 3).toNatClampNeg)]) (rest := []) E (hml.trans hl.1.symm) hI (c_X11_left l X σ xo ((xs (nI i + 1).toNatClampNeg)) ((xs (nI i + 2).toNatClampNeg)) ((xs (nI i + 3).toNatClampNeg)) hxo) kl_231 hxo ⟨rfl, by decide⟩ (show vwCl[10]? = some (RX11, TX11, 17) from rfl) rfl ⟨Nat.le_of_ble_eq_true rfl, Nat.le_of_ble_eq_true rfl⟩ hcs rfl (Nat.le_of_ble_eq_true rfl) dL_law_1743) hI (by decide) (fun r1 σ1 H locs hp hk hI => ?_)
  obtain ⟨pq0, hex1, how1⟩ := hp
  have hp := pq0
  have hB := lw_BK how1 hI.1 hxo hmo rfl rfl (how1.1 xo 5 (by rw [hxo]; rfl)) hB
  have hA1 := hA0.pre hal how1 rfl
  have hE := lw_EK hk (by decide) hxo hmo hE
  have hM := lw_kM hk hI.1 hmo (by decide) hM
  have hpp1 := hp
  have hMc := hM
  clear hp hk
  clear h3
  refine lv_pop hx hb dL_law_1746 rfl ?_
  refine lv_aload_n hx hb dL_law_1747 rfl (lv_at hl 1 rfl) ?_
  refine lv_aload_n hx hb dL_law_1748 rfl (lv_at hl 3 rfl) ?_
  refine lv_iload_n hx hb dL_law_1749 rfl (lv_at hl 0 rfl) ?_
  refine lv_iconst (v := 1) hx hb dL_law_1750 (by decide) ?_
  refine lv_iadd hx hb dL_law_1751 ?_
  refine va_sld hx hb hX hbl hbA hI.S (lw_in (j := 1) (by decide) (by omega) hL) dL_law_1752 ?_
  refine lv_aload_n hx hb dL_law_1753 rfl (lv_at hl 3 rfl) ?_
  refine lv_iload_n hx hb dL_law_1754 rfl (lv_at hl 0 rfl) ?_
  refine lv_iconst (v := 2) hx hb dL_law_1755 (by decide) ?_
  refine lv_iadd hx hb dL_law_1756 ?_
  refine va_sld hx hb hX hbl hbA hI.S (lw_in (j := 2) (by decide) (by omega) hL) dL_law_1757 ?_
  refine lv_aload_n hx hb dL_law_1758 rfl (lv_at hl 3 rfl) ?_
  refine lv_iload_n hx hb dL_law_1759 rfl (lv_at hl 0 rfl) ?_
  refine lv_iconst (v := 3) hx hb dL_law_1760 (by decide) ?_
  refine lv_iadd hx hb dL_law_1761 ?_
  refine va_sld hx hb hX hbl hbA hI.S (lw_in (j := 3) (by decide) (by omega) hL) dL_law_1762 ?_
  have h3 := (q_bd hI hmo (rfl : q_bn 12 24 = (0, 3))).2
  refine q_ci (q_runV (As := [.int (xs (nI i + 1).toNatClampNeg), .int (xs (nI i + 2).toNatClampNeg), .int (xs (nI i + 3).toNatClampNeg)]) (rest := []) E (hml.trans hl.1.symm) hI (c_X12_left l X σ1 mo ((xs (nI i + 1).toNatClampNeg)) ((xs (nI i + 2).toNatClampNeg)) ((xs (nI i + 3).toNatClampNeg)) n hmo hM.1.1 hM.1.2 hn) kl_234 hmo ⟨rfl, by decide⟩ (show vwCl[11]? = some (RX12, TX12, 46) from rfl) rfl ⟨Nat.le_of_ble_eq_true rfl, Nat.le_of_ble_eq_true rfl⟩ hcs rfl (Nat.le_of_ble_eq_true rfl) dL_law_1763) hI (by decide) (fun r2 σ2 H locs hp hk hI => ?_)
  obtain ⟨pq0, pq1, hex2, how2⟩ := hp
  have hp := And.intro pq0 pq1
  have hB := lw_BK how2 hI.1 hxo hmo rfl rfl (how2.1 xo 5 (by rw [hxo]; rfl)) hB
  have hO := lw_Aob hal (al_tries hal hA1 hMc (by omega) ((xs (nI i + 1).toNatClampNeg)) ((xs (nI i + 2).toNatClampNeg)) ((xs (nI i + 3).toNatClampNeg))).2 hex1 hex2 how2 rfl
  have hA := hO.2
  have hE := lw_EK hk (by decide) hxo hmo hE
  have hM := lw_up (lw_kC (hk mo 24 (by rw [hmo]; decide)) hp.2 hM) (q_bd hI hmo (rfl : q_bn 12 24 = (0, 3))).2
  have hpp2 := hp
  clear hp hk
  clear h3
  refine lv_pop hx hb dL_law_1766 rfl ?_
  refine lv_goto (tgt := 1796) hx hb dL_law_1767 (by decide) ?_
  exact kk _ _ _ hI hM hE hB hA

set_option maxRecDepth 100000 in
set_option maxHeartbeats 4000000 in
theorem lw_c52 {p : Program} {l : Launch} {e : Env} {s : State} {m : MethodId} {below : List Frame} {meth : Method} {c : Code} {b L : Nat} {xs : Nat → Int32} {X : XW} {xo mo : Nat} {σ0 : ST} {cells slots : Nat} {Q : State → Prop} {lb : Nat → Nat} (hcl : tb_Cls X lb xo mo) (hal : al_C X lb xo mo) (E : q_E p c cL_law s m #[Value.ref b] RL X) (hX : va_X b L xs s s.heap) (hbl : b < s.heap.size) (hbA : ¬ q_reg X b) (hml : c.maxLocals = 4) (hxo : q_kd X xo = 11) (hmo : q_kd X mo = 12) (hcs : cells ≤ room_1.cells ∧ slots ≤ room_1.slots) (hL : L ≤ 3072) {i : Nat} (hi : i + 6 ≤ L) {n : Int} (hn : 0 ≤ n ∧ n ≤ 199000) {σ : ST} {H : Heap} {locs : List Loc} {ls : Array Slot} (hI : q_I X 0 σ0 s.heap locs σ H) (hM : m_M (m_c X σ mo) (σ.1 mo 24).toInt n) (hl : lv_has ls 4 [(3, .int (nI i)), (2, .ref mo), (1, .ref xo), (0, .ref b)]) (hE : lw_E xo mo σ) (hB : lw_B X xo mo σ) (hA : al_R X xo mo σ σ)
    (kk : ∀ (σ : ST) (H : Heap) (locs : List Loc), q_I X 0 σ0 s.heap locs σ H → m_M (m_c X σ mo) (σ.1 mo 24).toInt (n + 301) → lw_E xo mo σ → lw_B X xo mo σ → al_R X xo mo σ σ → W p l e room_1 s m #[Value.ref b] below meth c H locs cells slots Q (F0 m 1796 ls [])) : W p l e room_1 s m #[Value.ref b] below meth c H locs cells slots Q (F0 m 1770 ls []) := by
  have hx := E.1
  have hb := E.2.1
  have hI0 := hI
  have hE0 := hE
  have hB0 := hB
  have hA0 := hA
  have hM0 := hM
  refine lv_aload_n hx hb dL_law_1770 rfl (lv_at hl 2 rfl) ?_
  have h3 := (q_bd hI hmo (rfl : q_bn 12 24 = (0, 3))).2
  refine q_ci (q_runV (As := []) (rest := []) E (hml.trans hl.1.symm) hI (c_X11_mark l X σ xo hxo) kl_235 hxo ⟨rfl, by decide⟩ (show vwCl[10]? = some (RX11, TX11, 17) from rfl) rfl ⟨Nat.le_of_ble_eq_true rfl, Nat.le_of_ble_eq_true rfl⟩ hcs rfl (Nat.le_of_ble_eq_true rfl) dL_law_1771) hI (by decide) (fun r1 σ1 H locs hp hk hI => ?_)
  obtain ⟨pq0, pq1, pq2, hex1, how1⟩ := hp
  have hp := And.intro pq0 (And.intro pq1 pq2)
  have hB := lw_BK how1 hI.1 hxo hmo rfl rfl (how1.1 xo 5 (by rw [hxo]; rfl)) hB
  have hA1 := hA0.pre hal how1 rfl
  have hM := lw_kS hp.1 hI.1 hmo (fun j z => m_ne (q_c34 hI.1 hmo) hxo (by decide) z.1) (fun z => m_ne hmo hxo (by decide) z.1) hM
  have hpp1 := hp
  have hMc := hM
  clear hp hk
  clear h3
  refine lv_pop hx hb dL_law_1774 rfl ?_
  refine lv_aload_n hx hb dL_law_1775 rfl (lv_at hl 1 rfl) ?_
  have h3 := (q_bd hI hmo (rfl : q_bn 12 24 = (0, 3))).2
  refine q_ci (q_runV (As := []) (rest := []) E (hml.trans hl.1.symm) hI (c_X12_mark l X σ1 mo n hmo hM) kl_238 hmo ⟨rfl, by decide⟩ (show vwCl[11]? = some (RX12, TX12, 46) from rfl) rfl ⟨Nat.le_of_ble_eq_true rfl, Nat.le_of_ble_eq_true rfl⟩ hcs rfl (Nat.le_of_ble_eq_true rfl) dL_law_1776) hI (by decide) (fun r2 σ2 H locs hp hk hI => ?_)
  obtain ⟨pq0, pq1, pq2, pq3, hex2, how2⟩ := hp
  have hp := And.intro pq0 (And.intro pq1 (And.intro pq2 pq3))
  have hB := lw_BK how2 hI.1 hxo hmo rfl rfl (how2.1 xo 5 (by rw [hxo]; rfl)) hB
  have hO := lw_Aob hal (ob_mark hal hA1 hMc) hex1 hex2 how2 rfl
  have hA := hO.2
  have hF := lw_Emark hxo hmo (q_bd hI0 hxo (rfl : q_bn 11 11 = (0, 3))) hE hpp1.1 hpp1.2.1 hpp1.2.2 hp.1 hp.2.2.1 hp.2.2.2
  have hE := hF.1
  have hM := m_M.up hp.2.1 hp.2.1.1.1 (m_W.le hp.2.1.1.2 (show n ≤ n + 301 by omega)) (fun _ _ _ => rfl) (q_bd hI hmo (rfl : q_bn 12 24 = (0, 3))).2 (Int.le_refl _) (show n ≤ n + 301 by omega)
  have hpp2 := hp
  clear hp hk
  clear h3
  refine lv_pop hx hb dL_law_1779 rfl ?_
  refine lv_goto (tgt := 1796) hx hb dL_law_1780 (by decide) ?_
  exact kk _ _ _ hI hM hE hB hA

set_option maxRecDepth 100000 in
set_option maxHeartbeats 4000000 in
theorem lw_c53 {p : Program} {l : Launch} {e : Env} {s : State} {m : MethodId} {below : List Frame} {meth : Method} {c : Code} {b L : Nat} {xs : Nat → Int32} {X : XW} {xo mo : Nat} {σ0 : ST} {cells slots : Nat} {Q : State → Prop} {lb : Nat → Nat} (hcl : tb_Cls X lb xo mo) (hal : al_C X lb xo mo) (E : q_E p c cL_law s m #[Value.ref b] RL X) (hX : va_X b L xs s s.heap) (hbl : b < s.heap.size) (hbA : ¬ q_reg X b) (hml : c.maxLocals = 4) (hxo : q_kd X xo = 11) (hmo : q_kd X mo = 12) (hcs : cells ≤ room_1.cells ∧ slots ≤ room_1.slots) (hL : L ≤ 3072) {i : Nat} (hi : i + 6 ≤ L) {n : Int} (hn : 0 ≤ n ∧ n ≤ 199000) {σ : ST} {H : Heap} {locs : List Loc} {ls : Array Slot} (hI : q_I X 0 σ0 s.heap locs σ H) (hM : m_M (m_c X σ mo) (σ.1 mo 24).toInt n) (hl : lv_has ls 4 [(3, .int (nI i)), (2, .ref mo), (1, .ref xo), (0, .ref b)]) (hE : lw_E xo mo σ) (hB : lw_B X xo mo σ) (hA : al_R X xo mo σ σ)
    (kk : ∀ (σ : ST) (H : Heap) (locs : List Loc), q_I X 0 σ0 s.heap locs σ H → m_M (m_c X σ mo) (σ.1 mo 24).toInt (n + 301) → lw_E xo mo σ → lw_B X xo mo σ → al_R X xo mo σ σ → W p l e room_1 s m #[Value.ref b] below meth c H locs cells slots Q (F0 m 1796 ls [])) : W p l e room_1 s m #[Value.ref b] below meth c H locs cells slots Q (F0 m 1783 ls []) := by
  have hx := E.1
  have hb := E.2.1
  have hI0 := hI
  have hE0 := hE
  have hB0 := hB
  have hA0 := hA
  have hM0 := hM
  refine lv_aload_n hx hb dL_law_1783 rfl (lv_at hl 2 rfl) ?_
  have h3 := (q_bd hI hmo (rfl : q_bn 12 24 = (0, 3))).2
  refine q_ci (q_runV (As := []) (rest := []) E (hml.trans hl.1.symm) hI (c_X11_back l X σ xo hxo) kl_239 hxo ⟨rfl, by decide⟩ (show vwCl[10]? = some (RX11, TX11, 17) from rfl) rfl ⟨Nat.le_of_ble_eq_true rfl, Nat.le_of_ble_eq_true rfl⟩ hcs rfl (Nat.le_of_ble_eq_true rfl) dL_law_1784) hI (by decide) (fun r1 σ1 H locs hp hk hI => ?_)
  obtain ⟨pq0, pq1, pq2, hex1, how1⟩ := hp
  have hp := And.intro pq0 (And.intro pq1 pq2)
  have hB := lw_BK how1 hI.1 hxo hmo rfl rfl (how1.1 xo 5 (by rw [hxo]; rfl)) hB
  have hA1 := hA0.pre hal how1 rfl
  have hM := lw_kS hp.1 hI.1 hmo (fun j z => m_ne (q_c34 hI.1 hmo) hxo (by decide) z.1) (fun z => m_ne hmo hxo (by decide) z.1) hM
  have hpp1 := hp
  have hMc := hM
  clear hp hk
  clear h3
  refine lv_pop hx hb dL_law_1787 rfl ?_
  refine lv_aload_n hx hb dL_law_1788 rfl (lv_at hl 1 rfl) ?_
  have h3 := (q_bd hI hmo (rfl : q_bn 12 24 = (0, 3))).2
  refine q_ci (q_runV (As := []) (rest := []) E (hml.trans hl.1.symm) hI (c_X12_back l X σ1 mo n hmo hM) kl_242 hmo ⟨rfl, by decide⟩ (show vwCl[11]? = some (RX12, TX12, 46) from rfl) rfl ⟨Nat.le_of_ble_eq_true rfl, Nat.le_of_ble_eq_true rfl⟩ hcs rfl (Nat.le_of_ble_eq_true rfl) dL_law_1789) hI (by decide) (fun r2 σ2 H locs hp hk hI => ?_)
  obtain ⟨pq0, pq1, pq2, pq3, hex2, how2⟩ := hp
  have hp := And.intro pq0 (And.intro pq1 (And.intro pq2 pq3))
  have hB := lw_BK how2 hI.1 hxo hmo rfl rfl (how2.1 xo 5 (by rw [hxo]; rfl)) hB
  have hO := lw_Aob hal (ob_back hal hA1 hMc) hex1 hex2 how2 rfl
  have hA := hO.2
  have hF := lw_Eback hxo hmo (q_bd hI0 hxo (rfl : q_bn 11 11 = (0, 3))) hE hpp1.1 hpp1.2.1 hpp1.2.2 hp.1 hp.2.2.1 hp.2.2.2
  have hE := hF.1
  have hM := m_M.up hp.2.1 hp.2.1.1.1 (m_W.le hp.2.1.1.2 (show n ≤ n + 301 by omega)) (fun _ _ _ => rfl) (q_bd hI hmo (rfl : q_bn 12 24 = (0, 3))).2 (Int.le_refl _) (show n ≤ n + 301 by omega)
  have hpp2 := hp
  clear hp hk
  clear h3
  refine lv_pop hx hb dL_law_1792 rfl ?_
  refine lv_goto (tgt := 1796) hx hb dL_law_1793 (by decide) ?_
  exact kk _ _ _ hI hM hE hB hA
