set_option maxRecDepth 100000 in
set_option maxHeartbeats 4000000 in
theorem lw_loop {p : Program} {l : Launch} {e : Env} {s : State} {m : MethodId} {below : List Frame} {meth : Method} {c : Code} {b L : Nat} {xs : Nat → Int32} {X : XW} {xo mo : Nat} {σ0 : ST} {cells slots : Nat} {Q : State → Prop} {lb : Nat → Nat} (hcl : tb_Cls X lb xo mo) (hal : al_C X lb xo mo) (E : q_E p c cL_law s m #[Value.ref b] RL X) (hX : va_X b L xs s s.heap) (hbl : b < s.heap.size) (hbA : ¬ q_reg X b) (hml : c.maxLocals = 4) (hxo : q_kd X xo = 11) (hmo : q_kd X mo = 12) (hcs : cells ≤ room_1.cells ∧ slots ≤ room_1.slots) (hL : L ≤ 3072)
    (kend : ∀ (σ : ST) (H : Heap) (locs : List Loc) (ls : Array Slot), q_I X 0 σ0 s.heap locs σ H → W p l e room_1 s m #[Value.ref b] below meth c H locs cells slots Q (F0 m 1802 ls [])) :
    ∀ (N i : Nat), L + 1 ≤ i + N → i ≤ L → ∀ (n : Int), 0 ≤ n → 6 * n ≤ 301 * i → ∀ (σ : ST) (H : Heap) (locs : List Loc) (ls : Array Slot), q_I X 0 σ0 s.heap locs σ H → m_M (m_c X σ mo) (σ.1 mo 24).toInt n → lw_E xo mo σ → lw_B X xo mo σ → al_R X xo mo σ σ → lv_has ls 4 [(3, .int (nI i)), (2, .ref mo), (1, .ref xo), (0, .ref b)] → W p l e room_1 s m #[Value.ref b] below meth c H locs cells slots Q (F0 m 18 ls []) := by
  have hx := E.1
  have hb := E.2.1
  intro N
  induction N with
  | zero =>
    intro i h1 h2
    exact absurd h1 (by omega)
  | succ N ih =>
    intro i h1 h2 n n0 n1 σ H locs ls hI hM hE hB hA hl
    have ei : (nI i).toInt = i := nI_toInt (by omega)
    have eL : (nI L).toInt = L := nI_toInt (by omega)
    refine lv_iload_n hx hb dL_law_18 rfl (lv_at hl 0 rfl) ?_
    refine lv_aload_n hx hb dL_law_19 rfl (lv_at hl 3 rfl) ?_
    refine va_slen hx hb hX hbl hbA hI.S dL_law_20 ?_
    refine lv_bipush (v := 6) hx hb dL_law_21 (by decide) ?_
    refine lv_isub hx hb dL_law_23 ?_
    have e6 : (nI L - 6).toInt = L - 6 := by
      have s6 : (6 : Int32).toInt = 6 := rfl
      rw [Int32.toInt_sub, eL, s6, Int.bmod_eq_of_le (by omega) (by omega)]
    refine lv_icmp_gt (tgt := 1802) hx hb dL_law_24 (by decide) (fun _ => kend σ H locs ls hI) (fun q => ?_)
    have q' : ¬ nI L - 6 < nI i := q
    rw [Int32.lt_iff_toInt_lt, e6, ei] at q'
    have hi6 : i + 6 ≤ L := by omega
    refine lv_aload_n hx hb dL_law_27 rfl (lv_at hl 3 rfl) ?_
    refine lv_iload_n hx hb dL_law_28 rfl (lv_at hl 0 rfl) ?_
    refine va_sld hx hb hX hbl hbA hI.S (vp_in_iff.mpr (by rw [ei]; omega)) dL_law_29 ?_
    refine lv_bipush (v := 63) hx hb dL_law_30 (by decide) ?_
    refine lv_iand hx hb dL_law_32 ?_
    have hr := m_and63 (xs (nI i).toNatClampNeg)
    generalize xs (nI i).toNatClampNeg &&& 63 = z at hr ⊢
    have hn : 0 ≤ n ∧ n ≤ 199000 := by omega
    have JN : ∀ (σ : ST) (H : Heap) (locs : List Loc), q_I X 0 σ0 s.heap locs σ H → m_M (m_c X σ mo) (σ.1 mo 24).toInt (n + 301) → lw_E xo mo σ → lw_B X xo mo σ → al_R X xo mo σ σ → W p l e room_1 s m #[Value.ref b] below meth c H locs cells slots Q (F0 m 1796 ls []) := by
      intro σ H locs hI hM hE hB hA
      refine lv_iinc (v := nI (i + 6)) (lv' := [(3, .int (nI (i + 6))), (2, .ref mo), (1, .ref xo), (0, .ref b)]) hx hb dL_law_1796 hl (k := 0) rfl (by first | exact nI_add i 6 | exact (nI_add i 6).symm) (by decide) rfl (fun ls hl => ?_)
      refine lv_goto (tgt := 18) hx hb dL_law_1799 (by decide) ?_
      exact ih (i + 6) (by omega) hi6 (n + 301) (by omega) (by omega) σ H locs ls hI hM hE hB hA hl
    by_cases h53 : 53 < z.toInt
    · exact lv_tableOut (tgt := 1796) hx hb dL_law_33 (Or.inr h53) (by decide) (JN σ H locs hI (lw_up hM (q_bd hI hmo (rfl : q_bn 12 24 = (0, 3))).2) hE hB hA)
    · obtain ⟨k, hk⟩ : ∃ k : Nat, z.toInt = (k : Int) := ⟨z.toInt.toNat, by omega⟩
      match k, hk with
      | 0, hk => exact lv_tableIn (tgt := 264) hx hb dL_law_33 (by omega) (by omega) (by rw [hk]; rfl) (by decide) (lw_c0 hcl hal E hX hbl hbA hml hxo hmo hcs hL hi6 hn hI hM hl hE hB hA JN)
      | 1, hk => exact lv_tableIn (tgt := 277) hx hb dL_law_33 (by omega) (by omega) (by rw [hk]; rfl) (by decide) (lw_c1 hcl hal E hX hbl hbA hml hxo hmo hcs hL hi6 hn hI hM hl hE hB hA JN)
      | 2, hk => exact lv_tableIn (tgt := 290) hx hb dL_law_33 (by omega) (by omega) (by rw [hk]; rfl) (by decide) (lw_c2 hcl hal E hX hbl hbA hml hxo hmo hcs hL hi6 hn hI hM hl hE hB hA JN)
      | 3, hk => exact lv_tableIn (tgt := 303) hx hb dL_law_33 (by omega) (by omega) (by rw [hk]; rfl) (by decide) (lw_c3 hcl hal E hX hbl hbA hml hxo hmo hcs hL hi6 hn hI hM hl hE hB hA JN)
      | 4, hk => exact lv_tableIn (tgt := 346) hx hb dL_law_33 (by omega) (by omega) (by rw [hk]; rfl) (by decide) (lw_c4 hcl hal E hX hbl hbA hml hxo hmo hcs hL hi6 hn hI hM hl hE hB hA JN)
      | 5, hk => exact lv_tableIn (tgt := 419) hx hb dL_law_33 (by omega) (by omega) (by rw [hk]; rfl) (by decide) (lw_c5 hcl hal E hX hbl hbA hml hxo hmo hcs hL hi6 hn hI hM hl hE hB hA JN)
      | 6, hk => exact lv_tableIn (tgt := 452) hx hb dL_law_33 (by omega) (by omega) (by rw [hk]; rfl) (by decide) (lw_c6 hcl hal E hX hbl hbA hml hxo hmo hcs hL hi6 hn hI hM hl hE hB hA JN)
      | 7, hk => exact lv_tableIn (tgt := 515) hx hb dL_law_33 (by omega) (by omega) (by rw [hk]; rfl) (by decide) (lw_c7 hcl hal E hX hbl hbA hml hxo hmo hcs hL hi6 hn hI hM hl hE hB hA JN)
      | 8, hk => exact lv_tableIn (tgt := 578) hx hb dL_law_33 (by omega) (by omega) (by rw [hk]; rfl) (by decide) (lw_c8 hcl hal E hX hbl hbA hml hxo hmo hcs hL hi6 hn hI hM hl hE hB hA JN)
      | 9, hk => exact lv_tableIn (tgt := 601) hx hb dL_law_33 (by omega) (by omega) (by rw [hk]; rfl) (by decide) (lw_c9 hcl hal E hX hbl hbA hml hxo hmo hcs hL hi6 hn hI hM hl hE hB hA JN)
      | 10, hk => exact lv_tableIn (tgt := 624) hx hb dL_law_33 (by omega) (by omega) (by rw [hk]; rfl) (by decide) (lw_c10 hcl hal E hX hbl hbA hml hxo hmo hcs hL hi6 hn hI hM hl hE hB hA JN)
      | 11, hk => exact lv_tableIn (tgt := 647) hx hb dL_law_33 (by omega) (by omega) (by rw [hk]; rfl) (by decide) (lw_c11 hcl hal E hX hbl hbA hml hxo hmo hcs hL hi6 hn hI hM hl hE hB hA JN)
      | 12, hk => exact lv_tableIn (tgt := 670) hx hb dL_law_33 (by omega) (by omega) (by rw [hk]; rfl) (by decide) (lw_c12 hcl hal E hX hbl hbA hml hxo hmo hcs hL hi6 hn hI hM hl hE hB hA JN)
      | 13, hk => exact lv_tableIn (tgt := 703) hx hb dL_law_33 (by omega) (by omega) (by rw [hk]; rfl) (by decide) (lw_c13 hcl hal E hX hbl hbA hml hxo hmo hcs hL hi6 hn hI hM hl hE hB hA JN)
      | 14, hk => exact lv_tableIn (tgt := 736) hx hb dL_law_33 (by omega) (by omega) (by rw [hk]; rfl) (by decide) (lw_c14 hcl hal E hX hbl hbA hml hxo hmo hcs hL hi6 hn hI hM hl hE hB hA JN)
      | 15, hk => exact lv_tableIn (tgt := 759) hx hb dL_law_33 (by omega) (by omega) (by rw [hk]; rfl) (by decide) (lw_c15 hcl hal E hX hbl hbA hml hxo hmo hcs hL hi6 hn hI hM hl hE hB hA JN)
      | 16, hk => exact lv_tableIn (tgt := 792) hx hb dL_law_33 (by omega) (by omega) (by rw [hk]; rfl) (by decide) (lw_c16 hcl hal E hX hbl hbA hml hxo hmo hcs hL hi6 hn hI hM hl hE hB hA JN)
      | 17, hk => exact lv_tableIn (tgt := 825) hx hb dL_law_33 (by omega) (by omega) (by rw [hk]; rfl) (by decide) (lw_c17 hcl hal E hX hbl hbA hml hxo hmo hcs hL hi6 hn hI hM hl hE hB hA JN)
      | 18, hk => exact lv_tableIn (tgt := 858) hx hb dL_law_33 (by omega) (by omega) (by rw [hk]; rfl) (by decide) (lw_c18 hcl hal E hX hbl hbA hml hxo hmo hcs hL hi6 hn hI hM hl hE hB hA JN)
      | 19, hk => exact lv_tableIn (tgt := 911) hx hb dL_law_33 (by omega) (by omega) (by rw [hk]; rfl) (by decide) (lw_c19 hcl hal E hX hbl hbA hml hxo hmo hcs hL hi6 hn hI hM hl hE hB hA JN)
      | 20, hk => exact lv_tableIn (tgt := 924) hx hb dL_law_33 (by omega) (by omega) (by rw [hk]; rfl) (by decide) (lw_c20 hcl hal E hX hbl hbA hml hxo hmo hcs hL hi6 hn hI hM hl hE hB hA JN)
      | 21, hk => exact lv_tableIn (tgt := 947) hx hb dL_law_33 (by omega) (by omega) (by rw [hk]; rfl) (by decide) (lw_c21 hcl hal E hX hbl hbA hml hxo hmo hcs hL hi6 hn hI hM hl hE hB hA JN)
      | 22, hk => exact lv_tableIn (tgt := 990) hx hb dL_law_33 (by omega) (by omega) (by rw [hk]; rfl) (by decide) (lw_c22 hcl hal E hX hbl hbA hml hxo hmo hcs hL hi6 hn hI hM hl hE hB hA JN)
      | 23, hk => exact lv_tableIn (tgt := 1023) hx hb dL_law_33 (by omega) (by omega) (by rw [hk]; rfl) (by decide) (lw_c23 hcl hal E hX hbl hbA hml hxo hmo hcs hL hi6 hn hI hM hl hE hB hA JN)
      | 24, hk => exact lv_tableIn (tgt := 1056) hx hb dL_law_33 (by omega) (by omega) (by rw [hk]; rfl) (by decide) (lw_c24 hcl hal E hX hbl hbA hml hxo hmo hcs hL hi6 hn hI hM hl hE hB hA JN)
      | 25, hk => exact lv_tableIn (tgt := 1079) hx hb dL_law_33 (by omega) (by omega) (by rw [hk]; rfl) (by decide) (lw_c25 hcl hal E hX hbl hbA hml hxo hmo hcs hL hi6 hn hI hM hl hE hB hA JN)
      | 26, hk => exact lv_tableIn (tgt := 1102) hx hb dL_law_33 (by omega) (by omega) (by rw [hk]; rfl) (by decide) (lw_c26 hcl hal E hX hbl hbA hml hxo hmo hcs hL hi6 hn hI hM hl hE hB hA JN)
      | 27, hk => exact lv_tableIn (tgt := 1125) hx hb dL_law_33 (by omega) (by omega) (by rw [hk]; rfl) (by decide) (lw_c27 hcl hal E hX hbl hbA hml hxo hmo hcs hL hi6 hn hI hM hl hE hB hA JN)
      | 28, hk => exact lv_tableIn (tgt := 1148) hx hb dL_law_33 (by omega) (by omega) (by rw [hk]; rfl) (by decide) (lw_c28 hcl hal E hX hbl hbA hml hxo hmo hcs hL hi6 hn hI hM hl hE hB hA JN)
      | 29, hk => exact lv_tableIn (tgt := 1171) hx hb dL_law_33 (by omega) (by omega) (by rw [hk]; rfl) (by decide) (lw_c29 hcl hal E hX hbl hbA hml hxo hmo hcs hL hi6 hn hI hM hl hE hB hA JN)
      | 30, hk => exact lv_tableIn (tgt := 1184) hx hb dL_law_33 (by omega) (by omega) (by rw [hk]; rfl) (by decide) (lw_c30 hcl hal E hX hbl hbA hml hxo hmo hcs hL hi6 hn hI hM hl hE hB hA JN)
      | 31, hk => exact lv_tableIn (tgt := 1217) hx hb dL_law_33 (by omega) (by omega) (by rw [hk]; rfl) (by decide) (lw_c31 hcl hal E hX hbl hbA hml hxo hmo hcs hL hi6 hn hI hM hl hE hB hA JN)
      | 32, hk => exact lv_tableIn (tgt := 1250) hx hb dL_law_33 (by omega) (by omega) (by rw [hk]; rfl) (by decide) (lw_c32 hcl hal E hX hbl hbA hml hxo hmo hcs hL hi6 hn hI hM hl hE hB hA JN)
      | 33, hk => exact lv_tableIn (tgt := 1273) hx hb dL_law_33 (by omega) (by omega) (by rw [hk]; rfl) (by decide) (lw_c33 hcl hal E hX hbl hbA hml hxo hmo hcs hL hi6 hn hI hM hl hE hB hA JN)
      | 34, hk => exact lv_tableIn (tgt := 1306) hx hb dL_law_33 (by omega) (by omega) (by rw [hk]; rfl) (by decide) (lw_c34 hcl hal E hX hbl hbA hml hxo hmo hcs hL hi6 hn hI hM hl hE hB hA JN)
      | 35, hk => exact lv_tableIn (tgt := 1339) hx hb dL_law_33 (by omega) (by omega) (by rw [hk]; rfl) (by decide) (lw_c35 hcl hal E hX hbl hbA hml hxo hmo hcs hL hi6 hn hI hM hl hE hB hA JN)
      | 36, hk => exact lv_tableIn (tgt := 1362) hx hb dL_law_33 (by omega) (by omega) (by rw [hk]; rfl) (by decide) (lw_c36 hcl hal E hX hbl hbA hml hxo hmo hcs hL hi6 hn hI hM hl hE hB hA JN)
      | 37, hk => exact lv_tableIn (tgt := 1385) hx hb dL_law_33 (by omega) (by omega) (by rw [hk]; rfl) (by decide) (lw_c37 hcl hal E hX hbl hbA hml hxo hmo hcs hL hi6 hn hI hM hl hE hB hA JN)
      | 38, hk => exact lv_tableIn (tgt := 1408) hx hb dL_law_33 (by omega) (by omega) (by rw [hk]; rfl) (by decide) (lw_c38 hcl hal E hX hbl hbA hml hxo hmo hcs hL hi6 hn hI hM hl hE hB hA JN)
      | 39, hk => exact lv_tableIn (tgt := 1421) hx hb dL_law_33 (by omega) (by omega) (by rw [hk]; rfl) (by decide) (lw_c39 hcl hal E hX hbl hbA hml hxo hmo hcs hL hi6 hn hI hM hl hE hB hA JN)
      | 40, hk => exact lv_tableIn (tgt := 1454) hx hb dL_law_33 (by omega) (by omega) (by rw [hk]; rfl) (by decide) (lw_c40 hcl hal E hX hbl hbA hml hxo hmo hcs hL hi6 hn hI hM hl hE hB hA JN)
      | 41, hk => exact lv_tableIn (tgt := 1477) hx hb dL_law_33 (by omega) (by omega) (by rw [hk]; rfl) (by decide) (lw_c41 hcl hal E hX hbl hbA hml hxo hmo hcs hL hi6 hn hI hM hl hE hB hA JN)
      | 42, hk => exact lv_tableIn (tgt := 1500) hx hb dL_law_33 (by omega) (by omega) (by rw [hk]; rfl) (by decide) (lw_c42 hcl hal E hX hbl hbA hml hxo hmo hcs hL hi6 hn hI hM hl hE hB hA JN)
      | 43, hk => exact lv_tableIn (tgt := 1523) hx hb dL_law_33 (by omega) (by omega) (by rw [hk]; rfl) (by decide) (lw_c43 hcl hal E hX hbl hbA hml hxo hmo hcs hL hi6 hn hI hM hl hE hB hA JN)
      | 44, hk => exact lv_tableIn (tgt := 1566) hx hb dL_law_33 (by omega) (by omega) (by rw [hk]; rfl) (by decide) (lw_c44 hcl hal E hX hbl hbA hml hxo hmo hcs hL hi6 hn hI hM hl hE hB hA JN)
      | 45, hk => exact lv_tableIn (tgt := 1579) hx hb dL_law_33 (by omega) (by omega) (by rw [hk]; rfl) (by decide) (lw_c45 hcl hal E hX hbl hbA hml hxo hmo hcs hL hi6 hn hI hM hl hE hB hA JN)
      | 46, hk => exact lv_tableIn (tgt := 1602) hx hb dL_law_33 (by omega) (by omega) (by rw [hk]; rfl) (by decide) (lw_c46 hcl hal E hX hbl hbA hml hxo hmo hcs hL hi6 hn hI hM hl hE hB hA JN)
      | 47, hk => exact lv_tableIn (tgt := 1625) hx hb dL_law_33 (by omega) (by omega) (by rw [hk]; rfl) (by decide) (lw_c47 hcl hal E hX hbl hbA hml hxo hmo hcs hL hi6 hn hI hM hl hE hB hA JN)
      | 48, hk => exact lv_tableIn (tgt := 1638) hx hb dL_law_33 (by omega) (by omega) (by rw [hk]; rfl) (by decide) (lw_c48 hcl hal E hX hbl hbA hml hxo hmo hcs hL hi6 hn hI hM hl hE hB hA JN)
      | 49, hk => exact lv_tableIn (tgt := 1661) hx hb dL_law_33 (by omega) (by omega) (by rw [hk]; rfl) (by decide) (lw_c49 hcl hal E hX hbl hbA hml hxo hmo hcs hL hi6 hn hI hM hl hE hB hA JN)
      | 50, hk => exact lv_tableIn (tgt := 1684) hx hb dL_law_33 (by omega) (by omega) (by rw [hk]; rfl) (by decide) (lw_c50 hcl hal E hX hbl hbA hml hxo hmo hcs hL hi6 hn hI hM hl hE hB hA JN)
      | 51, hk => exact lv_tableIn (tgt := 1727) hx hb dL_law_33 (by omega) (by omega) (by rw [hk]; rfl) (by decide) (lw_c51 hcl hal E hX hbl hbA hml hxo hmo hcs hL hi6 hn hI hM hl hE hB hA JN)
      | 52, hk => exact lv_tableIn (tgt := 1770) hx hb dL_law_33 (by omega) (by omega) (by rw [hk]; rfl) (by decide) (lw_c52 hcl hal E hX hbl hbA hml hxo hmo hcs hL hi6 hn hI hM hl hE hB hA JN)
      | 53, hk => exact lv_tableIn (tgt := 1783) hx hb dL_law_33 (by omega) (by omega) (by rw [hk]; rfl) (by decide) (lw_c53 hcl hal E hX hbl hbA hml hxo hmo hcs hL hi6 hn hI hM hl hE hB hA JN)
      | k + 54, hk => exact absurd hk (by omega)
theorem kn_9 : b_okI RL 9 yX11_init cX11_init 2 0 := ⟨(q_in_t1 (i := 22) (by first | rfl | decide +kernel) rfl), (q_in_t1 (i := 23) (by first | rfl | decide +kernel) rfl), (q_in_t1 (i := 1) (by first | rfl | decide +kernel) rfl), (q_in_t1 (i := 24) (by first | rfl | decide +kernel) rfl), rfl, ⟨by decide, by decide, rfl⟩⟩
theorem kn_12 : b_okI RL 12 yX12_init cX12_init 2 0 := ⟨(q_in_t6 (i := 221) (by first | rfl | decide +kernel) rfl), (q_in_t6 (i := 222) (by first | rfl | decide +kernel) rfl), (q_in_t1 (i := 14) (by first | rfl | decide +kernel) rfl), (q_in_t6 (i := 223) (by first | rfl | decide +kernel) rfl), rfl, ⟨by decide, by decide, rfl⟩⟩
set_option maxRecDepth 100000 in
set_option maxHeartbeats 4000000 in
theorem whole_start {p : Program} {e : Env} {s : State} {m : MethodId} {below : List Frame} {meth : Method} {c : Code} (l : Launch) (hflags : l.flags = flags0) {b L : Nat} {xs : Nat → Int32} (hL : L ≤ 3072) (C0 : lw_At p s m meth c b L xs) : W p l e room_1 s m #[Value.ref b] below meth c s.heap [] 0 0 (lw_Z below #[Value.ref b] s) (entryFrame m ([Value.ref b] : List Value).toArray 4) := by
  obtain ⟨hx, hb, hr, hml, hown, hts, hX, hbl, hlocks, hgv⟩ := C0
  have hq := lw_tabs hts
  obtain ⟨D, hK0⟩ := lw_K0 hts
  have hA : ∀ a : Nat, a < s.heap.size → ¬ (fun q : Nat => s.heap.size ≤ q) a := fun a h => Nat.not_le.mpr h
  obtain ⟨sk, sv, hSS, hSR⟩ := lw_strs (A := fun q => s.heap.size ≤ q) hts hgv hA
  have hZ := va_Zof (A := fun q => s.heap.size ≤ q) (hts _ (lw_t3 (i := 195) (by first | rfl | decide +kernel))) (hts _ (lw_t1 (i := 16) (by first | rfl | decide +kernel))) (va_eqt (lw_hs hgv lw_s8)) hA
  have hZq := va_Zqof (A := fun q => s.heap.size ≤ q) (hts _ (lw_t3 (i := 211) (by first | rfl | decide +kernel))) (hts _ (lw_t1 (i := 18) (by first | rfl | decide +kernel))) (lw_hs hgv lw_s9) hA
  have hl := lv_entry ([.ref b]) (n := 4) (Nat.le_of_ble_eq_true rfl)
  rw [lg_entry_eq]
  generalize (lg_sl ([.ref b]) ++ List.replicate (4 - (lg_sl ([.ref b])).length) Slot.unset).toArray = ls at hl ⊢
  have hl : lv_has ls 4 [(0, .ref b)] := hl
  have E : q_E0 p c cL_law s m #[Value.ref b] RL D := ⟨hx, hb, hown, hq, hK0⟩
  obtain ⟨X0, dX0⟩ : ∃ X : XW, X = lw_X0 D sk sv := ⟨_, rfl⟩
  obtain ⟨σi, dσi⟩ : ∃ τ : ST, τ = lw_σ0 := ⟨_, rfl⟩
  have hD : X0.1 = D := by rw [dX0]; rfl
  have w0 : q_w X0 σi s.heap := by rw [dX0, dσi]; exact lw_w0
  have g0 : ∀ a, q_kd X0 a = 0 := fun a => by rw [dX0]; rfl
  have hS0 : va_S (fun q : Nat => s.heap.size ≤ q) s.heap s.heap [] := va_S.rf
  refine b_new E hS0 (q_in_t1 (i := 20) (by first | rfl | decide +kernel) rfl) (q_in_t1 (i := 21) (by first | rfl | decide +kernel) rfl) (q_in_t1 (i := 1) (by first | rfl | decide +kernel) rfl) (show vwCl[10]? = some (RX11, TX11, 17) from rfl) q_inX11 tyX11 tyX11_ok (Nat.le_of_ble_eq_true rfl) (Nat.le_of_ble_eq_true rfl) dL_law_0 (fun q1 H1 e1 z1 o1 b1 S1 => ?_)
  have w1 : q_w X0 σi H1 := w0.kept (fun a ha => o1 a (w0.lt ha))
  have k1 : q_kd X0 q1 = 0 := g0 q1
  have u1 := S1.1
  refine lv_dup hx hb dL_law_3 rfl ?_
  have A1 : ∀ a : Nat, q_nw q1 H1.size a → s.heap.size ≤ a := by
    rintro a (q | q)
    · omega
    · omega
  refine b_cv (b_runI (As := []) (rest := [.ref q1]) E (hml.trans hl.1.symm) hD w1 k1 b1 rfl (n_X11 l D X0 σi q1 H1.size) kn_9 rfl ⟨Nat.le_of_ble_eq_true rfl, Nat.le_of_ble_eq_true rfl⟩ ⟨Nat.le_of_ble_eq_true rfl, Nat.le_of_ble_eq_true rfl⟩ rfl (Nat.le_of_ble_eq_true rfl) dL_law_4) S1 rfl A1 (fun X1 σ1 H2 locs1 x1 h1 p1 w2 z2 o2 S2 => ?_)
  refine lv_astore_n (lv' := [(1, .ref q1), (0, .ref b)]) hx hb dL_law_7 rfl hl (by decide) rfl (fun ls hl => ?_)
  have hD1 : X1.1 = D := x1.1.trans hD
  have u2 := S2.1
  refine b_new E S2 (q_in_t6 (i := 219) (by first | rfl | decide +kernel) rfl) (q_in_t6 (i := 220) (by first | rfl | decide +kernel) rfl) (q_in_t1 (i := 14) (by first | rfl | decide +kernel) rfl) (show vwCl[11]? = some (RX12, TX12, 46) from rfl) q_inX12 tyX12 tyX12_ok (Nat.le_of_ble_eq_true rfl) (Nat.le_of_ble_eq_true rfl) dL_law_8 (fun q2 H3 e2 z3 o3 b3 S3 => ?_)
  have w3 : q_w X1 σ1 H3 := w2.kept (fun a ha => o3 a (w2.lt ha))
  have k3 : q_kd X1 q2 = 0 := w2.fresh (Nat.le_of_eq e2.symm)
  have u3 := S3.1
  refine lv_dup hx hb dL_law_11 rfl ?_
  have A2 : ∀ a : Nat, q_nw q2 H3.size a → s.heap.size ≤ a := by
    rintro a (q | q)
    · omega
    · omega
  refine b_cv (b_runI (As := []) (rest := [.ref q2]) E (hml.trans hl.1.symm) hD1 w3 k3 b3 rfl (n_X12 l D X1 σ1 q2 H3.size) kn_12 rfl ⟨Nat.le_of_ble_eq_true rfl, Nat.le_of_ble_eq_true rfl⟩ ⟨Nat.le_of_ble_eq_true rfl, Nat.le_of_ble_eq_true rfl⟩ rfl (Nat.le_of_ble_eq_true rfl) dL_law_12) S3 rfl A2 (fun X2 σ2 H4 locs2 x2 h2 p2 w4 z4 o4 S4 => ?_)
  refine lv_astore_n (lv' := [(2, .ref q2), (1, .ref q1), (0, .ref b)]) hx hb dL_law_15 rfl hl (by decide) rfl (fun ls hl => ?_)
  refine lv_iconst (v := 0) hx hb dL_law_16 (by decide) ?_
  refine lv_istore_n (lv' := [(3, .int 0), (2, .ref q2), (1, .ref q1), (0, .ref b)]) hx hb dL_law_17 rfl hl (by decide) rfl (fun ls hl => ?_)
  have hxo : q_kd X2 q1 = 11 := x2.kd h1 (by decide)
  have hE0 : lw_E q1 q2 σ2 := by
    have y : q_kd X1 q1 ≠ 0 := by rw [h1]; decide
    unfold lw_E
    rw [q_exi x2 y, q_exi x2 y, p1.2.1.1, p1.2.1.2, p2.2.1.1, p2.2.1.2]
    exact ⟨rfl, rfl⟩
  have hB0 : lw_B X2 q1 q2 σ2 := by
    have y : q_kd X1 q1 ≠ 0 := by rw [h1]; decide
    intro p p0 p1'
    rw [q_exi x2 y, p1.2.1.1] at p1'
    have z0 : (0 : Int32).toInt = 0 := rfl
    omega
  have hroot : y_root X2 q1 := p2.1.1 q1 (by rw [h1]; decide) p1.1.2
  obtain ⟨lb, hlb, hl1⟩ := w4.2.2.2.2.1.lb w4.1 hroot
  have k33 : q_kd X2 (q_rf X2 q2 7) = 33 := (w4.1.1 q2 7 (by rw [h2]; decide)).trans (by rw [h2]; rfl)
  have hcl : tb_Cls X2 lb q1 q2 := y_Cls hlb hxo h2 hl1 ((w4.1.2.1 (q_rf X2 q2 7) (by rw [k33]; decide)).trans (by rw [k33]; rfl))
  have hal : al_C X2 lb q1 q2 := al_Cmk hlb hxo h2 hl1
  have hS0_ := al_start hal w4.2.2.2.2.2 p2.2.1.2 p2.2.2.2
  have hD2 : X2.1 = D := x2.1.trans hD1
  have hsk : q_sk X2 = sk := x2.2.1.trans (x1.2.1.trans (by rw [dX0]; rfl))
  have hsv : q_sv X2 = sv := x2.2.2.1.trans (x1.2.2.1.trans (by rw [dX0]; rfl))
  have hreg : ∀ a, q_reg X2 a → s.heap.size ≤ a := by
    intro a ha
    rcases x2.2.2.2.2 a ha with q | q
    · rcases x1.2.2.2.2 a q with q | q
      · exact absurd (g0 a) q
      · exact A1 a q
    · exact A2 a q
  have hKX : q_KX X2 s := by
    refine ⟨?_, hK0.2.1, fun r hr => by rw [hsk]; exact hSR r hr⟩
    show va_K X2.1.1 vwCl [(X2.1.2 0, .byte), (X2.1.2 1, .int), (X2.1.2 2, .long), (X2.1.2 3, .object "CheatHeap$Tray"), (X2.1.2 4, .object "CheatHeap$Game")] s
    rw [hD2]
    exact hK0.1
  have hSW : q_SW X2 s s.heap := ⟨by rw [hsk, hsv]; exact hSS.narrow hreg, hZ.narrow hreg, hZq.narrow hreg⟩
  have E2 : q_E p c cL_law s m #[Value.ref b] RL X2 := ⟨hx, hb, hown, hq, hKX, hSW⟩
  have hS5 : va_S (q_reg X2) s.heap H4 [] := ⟨S4.1, fun a h _ => S4.2.1 a h (Nat.not_le.mpr h), fun l h => absurd h List.not_mem_nil⟩
  have hI : q_I X2 0 σ2 s.heap [] σ2 H4 := ⟨w4.1, w4.2.1, w4.2.2.1, w4.2.2.2.1, hS5, q_K.rf⟩
  refine va_forget (fun q hq => S4.2.2 q hq) ?_
  refine W.widen (k := 332) (n := 15232) (Nat.le_of_ble_eq_true rfl) (Nat.le_of_ble_eq_true rfl) ?_
  refine lw_loop hcl hal E2 hX hbl (fun q => absurd (hreg b q) (Nat.not_le.mpr hbl)) hml hxo h2 ⟨Nat.le_of_ble_eq_true rfl, Nat.le_of_ble_eq_true rfl⟩ hL (fun σ H locs ls hI => ?_) (L + 1) 0 (by omega) (Nat.zero_le _) 0 (Int.le_refl 0) (by omega) σ2 H4 [] ls hI (lw_m0 p2.2.1.2 p2.2.2.2) hE0 hB0 hS0_.1 hl
  refine lv_iconst (v := 1) hx hb dL_law_1802 (by decide) ?_
  refine va_forget (fun q hq => hreg _ (hI.S.2.2 q hq)) ?_
  refine W.widen (k := 600000) (n := 7302250) (Nat.le_of_ble_eq_true rfl) (Nat.le_of_ble_eq_true rfl) ?_
  exact lw_ret hx hb hr hlocks dL_law_1803
