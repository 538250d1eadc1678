/-! FROM 45.turns.a.lean.txt -/
section
section QS
variable {p : Program} {l : Launch} {e : Env} {R : Room} {s : State} {m : MethodId} {args : Array Value} {below : List Frame} {meth : Method} {c : Code} {H : Heap} {locs : List Loc} {cells slots : Nat} {Q : State → Prop} {cc : ByteArray} {X : XW} {n : Nat} {σ0 σ : ST} {H0 : Heap} {pc : Nat} {ls : Array Slot} {rest : List Value} {a : Nat}
theorem kv_X12_399 : q_okV RX12 399 RX12 yX12_otherKind cX12_otherKind 4 (some .int) 1 := ⟨(q_in_t9 (i := 166) (by first | rfl | decide +kernel) rfl), (q_in_t9 (i := 168) (by first | rfl | decide +kernel) rfl), (q_in_p (i := 110) (by decide +kernel) rfl), (q_in_t1 (i := 14) (by first | rfl | decide +kernel) rfl), (q_in_t9 (i := 169) (by first | rfl | decide +kernel) rfl), ⟨rfl, by decide, by decide, rfl⟩⟩
theorem gs_X12_405_12 (E : q_E p c cc s m args RX12 X) (hI : q_I X n σ0 H0 locs σ H) (ha : q_kd X a = 12) (hdg : decode cc pc = .ok (.getfield 405, 3)) (kk : W p l e R s m args below meth c H locs cells slots Q (F0 m (pc + 3) ls (.int (σ.1 a 42) :: rest))) : W p l e R s m args below meth c H locs cells slots Q (F0 m pc ls (.ref a :: rest)) :=
  q_getf (ref := "CheatHeapModel") E hI ha ⟨rfl, by decide⟩ (show vwCl[11]? = some (RX12, TX12, 46) from rfl) q_inX12 (f := 42) (by decide) (q_in_t7 (i := 27) (by first | rfl | decide +kernel) rfl) (Or.inl rfl) rfl hdg kk
theorem ps_X12_405_12 (E : q_E p c cc s m args RX12 X) (hI : q_I X n σ0 H0 locs σ H) (ha : q_kd X a = 12) {v : Int32} (hcl : n < 9) (hdg : decode cc pc = .ok (.putfield 405, 3)) (kk : ∀ (H1 : Heap) (locs1 : List Loc) (σ1 : ST), σ1 = q_si σ a 42 v → q_I X n σ0 H0 locs1 σ1 H1 → W p l e R s m args below meth c H1 locs1 cells slots Q (F0 m (pc + 3) ls rest)) : W p l e R s m args below meth c H locs cells slots Q (F0 m pc ls (.int v :: .ref a :: rest)) :=
  q_puti (ref := "CheatHeapModel") E hI ha ⟨rfl, by decide⟩ (show vwCl[11]? = some (RX12, TX12, 46) from rfl) q_inX12 tyX12_ok nmX12 (f := 42) (by decide) (q_in_t7 (i := 27) (by first | rfl | decide +kernel) rfl) (Or.inl rfl) rfl rfl hcl hdg (q_inU rfl) (Or.inl rfl) (fun H1 l1 h => kk H1 l1 _ rfl h)
theorem gs_X12_408_12 (E : q_E p c cc s m args RX12 X) (hI : q_I X n σ0 H0 locs σ H) (ha : q_kd X a = 12) (hdg : decode cc pc = .ok (.getfield 408, 3)) (kk : W p l e R s m args below meth c H locs cells slots Q (F0 m (pc + 3) ls (.int (σ.1 a 43) :: rest))) : W p l e R s m args below meth c H locs cells slots Q (F0 m pc ls (.ref a :: rest)) :=
  q_getf (ref := "CheatHeapModel") E hI ha ⟨rfl, by decide⟩ (show vwCl[11]? = some (RX12, TX12, 46) from rfl) q_inX12 (f := 43) (by decide) (q_in_t7 (i := 28) (by first | rfl | decide +kernel) rfl) (Or.inl rfl) rfl hdg kk
theorem ps_X12_408_12 (E : q_E p c cc s m args RX12 X) (hI : q_I X n σ0 H0 locs σ H) (ha : q_kd X a = 12) {v : Int32} (hcl : n < 9) (hdg : decode cc pc = .ok (.putfield 408, 3)) (kk : ∀ (H1 : Heap) (locs1 : List Loc) (σ1 : ST), σ1 = q_si σ a 43 v → q_I X n σ0 H0 locs1 σ1 H1 → W p l e R s m args below meth c H1 locs1 cells slots Q (F0 m (pc + 3) ls rest)) : W p l e R s m args below meth c H locs cells slots Q (F0 m pc ls (.int v :: .ref a :: rest)) :=
  q_puti (ref := "CheatHeapModel") E hI ha ⟨rfl, by decide⟩ (show vwCl[11]? = some (RX12, TX12, 46) from rfl) q_inX12 tyX12_ok nmX12 (f := 43) (by decide) (q_in_t7 (i := 28) (by first | rfl | decide +kernel) rfl) (Or.inl rfl) rfl rfl hcl hdg (q_inU rfl) (Or.inl rfl) (fun H1 l1 h => kk H1 l1 _ rfl h)
theorem gs_X12_411_12 (E : q_E p c cc s m args RX12 X) (hI : q_I X n σ0 H0 locs σ H) (ha : q_kd X a = 12) (hdg : decode cc pc = .ok (.getfield 411, 3)) (kk : W p l e R s m args below meth c H locs cells slots Q (F0 m (pc + 3) ls (.int (σ.1 a 44) :: rest))) : W p l e R s m args below meth c H locs cells slots Q (F0 m pc ls (.ref a :: rest)) :=
  q_getf (ref := "CheatHeapModel") E hI ha ⟨rfl, by decide⟩ (show vwCl[11]? = some (RX12, TX12, 46) from rfl) q_inX12 (f := 44) (by decide) (q_in_t7 (i := 29) (by first | rfl | decide +kernel) rfl) (Or.inl rfl) rfl hdg kk
theorem ps_X12_411_12 (E : q_E p c cc s m args RX12 X) (hI : q_I X n σ0 H0 locs σ H) (ha : q_kd X a = 12) {v : Int32} (hcl : n < 9) (hdg : decode cc pc = .ok (.putfield 411, 3)) (kk : ∀ (H1 : Heap) (locs1 : List Loc) (σ1 : ST), σ1 = q_si σ a 44 v → q_I X n σ0 H0 locs1 σ1 H1 → W p l e R s m args below meth c H1 locs1 cells slots Q (F0 m (pc + 3) ls rest)) : W p l e R s m args below meth c H locs cells slots Q (F0 m pc ls (.int v :: .ref a :: rest)) :=
  q_puti (ref := "CheatHeapModel") E hI ha ⟨rfl, by decide⟩ (show vwCl[11]? = some (RX12, TX12, 46) from rfl) q_inX12 tyX12_ok nmX12 (f := 44) (by decide) (q_in_t7 (i := 29) (by first | rfl | decide +kernel) rfl) (Or.inl rfl) rfl rfl hcl hdg (q_inU rfl) (Or.inl rfl) (fun H1 l1 h => kk H1 l1 _ rfl h)
theorem kv_X12_402 : q_okV RX12 402 RX12 yX12_draw cX12_draw 1 (some .int) 0 := ⟨(q_in_t9 (i := 170) (by first | rfl | decide +kernel) rfl), (q_in_t9 (i := 172) (by first | rfl | decide +kernel) rfl), (q_in_p (i := 111) (by decide +kernel) rfl), (q_in_t1 (i := 14) (by first | rfl | decide +kernel) rfl), (q_in_t9 (i := 173) (by first | rfl | decide +kernel) rfl), ⟨rfl, by decide, by decide, rfl⟩⟩
theorem kv_X12_414 : q_okV RX12 414 RX12 yX12_turns cX12_turns 5 (some .boolean) 0 := ⟨(q_in_t9 (i := 162) (by first | rfl | decide +kernel) rfl), (q_in_t9 (i := 164) (by first | rfl | decide +kernel) rfl), (q_in_p (i := 109) (by decide +kernel) rfl), (q_in_t1 (i := 14) (by first | rfl | decide +kernel) rfl), (q_in_t9 (i := 165) (by first | rfl | decide +kernel) rfl), ⟨rfl, by decide, by decide, rfl⟩⟩
end QS
end
/-! FROM 45.turns.b00.lean.txt -/
section
set_option maxRecDepth 100000 in
set_option maxHeartbeats 4000000 in
theorem c_X12_turns (l : Launch) (X : XW) (σ : ST) (a : Nat) (n : Int) (ha : q_kd X a = 12) (hG : m_G (m_c X σ a)) (hW : m_W (m_c X σ a) n) (hn : n ≤ 200000) : Met l yX12_turns (q_ws yX12_turns cX12_turns 5 (some .boolean)) (q_rm 5 112) (q_P X σ [.ref a]) (q_Qi X 1 σ (fun (r : Int32) (σ' : ST) => (0 ≤ r.toInt ∧ r.toInt ≤ 1) ∧ (m_G (m_c X σ' a)) ∧ (m_W (m_c X σ' a) (n + 1)) ∧ (∀ j, 654 ≤ j → m_c X σ' a j = m_c X σ a j) ∧ (m_KD 40 X σ σ') ∧ (r, σ') = F_X12_turns X σ a ∧ q_ow [(12, 39), (12, 42), (12, 43), (12, 44), (34, 99), (39, 99)] [] X σ σ')) 0 0 (q_reg X) := by
  refine q_met 1 (by first | exact rfl | decide +kernel) rfl (Nat.le_of_ble_eq_true rfl) (fun p e s m below meth c E hml hr hlk hI ls hl => ?_)
  have hx := E.1
  have hb := E.2.1
  have hl : lv_has ls 5 [(0, .ref a)] := hl
  have gσ : m_G (m_c X σ a) := hG
  have wσ : m_W (m_c X σ a) n := hW
  have kqσ : ∀ j, 654 ≤ j → m_c X σ a j = m_c X σ a j := fun _ _ => rfl
  have kdσ : m_KD 40 X σ σ := m_KD.rf
  have fr_σ : q_ow [(12, 39), (12, 42), (12, 43), (12, 44), (34, 99), (39, 99)] [] X σ σ := q_ow.rf
  have hh := hG.hd
  obtain ⟨out, hout⟩ : ∃ o, o = F_X12_turns X σ a := ⟨_, rfl⟩
  have hF := hout.symm
  unfold F_X12_turns at hF
  refine lv_aload_n hx hb dX12_turns_0 rfl (lv_at hl 0 rfl) ?_
  refine gs_X12_35_12 E hI ha dX12_turns_1 ?_
  refine lv_bipush (v := 7) hx hb dX12_turns_4 (by decide) ?_
  refine q_iald E hI (q_tk (k' := 34) hI ha rfl (by decide)) ⟨by decide, rfl⟩ (by decide) (by rw [q_lnk (v := 4650) hI (q_tk (k' := 34) hI ha rfl (by decide)) rfl (by decide)]; decide) dX12_turns_6 ?_
  refine lv_topi (fun f_1 ef_1 => ?_)
  replace hF := q_letX hF ef_1
  have if_1 : f_1.toInt = m_c X σ a 7 := m_rd ef_1 (by decide)
  refine lv_iconst (v := 1) hx hb dX12_turns_7 (by decide) ?_
  have J_15_2 : ∀  (σ_2 : ST) (H : Heap) (locs : List Loc) (ls : Array Slot), (m_c X σ_2 a 7 = 0) → (q_ow [(12, 39), (12, 42), (12, 43), (12, 44), (34, 99), (39, 99)] [] X σ σ_2) → (m_G (m_c X σ_2 a)) → (m_W (m_c X σ_2 a) n) → (∀ j, 654 ≤ j → m_c X σ_2 a j = m_c X σ a j) → (m_KD 40 X σ σ_2) → (F_X12_turns_J15_1 X a σ_2 = out) → q_I X 1 σ s.heap locs σ_2 H → lv_has ls 5 [(0, .ref a)] → W p l e (q_rm 5 112) s m ([.ref a] : List Value).toArray below meth c H locs 0 0 (MQ below (q_Qi X 1 σ (fun (r : Int32) (σ' : ST) => (0 ≤ r.toInt ∧ r.toInt ≤ 1) ∧ (m_G (m_c X σ' a)) ∧ (m_W (m_c X σ' a) (n + 1)) ∧ (∀ j, 654 ≤ j → m_c X σ' a j = m_c X σ a j) ∧ (m_KD 40 X σ σ') ∧ (r, σ') = F_X12_turns X σ a ∧ q_ow [(12, 39), (12, 42), (12, 43), (12, 44), (34, 99), (39, 99)] [] X σ σ')) ([.ref a] : List Value).toArray s 0 0 (q_reg X)) (F0 m 15 ls []) := by
    clear hF
    intro σ_2 H locs ls z7σ_2 fr_σ_2 gσ_2 wσ_2 kqσ_2 kdσ_2 hF hI hl
    try clear kqσ; try clear kdσ; try clear fr_σ
    unfold F_X12_turns_J15_1 at hF
    obtain ⟨cT, hcT⟩ : ∃ f : Int → Int, f = m_c X σ_2 a := ⟨_, rfl⟩
    have ctσ_2 : m_c X σ_2 a = cT := hcT.symm
    have gT : m_G cT := by rw [hcT]; exact gσ_2
    have hT := gT.hd
    have zT : cT 7 = 0 := by rw [hcT]; exact z7σ_2
    refine lv_aload_n hx hb dX12_turns_15 rfl (lv_at hl 0 rfl) ?_
    refine gs_X12_35_12 E hI ha dX12_turns_16 ?_
    refine lv_bipush (v := 8) hx hb dX12_turns_19 (by decide) ?_
    refine q_iald E hI (q_tk (k' := 34) hI ha rfl (by decide)) ⟨by decide, rfl⟩ (by decide) (by rw [q_lnk (v := 4650) hI (q_tk (k' := 34) hI ha rfl (by decide)) rfl (by decide)]; decide) dX12_turns_21 ?_
    refine lv_topi (fun f_3 ef_3 => ?_)
    replace hF := q_letX hF ef_3
    have if_3 : f_3.toInt = cT 8 := (m_rd ef_3 (by decide)).trans (congrFun ctσ_2 _)
    refine q_if_ge (A := f_3.toInt) E rfl (tgt := 49) dX12_turns_22 (by decide) (fun c_4 => ?_) (fun c_4 => ?_)
    · skip
      replace hF := q_ifn hF (Int.not_lt.mpr c_4)
      refine lv_iconst (v := 0) hx hb dX12_turns_49 (by decide) ?_
      have hrv : (0 : Int32).toInt = 0 := rfl
      exact q_retz E hr hlk hI ⟨by decide, by decide⟩ ⟨⟨by decide, by decide⟩, gσ_2, (by first | exact vσ_2 | exact m_W.le wσ_2 (by first | (clear hn gσ wσ hh if_1 z7σ_2 gσ_2 wσ_2 kdσ_2 hT if_3 c_4 hrv; omega) | omega)), kqσ_2, kdσ_2, (hF.trans hout), fr_σ_2⟩ dX12_turns_50
    · skip
      replace hF := q_ifp hF c_4
      refine lv_aload_n hx hb dX12_turns_25 rfl (lv_at hl 0 rfl) ?_
      refine gs_X12_35_12 E hI ha dX12_turns_26 ?_
      refine lv_iconst (v := 2) hx hb dX12_turns_29 (by decide) ?_
      refine q_iald E hI (q_tk (k' := 34) hI ha rfl (by decide)) ⟨by decide, rfl⟩ (by decide) (by rw [q_lnk (v := 4650) hI (q_tk (k' := 34) hI ha rfl (by decide)) rfl (by decide)]; decide) dX12_turns_30 ?_
      refine lv_topi (fun f_5 ef_5 => ?_)
      replace hF := q_letX hF ef_5
      have if_5 : f_5.toInt = cT 2 := (m_rd ef_5 (by decide)).trans (congrFun ctσ_2 _)
      refine lv_iconst (v := 2) hx hb dX12_turns_31 (by decide) ?_
      have gc_6_f_5 := q_rng f_5
      refine q_icmp_lt (A := f_5.toInt) (B := 2) E rfl (by decide) (tgt := 49) dX12_turns_32 (by decide) (fun c_6 => ?_) (fun c_6 => ?_)
      · skip
        replace hF := q_ifp hF c_6
        refine lv_iconst (v := 0) hx hb dX12_turns_49 (by decide) ?_
        have hrv : (0 : Int32).toInt = 0 := rfl
        exact q_retz E hr hlk hI ⟨by decide, by decide⟩ ⟨⟨by decide, by decide⟩, gσ_2, (by first | exact vσ_2 | exact m_W.le wσ_2 (by first | (clear hn gσ wσ hh if_1 z7σ_2 gσ_2 wσ_2 kdσ_2 hT if_3 c_4 if_5 gc_6_f_5 c_6 hrv; omega) | omega)), kqσ_2, kdσ_2, (hF.trans hout), fr_σ_2⟩ dX12_turns_50
      · skip
        replace hF := q_ifn hF (Int.not_lt.mpr c_6)
        refine lv_aload_n hx hb dX12_turns_35 rfl (lv_at hl 0 rfl) ?_
        refine lv_aload_n hx hb dX12_turns_36 rfl (lv_at hl 0 rfl) ?_
        refine gs_X12_35_12 E hI ha dX12_turns_37 ?_
        refine lv_bipush (v := 6) hx hb dX12_turns_40 (by decide) ?_
        refine q_iald E hI (q_tk (k' := 34) hI ha rfl (by decide)) ⟨by decide, rfl⟩ (by decide) (by rw [q_lnk (v := 4650) hI (q_tk (k' := 34) hI ha rfl (by decide)) rfl (by decide)]; decide) dX12_turns_42 ?_
        refine lv_topi (fun f_7 ef_7 => ?_)
        replace hF := q_letX hF ef_7
        have if_7 : f_7.toInt = cT 6 := (m_rd ef_7 (by decide)).trans (congrFun ctσ_2 _)
        refine q_ci (q_runV (As := [.int f_7]) (rest := []) E (hml.trans hl.1.symm) hI (c_X12_cardsOf l X σ_2 a f_7 ha (by rw [ctσ_2]; exact gT) (by first | (clear hn gσ wσ hh if_1 z7σ_2 gσ_2 wσ_2 kdσ_2 if_3 c_4 gc_6_f_5; omega) | omega)) kv_X12_293 ha ⟨rfl, by decide⟩ (show vwCl[11]? = some (RX12, TX12, 46) from rfl) rfl ⟨Nat.le_of_ble_eq_true rfl, Nat.le_of_ble_eq_true rfl⟩ ⟨Nat.le_refl _, Nat.le_refl _⟩ rfl (Nat.le_of_ble_eq_true rfl) dX12_turns_43) hI (by decide) (fun r_8 σ_9 H locs hpσ_9 hkσ_9 hI => ?_)
        obtain ⟨ahpσ_9, bhpσ_9, chpσ_9, dhpσ_9⟩ := hpσ_9
        rw [ahpσ_9] at hI
        rw [ctσ_2] at bhpσ_9
        replace hF := q_letX hF dhpσ_9
        have scr_8 : m_S cT (34 + 10 * cT 6) 10 = r_8.toInt := by rw [bhpσ_9, if_7]
        refine q_if_ne (A := r_8.toInt) E rfl (tgt := 51) dX12_turns_46 (by decide) (fun c_10 => ?_) (fun c_10 => ?_)
        · skip
          replace hF := q_ifn hF c_10
          refine lv_aload_n hx hb dX12_turns_51 rfl (lv_at hl 0 rfl) ?_
          refine gs_X12_35_12 E hI ha dX12_turns_52 ?_
          refine lv_bipush (v := 6) hx hb dX12_turns_55 (by decide) ?_
          refine q_iald E hI (q_tk (k' := 34) hI ha rfl (by decide)) ⟨by decide, rfl⟩ (by decide) (by rw [q_lnk (v := 4650) hI (q_tk (k' := 34) hI ha rfl (by decide)) rfl (by decide)]; decide) dX12_turns_57 ?_
          refine lv_topi (fun f_11 ef_11 => ?_)
          replace hF := q_letX hF ef_11
          have if_11 : f_11.toInt = cT 6 := (m_rd ef_11 (by decide)).trans (congrFun ctσ_2 _)
          refine lv_istore_n (lv' := [(1, .int f_11), (0, .ref a)]) hx hb dX12_turns_58 rfl hl (by decide) rfl (fun ls hl => ?_)
          refine lv_iconst (v := 0) hx hb dX12_turns_59 (by decide) ?_
          refine lv_istore_n (lv' := [(2, .int 0), (1, .int f_11), (0, .ref a)]) hx hb dX12_turns_60 rfl hl (by decide) rfl (fun ls hl => ?_)
          have L_61_14 : ∀ (k_14 : Nat) (x_12 : Int32) (σ_13 : ST) (H : Heap) (locs : List Loc) (ls : Array Slot), (2147483647 - x_12.toInt).toNat < k_14 → (0 ≤ x_12.toInt ∧ x_12.toInt ≤ 10) → (∀ k, 0 ≤ k → k < x_12.toInt → m_of σ_13 (q_rf X a 28) k = 0) → (q_ow [(12, 39), (12, 42), (12, 43), (12, 44), (34, 99), (39, 99)] [] X σ σ_13) → (m_G (m_c X σ_13 a)) → (m_W (m_c X σ_13 a) n) → (∀ j, 654 ≤ j → m_c X σ_13 a j = m_c X σ a j) → (m_KD 40 X σ σ_13) → (m_c X σ_13 a = cT) → (F_X12_turns_L61_2 X a f_11 k_14 x_12 σ_13 = out) → q_I X 1 σ s.heap locs σ_13 H → lv_has ls 5 [(0, .ref a), (1, .int f_11), (2, .int x_12)] → W p l e (q_rm 5 112) s m ([.ref a] : List Value).toArray below meth c H locs 0 0 (MQ below (q_Qi X 1 σ (fun (r : Int32) (σ' : ST) => (0 ≤ r.toInt ∧ r.toInt ≤ 1) ∧ (m_G (m_c X σ' a)) ∧ (m_W (m_c X σ' a) (n + 1)) ∧ (∀ j, 654 ≤ j → m_c X σ' a j = m_c X σ a j) ∧ (m_KD 40 X σ σ') ∧ (r, σ') = F_X12_turns X σ a ∧ q_ow [(12, 39), (12, 42), (12, 43), (12, 44), (34, 99), (39, 99)] [] X σ σ')) ([.ref a] : List Value).toArray s 0 0 (q_reg X)) (F0 m 61 ls []) := by
            clear hF
            intro k_14
            induction k_14 with
            | zero =>
              intro x_12 σ_13 H locs ls hms
              exact absurd hms (Nat.not_lt_zero _)
            | succ k_14 ih61 =>
              intro x_12 σ_13 H locs ls hm61 hge61 zlσ_13 fr_σ_13 gσ_13 wσ_13 kqσ_13 kdσ_13 ctσ_13 hF hI hl
              replace hF := (F_X12_turns_L61_2_s).symm.trans hF
              unfold F_X12_turns_B61_2 at hF
              refine lv_iload_n hx hb dX12_turns_61 rfl (lv_at hl 2 rfl) ?_
              refine lv_bipush (v := 10) hx hb dX12_turns_62 (by decide) ?_
              have gc_15_x_12 := q_rng x_12
              refine q_icmp_ge (A := x_12.toInt) (B := 10) E rfl (by decide) (tgt := 80) dX12_turns_64 (by decide) (fun c_15 => ?_) (fun c_15 => ?_)
              · skip
                replace hF := q_ifn hF (Int.not_lt.mpr c_15)
                unfold F_X12_turns_E80_8 at hF
                have zzσ_13 : ∀ j, 0 ≤ j → j < 10 → m_of σ_13 (q_rf X a 28) j = 0 := fun j h0 h1 => zlσ_13 j h0 (by first | (clear hn gσ wσ hh if_1 z7σ_2 gσ_2 wσ_2 kdσ_2 hT if_3 c_4 if_5 gc_6_f_5 c_6 if_7 ahpσ_9 bhpσ_9 chpσ_9 dhpσ_9 scr_8 c_10 if_11 hm61 gσ_13 wσ_13 kdσ_13 gc_15_x_12; omega) | omega)
                have h5T := gT.h80 (p := cT 6) (k := cT 5) (by first | (clear hn gσ wσ hh if_1 z7σ_2 gσ_2 wσ_2 kdσ_2 if_3 c_4 gc_6_f_5 ahpσ_9 bhpσ_9 chpσ_9 dhpσ_9 scr_8 c_10 hm61 hge61 gσ_13 wσ_13 kdσ_13 gc_15_x_12 c_15; omega) | omega) (by first | (clear hn gσ wσ hh if_1 z7σ_2 gσ_2 wσ_2 kdσ_2 if_3 c_4 gc_6_f_5 ahpσ_9 bhpσ_9 chpσ_9 dhpσ_9 scr_8 c_10 hm61 hge61 gσ_13 wσ_13 kdσ_13 gc_15_x_12 c_15; omega) | omega) (by first | (clear hn gσ wσ hh if_1 z7σ_2 gσ_2 wσ_2 kdσ_2 if_3 c_4 if_5 gc_6_f_5 c_6 if_7 ahpσ_9 bhpσ_9 chpσ_9 dhpσ_9 scr_8 c_10 if_11 hm61 hge61 gσ_13 wσ_13 kdσ_13 gc_15_x_12 c_15; omega) | omega) (by first | (clear hn gσ wσ hh if_1 z7σ_2 gσ_2 wσ_2 kdσ_2 if_3 c_4 if_5 gc_6_f_5 c_6 if_7 ahpσ_9 bhpσ_9 chpσ_9 dhpσ_9 scr_8 c_10 if_11 hm61 hge61 gσ_13 wσ_13 kdσ_13 gc_15_x_12 c_15; omega) | omega)
                refine lv_aload_n hx hb dX12_turns_80 rfl (lv_at hl 0 rfl) ?_
                refine gs_X12_35_12 E hI ha dX12_turns_81 ?_
                refine lv_iconst (v := 4) hx hb dX12_turns_84 (by decide) ?_
                refine q_iald E hI (q_tk (k' := 34) hI ha rfl (by decide)) ⟨by decide, rfl⟩ (by decide) (by rw [q_lnk (v := 4650) hI (q_tk (k' := 34) hI ha rfl (by decide)) rfl (by decide)]; decide) dX12_turns_85 ?_
                refine lv_topi (fun f_16 ef_16 => ?_)
                replace hF := q_letX hF ef_16
                have if_16 : f_16.toInt = cT 4 := (m_rd ef_16 (by decide)).trans (congrFun ctσ_13 _)
                refine lv_aload_n hx hb dX12_turns_86 rfl (lv_at hl 0 rfl) ?_
                refine lv_iload_n hx hb dX12_turns_87 rfl (lv_at hl 1 rfl) ?_
                refine lv_aload_n hx hb dX12_turns_88 rfl (lv_at hl 0 rfl) ?_
                refine gs_X12_35_12 E hI ha dX12_turns_89 ?_
                refine lv_iconst (v := 5) hx hb dX12_turns_92 (by decide) ?_
                refine q_iald E hI (q_tk (k' := 34) hI ha rfl (by decide)) ⟨by decide, rfl⟩ (by decide) (by rw [q_lnk (v := 4650) hI (q_tk (k' := 34) hI ha rfl (by decide)) rfl (by decide)]; decide) dX12_turns_93 ?_
                refine lv_topi (fun f_17 ef_17 => ?_)
                replace hF := q_letX hF ef_17
                have if_17 : f_17.toInt = cT 5 := (m_rd ef_17 (by decide)).trans (congrFun ctσ_13 _)
                refine q_ci (q_runV (As := [.int f_11, .int f_17]) (rest := [.int f_16]) E (hml.trans hl.1.symm) hI (c_X12_handOf l X σ_13 a f_11 f_17 ha (by first | (clear hn gσ wσ hh if_1 z7σ_2 gσ_2 wσ_2 kdσ_2 if_3 c_4 gc_6_f_5 ahpσ_9 bhpσ_9 chpσ_9 dhpσ_9 scr_8 c_10 hm61 hge61 gσ_13 wσ_13 kdσ_13 gc_15_x_12 c_15 h5T if_16 if_17; omega) | omega) (by first | (clear hn gσ wσ hh if_1 z7σ_2 gσ_2 wσ_2 kdσ_2 if_3 c_4 if_5 gc_6_f_5 c_6 if_7 ahpσ_9 bhpσ_9 chpσ_9 dhpσ_9 scr_8 c_10 if_11 hm61 hge61 gσ_13 wσ_13 kdσ_13 gc_15_x_12 c_15 h5T if_16; omega) | omega)) kv_X12_276 ha ⟨rfl, by decide⟩ (show vwCl[11]? = some (RX12, TX12, 46) from rfl) rfl ⟨Nat.le_of_ble_eq_true rfl, Nat.le_of_ble_eq_true rfl⟩ ⟨Nat.le_refl _, Nat.le_refl _⟩ rfl (Nat.le_of_ble_eq_true rfl) dX12_turns_94) hI (by decide) (fun r_18 σ_19 H locs hpσ_19 hkσ_19 hI => ?_)
                obtain ⟨ahpσ_19, bhpσ_19, chpσ_19⟩ := hpσ_19
                rw [ahpσ_19] at hI
                rw [ctσ_13] at bhpσ_19
                replace hF := q_letX hF chpσ_19
                have ir_18 : r_18.toInt = (cT (34 + 10 * (cT 6) + (cT 5))) := (by first | exact bhpσ_19 | (rw [bhpσ_19, if_11, if_17]) | (simp only [bhpσ_19, if_11, if_17]))
                refine q_ci (q_runS (As := [.int f_16, .int r_18]) (rest := []) E (hml.trans hl.1.symm) hI (c_J9_min_7cf53 l X σ_13 f_16 r_18) ks_X12_384 rfl ⟨Nat.le_of_ble_eq_true rfl, Nat.le_of_ble_eq_true rfl⟩ ⟨Nat.le_refl _, Nat.le_refl _⟩ rfl (Nat.le_of_ble_eq_true rfl) dX12_turns_97) hI (by decide) (fun r_20 σ_21 H locs hpσ_21 hkσ_21 hI => ?_)
                obtain ⟨ahpσ_21, bhpσ_21, chpσ_21⟩ := hpσ_21
                rw [ahpσ_21] at hI
                replace hF := q_letX hF chpσ_21
                refine lv_istore_n (lv' := [(2, .int r_20), (0, .ref a), (1, .int f_11)]) hx hb dX12_turns_100 rfl hl (by decide) rfl (fun ls hl => ?_)
                refine lv_aload_n hx hb dX12_turns_101 rfl (lv_at hl 1 rfl) ?_
                refine gs_X12_47_12 E hI ha dX12_turns_102 ?_
                refine lv_aload_n hx hb dX12_turns_105 rfl (lv_at hl 1 rfl) ?_
                refine gs_X12_35_12 E hI ha dX12_turns_106 ?_
                refine lv_iconst (v := 5) hx hb dX12_turns_109 (by decide) ?_
                refine q_iald E hI (q_tk (k' := 34) hI ha rfl (by decide)) ⟨by decide, rfl⟩ (by decide) (by rw [q_lnk (v := 4650) hI (q_tk (k' := 34) hI ha rfl (by decide)) rfl (by decide)]; decide) dX12_turns_110 ?_
                refine lv_topi (fun f_22 ef_22 => ?_)
                replace hF := q_letX hF ef_22
                have if_22 : f_22.toInt = cT 5 := (m_rd ef_22 (by decide)).trans (congrFun ctσ_13 _)
                refine lv_iload_n hx hb dX12_turns_111 rfl (lv_at hl 0 rfl) ?_
                refine q_iastN E hI (q_tk (k' := 39) hI ha rfl (by decide)) ⟨by decide, rfl⟩ (by first | (clear hn gσ wσ hh if_1 z7σ_2 gσ_2 wσ_2 kdσ_2 if_3 c_4 if_5 gc_6_f_5 c_6 if_7 ahpσ_9 bhpσ_9 chpσ_9 dhpσ_9 scr_8 c_10 if_11 hm61 hge61 gσ_13 wσ_13 kdσ_13 gc_15_x_12 c_15 h5T if_16 ahpσ_19 bhpσ_19 chpσ_19 ir_18 ahpσ_21 bhpσ_21 chpσ_21; omega) | omega) (by rw [q_lnk (v := 10) hI (q_tk (k' := 39) hI ha rfl (by decide)) rfl (by decide)]; omega) (show 1 < 9 by decide) (q_inU rfl) dX12_turns_112 (fun H locs σ_23 hσ_23 hI => ?_)
                replace hF := q_letX hF hσ_23
                have fr_σ_23 := fr_σ_13.si hσ_23 (q_tk (k' := 39) hI ha rfl (by decide)) rfl
                have mcσ_23 := m_wo hσ_23 (m_ne (q_tk (k' := 39) hI ha rfl (by decide)) (q_tk (f := 20) (k' := 34) hI ha rfl (by decide)) (by decide))
                have gσ_23 : m_G (m_c X σ_23 a) := m_G.ext (fun j _ _ => mcσ_23 j) gσ_13
                have wσ_23 : m_W (m_c X σ_23 a) n := m_W.ext (fun j _ _ => mcσ_23 j) wσ_13
                have kqσ_23 : ∀ j, 654 ≤ j → m_c X σ_23 a j = m_c X σ a j := fun j h => (mcσ_23 j).trans (kqσ_13 j h)
                have kdσ_23 : m_KD 40 X σ σ_23 := (by first | exact kdσ_13.si hσ_23 ha (by decide) | exact kdσ_13.sl hσ_23 | exact kdσ_13.ar hσ_23 (q_tk (k' := 39) hI ha rfl (by decide)) (by decide) (by decide))
                have ctσ_23 : m_c X σ_23 a = cT := (funext mcσ_23).trans ctσ_13
                have l1σ_23 : m_l1 (m_of σ_23 (q_rf X a 28)) (cT 5) r_20.toInt := m_l1.mk zzσ_13 (m_ofw hσ_23 (by omega : _ = cT 5) (by first | (clear hn gσ wσ hh if_1 z7σ_2 gσ_2 wσ_2 kdσ_2 if_3 c_4 if_5 gc_6_f_5 c_6 if_7 ahpσ_9 bhpσ_9 chpσ_9 dhpσ_9 scr_8 c_10 if_11 hm61 hge61 gσ_13 wσ_13 kdσ_13 gc_15_x_12 c_15 h5T if_16 ahpσ_19 bhpσ_19 chpσ_19 ir_18 ahpσ_21 bhpσ_21 chpσ_21 gσ_23 wσ_23 kdσ_23; omega) | omega)) rfl
                refine lv_aload_n hx hb dX12_turns_113 rfl (lv_at hl 1 rfl) ?_
                refine lv_iload_n hx hb dX12_turns_114 rfl (lv_at hl 2 rfl) ?_
                refine q_ci (q_runV (As := [.int f_11]) (rest := []) E (hml.trans hl.1.symm) hI (c_X12_otherKind l X σ_23 a f_11 ha (by rw [ctσ_23]; exact gT) (by first | (clear hn gσ wσ hh if_1 z7σ_2 gσ_2 wσ_2 kdσ_2 if_3 c_4 gc_6_f_5 ahpσ_9 bhpσ_9 chpσ_9 dhpσ_9 scr_8 c_10 hm61 hge61 gσ_13 wσ_13 kdσ_13 gc_15_x_12 c_15 h5T if_16 if_17 ahpσ_19 bhpσ_19 chpσ_19 ir_18 ahpσ_21 bhpσ_21 chpσ_21 if_22 gσ_23 wσ_23 kdσ_23; omega) | omega)) kv_X12_399 ha ⟨rfl, by decide⟩ (show vwCl[11]? = some (RX12, TX12, 46) from rfl) rfl ⟨Nat.le_of_ble_eq_true rfl, Nat.le_of_ble_eq_true rfl⟩ ⟨Nat.le_refl _, Nat.le_refl _⟩ rfl (Nat.le_of_ble_eq_true rfl) dX12_turns_115) hI (by decide) (fun r_24 σ_25 H locs hpσ_25 hkσ_25 hI => ?_)
                obtain ⟨ahpσ_25, bhpσ_25, chpσ_25, dhpσ_25⟩ := hpσ_25
                rw [ahpσ_25] at hI
                rw [ctσ_23] at bhpσ_25
                rw [ctσ_23] at chpσ_25
                replace hF := q_letX hF dhpσ_25
                have otr_24 := bhpσ_25
                rw [if_11] at otr_24
                have osr_24 := fun h5 => otr_24.some gT (by first | (clear hn gσ wσ hh if_1 z7σ_2 gσ_2 wσ_2 kdσ_2 if_3 c_4 gc_6_f_5 ahpσ_9 bhpσ_9 chpσ_9 dhpσ_9 scr_8 c_10 hm61 hge61 gσ_13 wσ_13 kdσ_13 gc_15_x_12 c_15 h5T if_16 if_17 ahpσ_19 bhpσ_19 chpσ_19 ir_18 ahpσ_21 bhpσ_21 chpσ_21 if_22 gσ_23 wσ_23 kdσ_23 ahpσ_25 bhpσ_25 chpσ_25 dhpσ_25; omega) | omega) (by first | (clear hn gσ wσ hh if_1 z7σ_2 gσ_2 wσ_2 kdσ_2 if_3 c_4 if_5 gc_6_f_5 c_6 if_7 ahpσ_9 chpσ_9 dhpσ_9 if_11 hm61 gσ_13 wσ_13 kdσ_13 gc_15_x_12 if_17 ahpσ_19 chpσ_19 ahpσ_21 bhpσ_21 chpσ_21 if_22 gσ_23 wσ_23 kdσ_23 ahpσ_25 bhpσ_25 chpσ_25 dhpσ_25; omega) | omega) h5
                refine lv_istore_n (lv' := [(3, .int r_24), (2, .int r_20), (0, .ref a), (1, .int f_11)]) hx hb dX12_turns_118 rfl hl (by decide) rfl (fun ls hl => ?_)
                refine lv_iload_n hx hb dX12_turns_119 rfl (lv_at hl 1 rfl) ?_
                refine lv_aload_n hx hb dX12_turns_120 rfl (lv_at hl 2 rfl) ?_
                refine gs_X12_35_12 E hI ha dX12_turns_121 ?_
                refine lv_iconst (v := 4) hx hb dX12_turns_124 (by decide) ?_
                refine q_iald E hI (q_tk (k' := 34) hI ha rfl (by decide)) ⟨by decide, rfl⟩ (by decide) (by rw [q_lnk (v := 4650) hI (q_tk (k' := 34) hI ha rfl (by decide)) rfl (by decide)]; decide) dX12_turns_125 ?_
                refine lv_topi (fun f_26 ef_26 => ?_)
                replace hF := q_letX hF ef_26
                have if_26 : f_26.toInt = cT 4 := (m_rd ef_26 (by decide)).trans (congrFun ctσ_23 _)
                have J_163_27 : ∀  (σ_27 : ST) (H : Heap) (locs : List Loc) (ls : Array Slot), (m_lo cT (m_of σ_27 (q_rf X a 28)) f_11.toInt) → (q_ow [(12, 39), (12, 42), (12, 43), (12, 44), (34, 99), (39, 99)] [] X σ σ_27) → (m_G (m_c X σ_27 a)) → (m_W (m_c X σ_27 a) n) → (∀ j, 654 ≤ j → m_c X σ_27 a j = m_c X σ a j) → (m_KD 40 X σ σ_27) → (m_c X σ_27 a = cT) → (F_X12_turns_J163_4 X a f_11 σ_27 = out) → q_I X 1 σ s.heap locs σ_27 H → lv_has ls 5 [(0, .ref a), (1, .int f_11), (2, .int r_20), (3, .int r_24)] → W p l e (q_rm 5 112) s m ([.ref a] : List Value).toArray below meth c H locs 0 0 (MQ below (q_Qi X 1 σ (fun (r : Int32) (σ' : ST) => (0 ≤ r.toInt ∧ r.toInt ≤ 1) ∧ (m_G (m_c X σ' a)) ∧ (m_W (m_c X σ' a) (n + 1)) ∧ (∀ j, 654 ≤ j → m_c X σ' a j = m_c X σ a j) ∧ (m_KD 40 X σ σ') ∧ (r, σ') = F_X12_turns X σ a ∧ q_ow [(12, 39), (12, 42), (12, 43), (12, 44), (34, 99), (39, 99)] [] X σ σ')) ([.ref a] : List Value).toArray s 0 0 (q_reg X)) (F0 m 163 ls []) := by
                  clear hF
                  intro σ_27 H locs ls loσ_27 fr_σ_27 gσ_27 wσ_27 kqσ_27 kdσ_27 ctσ_27 hF hI hl
                  try clear zzσ_13; try clear ahpσ_19; try clear ahpσ_21; try clear fr_σ_23; try clear mcσ_23; try clear kqσ_23; try clear kdσ_23; try clear ctσ_23; try clear ahpσ_25
                  unfold F_X12_turns_J163_4 at hF
                  refine lv_aload_n hx hb dX12_turns_163 rfl (lv_at hl 0 rfl) ?_
                  refine lv_iload_n hx hb dX12_turns_164 rfl (lv_at hl 1 rfl) ?_
                  refine lv_aload_n hx hb dX12_turns_165 rfl (lv_at hl 0 rfl) ?_
                  refine gs_X12_47_12 E hI ha dX12_turns_166 ?_
                  refine q_cv (q_runV (As := [.int f_11, .ref (q_rf X a 28)]) (rest := []) E (hml.trans hl.1.symm) hI (c_X12_laysDown l X σ_27 a f_11 (q_rf X a 28) ha (q_tk (k' := 39) hI ha rfl (by decide)) (by rw [ctσ_27]; exact loσ_27) (by rw [ctσ_27]; omega)) kv_X12_311 ha ⟨rfl, by decide⟩ (show vwCl[11]? = some (RX12, TX12, 46) from rfl) rfl ⟨Nat.le_of_ble_eq_true rfl, Nat.le_of_ble_eq_true rfl⟩ ⟨Nat.le_refl _, Nat.le_refl _⟩ rfl (Nat.le_of_ble_eq_true rfl) dX12_turns_169) hI (by decide) (fun σ_29 H locs hpσ_29 hkσ_29 hI => ?_)
                  obtain ⟨ahpσ_29, bhpσ_29, chpσ_29, dhpσ_29, ehpσ_29, fhpσ_29, ghpσ_29, hhpσ_29⟩ := hpσ_29
                  have fr_σ_29 := fr_σ_27.call hhpσ_29 rfl rfl
                  replace hF := q_letX hF ghpσ_29
                  have gσ_29 : m_G (m_c X σ_29 a) := ahpσ_29
                  have wσ_29 : m_W (m_c X σ_29 a) n := m_W.ext (fun j h0 h1 => bhpσ_29 j (by first | (clear hn gσ wσ hh if_1 z7σ_2 gσ_2 wσ_2 kdσ_2 hT if_3 c_4 if_5 gc_6_f_5 c_6 if_7 ahpσ_9 bhpσ_9 chpσ_9 dhpσ_9 scr_8 c_10 if_11 hm61 hge61 gσ_13 wσ_13 kdσ_13 gc_15_x_12 c_15 h5T if_16 if_17 bhpσ_19 chpσ_19 ir_18 bhpσ_21 chpσ_21 if_22 gσ_23 wσ_23 bhpσ_25 chpσ_25 dhpσ_25 osr_24 if_26 gσ_27 wσ_27 kdσ_27 ahpσ_29 bhpσ_29 chpσ_29 dhpσ_29 ehpσ_29 fhpσ_29 gσ_29; omega) | omega) (by first | (clear hn gσ wσ hh if_1 z7σ_2 gσ_2 wσ_2 kdσ_2 hT if_3 c_4 if_5 gc_6_f_5 c_6 if_7 ahpσ_9 bhpσ_9 chpσ_9 dhpσ_9 scr_8 c_10 if_11 hm61 hge61 gσ_13 wσ_13 kdσ_13 gc_15_x_12 c_15 h5T if_16 if_17 bhpσ_19 chpσ_19 ir_18 bhpσ_21 chpσ_21 if_22 gσ_23 wσ_23 bhpσ_25 chpσ_25 dhpσ_25 osr_24 if_26 gσ_27 wσ_27 kdσ_27 ahpσ_29 bhpσ_29 chpσ_29 dhpσ_29 ehpσ_29 fhpσ_29 gσ_29; omega) | omega)) wσ_27
                  have kqσ_29 : ∀ j, 654 ≤ j → m_c X σ_29 a j = m_c X σ a j := (fun j h => (bhpσ_29 j (by first | (clear hn gσ wσ hh if_1 z7σ_2 gσ_2 wσ_2 kdσ_2 hT if_3 c_4 if_5 gc_6_f_5 c_6 if_7 ahpσ_9 bhpσ_9 chpσ_9 dhpσ_9 scr_8 c_10 if_11 hm61 hge61 gσ_13 wσ_13 kdσ_13 gc_15_x_12 c_15 h5T if_16 if_17 bhpσ_19 chpσ_19 ir_18 bhpσ_21 chpσ_21 if_22 gσ_23 wσ_23 bhpσ_25 chpσ_25 dhpσ_25 osr_24 if_26 gσ_27 wσ_27 kdσ_27 ahpσ_29 bhpσ_29 chpσ_29 dhpσ_29 ehpσ_29 fhpσ_29 gσ_29 wσ_29; omega) | omega) (by first | (clear hn gσ wσ hh if_1 z7σ_2 gσ_2 wσ_2 kdσ_2 hT if_3 c_4 if_5 gc_6_f_5 c_6 if_7 ahpσ_9 bhpσ_9 chpσ_9 dhpσ_9 scr_8 c_10 if_11 hm61 hge61 gσ_13 wσ_13 kdσ_13 gc_15_x_12 c_15 h5T if_16 if_17 bhpσ_19 chpσ_19 ir_18 bhpσ_21 chpσ_21 if_22 gσ_23 wσ_23 bhpσ_25 chpσ_25 dhpσ_25 osr_24 if_26 gσ_27 wσ_27 kdσ_27 ahpσ_29 bhpσ_29 chpσ_29 dhpσ_29 ehpσ_29 fhpσ_29 gσ_29 wσ_29; omega) | omega)).trans (kqσ_27 j h))
                  have kdσ_29 : m_KD 40 X σ σ_29 := kdσ_27.tr fhpσ_29
                  have d7σ_29 := dhpσ_29
                  have d6σ_29 := ehpσ_29
                  obtain ⟨cD, hcD⟩ : ∃ f : Int → Int, f = m_c X σ_29 a := ⟨_, rfl⟩
                  have cxσ_29 : m_c X σ_29 a = cD := hcD.symm
                  have gD : m_G cD := by rw [hcD]; exact gσ_29
                  have hD := gD.hd
                  have zD : cD 7 = 1 ∧ cD 6 = f_11.toInt := by rw [hcD]; exact ⟨d7σ_29, d6σ_29⟩
                  refine lv_aload_n hx hb dX12_turns_172 rfl (lv_at hl 0 rfl) ?_
                  refine lv_dup hx hb dX12_turns_173 rfl ?_
                  refine gs_X12_405_12 E hI ha dX12_turns_174 ?_
                  refine lv_topi (fun f_30 ef_30 => ?_)
                  replace hF := q_letX hF ef_30
                  have if_30 : f_30.toInt = (σ_29.1 a 42).toInt := congrArg Int32.toInt ef_30
                  refine lv_iconst (v := 1) hx hb dX12_turns_177 (by decide) ?_
                  refine lv_iadd hx hb dX12_turns_178 ?_
                  refine lv_topi (fun z_31 ez_31 => ?_)
                  replace hF := q_letX hF ez_31
                  refine ps_X12_405_12 E hI ha (by decide) dX12_turns_179 (fun H locs σ_32 hσ_32 hI => ?_)
                  replace hF := q_letX hF hσ_32
                  have fr_σ_32 := fr_σ_29.si hσ_32 ha rfl
                  have mcσ_32 := m_wo hσ_32 (m_ne ha (q_tk (f := 20) (k' := 34) hI ha rfl (by decide)) (by decide))
                  have gσ_32 : m_G (m_c X σ_32 a) := m_G.ext (fun j _ _ => mcσ_32 j) gσ_29
                  have wσ_32 : m_W (m_c X σ_32 a) n := m_W.ext (fun j _ _ => mcσ_32 j) wσ_29
                  have kqσ_32 : ∀ j, 654 ≤ j → m_c X σ_32 a j = m_c X σ a j := fun j h => (mcσ_32 j).trans (kqσ_29 j h)
                  have kdσ_32 : m_KD 40 X σ σ_32 := (by first | exact kdσ_29.si hσ_32 ha (by decide) | exact kdσ_29.sl hσ_32 | exact kdσ_29.ar hσ_32 ha (by decide) (by decide))
                  have cxσ_32 : m_c X σ_32 a = cD := (funext mcσ_32).trans cxσ_29
                  refine lv_aload_n hx hb dX12_turns_182 rfl (lv_at hl 0 rfl) ?_
                  refine lv_iload_n hx hb dX12_turns_183 rfl (lv_at hl 1 rfl) ?_
                  refine q_ci (q_runV (As := [.int f_11]) (rest := []) E (hml.trans hl.1.symm) hI (c_X12_behindOf l X σ_32 a f_11 ha (by rw [cxσ_32]; exact gD) (by rw [cxσ_32]; exact (by first | (clear hn gσ wσ hh if_1 z7σ_2 gσ_2 wσ_2 kdσ_2 hT if_3 c_4 if_5 gc_6_f_5 c_6 if_7 ahpσ_9 bhpσ_9 chpσ_9 dhpσ_9 scr_8 c_10 if_11 hm61 hge61 gσ_13 wσ_13 kdσ_13 gc_15_x_12 c_15 h5T if_16 if_17 bhpσ_19 chpσ_19 ir_18 bhpσ_21 chpσ_21 if_22 gσ_23 wσ_23 bhpσ_25 chpσ_25 dhpσ_25 osr_24 if_26 gσ_27 wσ_27 kdσ_27 ahpσ_29 bhpσ_29 chpσ_29 dhpσ_29 fhpσ_29 gσ_29 wσ_29 kdσ_29 if_30 gσ_32 wσ_32 kdσ_32; omega) | omega))) kv_X12_319 ha ⟨rfl, by decide⟩ (show vwCl[11]? = some (RX12, TX12, 46) from rfl) rfl ⟨Nat.le_of_ble_eq_true rfl, Nat.le_of_ble_eq_true rfl⟩ ⟨Nat.le_refl _, Nat.le_refl _⟩ rfl (Nat.le_of_ble_eq_true rfl) dX12_turns_184) hI (by decide) (fun r_33 σ_34 H locs hpσ_34 hkσ_34 hI => ?_)
                  obtain ⟨ahpσ_34, bhpσ_34, chpσ_34, dhpσ_34⟩ := hpσ_34
                  rw [ahpσ_34] at hI
                  rw [cxσ_32] at bhpσ_34
                  rw [cxσ_32] at chpσ_34
                  replace hF := q_letX hF dhpσ_34
                  refine lv_istore (lv' := [(4, .int r_33), (0, .ref a), (1, .int f_11), (2, .int r_20), (3, .int r_24)]) hx hb dX12_turns_187 hl (by decide) rfl (fun ls hl => ?_)
                  have L_189_37 : ∀ (k_37 : Nat) (x_35 : Int32) (σ_36 : ST) (H : Heap) (locs : List Loc) (ls : Array Slot), (f_11.toInt - x_35.toInt + 20 * min 1 (max 0 (x_35.toInt - f_11.toInt))).toNat < k_37 → (0 ≤ x_35.toInt ∧ x_35.toInt < cD 2) → (q_ow [(12, 39), (12, 42), (12, 43), (12, 44), (34, 99), (39, 99)] [] X σ σ_36) → (m_G (m_c X σ_36 a)) → (m_W (m_c X σ_36 a) n) → (∀ j, 654 ≤ j → m_c X σ_36 a j = m_c X σ a j) → (m_KD 40 X σ σ_36) → (m_c X σ_36 a = cD) → (F_X12_turns_L189_5 X f_11 a k_37 x_35 σ_36 = out) → q_I X 1 σ s.heap locs σ_36 H → lv_has ls 5 [(0, .ref a), (1, .int f_11), (2, .int r_20), (3, .int r_24), (4, .int x_35)] → W p l e (q_rm 5 112) s m ([.ref a] : List Value).toArray below meth c H locs 0 0 (MQ below (q_Qi X 1 σ (fun (r : Int32) (σ' : ST) => (0 ≤ r.toInt ∧ r.toInt ≤ 1) ∧ (m_G (m_c X σ' a)) ∧ (m_W (m_c X σ' a) (n + 1)) ∧ (∀ j, 654 ≤ j → m_c X σ' a j = m_c X σ a j) ∧ (m_KD 40 X σ σ') ∧ (r, σ') = F_X12_turns X σ a ∧ q_ow [(12, 39), (12, 42), (12, 43), (12, 44), (34, 99), (39, 99)] [] X σ σ')) ([.ref a] : List Value).toArray s 0 0 (q_reg X)) (F0 m 189 ls []) := by
                    clear hF
                    intro k_37
                    induction k_37 with
                    | zero =>
                      intro x_35 σ_36 H locs ls hms
                      try clear loσ_27; try clear fr_σ_27; try clear kqσ_27; try clear kdσ_27; try clear ctσ_27; try clear ahpσ_29; try clear fr_σ_29; try clear kqσ_29; try clear kdσ_29; try clear cxσ_29; try clear fr_σ_32; try clear mcσ_32; try clear kqσ_32; try clear kdσ_32; try clear cxσ_32; try clear ahpσ_34
                      exact absurd hms (Nat.not_lt_zero _)
                    | succ k_37 ih189 =>
                      intro x_35 σ_36 H locs ls hm189 hge189 fr_σ_36 gσ_36 wσ_36 kqσ_36 kdσ_36 cxσ_36 hF hI hl
                      replace hF := (F_X12_turns_L189_5_s).symm.trans hF
                      unfold F_X12_turns_B189_5 at hF
                      refine lv_iload hx hb dX12_turns_189 (lv_at hl 4 rfl) ?_
                      refine lv_iload_n hx hb dX12_turns_191 rfl (lv_at hl 1 rfl) ?_
                      have gc_38_x_35 := q_rng x_35
                      have gc_38_f_11 := q_rng f_11
                      refine q_icmp_eq (A := x_35.toInt) (B := f_11.toInt) E rfl rfl (tgt := 271) dX12_turns_192 (by decide) (fun c_38 => ?_) (fun c_38 => ?_)
                      · skip
                        replace hF := q_ifp hF c_38
                        unfold F_X12_turns_E271_6 at hF
                        refine lv_aload_n hx hb dX12_turns_271 rfl (lv_at hl 0 rfl) ?_
                        refine q_cv (q_runV (As := []) (rest := []) E (hml.trans hl.1.symm) hI (c_X12_leaves l X σ_36 a n ha gσ_36 wσ_36 (by rw [cxσ_36]; omega)) kv_X12_322 ha ⟨rfl, by decide⟩ (show vwCl[11]? = some (RX12, TX12, 46) from rfl) rfl ⟨Nat.le_of_ble_eq_true rfl, Nat.le_of_ble_eq_true rfl⟩ ⟨Nat.le_refl _, Nat.le_refl _⟩ rfl (Nat.le_of_ble_eq_true rfl) dX12_turns_272) hI (by decide) (fun σ_40 H locs hpσ_40 hkσ_40 hI => ?_)
                        obtain ⟨ahpσ_40, bhpσ_40, chpσ_40, dhpσ_40, ehpσ_40, fhpσ_40, ghpσ_40, hhpσ_40⟩ := hpσ_40
                        have fr_σ_40 := fr_σ_36.call hhpσ_40 rfl rfl
                        replace hF := q_letX hF ghpσ_40
                        have gσ_40 : m_G (m_c X σ_40 a) := ahpσ_40
                        have wσ_40 : m_W (m_c X σ_40 a) n := bhpσ_40
                        have kqσ_40 : ∀ j, 654 ≤ j → m_c X σ_40 a j = m_c X σ a j := (fun j h => (chpσ_40 j h).trans (kqσ_36 j h))
                        have kdσ_40 : m_KD 40 X σ σ_40 := kdσ_36.tr dhpσ_40
                        refine lv_iconst (v := 1) hx hb dX12_turns_275 (by decide) ?_
                        have hrv : (1 : Int32).toInt = 1 := rfl
                        exact q_retz E hr hlk hI ⟨by decide, by decide⟩ ⟨⟨by decide, by decide⟩, gσ_40, (by first | exact vσ_40 | exact m_W.le wσ_40 (by first | (clear hn gσ wσ hh if_1 z7σ_2 gσ_2 wσ_2 kdσ_2 hT if_3 c_4 if_5 gc_6_f_5 c_6 if_7 ahpσ_9 bhpσ_9 chpσ_9 dhpσ_9 scr_8 c_10 if_11 hm61 hge61 gσ_13 wσ_13 kdσ_13 gc_15_x_12 c_15 h5T if_16 if_17 bhpσ_19 chpσ_19 ir_18 bhpσ_21 chpσ_21 if_22 gσ_23 wσ_23 bhpσ_25 chpσ_25 dhpσ_25 osr_24 if_26 gσ_27 wσ_27 bhpσ_29 chpσ_29 dhpσ_29 ehpσ_29 fhpσ_29 gσ_29 wσ_29 hD zD if_30 gσ_32 wσ_32 bhpσ_34 chpσ_34 dhpσ_34 hm189 hge189 gσ_36 wσ_36 kdσ_36 gc_38_x_35 gc_38_f_11 c_38 ahpσ_40 bhpσ_40 chpσ_40 dhpσ_40 ehpσ_40 fhpσ_40 gσ_40 wσ_40 kdσ_40 hrv; omega) | omega)), kqσ_40, kdσ_40, (hF.trans hout), fr_σ_40⟩ dX12_turns_276
                      · skip
                        replace hF := q_ifn hF c_38
                        refine lv_aload_n hx hb dX12_turns_195 rfl (lv_at hl 0 rfl) ?_
                        refine lv_iload hx hb dX12_turns_196 (lv_at hl 4 rfl) ?_
                        refine q_ci (q_runV (As := [.int x_35]) (rest := []) E (hml.trans hl.1.symm) hI (c_X12_isImpossible l X σ_36 a x_35 ha (by rw [cxσ_36]; exact gD) (by rw [cxσ_36]; exact (by omega)) (by rw [cxσ_36]; exact (by first | (clear hn gσ wσ hh if_1 z7σ_2 gσ_2 wσ_2 kdσ_2 hT if_3 c_4 if_5 gc_6_f_5 c_6 if_7 ahpσ_9 bhpσ_9 chpσ_9 dhpσ_9 scr_8 c_10 if_11 hm61 hge61 gσ_13 wσ_13 kdσ_13 gc_15_x_12 c_15 h5T if_16 if_17 bhpσ_19 chpσ_19 ir_18 bhpσ_21 chpσ_21 if_22 gσ_23 wσ_23 bhpσ_25 chpσ_25 dhpσ_25 osr_24 if_26 gσ_27 wσ_27 bhpσ_29 chpσ_29 dhpσ_29 ehpσ_29 fhpσ_29 gσ_29 wσ_29 if_30 gσ_32 wσ_32 bhpσ_34 chpσ_34 dhpσ_34 hm189 hge189 gσ_36 wσ_36 kdσ_36 gc_38_x_35 gc_38_f_11 c_38; omega) | omega))) kv_X12_355 ha ⟨rfl, by decide⟩ (show vwCl[11]? = some (RX12, TX12, 46) from rfl) rfl ⟨Nat.le_of_ble_eq_true rfl, Nat.le_of_ble_eq_true rfl⟩ ⟨Nat.le_refl _, Nat.le_refl _⟩ rfl (Nat.le_of_ble_eq_true rfl) dX12_turns_198) hI (by decide) (fun r_41 σ_42 H locs hpσ_42 hkσ_42 hI => ?_)
                        obtain ⟨ahpσ_42, bhpσ_42, chpσ_42⟩ := hpσ_42
                        rw [ahpσ_42] at hI
                        replace hF := q_letX hF chpσ_42
                        refine q_if_ne (A := r_41.toInt) E rfl (tgt := 224) dX12_turns_201 (by decide) (fun c_43 => ?_) (fun c_43 => ?_)
                        · skip
                          replace hF := q_ifn hF c_43
                          replace c_43 := q_ifOne bhpσ_42 c_43
                          unfold F_X12_turns_E224_7 at hF
                          refine lv_aload_n hx hb dX12_turns_224 rfl (lv_at hl 0 rfl) ?_
                          refine lv_dup hx hb dX12_turns_225 rfl ?_
                          refine gs_X12_408_12 E hI ha dX12_turns_226 ?_
                          refine lv_topi (fun f_44 ef_44 => ?_)
                          replace hF := q_letX hF ef_44
                          have if_44 : f_44.toInt = (σ_36.1 a 43).toInt := congrArg Int32.toInt ef_44
                          refine lv_iconst (v := 1) hx hb dX12_turns_229 (by decide) ?_
                          refine lv_iadd hx hb dX12_turns_230 ?_
                          refine lv_topi (fun z_45 ez_45 => ?_)
                          replace hF := q_letX hF ez_45
                          refine ps_X12_408_12 E hI ha (by decide) dX12_turns_231 (fun H locs σ_46 hσ_46 hI => ?_)
                          replace hF := q_letX hF hσ_46
                          have fr_σ_46 := fr_σ_36.si hσ_46 ha rfl
                          have mcσ_46 := m_wo hσ_46 (m_ne ha (q_tk (f := 20) (k' := 34) hI ha rfl (by decide)) (by decide))
                          have gσ_46 : m_G (m_c X σ_46 a) := m_G.ext (fun j _ _ => mcσ_46 j) gσ_36
                          have wσ_46 : m_W (m_c X σ_46 a) n := m_W.ext (fun j _ _ => mcσ_46 j) wσ_36
                          have kqσ_46 : ∀ j, 654 ≤ j → m_c X σ_46 a j = m_c X σ a j := fun j h => (mcσ_46 j).trans (kqσ_36 j h)
                          have kdσ_46 : m_KD 40 X σ σ_46 := (by first | exact kdσ_36.si hσ_46 ha (by decide) | exact kdσ_36.sl hσ_46 | exact kdσ_36.ar hσ_46 ha (by decide) (by decide))
                          have cxσ_46 : m_c X σ_46 a = cD := (funext mcσ_46).trans cxσ_36
                          refine lv_aload_n hx hb dX12_turns_234 rfl (lv_at hl 0 rfl) ?_
                          refine lv_dup hx hb dX12_turns_235 rfl ?_
                          refine gs_X12_411_12 E hI ha dX12_turns_236 ?_
                          refine lv_topi (fun f_47 ef_47 => ?_)
                          replace hF := q_letX hF ef_47
                          have if_47 : f_47.toInt = (σ_46.1 a 44).toInt := congrArg Int32.toInt ef_47
                          refine lv_aload_n hx hb dX12_turns_239 rfl (lv_at hl 0 rfl) ?_
                          refine lv_iload hx hb dX12_turns_240 (lv_at hl 4 rfl) ?_
                          refine q_ci (q_runV (As := [.int x_35]) (rest := [.int f_47, .ref a]) E (hml.trans hl.1.symm) hI (c_X12_doubts l X σ_46 a x_35 n ha gσ_46 wσ_46 (by omega) (by rw [cxσ_46]; omega) (by rw [cxσ_46]; omega) (by rw [cxσ_46]; omega)) kv_X12_328 ha ⟨rfl, by decide⟩ (show vwCl[11]? = some (RX12, TX12, 46) from rfl) rfl ⟨Nat.le_of_ble_eq_true rfl, Nat.le_of_ble_eq_true rfl⟩ ⟨Nat.le_refl _, Nat.le_refl _⟩ rfl (Nat.le_of_ble_eq_true rfl) dX12_turns_242) hI (by decide) (fun r_48 σ_49 H locs hpσ_49 hkσ_49 hI => ?_)
                          obtain ⟨ahpσ_49, bhpσ_49, chpσ_49, dhpσ_49, ehpσ_49, fhpσ_49⟩ := hpσ_49
                          have fr_σ_49 := fr_σ_46.call fhpσ_49 rfl rfl
                          replace hF := q_biX hF ehpσ_49
                          have gσ_49 : m_G (m_c X σ_49 a) := ahpσ_49
                          have vσ_49 : m_W (m_c X σ_49 a) (n + 1) := bhpσ_49
                          have kqσ_49 : ∀ j, 654 ≤ j → m_c X σ_49 a j = m_c X σ a j := (fun j h => (chpσ_49 j h).trans (kqσ_46 j h))
                          have kdσ_49 : m_KD 40 X σ σ_49 := kdσ_46.tr dhpσ_49
                          refine lv_iload_n hx hb dX12_turns_245 rfl (lv_at hl 1 rfl) ?_
                          have gc_50_r_48 := q_rng r_48
                          have gc_50_f_11 := q_rng f_11
                          refine q_icmp_ne (A := r_48.toInt) (B := f_11.toInt) E rfl rfl (tgt := 253) dX12_turns_246 (by decide) (fun c_50 => ?_) (fun c_50 => ?_)
                          · skip
                            replace hF := q_ifn hF c_50
                            refine lv_iconst (v := 0) hx hb dX12_turns_253 (by decide) ?_
                            refine lv_iadd hx hb dX12_turns_254 ?_
                            refine lv_topi (fun z_51 ez_51 => ?_)
                            replace hF := q_letX hF ez_51
                            refine ps_X12_411_12 E hI ha (by decide) dX12_turns_255 (fun H locs σ_52 hσ_52 hI => ?_)
                            replace hF := q_letX hF hσ_52
                            have fr_σ_52 := fr_σ_49.si hσ_52 ha rfl
                            have mcσ_52 := m_wo hσ_52 (m_ne ha (q_tk (f := 20) (k' := 34) hI ha rfl (by decide)) (by decide))
                            have gσ_52 : m_G (m_c X σ_52 a) := m_G.ext (fun j _ _ => mcσ_52 j) gσ_49
                            have vσ_52 : m_W (m_c X σ_52 a) (n + 1) := m_W.ext (fun j _ _ => mcσ_52 j) vσ_49
                            have kqσ_52 : ∀ j, 654 ≤ j → m_c X σ_52 a j = m_c X σ a j := fun j h => (mcσ_52 j).trans (kqσ_49 j h)
                            have kdσ_52 : m_KD 40 X σ σ_52 := (by first | exact kdσ_49.si hσ_52 ha (by decide) | exact kdσ_49.sl hσ_52 | exact kdσ_49.ar hσ_52 ha (by decide) (by decide))
                            refine lv_iconst (v := 1) hx hb dX12_turns_258 (by decide) ?_
                            have hrv : (1 : Int32).toInt = 1 := rfl
                            exact q_retz E hr hlk hI ⟨by decide, by decide⟩ ⟨⟨by decide, by decide⟩, gσ_52, (by first | exact vσ_52 | exact m_W.le wσ_52 (by omega)), kqσ_52, kdσ_52, (hF.trans hout), fr_σ_52⟩ dX12_turns_259
                          · skip
                            replace hF := q_ifp hF c_50
                            refine lv_iconst (v := 1) hx hb dX12_turns_249 (by decide) ?_
                            refine lv_goto (tgt := 254) hx hb dX12_turns_250 (by decide) ?_
                            refine lv_iadd hx hb dX12_turns_254 ?_
                            refine lv_topi (fun z_53 ez_53 => ?_)
                            replace hF := q_letX hF ez_53
                            refine ps_X12_411_12 E hI ha (by decide) dX12_turns_255 (fun H locs σ_54 hσ_54 hI => ?_)
                            replace hF := q_letX hF hσ_54
                            have fr_σ_54 := fr_σ_49.si hσ_54 ha rfl
                            have mcσ_54 := m_wo hσ_54 (m_ne ha (q_tk (f := 20) (k' := 34) hI ha rfl (by decide)) (by decide))
                            have gσ_54 : m_G (m_c X σ_54 a) := m_G.ext (fun j _ _ => mcσ_54 j) gσ_49
                            have vσ_54 : m_W (m_c X σ_54 a) (n + 1) := m_W.ext (fun j _ _ => mcσ_54 j) vσ_49
                            have kqσ_54 : ∀ j, 654 ≤ j → m_c X σ_54 a j = m_c X σ a j := fun j h => (mcσ_54 j).trans (kqσ_49 j h)
                            have kdσ_54 : m_KD 40 X σ σ_54 := (by first | exact kdσ_49.si hσ_54 ha (by decide) | exact kdσ_49.sl hσ_54 | exact kdσ_49.ar hσ_54 ha (by decide) (by decide))
                            refine lv_iconst (v := 1) hx hb dX12_turns_258 (by decide) ?_
                            have hrv : (1 : Int32).toInt = 1 := rfl
                            exact q_retz E hr hlk hI ⟨by decide, by decide⟩ ⟨⟨by decide, by decide⟩, gσ_54, (by first | exact vσ_54 | exact m_W.le wσ_54 (by omega)), kqσ_54, kdσ_54, (hF.trans hout), fr_σ_54⟩ dX12_turns_259
                        · skip
                          replace hF := q_ifp hF c_43
                          refine lv_aload_n hx hb dX12_turns_204 rfl (lv_at hl 0 rfl) ?_
                          refine q_ci (q_runV (As := []) (rest := []) E (hml.trans hl.1.symm) hI (c_X12_draw l X σ_36 a ha) kv_X12_402 ha ⟨rfl, by decide⟩ (show vwCl[11]? = some (RX12, TX12, 46) from rfl) rfl ⟨Nat.le_of_ble_eq_true rfl, Nat.le_of_ble_eq_true rfl⟩ ⟨Nat.le_refl _, Nat.le_refl _⟩ rfl (Nat.le_of_ble_eq_true rfl) dX12_turns_205) hI (by decide) (fun r_55 σ_56 H locs hpσ_56 hkσ_56 hI => ?_)
                          obtain ⟨ahpσ_56, bhpσ_56, chpσ_56⟩ := hpσ_56
                          have fr_σ_56 := fr_σ_36.call chpσ_56 rfl rfl
                          replace hF := q_biX hF bhpσ_56
                          have mcσ_56 := m_cK hkσ_56 hI.1 ha (by decide)
                          have gσ_56 : m_G (m_c X σ_56 a) := m_G.ext (fun j _ _ => mcσ_56 j) gσ_36
                          have wσ_56 : m_W (m_c X σ_56 a) n := m_W.ext (fun j _ _ => mcσ_56 j) wσ_36
                          have kqσ_56 : ∀ j, 654 ≤ j → m_c X σ_56 a j = m_c X σ a j := fun j h => (mcσ_56 j).trans (kqσ_36 j h)
                          have kdσ_56 : m_KD 40 X σ σ_56 := kdσ_36.draw ahpσ_56 ha
                          have cxσ_56 : m_c X σ_56 a = cD := (funext mcσ_56).trans cxσ_36
                          refine lv_aload_n hx hb dX12_turns_208 rfl (lv_at hl 0 rfl) ?_
                          refine gs_X12_35_12 E hI ha dX12_turns_209 ?_
                          refine lv_bipush (v := 16) hx hb dX12_turns_212 (by decide) ?_
                          refine lv_iload hx hb dX12_turns_214 (lv_at hl 4 rfl) ?_
                          refine lv_iadd hx hb dX12_turns_216 ?_
                          refine lv_topi (fun z_57 ez_57 => ?_)
                          replace hF := q_letX hF ez_57
                          have iz_57 := q_addI (A := 16) (B := x_35.toInt) ez_57 (by decide) rfl (by first | (clear hn gσ wσ hh if_1 z7σ_2 gσ_2 wσ_2 kdσ_2 hT if_3 c_4 if_5 gc_6_f_5 c_6 if_7 ahpσ_9 bhpσ_9 chpσ_9 dhpσ_9 scr_8 c_10 if_11 hm61 hge61 gσ_13 wσ_13 kdσ_13 gc_15_x_12 c_15 h5T if_16 if_17 bhpσ_19 chpσ_19 ir_18 bhpσ_21 chpσ_21 if_22 gσ_23 wσ_23 bhpσ_25 chpσ_25 dhpσ_25 osr_24 if_26 gσ_27 wσ_27 bhpσ_29 chpσ_29 dhpσ_29 ehpσ_29 fhpσ_29 gσ_29 wσ_29 hD zD if_30 gσ_32 wσ_32 bhpσ_34 chpσ_34 dhpσ_34 hm189 gσ_36 wσ_36 kdσ_36 gc_38_f_11 c_38 ahpσ_42 bhpσ_42 chpσ_42 c_43 ahpσ_56 bhpσ_56 chpσ_56 gσ_56 wσ_56 kdσ_56; omega) | omega) (by first | (clear hn gσ wσ hh if_1 z7σ_2 gσ_2 wσ_2 kdσ_2 if_3 c_4 gc_6_f_5 ahpσ_9 bhpσ_9 chpσ_9 dhpσ_9 scr_8 c_10 hm61 hge61 gσ_13 wσ_13 kdσ_13 gc_15_x_12 c_15 h5T if_16 if_17 bhpσ_19 chpσ_19 ir_18 bhpσ_21 chpσ_21 if_22 gσ_23 wσ_23 bhpσ_25 chpσ_25 dhpσ_25 osr_24 if_26 gσ_27 wσ_27 bhpσ_29 chpσ_29 dhpσ_29 fhpσ_29 gσ_29 wσ_29 if_30 gσ_32 wσ_32 bhpσ_34 chpσ_34 dhpσ_34 hm189 gσ_36 wσ_36 kdσ_36 c_38 ahpσ_42 bhpσ_42 chpσ_42 c_43 ahpσ_56 bhpσ_56 chpσ_56 gσ_56 wσ_56 kdσ_56; omega) | omega)
                          refine q_iald E hI (q_tk (k' := 34) hI ha rfl (by decide)) ⟨by decide, rfl⟩ (by first | (clear hn gσ wσ hh if_1 z7σ_2 gσ_2 wσ_2 kdσ_2 hT if_3 c_4 if_5 gc_6_f_5 c_6 if_7 ahpσ_9 bhpσ_9 chpσ_9 dhpσ_9 scr_8 c_10 if_11 hm61 hge61 gσ_13 wσ_13 kdσ_13 gc_15_x_12 c_15 h5T if_16 if_17 bhpσ_19 chpσ_19 ir_18 bhpσ_21 chpσ_21 if_22 gσ_23 wσ_23 bhpσ_25 chpσ_25 dhpσ_25 osr_24 if_26 gσ_27 wσ_27 bhpσ_29 chpσ_29 dhpσ_29 ehpσ_29 fhpσ_29 gσ_29 wσ_29 hD zD if_30 gσ_32 wσ_32 bhpσ_34 chpσ_34 dhpσ_34 hm189 gσ_36 wσ_36 kdσ_36 gc_38_f_11 c_38 ahpσ_42 bhpσ_42 chpσ_42 c_43 ahpσ_56 bhpσ_56 chpσ_56 gσ_56 wσ_56 kdσ_56; omega) | omega) (by rw [q_lnk (v := 4650) hI (q_tk (k' := 34) hI ha rfl (by decide)) rfl (by decide)]; omega) dX12_turns_217 ?_
                          refine lv_topi (fun f_58 ef_58 => ?_)
                          replace hF := q_letX hF ef_58
                          have if_58 : f_58.toInt = cD (16 + x_35.toInt) := (m_rd ef_58 iz_57).trans (congrFun cxσ_56 _)
                          have gc_59_r_55 := q_rng r_55
                          have gc_59_f_58 := q_rng f_58
                          refine q_icmp_lt (A := r_55.toInt) (B := f_58.toInt) E rfl rfl (tgt := 224) dX12_turns_218 (by decide) (fun c_59 => ?_) (fun c_59 => ?_)
                          · skip
                            replace hF := q_ifp hF c_59
                            unfold F_X12_turns_E224_8 at hF
                            refine lv_aload_n hx hb dX12_turns_224 rfl (lv_at hl 0 rfl) ?_
                            refine lv_dup hx hb dX12_turns_225 rfl ?_
                            refine gs_X12_408_12 E hI ha dX12_turns_226 ?_
                            refine lv_topi (fun f_60 ef_60 => ?_)
                            replace hF := q_letX hF ef_60
                            have if_60 : f_60.toInt = (σ_56.1 a 43).toInt := congrArg Int32.toInt ef_60
                            refine lv_iconst (v := 1) hx hb dX12_turns_229 (by decide) ?_
                            refine lv_iadd hx hb dX12_turns_230 ?_
                            refine lv_topi (fun z_61 ez_61 => ?_)
                            replace hF := q_letX hF ez_61
                            refine ps_X12_408_12 E hI ha (by decide) dX12_turns_231 (fun H locs σ_62 hσ_62 hI => ?_)
                            replace hF := q_letX hF hσ_62
                            have fr_σ_62 := fr_σ_56.si hσ_62 ha rfl
                            have mcσ_62 := m_wo hσ_62 (m_ne ha (q_tk (f := 20) (k' := 34) hI ha rfl (by decide)) (by decide))
                            have gσ_62 : m_G (m_c X σ_62 a) := m_G.ext (fun j _ _ => mcσ_62 j) gσ_56
                            have wσ_62 : m_W (m_c X σ_62 a) n := m_W.ext (fun j _ _ => mcσ_62 j) wσ_56
                            have kqσ_62 : ∀ j, 654 ≤ j → m_c X σ_62 a j = m_c X σ a j := fun j h => (mcσ_62 j).trans (kqσ_56 j h)
                            have kdσ_62 : m_KD 40 X σ σ_62 := (by first | exact kdσ_56.si hσ_62 ha (by decide) | exact kdσ_56.sl hσ_62 | exact kdσ_56.ar hσ_62 ha (by decide) (by decide))
                            have cxσ_62 : m_c X σ_62 a = cD := (funext mcσ_62).trans cxσ_56
                            refine lv_aload_n hx hb dX12_turns_234 rfl (lv_at hl 0 rfl) ?_
                            refine lv_dup hx hb dX12_turns_235 rfl ?_
                            refine gs_X12_411_12 E hI ha dX12_turns_236 ?_
                            refine lv_topi (fun f_63 ef_63 => ?_)
                            replace hF := q_letX hF ef_63
                            have if_63 : f_63.toInt = (σ_62.1 a 44).toInt := congrArg Int32.toInt ef_63
                            refine lv_aload_n hx hb dX12_turns_239 rfl (lv_at hl 0 rfl) ?_
                            refine lv_iload hx hb dX12_turns_240 (lv_at hl 4 rfl) ?_
                            refine q_ci (q_runV (As := [.int x_35]) (rest := [.int f_63, .ref a]) E (hml.trans hl.1.symm) hI (c_X12_doubts l X σ_62 a x_35 n ha gσ_62 wσ_62 (by omega) (by rw [cxσ_62]; omega) (by rw [cxσ_62]; omega) (by rw [cxσ_62]; omega)) kv_X12_328 ha ⟨rfl, by decide⟩ (show vwCl[11]? = some (RX12, TX12, 46) from rfl) rfl ⟨Nat.le_of_ble_eq_true rfl, Nat.le_of_ble_eq_true rfl⟩ ⟨Nat.le_refl _, Nat.le_refl _⟩ rfl (Nat.le_of_ble_eq_true rfl) dX12_turns_242) hI (by decide) (fun r_64 σ_65 H locs hpσ_65 hkσ_65 hI => ?_)
                            obtain ⟨ahpσ_65, bhpσ_65, chpσ_65, dhpσ_65, ehpσ_65, fhpσ_65⟩ := hpσ_65
                            have fr_σ_65 := fr_σ_62.call fhpσ_65 rfl rfl
                            replace hF := q_biX hF ehpσ_65
                            have gσ_65 : m_G (m_c X σ_65 a) := ahpσ_65
                            have vσ_65 : m_W (m_c X σ_65 a) (n + 1) := bhpσ_65
                            have kqσ_65 : ∀ j, 654 ≤ j → m_c X σ_65 a j = m_c X σ a j := (fun j h => (chpσ_65 j h).trans (kqσ_62 j h))
                            have kdσ_65 : m_KD 40 X σ σ_65 := kdσ_62.tr dhpσ_65
                            refine lv_iload_n hx hb dX12_turns_245 rfl (lv_at hl 1 rfl) ?_
                            have gc_66_r_64 := q_rng r_64
                            have gc_66_f_11 := q_rng f_11
                            refine q_icmp_ne (A := r_64.toInt) (B := f_11.toInt) E rfl rfl (tgt := 253) dX12_turns_246 (by decide) (fun c_66 => ?_) (fun c_66 => ?_)
                            · skip
                              replace hF := q_ifn hF c_66
                              refine lv_iconst (v := 0) hx hb dX12_turns_253 (by decide) ?_
                              refine lv_iadd hx hb dX12_turns_254 ?_
                              refine lv_topi (fun z_67 ez_67 => ?_)
                              replace hF := q_letX hF ez_67
                              refine ps_X12_411_12 E hI ha (by decide) dX12_turns_255 (fun H locs σ_68 hσ_68 hI => ?_)
                              replace hF := q_letX hF hσ_68
                              have fr_σ_68 := fr_σ_65.si hσ_68 ha rfl
                              have mcσ_68 := m_wo hσ_68 (m_ne ha (q_tk (f := 20) (k' := 34) hI ha rfl (by decide)) (by decide))
                              have gσ_68 : m_G (m_c X σ_68 a) := m_G.ext (fun j _ _ => mcσ_68 j) gσ_65
                              have vσ_68 : m_W (m_c X σ_68 a) (n + 1) := m_W.ext (fun j _ _ => mcσ_68 j) vσ_65
                              have kqσ_68 : ∀ j, 654 ≤ j → m_c X σ_68 a j = m_c X σ a j := fun j h => (mcσ_68 j).trans (kqσ_65 j h)
                              have kdσ_68 : m_KD 40 X σ σ_68 := (by first | exact kdσ_65.si hσ_68 ha (by decide) | exact kdσ_65.sl hσ_68 | exact kdσ_65.ar hσ_68 ha (by decide) (by decide))
                              refine lv_iconst (v := 1) hx hb dX12_turns_258 (by decide) ?_
                              have hrv : (1 : Int32).toInt = 1 := rfl
                              exact q_retz E hr hlk hI ⟨by decide, by decide⟩ ⟨⟨by decide, by decide⟩, gσ_68, (by first | exact vσ_68 | exact m_W.le wσ_68 (by omega)), kqσ_68, kdσ_68, (hF.trans hout), fr_σ_68⟩ dX12_turns_259
                            · skip
                              replace hF := q_ifp hF c_66
                              refine lv_iconst (v := 1) hx hb dX12_turns_249 (by decide) ?_
                              refine lv_goto (tgt := 254) hx hb dX12_turns_250 (by decide) ?_
                              refine lv_iadd hx hb dX12_turns_254 ?_
                              refine lv_topi (fun z_69 ez_69 => ?_)
                              replace hF := q_letX hF ez_69
                              refine ps_X12_411_12 E hI ha (by decide) dX12_turns_255 (fun H locs σ_70 hσ_70 hI => ?_)
                              replace hF := q_letX hF hσ_70
                              have fr_σ_70 := fr_σ_65.si hσ_70 ha rfl
                              have mcσ_70 := m_wo hσ_70 (m_ne ha (q_tk (f := 20) (k' := 34) hI ha rfl (by decide)) (by decide))
                              have gσ_70 : m_G (m_c X σ_70 a) := m_G.ext (fun j _ _ => mcσ_70 j) gσ_65
                              have vσ_70 : m_W (m_c X σ_70 a) (n + 1) := m_W.ext (fun j _ _ => mcσ_70 j) vσ_65
                              have kqσ_70 : ∀ j, 654 ≤ j → m_c X σ_70 a j = m_c X σ a j := fun j h => (mcσ_70 j).trans (kqσ_65 j h)
                              have kdσ_70 : m_KD 40 X σ σ_70 := (by first | exact kdσ_65.si hσ_70 ha (by decide) | exact kdσ_65.sl hσ_70 | exact kdσ_65.ar hσ_70 ha (by decide) (by decide))
                              refine lv_iconst (v := 1) hx hb dX12_turns_258 (by decide) ?_
                              have hrv : (1 : Int32).toInt = 1 := rfl
                              exact q_retz E hr hlk hI ⟨by decide, by decide⟩ ⟨⟨by decide, by decide⟩, gσ_70, (by first | exact vσ_70 | exact m_W.le wσ_70 (by omega)), kqσ_70, kdσ_70, (hF.trans hout), fr_σ_70⟩ dX12_turns_259
                          · skip
                            replace hF := q_ifn hF (Int.not_lt.mpr c_59)
                            refine lv_goto (tgt := 260) hx hb dX12_turns_221 (by decide) ?_
                            refine lv_aload_n hx hb dX12_turns_260 rfl (lv_at hl 0 rfl) ?_
                            refine lv_iload hx hb dX12_turns_261 (lv_at hl 4 rfl) ?_
                            refine q_ci (q_runV (As := [.int x_35]) (rest := []) E (hml.trans hl.1.symm) hI (c_X12_behindOf l X σ_56 a x_35 ha (by rw [cxσ_56]; exact gD) (by rw [cxσ_56]; exact (by omega))) kv_X12_319 ha ⟨rfl, by decide⟩ (show vwCl[11]? = some (RX12, TX12, 46) from rfl) rfl ⟨Nat.le_of_ble_eq_true rfl, Nat.le_of_ble_eq_true rfl⟩ ⟨Nat.le_refl _, Nat.le_refl _⟩ rfl (Nat.le_of_ble_eq_true rfl) dX12_turns_263) hI (by decide) (fun r_71 σ_72 H locs hpσ_72 hkσ_72 hI => ?_)
                            obtain ⟨ahpσ_72, bhpσ_72, chpσ_72, dhpσ_72⟩ := hpσ_72
                            rw [ahpσ_72] at hI
                            rw [cxσ_56] at bhpσ_72
                            rw [cxσ_56] at chpσ_72
                            replace hF := q_letX hF dhpσ_72
                            refine lv_istore (lv' := [(4, .int r_71), (0, .ref a), (1, .int f_11), (2, .int r_20), (3, .int r_24)]) hx hb dX12_turns_266 hl (by decide) rfl (fun ls hl => ?_)
                            refine lv_goto (tgt := 189) hx hb dX12_turns_268 (by decide) ?_
                            exact ih189 r_71 σ_56 _ _ ls (by first | (clear hn gσ wσ hh if_1 z7σ_2 gσ_2 wσ_2 kdσ_2 if_3 c_4 gc_6_f_5 ahpσ_9 bhpσ_9 chpσ_9 dhpσ_9 scr_8 c_10 hm61 hge61 gσ_13 wσ_13 kdσ_13 gc_15_x_12 c_15 h5T if_16 if_17 bhpσ_19 chpσ_19 ir_18 bhpσ_21 chpσ_21 if_22 gσ_23 wσ_23 bhpσ_25 chpσ_25 dhpσ_25 osr_24 if_26 gσ_27 wσ_27 bhpσ_29 chpσ_29 dhpσ_29 fhpσ_29 gσ_29 wσ_29 if_30 gσ_32 wσ_32 bhpσ_34 chpσ_34 dhpσ_34 gσ_36 wσ_36 kdσ_36 ahpσ_42 bhpσ_42 chpσ_42 c_43 ahpσ_56 bhpσ_56 chpσ_56 gσ_56 wσ_56 kdσ_56 if_58 gc_59_r_55 gc_59_f_58 c_59 ahpσ_72 dhpσ_72; omega) | omega) (by omega) fr_σ_56 gσ_56 wσ_56 kqσ_56 kdσ_56 cxσ_56 hF hI (lv_sub hl [1, 2, 3, 4, 0] rfl)
                  exact L_189_37 ((f_11.toInt - r_33.toInt + 20 * min 1 (max 0 (r_33.toInt - f_11.toInt))).toNat + 1) r_33 σ_32 _ _ ls (Nat.lt_succ_self _) (by omega) fr_σ_32 gσ_32 wσ_32 kqσ_32 kdσ_32 cxσ_32 hF hI (lv_sub hl [1, 2, 3, 4, 0] rfl)
                have gc_73_r_20 := q_rng r_20
                have gc_73_f_26 := q_rng f_26
                refine q_icmp_ge (A := r_20.toInt) (B := f_26.toInt) E rfl rfl (tgt := 163) dX12_turns_126 (by decide) (fun c_73 => ?_) (fun c_73 => ?_)
                · skip
                  replace hF := q_ifn hF (Int.not_lt.mpr c_73)
                  exact J_163_27 σ_23 _ _ ls (by first | exact lo2σ_23 | exact m_lo.one gT (by first | (clear hn gσ wσ hh if_1 z7σ_2 gσ_2 wσ_2 kdσ_2 if_3 c_4 gc_6_f_5 ahpσ_9 bhpσ_9 chpσ_9 dhpσ_9 scr_8 c_10 hm61 hge61 gσ_13 wσ_13 kdσ_13 gc_15_x_12 c_15 h5T if_16 if_17 bhpσ_19 chpσ_19 ir_18 bhpσ_21 chpσ_21 if_22 gσ_23 wσ_23 bhpσ_25 chpσ_25 dhpσ_25 osr_24 if_26 gc_73_r_20 gc_73_f_26 c_73; omega) | omega) l1σ_23 (by first | (clear hn gσ wσ hh if_1 z7σ_2 gσ_2 wσ_2 kdσ_2 if_3 c_4 if_5 gc_6_f_5 c_6 if_7 ahpσ_9 bhpσ_9 chpσ_9 dhpσ_9 scr_8 c_10 if_11 hm61 hge61 gσ_13 wσ_13 kdσ_13 gc_15_x_12 c_15 h5T if_17 chpσ_19 ir_18 chpσ_21 if_22 gσ_23 wσ_23 bhpσ_25 chpσ_25 dhpσ_25 gc_73_f_26; omega) | omega) (by rw [if_11]; omega)) fr_σ_23 gσ_23 wσ_23 kqσ_23 kdσ_23 ctσ_23 hF hI (lv_sub hl [2, 3, 1, 0] rfl)
                · skip
                  replace hF := q_ifp hF c_73
                  refine lv_iload_n hx hb dX12_turns_129 rfl (lv_at hl 0 rfl) ?_
                  refine q_if_lt (A := r_24.toInt) E rfl (tgt := 163) dX12_turns_130 (by decide) (fun c_74 => ?_) (fun c_74 => ?_)
                  · skip
                    replace hF := q_ifp hF c_74
                    exact J_163_27 σ_23 _ _ ls (by first | exact lo2σ_23 | exact m_lo.one gT (by first | (clear hn gσ wσ hh if_1 z7σ_2 gσ_2 wσ_2 kdσ_2 if_3 c_4 gc_6_f_5 ahpσ_9 bhpσ_9 chpσ_9 dhpσ_9 scr_8 c_10 hm61 hge61 gσ_13 wσ_13 kdσ_13 gc_15_x_12 c_15 h5T if_16 if_17 bhpσ_19 chpσ_19 ir_18 bhpσ_21 chpσ_21 if_22 gσ_23 wσ_23 bhpσ_25 chpσ_25 dhpσ_25 osr_24 if_26 gc_73_r_20 gc_73_f_26 c_73 c_74; omega) | omega) l1σ_23 (by first | (clear hn gσ wσ hh if_1 z7σ_2 gσ_2 wσ_2 kdσ_2 if_3 c_4 if_5 gc_6_f_5 c_6 if_7 ahpσ_9 bhpσ_9 chpσ_9 dhpσ_9 scr_8 c_10 if_11 hm61 hge61 gσ_13 wσ_13 kdσ_13 gc_15_x_12 c_15 if_17 chpσ_19 chpσ_21 if_22 gσ_23 wσ_23 bhpσ_25 dhpσ_25 gc_73_f_26; omega) | omega) (by rw [if_11]; omega)) fr_σ_23 gσ_23 wσ_23 kqσ_23 kdσ_23 ctσ_23 hF hI (lv_sub hl [2, 3, 1, 0] rfl)
                  · skip
                    replace hF := q_ifn hF (Int.not_lt.mpr c_74)
                    refine lv_iload_n hx hb dX12_turns_133 rfl (lv_at hl 1 rfl) ?_
                    refine q_if_eq (A := r_20.toInt) E rfl (tgt := 153) dX12_turns_134 (by decide) (fun c_75 => ?_) (fun c_75 => ?_)
                    · skip
                      replace hF := q_ifp hF c_75
                      have op := otr_24.pos (by omega)
                      refine lv_aload_n hx hb dX12_turns_153 rfl (lv_at hl 2 rfl) ?_
                      refine gs_X12_47_12 E hI ha dX12_turns_154 ?_
                      refine lv_iload_n hx hb dX12_turns_157 rfl (lv_at hl 0 rfl) ?_
                      refine lv_dup2_11 hx hb dX12_turns_158 rfl rfl ?_
                      refine q_iald E hI (q_tk (k' := 39) hI ha rfl (by decide)) ⟨by decide, rfl⟩ (by omega) (by rw [q_lnk (v := 10) hI (q_tk (k' := 39) hI ha rfl (by decide)) rfl (by decide)]; omega) dX12_turns_159 ?_
                      refine lv_topi (fun f_76 ef_76 => ?_)
                      replace hF := q_letX hF ef_76
                      have lyf_76 : f_76.toInt = m_of σ_23 (q_rf X a 28) r_24.toInt := by rw [ef_76]; rfl
                      have lzf_76 := l1σ_23 r_24.toInt (by omega) (by first | (clear hn gσ wσ hh if_1 z7σ_2 gσ_2 wσ_2 kdσ_2 if_3 c_4 if_5 gc_6_f_5 c_6 if_7 ahpσ_9 bhpσ_9 chpσ_9 dhpσ_9 scr_8 c_10 if_11 hm61 hge61 gσ_13 wσ_13 kdσ_13 gc_15_x_12 c_15 h5T if_16 if_17 bhpσ_19 chpσ_19 ir_18 bhpσ_21 chpσ_21 if_22 gσ_23 wσ_23 bhpσ_25 dhpσ_25 osr_24 if_26 gc_73_r_20 gc_73_f_26 c_73 c_74 c_75 op lyf_76; omega) | omega)
                      rw [if_neg (by first | (clear hn gσ wσ hh if_1 z7σ_2 gσ_2 wσ_2 kdσ_2 hT if_3 c_4 if_5 gc_6_f_5 c_6 if_7 ahpσ_9 bhpσ_9 chpσ_9 dhpσ_9 scr_8 c_10 if_11 hm61 hge61 gσ_13 wσ_13 kdσ_13 gc_15_x_12 c_15 h5T if_16 bhpσ_19 chpσ_19 ir_18 bhpσ_21 chpσ_21 gσ_23 wσ_23 bhpσ_25 chpσ_25 dhpσ_25 osr_24 if_26 gc_73_r_20 gc_73_f_26 c_73 c_74 c_75 lyf_76 lzf_76; omega) | omega)] at lzf_76
                      refine lv_iconst (v := 1) hx hb dX12_turns_160 (by decide) ?_
                      refine lv_iadd hx hb dX12_turns_161 ?_
                      refine lv_topi (fun z_77 ez_77 => ?_)
                      replace hF := q_letX hF ez_77
                      have iz_77 := q_addI (A := f_76.toInt) (B := 1) ez_77 rfl (by decide) (by first | (clear hn gσ wσ hh if_1 z7σ_2 gσ_2 wσ_2 kdσ_2 hT if_3 c_4 if_5 gc_6_f_5 c_6 if_7 ahpσ_9 bhpσ_9 chpσ_9 dhpσ_9 scr_8 c_10 if_11 hm61 hge61 gσ_13 wσ_13 kdσ_13 gc_15_x_12 c_15 h5T if_16 if_17 bhpσ_19 chpσ_19 ir_18 bhpσ_21 chpσ_21 if_22 gσ_23 wσ_23 bhpσ_25 chpσ_25 dhpσ_25 osr_24 if_26 gc_73_r_20 gc_73_f_26 c_73 c_74 c_75 op; omega) | omega) (by first | (clear hn gσ wσ hh if_1 z7σ_2 gσ_2 wσ_2 kdσ_2 hT if_3 c_4 if_5 gc_6_f_5 c_6 if_7 ahpσ_9 bhpσ_9 chpσ_9 dhpσ_9 scr_8 c_10 if_11 hm61 hge61 gσ_13 wσ_13 kdσ_13 gc_15_x_12 c_15 h5T if_16 if_17 bhpσ_19 chpσ_19 ir_18 bhpσ_21 chpσ_21 if_22 gσ_23 wσ_23 bhpσ_25 chpσ_25 dhpσ_25 osr_24 if_26 gc_73_r_20 gc_73_f_26 c_73 c_74 c_75 op; omega) | omega)
                      refine q_iastN E hI (q_tk (k' := 39) hI ha rfl (by decide)) ⟨by decide, rfl⟩ (by omega) (by rw [q_lnk (v := 10) hI (q_tk (k' := 39) hI ha rfl (by decide)) rfl (by decide)]; omega) (show 1 < 9 by decide) (q_inU rfl) dX12_turns_162 (fun H locs σ_78 hσ_78 hI => ?_)
                      replace hF := q_letX hF hσ_78
                      have fr_σ_78 := fr_σ_23.si hσ_78 (q_tk (k' := 39) hI ha rfl (by decide)) rfl
                      have mcσ_78 := m_wo hσ_78 (m_ne (q_tk (k' := 39) hI ha rfl (by decide)) (q_tk (f := 20) (k' := 34) hI ha rfl (by decide)) (by decide))
                      have gσ_78 : m_G (m_c X σ_78 a) := m_G.ext (fun j _ _ => mcσ_78 j) gσ_23
                      have wσ_78 : m_W (m_c X σ_78 a) n := m_W.ext (fun j _ _ => mcσ_78 j) wσ_23
                      have kqσ_78 : ∀ j, 654 ≤ j → m_c X σ_78 a j = m_c X σ a j := fun j h => (mcσ_78 j).trans (kqσ_23 j h)
                      have kdσ_78 : m_KD 40 X σ σ_78 := (by first | exact kdσ_23.si hσ_78 ha (by decide) | exact kdσ_23.sl hσ_78 | exact kdσ_23.ar hσ_78 (q_tk (k' := 39) hI ha rfl (by decide)) (by decide) (by decide))
                      have ctσ_78 : m_c X σ_78 a = cT := (funext mcσ_78).trans ctσ_23
                      have lo2σ_78 : m_lo cT (m_of σ_78 (q_rf X a 28)) f_11.toInt := m_lo.two gT (by first | (clear hn gσ wσ hh if_1 z7σ_2 gσ_2 wσ_2 kdσ_2 if_3 c_4 gc_6_f_5 ahpσ_9 bhpσ_9 chpσ_9 dhpσ_9 scr_8 c_10 hm61 hge61 gσ_13 wσ_13 kdσ_13 gc_15_x_12 c_15 h5T if_16 if_17 bhpσ_19 chpσ_19 ir_18 bhpσ_21 chpσ_21 if_22 gσ_23 wσ_23 bhpσ_25 chpσ_25 dhpσ_25 osr_24 if_26 gc_73_r_20 gc_73_f_26 c_73 c_74 c_75 op lyf_76 lzf_76 iz_77 gσ_78 wσ_78 kdσ_78; omega) | omega) l1σ_23 (m_ofw hσ_78 (rfl : r_24.toInt = _) (by omega)) (by first | (clear hn gσ wσ hh if_1 z7σ_2 gσ_2 wσ_2 kdσ_2 hT if_3 c_4 if_5 gc_6_f_5 c_6 if_7 ahpσ_9 bhpσ_9 chpσ_9 dhpσ_9 scr_8 c_10 if_11 hm61 hge61 gσ_13 wσ_13 kdσ_13 gc_15_x_12 c_15 h5T if_16 if_17 bhpσ_19 chpσ_19 ir_18 bhpσ_21 chpσ_21 if_22 gσ_23 wσ_23 bhpσ_25 chpσ_25 dhpσ_25 osr_24 if_26 gc_73_r_20 gc_73_f_26 c_73 c_74 c_75 op gσ_78 wσ_78 kdσ_78; omega) | omega) (by first | (clear hn gσ wσ hh if_1 z7σ_2 gσ_2 wσ_2 kdσ_2 hT if_3 c_4 if_5 gc_6_f_5 c_6 if_7 ahpσ_9 bhpσ_9 chpσ_9 dhpσ_9 scr_8 c_10 if_11 hm61 hge61 gσ_13 wσ_13 kdσ_13 gc_15_x_12 c_15 h5T if_16 if_17 bhpσ_19 chpσ_19 ir_18 chpσ_21 if_22 gσ_23 wσ_23 bhpσ_25 chpσ_25 dhpσ_25 osr_24 if_26 gc_73_r_20 gc_73_f_26 c_73 c_74 op lyf_76 lzf_76 iz_77 gσ_78 wσ_78 kdσ_78; omega) | omega) (by rw [if_11]; omega) (by first | (clear hn gσ wσ hh if_1 z7σ_2 gσ_2 wσ_2 kdσ_2 if_3 c_4 if_5 gc_6_f_5 c_6 if_7 ahpσ_9 bhpσ_9 chpσ_9 dhpσ_9 scr_8 c_10 if_11 hm61 hge61 gσ_13 wσ_13 kdσ_13 gc_15_x_12 c_15 h5T if_16 if_17 bhpσ_19 chpσ_19 ir_18 bhpσ_21 chpσ_21 if_22 gσ_23 wσ_23 bhpσ_25 dhpσ_25 osr_24 if_26 gc_73_r_20 gc_73_f_26 c_73 c_75 op lyf_76 lzf_76 iz_77 gσ_78 wσ_78 kdσ_78; omega) | omega) (by first | (clear hn gσ wσ hh if_1 z7σ_2 gσ_2 wσ_2 kdσ_2 hT if_3 c_4 if_5 gc_6_f_5 c_6 if_7 ahpσ_9 bhpσ_9 chpσ_9 dhpσ_9 scr_8 c_10 if_11 hm61 hge61 gσ_13 wσ_13 kdσ_13 gc_15_x_12 c_15 h5T if_16 bhpσ_19 chpσ_19 ir_18 bhpσ_21 chpσ_21 gσ_23 wσ_23 bhpσ_25 chpσ_25 dhpσ_25 osr_24 if_26 gc_73_r_20 gc_73_f_26 c_73 c_74 c_75 lyf_76 lzf_76 iz_77 gσ_78 wσ_78 kdσ_78; omega) | omega) (by rw [if_11]; omega)
                      exact J_163_27 σ_78 _ _ ls (by first | exact lo2σ_78 | exact m_lo.one gT (by omega) l1σ_78 (by omega) (by rw [if_11]; omega)) fr_σ_78 gσ_78 wσ_78 kqσ_78 kdσ_78 ctσ_78 hF hI (lv_sub hl [2, 3, 1, 0] rfl)
                    · skip
                      replace hF := q_ifn hF c_75
                      refine lv_aload_n hx hb dX12_turns_137 rfl (lv_at hl 2 rfl) ?_
                      refine q_ci (q_runV (As := []) (rest := []) E (hml.trans hl.1.symm) hI (c_X12_draw l X σ_23 a ha) kv_X12_402 ha ⟨rfl, by decide⟩ (show vwCl[11]? = some (RX12, TX12, 46) from rfl) rfl ⟨Nat.le_of_ble_eq_true rfl, Nat.le_of_ble_eq_true rfl⟩ ⟨Nat.le_refl _, Nat.le_refl _⟩ rfl (Nat.le_of_ble_eq_true rfl) dX12_turns_138) hI (by decide) (fun r_79 σ_80 H locs hpσ_80 hkσ_80 hI => ?_)
                      obtain ⟨ahpσ_80, bhpσ_80, chpσ_80⟩ := hpσ_80
                      have fr_σ_80 := fr_σ_23.call chpσ_80 rfl rfl
                      replace hF := q_biX hF bhpσ_80
                      have mcσ_80 := m_cK hkσ_80 hI.1 ha (by decide)
                      have gσ_80 : m_G (m_c X σ_80 a) := m_G.ext (fun j _ _ => mcσ_80 j) gσ_23
                      have wσ_80 : m_W (m_c X σ_80 a) n := m_W.ext (fun j _ _ => mcσ_80 j) wσ_23
                      have kqσ_80 : ∀ j, 654 ≤ j → m_c X σ_80 a j = m_c X σ a j := fun j h => (mcσ_80 j).trans (kqσ_23 j h)
                      have kdσ_80 : m_KD 40 X σ σ_80 := kdσ_23.draw ahpσ_80 ha
                      have ctσ_80 : m_c X σ_80 a = cT := (funext mcσ_80).trans ctσ_23
                      have l1σ_80 : m_l1 (m_of σ_80 (q_rf X a 28)) (cT 5) r_20.toInt := m_l1.ext l1σ_23 (fun j => congrArg Int32.toInt (ahpσ_80 (q_rf X a 28) j.toNat (q_cl9 _ _) (fun h => absurd h.1 (m_ne (q_tk (k' := 39) hI ha rfl (by decide)) ha (by decide)))))
                      refine lv_aload_n hx hb dX12_turns_141 rfl (lv_at hl 2 rfl) ?_
                      refine gs_X12_35_12 E hI ha dX12_turns_142 ?_
                      refine lv_bipush (v := 10) hx hb dX12_turns_145 (by decide) ?_
                      refine lv_iload_n hx hb dX12_turns_147 rfl (lv_at hl 3 rfl) ?_
                      refine lv_iadd hx hb dX12_turns_148 ?_
                      refine lv_topi (fun z_81 ez_81 => ?_)
                      replace hF := q_letX hF ez_81
                      have iz_81 := q_addI (A := 10) (B := (cT 6)) ez_81 (by decide) if_11 (by first | (clear hn gσ wσ hh if_1 z7σ_2 gσ_2 wσ_2 kdσ_2 if_3 c_4 if_5 gc_6_f_5 c_6 ahpσ_9 bhpσ_9 chpσ_9 dhpσ_9 scr_8 c_10 hm61 hge61 gσ_13 wσ_13 kdσ_13 gc_15_x_12 c_15 h5T if_16 if_17 bhpσ_19 chpσ_19 ir_18 bhpσ_21 chpσ_21 if_22 gσ_23 wσ_23 bhpσ_25 chpσ_25 dhpσ_25 osr_24 if_26 gc_73_r_20 gc_73_f_26 c_73 c_74 c_75 ahpσ_80 bhpσ_80 chpσ_80 gσ_80 wσ_80 kdσ_80; omega) | omega) (by first | (clear hn gσ wσ hh if_1 z7σ_2 gσ_2 wσ_2 kdσ_2 if_3 c_4 gc_6_f_5 ahpσ_9 bhpσ_9 chpσ_9 dhpσ_9 scr_8 c_10 hm61 hge61 gσ_13 wσ_13 kdσ_13 gc_15_x_12 c_15 h5T if_16 if_17 bhpσ_19 chpσ_19 ir_18 bhpσ_21 chpσ_21 if_22 gσ_23 wσ_23 bhpσ_25 chpσ_25 dhpσ_25 osr_24 if_26 gc_73_r_20 gc_73_f_26 c_73 c_74 c_75 ahpσ_80 bhpσ_80 chpσ_80 gσ_80 wσ_80 kdσ_80; omega) | omega)
                      refine q_iald E hI (q_tk (k' := 34) hI ha rfl (by decide)) ⟨by decide, rfl⟩ (by first | (clear hn gσ wσ hh if_1 z7σ_2 gσ_2 wσ_2 kdσ_2 if_3 c_4 if_5 gc_6_f_5 c_6 ahpσ_9 bhpσ_9 chpσ_9 dhpσ_9 scr_8 c_10 hm61 hge61 gσ_13 wσ_13 kdσ_13 gc_15_x_12 c_15 h5T if_16 if_17 bhpσ_19 chpσ_19 ir_18 bhpσ_21 chpσ_21 if_22 gσ_23 wσ_23 bhpσ_25 chpσ_25 dhpσ_25 osr_24 if_26 gc_73_r_20 gc_73_f_26 c_73 c_74 c_75 ahpσ_80 bhpσ_80 chpσ_80 gσ_80 wσ_80 kdσ_80; omega) | omega) (by rw [q_lnk (v := 4650) hI (q_tk (k' := 34) hI ha rfl (by decide)) rfl (by decide)]; omega) dX12_turns_149 ?_
                      refine lv_topi (fun f_82 ef_82 => ?_)
                      replace hF := q_letX hF ef_82
                      have if_82 : f_82.toInt = cT (10 + (cT 6)) := (m_rd ef_82 iz_81).trans (congrFun ctσ_80 _)
                      have gc_83_r_79 := q_rng r_79
                      have gc_83_f_82 := q_rng f_82
                      refine q_icmp_ge (A := r_79.toInt) (B := f_82.toInt) E rfl rfl (tgt := 163) dX12_turns_150 (by decide) (fun c_83 => ?_) (fun c_83 => ?_)
                      · skip
                        replace hF := q_ifn hF (Int.not_lt.mpr c_83)
                        exact J_163_27 σ_80 _ _ ls (by first | exact lo2σ_80 | exact m_lo.one gT (by first | (clear hn gσ wσ hh if_1 z7σ_2 gσ_2 wσ_2 kdσ_2 if_3 c_4 gc_6_f_5 ahpσ_9 bhpσ_9 chpσ_9 dhpσ_9 scr_8 c_10 hm61 hge61 gσ_13 wσ_13 kdσ_13 gc_15_x_12 c_15 h5T if_16 if_17 bhpσ_19 chpσ_19 ir_18 bhpσ_21 chpσ_21 if_22 gσ_23 wσ_23 bhpσ_25 chpσ_25 dhpσ_25 osr_24 if_26 gc_73_r_20 gc_73_f_26 c_73 c_74 c_75 ahpσ_80 bhpσ_80 chpσ_80 gσ_80 wσ_80 kdσ_80 if_82 gc_83_r_79 gc_83_f_82 c_83; omega) | omega) l1σ_80 (by first | (clear hn gσ wσ hh if_1 z7σ_2 gσ_2 wσ_2 kdσ_2 if_3 c_4 if_5 gc_6_f_5 c_6 if_7 ahpσ_9 bhpσ_9 chpσ_9 dhpσ_9 scr_8 c_10 if_11 hm61 hge61 gσ_13 wσ_13 kdσ_13 gc_15_x_12 c_15 if_17 chpσ_19 chpσ_21 if_22 gσ_23 wσ_23 bhpσ_25 chpσ_25 dhpσ_25 gc_73_f_26 c_74 ahpσ_80 bhpσ_80 chpσ_80 gσ_80 wσ_80 kdσ_80 iz_81 if_82 gc_83_r_79 gc_83_f_82 c_83; omega) | omega) (by rw [if_11]; omega)) fr_σ_80 gσ_80 wσ_80 kqσ_80 kdσ_80 ctσ_80 hF hI (lv_sub hl [2, 3, 1, 0] rfl)
                      · skip
                        replace hF := q_ifp hF c_83
                        have op := otr_24.pos (by omega)
                        refine lv_aload_n hx hb dX12_turns_153 rfl (lv_at hl 2 rfl) ?_
                        refine gs_X12_47_12 E hI ha dX12_turns_154 ?_
                        refine lv_iload_n hx hb dX12_turns_157 rfl (lv_at hl 0 rfl) ?_
                        refine lv_dup2_11 hx hb dX12_turns_158 rfl rfl ?_
                        refine q_iald E hI (q_tk (k' := 39) hI ha rfl (by decide)) ⟨by decide, rfl⟩ (by omega) (by rw [q_lnk (v := 10) hI (q_tk (k' := 39) hI ha rfl (by decide)) rfl (by decide)]; omega) dX12_turns_159 ?_
                        refine lv_topi (fun f_84 ef_84 => ?_)
                        replace hF := q_letX hF ef_84
                        have lyf_84 : f_84.toInt = m_of σ_80 (q_rf X a 28) r_24.toInt := by rw [ef_84]; rfl
                        have lzf_84 := l1σ_80 r_24.toInt (by omega) (by first | (clear hn gσ wσ hh if_1 z7σ_2 gσ_2 wσ_2 kdσ_2 if_3 c_4 if_5 gc_6_f_5 c_6 if_7 ahpσ_9 bhpσ_9 chpσ_9 dhpσ_9 scr_8 c_10 if_11 hm61 hge61 gσ_13 wσ_13 kdσ_13 gc_15_x_12 c_15 h5T if_16 if_17 bhpσ_19 chpσ_19 ir_18 bhpσ_21 chpσ_21 if_22 gσ_23 wσ_23 bhpσ_25 dhpσ_25 osr_24 if_26 gc_73_r_20 gc_73_f_26 c_73 c_74 c_75 ahpσ_80 bhpσ_80 chpσ_80 gσ_80 wσ_80 kdσ_80 iz_81 if_82 gc_83_r_79 gc_83_f_82 c_83 op lyf_84; omega) | omega)
                        rw [if_neg (by first | (clear hn gσ wσ hh if_1 z7σ_2 gσ_2 wσ_2 kdσ_2 hT if_3 c_4 if_5 gc_6_f_5 c_6 if_7 ahpσ_9 bhpσ_9 chpσ_9 dhpσ_9 scr_8 c_10 if_11 hm61 hge61 gσ_13 wσ_13 kdσ_13 gc_15_x_12 c_15 h5T if_16 bhpσ_19 chpσ_19 ir_18 bhpσ_21 chpσ_21 gσ_23 wσ_23 bhpσ_25 chpσ_25 dhpσ_25 osr_24 if_26 gc_73_r_20 gc_73_f_26 c_73 c_74 c_75 ahpσ_80 bhpσ_80 chpσ_80 gσ_80 wσ_80 kdσ_80 iz_81 if_82 gc_83_r_79 gc_83_f_82 c_83 lyf_84 lzf_84; omega) | omega)] at lzf_84
                        refine lv_iconst (v := 1) hx hb dX12_turns_160 (by decide) ?_
                        refine lv_iadd hx hb dX12_turns_161 ?_
                        refine lv_topi (fun z_85 ez_85 => ?_)
                        replace hF := q_letX hF ez_85
                        have iz_85 := q_addI (A := f_84.toInt) (B := 1) ez_85 rfl (by decide) (by first | (clear hn gσ wσ hh if_1 z7σ_2 gσ_2 wσ_2 kdσ_2 hT if_3 c_4 if_5 gc_6_f_5 c_6 if_7 ahpσ_9 bhpσ_9 chpσ_9 dhpσ_9 scr_8 c_10 if_11 hm61 hge61 gσ_13 wσ_13 kdσ_13 gc_15_x_12 c_15 h5T if_16 if_17 bhpσ_19 chpσ_19 ir_18 bhpσ_21 chpσ_21 if_22 gσ_23 wσ_23 bhpσ_25 chpσ_25 dhpσ_25 osr_24 if_26 gc_73_r_20 gc_73_f_26 c_73 c_74 c_75 ahpσ_80 bhpσ_80 chpσ_80 gσ_80 wσ_80 kdσ_80 iz_81 if_82 gc_83_r_79 gc_83_f_82 c_83 op; omega) | omega) (by first | (clear hn gσ wσ hh if_1 z7σ_2 gσ_2 wσ_2 kdσ_2 hT if_3 c_4 if_5 gc_6_f_5 c_6 if_7 ahpσ_9 bhpσ_9 chpσ_9 dhpσ_9 scr_8 c_10 if_11 hm61 hge61 gσ_13 wσ_13 kdσ_13 gc_15_x_12 c_15 h5T if_16 if_17 bhpσ_19 chpσ_19 ir_18 bhpσ_21 chpσ_21 if_22 gσ_23 wσ_23 bhpσ_25 chpσ_25 dhpσ_25 osr_24 if_26 gc_73_r_20 gc_73_f_26 c_73 c_74 c_75 ahpσ_80 bhpσ_80 chpσ_80 gσ_80 wσ_80 kdσ_80 iz_81 if_82 gc_83_r_79 gc_83_f_82 c_83 op; omega) | omega)
                        refine q_iastN E hI (q_tk (k' := 39) hI ha rfl (by decide)) ⟨by decide, rfl⟩ (by omega) (by rw [q_lnk (v := 10) hI (q_tk (k' := 39) hI ha rfl (by decide)) rfl (by decide)]; omega) (show 1 < 9 by decide) (q_inU rfl) dX12_turns_162 (fun H locs σ_86 hσ_86 hI => ?_)
                        replace hF := q_letX hF hσ_86
                        have fr_σ_86 := fr_σ_80.si hσ_86 (q_tk (k' := 39) hI ha rfl (by decide)) rfl
                        have mcσ_86 := m_wo hσ_86 (m_ne (q_tk (k' := 39) hI ha rfl (by decide)) (q_tk (f := 20) (k' := 34) hI ha rfl (by decide)) (by decide))
                        have gσ_86 : m_G (m_c X σ_86 a) := m_G.ext (fun j _ _ => mcσ_86 j) gσ_80
                        have wσ_86 : m_W (m_c X σ_86 a) n := m_W.ext (fun j _ _ => mcσ_86 j) wσ_80
                        have kqσ_86 : ∀ j, 654 ≤ j → m_c X σ_86 a j = m_c X σ a j := fun j h => (mcσ_86 j).trans (kqσ_80 j h)
                        have kdσ_86 : m_KD 40 X σ σ_86 := (by first | exact kdσ_80.si hσ_86 ha (by decide) | exact kdσ_80.sl hσ_86 | exact kdσ_80.ar hσ_86 (q_tk (k' := 39) hI ha rfl (by decide)) (by decide) (by decide))
                        have ctσ_86 : m_c X σ_86 a = cT := (funext mcσ_86).trans ctσ_80
                        have lo2σ_86 : m_lo cT (m_of σ_86 (q_rf X a 28)) f_11.toInt := m_lo.two gT (by first | (clear hn gσ wσ hh if_1 z7σ_2 gσ_2 wσ_2 kdσ_2 if_3 c_4 gc_6_f_5 ahpσ_9 bhpσ_9 chpσ_9 dhpσ_9 scr_8 c_10 hm61 hge61 gσ_13 wσ_13 kdσ_13 gc_15_x_12 c_15 h5T if_16 if_17 bhpσ_19 chpσ_19 ir_18 bhpσ_21 chpσ_21 if_22 gσ_23 wσ_23 bhpσ_25 chpσ_25 dhpσ_25 osr_24 if_26 gc_73_r_20 gc_73_f_26 c_73 c_74 c_75 ahpσ_80 bhpσ_80 chpσ_80 gσ_80 wσ_80 kdσ_80 if_82 gc_83_r_79 gc_83_f_82 c_83 op lyf_84 lzf_84 iz_85 gσ_86 wσ_86 kdσ_86; omega) | omega) l1σ_80 (m_ofw hσ_86 (rfl : r_24.toInt = _) (by omega)) (by first | (clear hn gσ wσ hh if_1 z7σ_2 gσ_2 wσ_2 kdσ_2 hT if_3 c_4 if_5 gc_6_f_5 c_6 if_7 ahpσ_9 bhpσ_9 chpσ_9 dhpσ_9 scr_8 c_10 if_11 hm61 hge61 gσ_13 wσ_13 kdσ_13 gc_15_x_12 c_15 h5T if_16 if_17 bhpσ_19 chpσ_19 ir_18 bhpσ_21 chpσ_21 if_22 gσ_23 wσ_23 bhpσ_25 chpσ_25 dhpσ_25 osr_24 if_26 gc_73_r_20 gc_73_f_26 c_73 c_74 c_75 ahpσ_80 bhpσ_80 chpσ_80 gσ_80 wσ_80 kdσ_80 iz_81 if_82 gc_83_r_79 gc_83_f_82 c_83 op gσ_86 wσ_86 kdσ_86; omega) | omega) (by first | (clear hn gσ wσ hh if_1 z7σ_2 gσ_2 wσ_2 kdσ_2 if_3 c_4 if_5 gc_6_f_5 c_6 if_7 ahpσ_9 bhpσ_9 chpσ_9 dhpσ_9 scr_8 c_10 if_11 hm61 hge61 gσ_13 wσ_13 kdσ_13 gc_15_x_12 c_15 if_17 chpσ_19 chpσ_21 if_22 gσ_23 wσ_23 bhpσ_25 chpσ_25 dhpσ_25 gc_73_f_26 c_74 ahpσ_80 bhpσ_80 chpσ_80 gσ_80 wσ_80 kdσ_80 iz_81 if_82 gc_83_r_79 gc_83_f_82 c_83 lyf_84 lzf_84 iz_85 gσ_86 wσ_86 kdσ_86; omega) | omega) (by rw [if_11]; omega) (by first | (clear hn gσ wσ hh if_1 z7σ_2 gσ_2 wσ_2 kdσ_2 if_3 c_4 if_5 gc_6_f_5 c_6 if_7 ahpσ_9 bhpσ_9 chpσ_9 dhpσ_9 scr_8 c_10 if_11 hm61 hge61 gσ_13 wσ_13 kdσ_13 gc_15_x_12 c_15 h5T if_16 if_17 bhpσ_19 chpσ_19 ir_18 bhpσ_21 chpσ_21 if_22 gσ_23 wσ_23 bhpσ_25 dhpσ_25 osr_24 if_26 gc_73_r_20 gc_73_f_26 c_73 c_75 ahpσ_80 bhpσ_80 chpσ_80 gσ_80 wσ_80 kdσ_80 iz_81 if_82 gc_83_r_79 gc_83_f_82 c_83 op lyf_84 lzf_84 iz_85 gσ_86 wσ_86 kdσ_86; omega) | omega) (by first | (clear hn gσ wσ hh if_1 z7σ_2 gσ_2 wσ_2 kdσ_2 hT if_3 c_4 if_5 gc_6_f_5 c_6 if_7 ahpσ_9 bhpσ_9 chpσ_9 dhpσ_9 scr_8 c_10 if_11 hm61 hge61 gσ_13 wσ_13 kdσ_13 gc_15_x_12 c_15 h5T if_16 bhpσ_19 chpσ_19 ir_18 bhpσ_21 chpσ_21 gσ_23 wσ_23 bhpσ_25 chpσ_25 dhpσ_25 osr_24 if_26 gc_73_r_20 gc_73_f_26 c_73 c_74 c_75 ahpσ_80 bhpσ_80 chpσ_80 gσ_80 wσ_80 kdσ_80 iz_81 if_82 gc_83_r_79 gc_83_f_82 c_83 lyf_84 lzf_84 iz_85 gσ_86 wσ_86 kdσ_86; omega) | omega) (by rw [if_11]; omega)
                        exact J_163_27 σ_86 _ _ ls (by first | exact lo2σ_86 | exact m_lo.one gT (by omega) l1σ_86 (by omega) (by rw [if_11]; omega)) fr_σ_86 gσ_86 wσ_86 kqσ_86 kdσ_86 ctσ_86 hF hI (lv_sub hl [2, 3, 1, 0] rfl)
              · skip
                replace hF := q_ifp hF c_15
                refine lv_aload_n hx hb dX12_turns_67 rfl (lv_at hl 0 rfl) ?_
                refine gs_X12_47_12 E hI ha dX12_turns_68 ?_
                refine lv_iload_n hx hb dX12_turns_71 rfl (lv_at hl 2 rfl) ?_
                refine lv_iconst (v := 0) hx hb dX12_turns_72 (by decide) ?_
                have kc_88 : (0 : Int32).toInt = 0 := rfl
                refine q_iastN E hI (q_tk (k' := 39) hI ha rfl (by decide)) ⟨by decide, rfl⟩ (by first | (clear hn gσ wσ hh if_1 z7σ_2 gσ_2 wσ_2 kdσ_2 hT if_3 c_4 if_5 gc_6_f_5 c_6 if_7 ahpσ_9 bhpσ_9 chpσ_9 dhpσ_9 scr_8 c_10 if_11 hm61 gσ_13 wσ_13 kdσ_13 gc_15_x_12 kc_88; omega) | omega) (by rw [q_lnk (v := 10) hI (q_tk (k' := 39) hI ha rfl (by decide)) rfl (by decide)]; omega) (show 1 < 9 by decide) (q_inU rfl) dX12_turns_73 (fun H locs σ_87 hσ_87 hI => ?_)
                replace hF := q_letX hF hσ_87
                have fr_σ_87 := fr_σ_13.si hσ_87 (q_tk (k' := 39) hI ha rfl (by decide)) rfl
                have mcσ_87 := m_wo hσ_87 (m_ne (q_tk (k' := 39) hI ha rfl (by decide)) (q_tk (f := 20) (k' := 34) hI ha rfl (by decide)) (by decide))
                have gσ_87 : m_G (m_c X σ_87 a) := m_G.ext (fun j _ _ => mcσ_87 j) gσ_13
                have wσ_87 : m_W (m_c X σ_87 a) n := m_W.ext (fun j _ _ => mcσ_87 j) wσ_13
                have kqσ_87 : ∀ j, 654 ≤ j → m_c X σ_87 a j = m_c X σ a j := fun j h => (mcσ_87 j).trans (kqσ_13 j h)
                have kdσ_87 : m_KD 40 X σ σ_87 := (by first | exact kdσ_13.si hσ_87 ha (by decide) | exact kdσ_13.sl hσ_87 | exact kdσ_13.ar hσ_87 (q_tk (k' := 39) hI ha rfl (by decide)) (by decide) (by decide))
                have ctσ_87 : m_c X σ_87 a = cT := (funext mcσ_87).trans ctσ_13
                have moσ_87 := m_ofw hσ_87 (rfl : x_12.toInt = _) (by first | (clear hn gσ wσ hh if_1 z7σ_2 gσ_2 wσ_2 kdσ_2 hT if_3 c_4 if_5 gc_6_f_5 c_6 if_7 ahpσ_9 bhpσ_9 chpσ_9 dhpσ_9 scr_8 c_10 if_11 hm61 gσ_13 wσ_13 kdσ_13 gc_15_x_12 kc_88 gσ_87 wσ_87 kdσ_87; omega) | omega)
                have zlσ_87x := zlσ_13
                obtain ⟨z_89, ez_89⟩ : ∃ y : Int32, y = x_12 + 1 := ⟨_, rfl⟩
                replace hF := q_letX hF ez_89
                refine lv_iinc (v := z_89) (lv' := [(2, .int z_89), (0, .ref a), (1, .int f_11)]) hx hb dX12_turns_74 hl (k := 2) rfl (by rw [ez_89]; rfl) (by decide) rfl (fun ls hl => ?_)
                have iz_89 : z_89.toInt = x_12.toInt + 1 := q_inc ez_89 (by first | (clear hn gσ wσ hh if_1 z7σ_2 gσ_2 wσ_2 kdσ_2 hT if_3 c_4 if_5 gc_6_f_5 c_6 if_7 ahpσ_9 bhpσ_9 chpσ_9 dhpσ_9 scr_8 c_10 if_11 hm61 gσ_13 wσ_13 kdσ_13 gc_15_x_12 kc_88 gσ_87 wσ_87 kdσ_87; omega) | omega)
                refine lv_goto (tgt := 61) hx hb dX12_turns_77 (by decide) ?_
                exact ih61 z_89 σ_87 _ _ ls (by first | (clear hn gσ wσ hh if_1 z7σ_2 gσ_2 wσ_2 kdσ_2 hT if_3 c_4 if_5 gc_6_f_5 c_6 if_7 ahpσ_9 bhpσ_9 chpσ_9 dhpσ_9 scr_8 c_10 if_11 gσ_13 wσ_13 kdσ_13 gc_15_x_12 kc_88 gσ_87 wσ_87 kdσ_87; omega) | omega) (by first | (clear hn gσ wσ hh if_1 z7σ_2 gσ_2 wσ_2 kdσ_2 hT if_3 c_4 if_5 gc_6_f_5 c_6 if_7 ahpσ_9 bhpσ_9 chpσ_9 dhpσ_9 scr_8 c_10 if_11 hm61 gσ_13 wσ_13 kdσ_13 gc_15_x_12 kc_88 gσ_87 wσ_87 kdσ_87; omega) | omega) (fun k h0 h1 => by rw [moσ_87 k h0]; split; rfl; exact zlσ_87x k h0 (by first | (clear hn gσ wσ hh if_1 z7σ_2 gσ_2 wσ_2 kdσ_2 hT if_3 c_4 if_5 gc_6_f_5 c_6 if_7 ahpσ_9 bhpσ_9 chpσ_9 dhpσ_9 scr_8 c_10 if_11 hm61 hge61 gσ_13 wσ_13 kdσ_13 gc_15_x_12 c_15 kc_88 gσ_87 wσ_87 kdσ_87; omega) | omega)) fr_σ_87 gσ_87 wσ_87 kqσ_87 kdσ_87 ctσ_87 hF hI (lv_sub hl [1, 2, 0] rfl)
          have kc_90 : (0 : Int32).toInt = 0 := rfl
          exact L_61_14 ((2147483647 - (0 : Int32).toInt).toNat + 1) 0 σ_2 _ _ ls (Nat.lt_succ_self _) (by decide) (fun k h0 h1 => by have q : (0 : Int32).toInt = 0 := rfl; omega) fr_σ_2 gσ_2 wσ_2 kqσ_2 kdσ_2 ctσ_2 hF hI (lv_sub hl [2, 1, 0] rfl)
        · skip
          replace hF := q_ifp hF c_10
          refine lv_iconst (v := 0) hx hb dX12_turns_49 (by decide) ?_
          have hrv : (0 : Int32).toInt = 0 := rfl
          exact q_retz E hr hlk hI ⟨by decide, by decide⟩ ⟨⟨by decide, by decide⟩, gσ_2, (by first | exact vσ_2 | exact m_W.le wσ_2 (by first | (clear hn gσ wσ hh if_1 z7σ_2 gσ_2 wσ_2 kdσ_2 hT if_3 c_4 if_5 gc_6_f_5 c_6 if_7 ahpσ_9 bhpσ_9 chpσ_9 dhpσ_9 scr_8 c_10 hrv; omega) | omega)), kqσ_2, kdσ_2, (hF.trans hout), fr_σ_2⟩ dX12_turns_50
  have gc_91_f_1 := q_rng f_1
  refine q_icmp_ne (A := f_1.toInt) (B := 1) E rfl (by decide) (tgt := 15) dX12_turns_8 (by decide) (fun c_91 => ?_) (fun c_91 => ?_)
  · skip
    replace hF := q_ifn hF c_91
    exact J_15_2 σ _ _ ls (by first | exact e7σ | (have := gσ.hd; omega)) fr_σ gσ wσ kqσ kdσ hF hI (lv_sub hl [0] rfl)
  · skip
    replace hF := q_ifp hF c_91
    refine lv_aload_n hx hb dX12_turns_11 rfl (lv_at hl 0 rfl) ?_
    refine q_cv (q_runV (As := []) (rest := []) E (hml.trans hl.1.symm) hI (c_X12_leaves l X σ a n ha gσ wσ (by first | (clear hn gσ wσ hh gc_91_f_1; omega) | omega)) kv_X12_322 ha ⟨rfl, by decide⟩ (show vwCl[11]? = some (RX12, TX12, 46) from rfl) rfl ⟨Nat.le_of_ble_eq_true rfl, Nat.le_of_ble_eq_true rfl⟩ ⟨Nat.le_refl _, Nat.le_refl _⟩ rfl (Nat.le_of_ble_eq_true rfl) dX12_turns_12) hI (by decide) (fun σ_93 H locs hpσ_93 hkσ_93 hI => ?_)
    obtain ⟨ahpσ_93, bhpσ_93, chpσ_93, dhpσ_93, ehpσ_93, fhpσ_93, ghpσ_93, hhpσ_93⟩ := hpσ_93
    have fr_σ_93 := fr_σ.call hhpσ_93 rfl rfl
    replace hF := q_letX hF ghpσ_93
    have gσ_93 : m_G (m_c X σ_93 a) := ahpσ_93
    have wσ_93 : m_W (m_c X σ_93 a) n := bhpσ_93
    have kqσ_93 : ∀ j, 654 ≤ j → m_c X σ_93 a j = m_c X σ a j := (fun j h => (chpσ_93 j h).trans (kqσ j h))
    have kdσ_93 : m_KD 40 X σ σ_93 := kdσ.tr dhpσ_93
    have e7σ_93 := ehpσ_93
    exact J_15_2 σ_93 _ _ ls (by first | exact e7σ_93 | (have := gσ_93.hd; omega)) fr_σ_93 gσ_93 wσ_93 kqσ_93 kdσ_93 hF hI (lv_sub hl [0] rfl)

set_option maxRecDepth 100000 in
set_option maxHeartbeats 4000000 in
theorem c_X12_does (l : Launch) (X : XW) (σ : ST) (a : Nat) (v1 : Int32) (n : Int) (ha : q_kd X a = 12) (hG : m_G (m_c X σ a)) (hW : m_W (m_c X σ a) n) (hn : n ≤ 200000) (hw : 656 ≤ v1.toInt ∧ v1.toInt ≤ 917) (hk : 0 ≤ m_c X σ a v1.toInt ∧ m_c X σ a v1.toInt ≤ 2) (hp : m_c X σ a v1.toInt = 0 ∨ (0 ≤ m_c X σ a (v1.toInt + 1) ∧ m_c X σ a (v1.toInt + 1) ≤ 5)) : Met l yX12_does (q_ws yX12_does cX12_does 3 (some .boolean)) (q_rm 6 136) (q_P X σ [.ref a, .int v1]) (q_Qi X 1 σ (fun (r : Int32) (σ' : ST) => (0 ≤ r.toInt ∧ r.toInt ≤ 1) ∧ (m_G (m_c X σ' a)) ∧ (m_W (m_c X σ' a) (n + 1)) ∧ (∀ j, 654 ≤ j → m_c X σ' a j = m_c X σ a j) ∧ (m_KD 40 X σ σ') ∧ (r, σ') = F_X12_does X σ a v1 ∧ q_ow [(12, 39), (12, 42), (12, 43), (12, 44), (34, 99), (39, 99)] [] X σ σ')) 0 0 (q_reg X) := by
  refine q_met 1 (by first | exact rfl | decide +kernel) rfl (Nat.le_of_ble_eq_true rfl) (fun p e s m below meth c E hml hr hlk hI ls hl => ?_)
  have hx := E.1
  have hb := E.2.1
  have hl : lv_has ls 3 [(0, .ref a), (1, .int v1)] := hl
  have gσ : m_G (m_c X σ a) := hG
  have wσ : m_W (m_c X σ a) n := hW
  have kqσ : ∀ j, 654 ≤ j → m_c X σ a j = m_c X σ a j := fun _ _ => rfl
  have kdσ : m_KD 40 X σ σ := m_KD.rf
  have fr_σ : q_ow [(12, 39), (12, 42), (12, 43), (12, 44), (34, 99), (39, 99)] [] X σ σ := q_ow.rf
  have hh := hG.hd
  obtain ⟨out, hout⟩ : ∃ o, o = F_X12_does X σ a v1 := ⟨_, rfl⟩
  have hF := hout.symm
  unfold F_X12_does at hF
  refine lv_aload_n hx hb dX12_does_0 rfl (lv_at hl 0 rfl) ?_
  refine gs_X12_35_12 E hI ha dX12_does_1 ?_
  refine lv_iload_n hx hb dX12_does_4 rfl (lv_at hl 1 rfl) ?_
  refine q_iald E hI (q_tk (k' := 34) hI ha rfl (by decide)) ⟨by decide, rfl⟩ (by first | (clear hn hk hp gσ wσ kdσ hh; omega) | omega) (by rw [q_lnk (v := 4650) hI (q_tk (k' := 34) hI ha rfl (by decide)) rfl (by decide)]; omega) dX12_does_5 ?_
  refine lv_topi (fun f_1 ef_1 => ?_)
  replace hF := q_letX hF ef_1
  have if_1 : f_1.toInt = m_c X σ a v1.toInt := m_rd ef_1 rfl
  refine lv_istore_n (lv' := [(2, .int f_1), (0, .ref a), (1, .int v1)]) hx hb dX12_does_6 rfl hl (by decide) rfl (fun ls hl => ?_)
  refine lv_iload_n hx hb dX12_does_7 rfl (lv_at hl 0 rfl) ?_
  refine q_if_ne (A := f_1.toInt) E rfl (tgt := 16) dX12_does_8 (by decide) (fun c_2 => ?_) (fun c_2 => ?_)
  · skip
    replace hF := q_ifn hF c_2
    refine lv_aload_n hx hb dX12_does_16 rfl (lv_at hl 1 rfl) ?_
    refine gs_X12_35_12 E hI ha dX12_does_17 ?_
    refine lv_iload_n hx hb dX12_does_20 rfl (lv_at hl 0 rfl) ?_
    refine lv_iconst (v := 1) hx hb dX12_does_21 (by decide) ?_
    refine q_icmp_ne (A := f_1.toInt) (B := 1) E rfl (by decide) (tgt := 30) dX12_does_22 (by decide) (fun c_3 => ?_) (fun c_3 => ?_)
    · skip
      replace hF := q_ifn hF c_3
      refine lv_bipush (v := 16) hx hb dX12_does_30 (by decide) ?_
      refine lv_aload_n hx hb dX12_does_32 rfl (lv_at hl 1 rfl) ?_
      refine gs_X12_35_12 E hI ha dX12_does_33 ?_
      refine lv_iload_n hx hb dX12_does_36 rfl (lv_at hl 2 rfl) ?_
      refine lv_iconst (v := 1) hx hb dX12_does_37 (by decide) ?_
      refine lv_iadd hx hb dX12_does_38 ?_
      refine lv_topi (fun z_4 ez_4 => ?_)
      replace hF := q_letX hF ez_4
      have iz_4 := q_addI (A := v1.toInt) (B := 1) ez_4 rfl (by decide) (by first | (clear hn hk hp gσ wσ kdσ hh if_1 c_2 c_3; omega) | omega) (by first | (clear hn hk hp gσ wσ kdσ hh if_1 c_2 c_3; omega) | omega)
      refine q_iald E hI (q_tk (k' := 34) hI ha rfl (by decide)) ⟨by decide, rfl⟩ (by first | (clear hn hk hp gσ wσ kdσ hh if_1 c_2 c_3; omega) | omega) (by rw [q_lnk (v := 4650) hI (q_tk (k' := 34) hI ha rfl (by decide)) rfl (by decide)]; omega) dX12_does_39 ?_
      refine lv_topi (fun f_5 ef_5 => ?_)
      replace hF := q_letX hF ef_5
      have if_5 : f_5.toInt = m_c X σ a (v1.toInt + 1) := m_rd ef_5 iz_4
      refine lv_iadd hx hb dX12_does_40 ?_
      refine lv_topi (fun z_6 ez_6 => ?_)
      replace hF := q_letX hF ez_6
      have iz_6 := q_addI (A := 16) (B := (m_c X σ a (v1.toInt + 1))) ez_6 (by decide) if_5 (by first | (clear hn hw gσ wσ kdσ hh iz_4 if_5; omega) | omega) (by first | (clear hn hw gσ wσ kdσ hh iz_4 if_5; omega) | omega)
      refine lv_aload_n hx hb dX12_does_41 rfl (lv_at hl 1 rfl) ?_
      refine gs_X12_35_12 E hI ha dX12_does_42 ?_
      refine lv_iload_n hx hb dX12_does_45 rfl (lv_at hl 2 rfl) ?_
      refine lv_iconst (v := 2) hx hb dX12_does_46 (by decide) ?_
      refine lv_iadd hx hb dX12_does_47 ?_
      refine lv_topi (fun z_7 ez_7 => ?_)
      replace hF := q_letX hF ez_7
      have iz_7 := q_addI (A := v1.toInt) (B := 2) ez_7 rfl (by decide) (by first | (clear hn hk hp gσ wσ kdσ hh if_1 c_2 c_3 if_5 iz_6; omega) | omega) (by first | (clear hn hk hp gσ wσ kdσ hh if_1 c_2 c_3 if_5 iz_6; omega) | omega)
      refine q_iald E hI (q_tk (k' := 34) hI ha rfl (by decide)) ⟨by decide, rfl⟩ (by first | (clear hn hk hp gσ wσ kdσ hh if_1 c_2 c_3 if_5 iz_6; omega) | omega) (by rw [q_lnk (v := 4650) hI (q_tk (k' := 34) hI ha rfl (by decide)) rfl (by decide)]; omega) dX12_does_48 ?_
      refine lv_topi (fun f_8 ef_8 => ?_)
      replace hF := q_letX hF ef_8
      have if_8 : f_8.toInt = m_c X σ a (v1.toInt + 2) := m_rd ef_8 iz_7
      refine q_iastN E hI (q_tk (k' := 34) hI ha rfl (by decide)) ⟨by decide, rfl⟩ (by first | (clear hn hw gσ wσ kdσ hh iz_4 if_5 iz_7 if_8; omega) | omega) (by rw [q_lnk (v := 4650) hI (q_tk (k' := 34) hI ha rfl (by decide)) rfl (by decide)]; omega) (show 1 < 2 by decide) (q_inU rfl) dX12_does_49 (fun H locs σ_9 hσ_9 hI => ?_)
      replace hF := q_letX hF hσ_9
      have fr_σ_9 := fr_σ.si hσ_9 (q_tk (k' := 34) hI ha rfl (by decide)) rfl
      have mcσ_9 := m_wr (v := f_8) (A := (16 + (m_c X σ a (v1.toInt + 1)))) hσ_9 iz_6 (by first | (clear hn hw gσ wσ kdσ hh iz_4 if_5 iz_7 if_8; omega) | omega)
      have gσ_9 : m_G (m_c X σ_9 a) := m_G.wr gσ mcσ_9 (by first | (clear hn hw gσ wσ kdσ iz_4 if_5 iz_7; omega) | omega)
      have wσ_9 : m_W (m_c X σ_9 a) n := m_W.wr wσ mcσ_9 (by first | (clear hn hw gσ wσ kdσ hh iz_4 if_5 iz_7 if_8 gσ_9; omega) | omega)
      have kqσ_9 : ∀ j, 654 ≤ j → m_c X σ_9 a j = m_c X σ a j := fun j h => by rw [mcσ_9 j (by first | (clear hn hw hk hp gσ wσ kdσ hh if_1 c_2 c_3 iz_4 if_5 iz_6 iz_7 if_8 gσ_9 wσ_9; omega) | omega), if_neg (by first | (clear hn hw gσ wσ kdσ hh iz_4 if_5 iz_7 if_8 gσ_9 wσ_9; omega) | omega)] <;> exact kqσ j h
      have kdσ_9 : m_KD 40 X σ σ_9 := kdσ.ar hσ_9 (q_tk (k' := 34) hI ha rfl (by decide)) (by decide) (by decide)
      refine lv_iconst (v := 1) hx hb dX12_does_50 (by decide) ?_
      have hrv : (1 : Int32).toInt = 1 := rfl
      exact q_retz E hr hlk hI ⟨by decide, by decide⟩ ⟨⟨by decide, by decide⟩, gσ_9, (by first | exact vσ_9 | exact m_W.le wσ_9 (by first | (clear hn hw hk hp gσ wσ kdσ hh if_1 c_2 c_3 iz_4 if_5 iz_6 iz_7 if_8 gσ_9 wσ_9 kdσ_9 hrv; omega) | omega)), kqσ_9, kdσ_9, (hF.trans hout), fr_σ_9⟩ dX12_does_51
    · skip
      replace hF := q_ifp hF c_3
      refine lv_bipush (v := 10) hx hb dX12_does_25 (by decide) ?_
      refine lv_goto (tgt := 32) hx hb dX12_does_27 (by decide) ?_
      refine lv_aload_n hx hb dX12_does_32 rfl (lv_at hl 1 rfl) ?_
      refine gs_X12_35_12 E hI ha dX12_does_33 ?_
      refine lv_iload_n hx hb dX12_does_36 rfl (lv_at hl 2 rfl) ?_
      refine lv_iconst (v := 1) hx hb dX12_does_37 (by decide) ?_
      refine lv_iadd hx hb dX12_does_38 ?_
      refine lv_topi (fun z_10 ez_10 => ?_)
      replace hF := q_letX hF ez_10
      have iz_10 := q_addI (A := v1.toInt) (B := 1) ez_10 rfl (by decide) (by first | (clear hn hk hp gσ wσ kdσ hh if_1 c_2 c_3; omega) | omega) (by first | (clear hn hk hp gσ wσ kdσ hh if_1 c_2 c_3; omega) | omega)
      refine q_iald E hI (q_tk (k' := 34) hI ha rfl (by decide)) ⟨by decide, rfl⟩ (by first | (clear hn hk hp gσ wσ kdσ hh if_1 c_2 c_3; omega) | omega) (by rw [q_lnk (v := 4650) hI (q_tk (k' := 34) hI ha rfl (by decide)) rfl (by decide)]; omega) dX12_does_39 ?_
      refine lv_topi (fun f_11 ef_11 => ?_)
      replace hF := q_letX hF ef_11
      have if_11 : f_11.toInt = m_c X σ a (v1.toInt + 1) := m_rd ef_11 iz_10
      refine lv_iadd hx hb dX12_does_40 ?_
      refine lv_topi (fun z_12 ez_12 => ?_)
      replace hF := q_letX hF ez_12
      have iz_12 := q_addI (A := 10) (B := (m_c X σ a (v1.toInt + 1))) ez_12 (by decide) if_11 (by first | (clear hn hw hk gσ wσ kdσ hh iz_10 if_11; omega) | omega) (by first | (clear hn hw hk gσ wσ kdσ hh iz_10 if_11; omega) | omega)
      refine lv_aload_n hx hb dX12_does_41 rfl (lv_at hl 1 rfl) ?_
      refine gs_X12_35_12 E hI ha dX12_does_42 ?_
      refine lv_iload_n hx hb dX12_does_45 rfl (lv_at hl 2 rfl) ?_
      refine lv_iconst (v := 2) hx hb dX12_does_46 (by decide) ?_
      refine lv_iadd hx hb dX12_does_47 ?_
      refine lv_topi (fun z_13 ez_13 => ?_)
      replace hF := q_letX hF ez_13
      have iz_13 := q_addI (A := v1.toInt) (B := 2) ez_13 rfl (by decide) (by first | (clear hn hk hp gσ wσ kdσ hh if_1 c_2 c_3 if_11 iz_12; omega) | omega) (by first | (clear hn hk hp gσ wσ kdσ hh if_1 c_2 c_3 if_11 iz_12; omega) | omega)
      refine q_iald E hI (q_tk (k' := 34) hI ha rfl (by decide)) ⟨by decide, rfl⟩ (by first | (clear hn hk hp gσ wσ kdσ hh if_1 c_2 c_3 if_11 iz_12; omega) | omega) (by rw [q_lnk (v := 4650) hI (q_tk (k' := 34) hI ha rfl (by decide)) rfl (by decide)]; omega) dX12_does_48 ?_
      refine lv_topi (fun f_14 ef_14 => ?_)
      replace hF := q_letX hF ef_14
      have if_14 : f_14.toInt = m_c X σ a (v1.toInt + 2) := m_rd ef_14 iz_13
      refine q_iastN E hI (q_tk (k' := 34) hI ha rfl (by decide)) ⟨by decide, rfl⟩ (by first | (clear hn hw hk gσ wσ kdσ hh iz_10 if_11 iz_13 if_14; omega) | omega) (by rw [q_lnk (v := 4650) hI (q_tk (k' := 34) hI ha rfl (by decide)) rfl (by decide)]; omega) (show 1 < 2 by decide) (q_inU rfl) dX12_does_49 (fun H locs σ_15 hσ_15 hI => ?_)
      replace hF := q_letX hF hσ_15
      have fr_σ_15 := fr_σ.si hσ_15 (q_tk (k' := 34) hI ha rfl (by decide)) rfl
      have mcσ_15 := m_wr (v := f_14) (A := (10 + (m_c X σ a (v1.toInt + 1)))) hσ_15 iz_12 (by first | (clear hn hw hk gσ wσ kdσ hh iz_10 if_11 iz_13 if_14; omega) | omega)
      have gσ_15 : m_G (m_c X σ_15 a) := m_G.wr gσ mcσ_15 (by first | (clear hn hw hk gσ wσ kdσ iz_10 if_11 iz_13; omega) | omega)
      have wσ_15 : m_W (m_c X σ_15 a) n := m_W.wr wσ mcσ_15 (by first | (clear hn hw hk gσ wσ kdσ hh iz_10 if_11 iz_13 if_14 gσ_15; omega) | omega)
      have kqσ_15 : ∀ j, 654 ≤ j → m_c X σ_15 a j = m_c X σ a j := fun j h => by rw [mcσ_15 j (by first | (clear hn hw hk hp gσ wσ kdσ hh if_1 c_2 c_3 iz_10 if_11 iz_12 iz_13 if_14 gσ_15 wσ_15; omega) | omega), if_neg (by first | (clear hn hw hk gσ wσ kdσ hh iz_10 if_11 iz_13 if_14 gσ_15 wσ_15; omega) | omega)] <;> exact kqσ j h
      have kdσ_15 : m_KD 40 X σ σ_15 := kdσ.ar hσ_15 (q_tk (k' := 34) hI ha rfl (by decide)) (by decide) (by decide)
      refine lv_iconst (v := 1) hx hb dX12_does_50 (by decide) ?_
      have hrv : (1 : Int32).toInt = 1 := rfl
      exact q_retz E hr hlk hI ⟨by decide, by decide⟩ ⟨⟨by decide, by decide⟩, gσ_15, (by first | exact vσ_15 | exact m_W.le wσ_15 (by first | (clear hn hw hk hp gσ wσ kdσ hh if_1 c_2 c_3 iz_10 if_11 iz_12 iz_13 if_14 gσ_15 wσ_15 kdσ_15 hrv; omega) | omega)), kqσ_15, kdσ_15, (hF.trans hout), fr_σ_15⟩ dX12_does_51
  · skip
    replace hF := q_ifp hF c_2
    refine lv_aload_n hx hb dX12_does_11 rfl (lv_at hl 1 rfl) ?_
    refine q_ci (q_runV (As := []) (rest := []) E (hml.trans hl.1.symm) hI (c_X12_turns l X σ a n ha gσ wσ (by omega)) kv_X12_414 ha ⟨rfl, by decide⟩ (show vwCl[11]? = some (RX12, TX12, 46) from rfl) rfl ⟨Nat.le_of_ble_eq_true rfl, Nat.le_of_ble_eq_true rfl⟩ ⟨Nat.le_refl _, Nat.le_refl _⟩ rfl (Nat.le_of_ble_eq_true rfl) dX12_does_12) hI (by decide) (fun r_16 σ_17 H locs hpσ_17 hkσ_17 hI => ?_)
    obtain ⟨ahpσ_17, bhpσ_17, chpσ_17, dhpσ_17, ehpσ_17, fhpσ_17, ghpσ_17⟩ := hpσ_17
    have fr_σ_17 := fr_σ.call ghpσ_17 rfl rfl
    replace hF := q_biX hF fhpσ_17
    have gσ_17 : m_G (m_c X σ_17 a) := bhpσ_17
    have vσ_17 : m_W (m_c X σ_17 a) (n + 1) := chpσ_17
    have kqσ_17 : ∀ j, 654 ≤ j → m_c X σ_17 a j = m_c X σ a j := (fun j h => (dhpσ_17 j h).trans (kqσ j h))
    have kdσ_17 : m_KD 40 X σ σ_17 := kdσ.tr ehpσ_17
    exact q_retz E hr hlk hI ⟨by omega, by omega⟩ ⟨⟨by omega, by omega⟩, gσ_17, (by first | exact vσ_17 | exact m_W.le wσ_17 (by omega)), kqσ_17, kdσ_17, (hF.trans hout), fr_σ_17⟩ dX12_does_15
end
/-! FROM 46.plays.a.lean.txt -/
section
section QS
variable {p : Program} {l : Launch} {e : Env} {R : Room} {s : State} {m : MethodId} {args : Array Value} {below : List Frame} {meth : Method} {c : Code} {H : Heap} {locs : List Loc} {cells slots : Nat} {Q : State → Prop} {cc : ByteArray} {X : XW} {n : Nat} {σ0 σ : ST} {H0 : Heap} {pc : Nat} {ls : Array Slot} {rest : List Value} {a : Nat}
theorem gs_X12_417_12 (E : q_E p c cc s m args RX12 X) (hI : q_I X n σ0 H0 locs σ H) (ha : q_kd X a = 12) (hdg : decode cc pc = .ok (.getfield 417, 3)) (kk : W p l e R s m args below meth c H locs cells slots Q (F0 m (pc + 3) ls (.int (σ.1 a 40) :: rest))) : W p l e R s m args below meth c H locs cells slots Q (F0 m pc ls (.ref a :: rest)) :=
  q_getf (ref := "CheatHeapModel") E hI ha ⟨rfl, by decide⟩ (show vwCl[11]? = some (RX12, TX12, 46) from rfl) q_inX12 (f := 40) (by decide) (q_in_t7 (i := 25) (by first | rfl | decide +kernel) rfl) (Or.inl rfl) rfl hdg kk
theorem ps_X12_417_12 (E : q_E p c cc s m args RX12 X) (hI : q_I X n σ0 H0 locs σ H) (ha : q_kd X a = 12) {v : Int32} (hcl : n < 9) (hdg : decode cc pc = .ok (.putfield 417, 3)) (kk : ∀ (H1 : Heap) (locs1 : List Loc) (σ1 : ST), σ1 = q_si σ a 40 v → q_I X n σ0 H0 locs1 σ1 H1 → W p l e R s m args below meth c H1 locs1 cells slots Q (F0 m (pc + 3) ls rest)) : W p l e R s m args below meth c H locs cells slots Q (F0 m pc ls (.int v :: .ref a :: rest)) :=
  q_puti (ref := "CheatHeapModel") E hI ha ⟨rfl, by decide⟩ (show vwCl[11]? = some (RX12, TX12, 46) from rfl) q_inX12 tyX12_ok nmX12 (f := 40) (by decide) (q_in_t7 (i := 25) (by first | rfl | decide +kernel) rfl) (Or.inl rfl) rfl rfl hcl hdg (q_inU rfl) (Or.inl rfl) (fun H1 l1 h => kk H1 l1 _ rfl h)
theorem ps_X12_420_12 (E : q_E p c cc s m args RX12 X) (hI : q_I X n σ0 H0 locs σ H) (ha : q_kd X a = 12) {v : Int32} (hcl : n < 9) (h1 : 0 ≤ v.toInt) (h2 : v.toInt ≤ 1) (hdg : decode cc pc = .ok (.putfield 420, 3)) (kk : ∀ (H1 : Heap) (locs1 : List Loc) (σ1 : ST), σ1 = q_si σ a 38 v → q_I X n σ0 H0 locs1 σ1 H1 → W p l e R s m args below meth c H1 locs1 cells slots Q (F0 m (pc + 3) ls rest)) : W p l e R s m args below meth c H locs cells slots Q (F0 m pc ls (.int v :: .ref a :: rest)) :=
  q_puti (ref := "CheatHeapModel") E hI ha ⟨rfl, by decide⟩ (show vwCl[11]? = some (RX12, TX12, 46) from rfl) q_inX12 tyX12_ok nmX12 (f := 38) (by decide) (q_in_t7 (i := 23) (by first | rfl | decide +kernel) rfl) (Or.inl rfl) rfl rfl hcl hdg (q_inB rfl h1 h2) (Or.inr ⟨rfl, h1, h2⟩) (fun H1 l1 h => kk H1 l1 _ rfl h)
theorem gs_X12_420_12 (E : q_E p c cc s m args RX12 X) (hI : q_I X n σ0 H0 locs σ H) (ha : q_kd X a = 12) (hdg : decode cc pc = .ok (.getfield 420, 3)) (kk : W p l e R s m args below meth c H locs cells slots Q (F0 m (pc + 3) ls (.int (σ.1 a 38) :: rest))) : W p l e R s m args below meth c H locs cells slots Q (F0 m pc ls (.ref a :: rest)) :=
  q_getf (ref := "CheatHeapModel") E hI ha ⟨rfl, by decide⟩ (show vwCl[11]? = some (RX12, TX12, 46) from rfl) q_inX12 (f := 38) (by decide) (q_in_t7 (i := 23) (by first | rfl | decide +kernel) rfl) (Or.inl rfl) rfl hdg kk
theorem kv_X12_435 : q_okV RX12 435 RX12 yX12_doAll cX12_doAll 4 none 2 := ⟨(q_in_t9 (i := 150) (by first | rfl | decide +kernel) rfl), (q_in_t9 (i := 152) (by first | rfl | decide +kernel) rfl), (q_in_p (i := 106) (by decide +kernel) rfl), (q_in_t1 (i := 14) (by first | rfl | decide +kernel) rfl), (q_in_t9 (i := 153) (by first | rfl | decide +kernel) rfl), ⟨rfl, by decide, by decide, rfl⟩⟩
theorem kv_X12_432 : q_okV RX12 432 RX12 yX12_isSo cX12_isSo 4 (some .boolean) 1 := ⟨(q_in_t9 (i := 175) (by first | rfl | decide +kernel) rfl), (q_in_t9 (i := 177) (by first | rfl | decide +kernel) rfl), (q_in_p (i := 112) (by decide +kernel) rfl), (q_in_t1 (i := 14) (by first | rfl | decide +kernel) rfl), (q_in_t9 (i := 178) (by first | rfl | decide +kernel) rfl), ⟨rfl, by decide, by decide, rfl⟩⟩
theorem gs_X12_426_12 (E : q_E p c cc s m args RX12 X) (hI : q_I X n σ0 H0 locs σ H) (ha : q_kd X a = 12) (hdg : decode cc pc = .ok (.getfield 426, 3)) (kk : W p l e R s m args below meth c H locs cells slots Q (F0 m (pc + 3) ls (.int (σ.1 a 41) :: rest))) : W p l e R s m args below meth c H locs cells slots Q (F0 m pc ls (.ref a :: rest)) :=
  q_getf (ref := "CheatHeapModel") E hI ha ⟨rfl, by decide⟩ (show vwCl[11]? = some (RX12, TX12, 46) from rfl) q_inX12 (f := 41) (by decide) (q_in_t7 (i := 26) (by first | rfl | decide +kernel) rfl) (Or.inl rfl) rfl hdg kk
theorem kv_X12_429 : q_okV RX12 429 RX12 yX12_does cX12_does 3 (some .boolean) 1 := ⟨(q_in_t9 (i := 158) (by first | rfl | decide +kernel) rfl), (q_in_t9 (i := 160) (by first | rfl | decide +kernel) rfl), (q_in_p (i := 108) (by decide +kernel) rfl), (q_in_t1 (i := 14) (by first | rfl | decide +kernel) rfl), (q_in_t9 (i := 161) (by first | rfl | decide +kernel) rfl), ⟨rfl, by decide, by decide, rfl⟩⟩
theorem ps_X12_426_12 (E : q_E p c cc s m args RX12 X) (hI : q_I X n σ0 H0 locs σ H) (ha : q_kd X a = 12) {v : Int32} (hcl : n < 9) (hdg : decode cc pc = .ok (.putfield 426, 3)) (kk : ∀ (H1 : Heap) (locs1 : List Loc) (σ1 : ST), σ1 = q_si σ a 41 v → q_I X n σ0 H0 locs1 σ1 H1 → W p l e R s m args below meth c H1 locs1 cells slots Q (F0 m (pc + 3) ls rest)) : W p l e R s m args below meth c H locs cells slots Q (F0 m pc ls (.int v :: .ref a :: rest)) :=
  q_puti (ref := "CheatHeapModel") E hI ha ⟨rfl, by decide⟩ (show vwCl[11]? = some (RX12, TX12, 46) from rfl) q_inX12 tyX12_ok nmX12 (f := 41) (by decide) (q_in_t7 (i := 26) (by first | rfl | decide +kernel) rfl) (Or.inl rfl) rfl rfl hcl hdg (q_inU rfl) (Or.inl rfl) (fun H1 l1 h => kk H1 l1 _ rfl h)
theorem ps_X12_423_12 (E : q_E p c cc s m args RX12 X) (hI : q_I X n σ0 H0 locs σ H) (ha : q_kd X a = 12) {v : Int32} (hcl : n < 9) (hdg : decode cc pc = .ok (.putfield 423, 3)) (kk : ∀ (H1 : Heap) (locs1 : List Loc) (σ1 : ST), σ1 = q_si σ a 45 v → q_I X n σ0 H0 locs1 σ1 H1 → W p l e R s m args below meth c H1 locs1 cells slots Q (F0 m (pc + 3) ls rest)) : W p l e R s m args below meth c H locs cells slots Q (F0 m pc ls (.int v :: .ref a :: rest)) :=
  q_puti (ref := "CheatHeapModel") E hI ha ⟨rfl, by decide⟩ (show vwCl[11]? = some (RX12, TX12, 46) from rfl) q_inX12 tyX12_ok nmX12 (f := 45) (by decide) (q_in_t7 (i := 30) (by first | rfl | decide +kernel) rfl) (Or.inl rfl) rfl rfl hcl hdg (q_inU rfl) (Or.inl rfl) (fun H1 l1 h => kk H1 l1 _ rfl h)
theorem kv_X12_438 : q_okV RX12 438 RX12 yX12_doOne cX12_doOne 5 none 1 := ⟨(q_in_t9 (i := 154) (by first | rfl | decide +kernel) rfl), (q_in_t9 (i := 156) (by first | rfl | decide +kernel) rfl), (q_in_p (i := 107) (by decide +kernel) rfl), (q_in_t1 (i := 14) (by first | rfl | decide +kernel) rfl), (q_in_t9 (i := 157) (by first | rfl | decide +kernel) rfl), ⟨rfl, by decide, by decide, rfl⟩⟩
end QS
end
