/-! FROM 45.turns.a.lean.txt -/
section
section QS
variable {p : Program} {l : Launch} {e : Env} {R : Room} {s : State} {m : MethodId} {args : Array Value} {below : List Frame} {meth : Method} {c : Code} {H : Heap} {locs : List Loc} {cells slots : Nat} {Q : State → Prop} {cc : ByteArray} {X : XW} {n : Nat} {σ0 σ : ST} {H0 : Heap} {pc : Nat} {ls : Array Slot} {rest : List Value} {a : Nat}
theorem kv_X12_399 : q_okV RX12 399 RX12 yX12_otherKind cX12_otherKind 4 (some .int) 1 := ⟨(q_in_t9 (i := 166) (by first | rfl | decide +kernel) rfl), (q_in_t9 (i := 168) (by first | rfl | decide +kernel) rfl), (q_in_p (i := 110) (by decide +kernel) rfl), (q_in_t1 (i := 14) (by first | rfl | decide +kernel) rfl), (q_in_t9 (i := 169) (by first | rfl | decide +kernel) rfl), ⟨rfl, by decide, by decide, rfl⟩⟩
theorem gs_X12_405_12 (E : q_E p c cc s m args RX12 X) (hI : q_I X n σ0 H0 locs σ H) (ha : q_kd X a = 12) (hdg : decode cc pc = .ok (.getfield 405, 3)) (kk : W p l e R s m args below meth c H locs cells slots Q (F0 m (pc + 3) ls (.int (σ.1 a 42) :: rest))) : W p l e R s m args below meth c H locs cells slots Q (F0 m pc ls (.ref a :: rest)) :=
  q_getf (ref := "CheatHeapModel") E hI ha ⟨rfl, by decide⟩ (show vwCl[11]? = some (RX12, TX12, 46) from rfl) q_inX12 (f := 42) (by decide) (q_in_t7 (i := 27) (by first | rfl | decide +kernel) rfl) (Or.inl rfl) rfl hdg kk
theorem ps_X12_405_12 (E : q_E p c cc s m args RX12 X) (hI : q_I X n σ0 H0 locs σ H) (ha : q_kd X a = 12) {v : Int32} (hcl : n < 9) (hdg : decode cc pc = .ok (.putfield 405, 3)) (kk : ∀ (H1 : Heap) (locs1 : List Loc) (σ1 : ST), σ1 = q_si σ a 42 v → q_I X n σ0 H0 locs1 σ1 H1 → W p l e R s m args below meth c H1 locs1 cells slots Q (F0 m (pc + 3) ls rest)) : W p l e R s m args below meth c H locs cells slots Q (F0 m pc ls (.int v :: .ref a :: rest)) :=
  q_puti (ref := "CheatHeapModel") E hI ha ⟨rfl, by decide⟩ (show vwCl[11]? = some (RX12, TX12, 46) from rfl) q_inX12 tyX12_ok nmX12 (f := 42) (by decide) (q_in_t7 (i := 27) (by first | rfl | decide +kernel) rfl) (Or.inl rfl) rfl rfl hcl hdg (q_inU rfl) (Or.inl rfl) (fun H1 l1 h => kk H1 l1 _ rfl h)
theorem gs_X12_408_12 (E : q_E p c cc s m args RX12 X) (hI : q_I X n σ0 H0 locs σ H) (ha : q_kd X a = 12) (hdg : decode cc pc = .ok (.getfield 408, 3)) (kk : W p l e R s m args below meth c H locs cells slots Q (F0 m (pc + 3) ls (.int (σ.1 a 43) :: rest))) : W p l e R s m args below meth c H locs cells slots Q (F0 m pc ls (.ref a :: rest)) :=
  q_getf (ref := "CheatHeapModel") E hI ha ⟨rfl, by decide⟩ (show vwCl[11]? = some (RX12, TX12, 46) from rfl) q_inX12 (f := 43) (by decide) (q_in_t7 (i := 28) (by first | rfl | decide +kernel) rfl) (Or.inl rfl) rfl hdg kk
theorem ps_X12_408_12 (E : q_E p c cc s m args RX12 X) (hI : q_I X n σ0 H0 locs σ H) (ha : q_kd X a = 12) {v : Int32} (hcl : n < 9) (hdg : decode cc pc = .ok (.putfield 408, 3)) (kk : ∀ (H1 : Heap) (locs1 : List Loc) (σ1 : ST), σ1 = q_si σ a 43 v → q_I X n σ0 H0 locs1 σ1 H1 → W p l e R s m args below meth c H1 locs1 cells slots Q (F0 m (pc + 3) ls rest)) : W p l e R s m args below meth c H locs cells slots Q (F0 m pc ls (.int v :: .ref a :: rest)) :=
  q_puti (ref := "CheatHeapModel") E hI ha ⟨rfl, by decide⟩ (show vwCl[11]? = some (RX12, TX12, 46) from rfl) q_inX12 tyX12_ok nmX12 (f := 43) (by decide) (q_in_t7 (i := 28) (by first | rfl | decide +kernel) rfl) (Or.inl rfl) rfl rfl hcl hdg (q_inU rfl) (Or.inl rfl) (fun H1 l1 h => kk H1 l1 _ rfl h)
theorem gs_X12_411_12 (E : q_E p c cc s m args RX12 X) (hI : q_I X n σ0 H0 locs σ H) (ha : q_kd X a = 12) (hdg : decode cc pc = .ok (.getfield 411, 3)) (kk : W p l e R s m args below meth c H locs cells slots Q (F0 m (pc + 3) ls (.int (σ.1 a 44) :: rest))) : W p l e R s m args below meth c H locs cells slots Q (F0 m pc ls (.ref a :: rest)) :=
  q_getf (ref := "CheatHeapModel") E hI ha ⟨rfl, by decide⟩ (show vwCl[11]? = some (RX12, TX12, 46) from rfl) q_inX12 (f := 44) (by decide) (q_in_t7 (i := 29) (by first | rfl | decide +kernel) rfl) (Or.inl rfl) rfl hdg kk
theorem ps_X12_411_12 (E : q_E p c cc s m args RX12 X) (hI : q_I X n σ0 H0 locs σ H) (ha : q_kd X a = 12) {v : Int32} (hcl : n < 9) (hdg : decode cc pc = .ok (.putfield 411, 3)) (kk : ∀ (H1 : Heap) (locs1 : List Loc) (σ1 : ST), σ1 = q_si σ a 44 v → q_I X n σ0 H0 locs1 σ1 H1 → W p l e R s m args below meth c H1 locs1 cells slots Q (F0 m (pc + 3) ls rest)) : W p l e R s m args below meth c H locs cells slots Q (F0 m pc ls (.int v :: .ref a :: rest)) :=
  q_puti (ref := "CheatHeapModel") E hI ha ⟨rfl, by decide⟩ (show vwCl[11]? = some (RX12, TX12, 46) from rfl) q_inX12 tyX12_ok nmX12 (f := 44) (by decide) (q_in_t7 (i := 29) (by first | rfl | decide +kernel) rfl) (Or.inl rfl) rfl rfl hcl hdg (q_inU rfl) (Or.inl rfl) (fun H1 l1 h => kk H1 l1 _ rfl h)
theorem kv_X12_402 : q_okV RX12 402 RX12 yX12_draw cX12_draw 1 (some .int) 0 := ⟨(q_in_t9 (i := 170) (by first | rfl | decide +kernel) rfl), (q_in_t9 (i := 172) (by first | rfl | decide +kernel) rfl), (q_in_p (i := 111) (by decide +kernel) rfl), (q_in_t1 (i := 14) (by first | rfl | decide +kernel) rfl), (q_in_t9 (i := 173) (by first | rfl | decide +kernel) rfl), ⟨rfl, by decide, by decide, rfl⟩⟩
theorem kv_X12_414 : q_okV RX12 414 RX12 yX12_turns cX12_turns 5 (some .boolean) 0 := ⟨(q_in_t9 (i := 162) (by first | rfl | decide +kernel) rfl), (q_in_t9 (i := 164) (by first | rfl | decide +kernel) rfl), (q_in_p (i := 109) (by decide +kernel) rfl), (q_in_t1 (i := 14) (by first | rfl | decide +kernel) rfl), (q_in_t9 (i := 165) (by first | rfl | decide +kernel) rfl), ⟨rfl, by decide, by decide, rfl⟩⟩
end QS
end
/-! FROM 45.turns.b00.lean.txt -/
section
set_option maxRecDepth 100000 in
set_option maxHeartbeats 4000000 in
theorem c_X12_turns (l : Launch) (X : XW) (σ : ST) (a : Nat) (n : Int) (ha : q_kd X a = 12) (hG : m_G (m_c X σ a)) (hW : m_W (m_c X σ a) n) (hn : n ≤ 200000) : Met l yX12_turns (q_ws yX12_turns cX12_turns 5 (some .boolean)) (q_rm 5 112) (q_P X σ [.ref a]) (q_Qi X 1 σ (fun (r : Int32) (σ' : ST) => (0 ≤ r.toInt ∧ r.toInt ≤ 1) ∧ (m_G (m_c X σ' a)) ∧ (m_W (m_c X σ' a) (n + 1)) ∧ (∀ j, 654 ≤ j → m_c X σ' a j = m_c X σ a j) ∧ (m_KD 40 X σ σ') ∧ (r, σ') = F_X12_turns X σ a ∧ q_ow [(12, 39), (12, 42), (12, 43), (12, 44), (34, 99), (39, 99)] [] X σ σ')) 0 0 (q_reg X) := by
  refine q_met 1 (by first | exact rfl | decide +kernel) rfl (Nat.le_of_ble_eq_true rfl) (fun p e s m below meth c E hml hr hlk hI ls hl => ?_)
  have hx := E.1
  have hb := E.2.1
  have hl : lv_has ls 5 [(0, .ref a)] := hl
  have gσ : m_G (m_c X σ a) := hG
  have wσ : m_W (m_c X σ a) n := hW
  have kqσ : ∀ j, 654 ≤ j → m_c X σ a j = m_c X σ a j := fun _ _ => rfl
  have kdσ : m_KD 40 X σ σ := m_KD.rf
  have fr_σ : q_ow [(12, 39), (12, 42), (12, 43), (12, 44), (34, 99), (39, 99)] [] X σ σ := q_ow.rf
  have hh := hG.hd
  obtain ⟨out, hout⟩ : ∃ o, o = F_X12_turns X σ a := ⟨_, rfl⟩
  have hF := hout.symm
  unfold F_X12_turns at hF
  refine lv_aload_n hx hb dX12_turns_0 rfl (lv_at hl 0 rfl) ?_
  refine gs_X12_35_12 E hI ha dX12_turns_1 ?_
  refine lv_bipush (v := 7) hx hb dX12_turns_4 zkb_7 ?_
  refine q_iald E hI (q_tk (k' := 34) hI ha rfl (Nat.succ_ne_zero _)) ⟨by decide, rfl⟩ (by decide) (by rw [q_lnk (v := 4650) hI (q_tk (k' := 34) hI ha rfl (Nat.succ_ne_zero _)) rfl (by decide)]; decide) dX12_turns_6 ?_
  refine lv_topi (fun f_1 ef_1 => ?_)
  replace hF := q_letX hF ef_1
  have if_1 : f_1.toInt = m_c X σ a 7 := m_rd ef_1 (by decide)
  refine lv_iconst (v := 1) hx hb dX12_turns_7 zki_1 ?_
  have J_15_2 : ∀  (σ_2 : ST) (H : Heap) (locs : List Loc) (ls : Array Slot), (m_c X σ_2 a 7 = 0) → (q_ow [(12, 39), (12, 42), (12, 43), (12, 44), (34, 99), (39, 99)] [] X σ σ_2) → (m_G (m_c X σ_2 a)) → (m_W (m_c X σ_2 a) n) → (∀ j, 654 ≤ j → m_c X σ_2 a j = m_c X σ a j) → (m_KD 40 X σ σ_2) → (F_X12_turns_J15_1 X a σ_2 = out) → q_I X 1 σ s.heap locs σ_2 H → lv_has ls 5 [(0, .ref a)] → W p l e (q_rm 5 112) s m ([.ref a] : List Value).toArray below meth c H locs 0 0 (MQ below (q_Qi X 1 σ (fun (r : Int32) (σ' : ST) => (0 ≤ r.toInt ∧ r.toInt ≤ 1) ∧ (m_G (m_c X σ' a)) ∧ (m_W (m_c X σ' a) (n + 1)) ∧ (∀ j, 654 ≤ j → m_c X σ' a j = m_c X σ a j) ∧ (m_KD 40 X σ σ') ∧ (r, σ') = F_X12_turns X σ a ∧ q_ow [(12, 39), (12, 42), (12, 43), (12, 44), (34, 99), (39, 99)] [] X σ σ')) ([.ref a] : List Value).toArray s 0 0 (q_reg X)) (F0 m 15 ls []) := by
    clear hF
    intro σ_2 H locs ls z7σ_2 fr_σ_2 gσ_2 wσ_2 kqσ_2 kdσ_2 hF hI hl
    try clear kqσ; try clear kdσ; try clear fr_σ
    unfold F_X12_turns_J15_1 at hF
    obtain ⟨cT, hcT⟩ : ∃ f : Int → Int, f = m_c X σ_2 a := ⟨_, rfl⟩
    have ctσ_2 : m_c X σ_2 a = cT := hcT.symm
    have gT : m_G cT := by rw [hcT]; exact gσ_2
    have hT := gT.hd
    have zT : cT 7 = 0 := by rw [hcT]; exact z7σ_2
    refine lv_aload_n hx hb dX12_turns_15 rfl (lv_at hl 0 rfl) ?_
    refine gs_X12_35_12 E hI ha dX12_turns_16 ?_
    refine lv_bipush (v := 8) hx hb dX12_turns_19 zkb_8 ?_
    refine q_iald E hI (q_tk (k' := 34) hI ha rfl (Nat.succ_ne_zero _)) ⟨by decide, rfl⟩ (by decide) (by rw [q_lnk (v := 4650) hI (q_tk (k' := 34) hI ha rfl (Nat.succ_ne_zero _)) rfl (by decide)]; decide) dX12_turns_21 ?_
    refine lv_topi (fun f_3 ef_3 => ?_)
    replace hF := q_letX hF ef_3
    have if_3 : f_3.toInt = cT 8 := (m_rd ef_3 (by decide)).trans (congrFun ctσ_2 _)
    refine q_if_ge (A := f_3.toInt) E rfl (tgt := 49) dX12_turns_22 (by decide) (fun c_4 => ?_) (fun c_4 => ?_)
    · skip
      replace hF := q_ifn hF (Int.not_lt.mpr c_4)
      refine lv_iconst (v := 0) hx hb dX12_turns_49 zki_0 ?_
      have hrv : (0 : Int32).toInt = 0 := zt_0
      exact q_retz E hr hlk hI ⟨by decide, by decide⟩ ⟨⟨by decide, by decide⟩, gσ_2, (by first | exact vσ_2 | exact m_W.le wσ_2 (by first | (clear hn gσ wσ hh if_1 z7σ_2 gσ_2 wσ_2 kdσ_2 hT if_3 c_4 hrv; omega) | omega)), kqσ_2, kdσ_2, (hF.trans hout), fr_σ_2⟩ dX12_turns_50
    · skip
      replace hF := q_ifp hF c_4
      refine lv_aload_n hx hb dX12_turns_25 rfl (lv_at hl 0 rfl) ?_
      refine gs_X12_35_12 E hI ha dX12_turns_26 ?_
      refine lv_iconst (v := 2) hx hb dX12_turns_29 zki_2 ?_
      refine q_iald E hI (q_tk (k' := 34) hI ha rfl (Nat.succ_ne_zero _)) ⟨by decide, rfl⟩ (by decide) (by rw [q_lnk (v := 4650) hI (q_tk (k' := 34) hI ha rfl (Nat.succ_ne_zero _)) rfl (by decide)]; decide) dX12_turns_30 ?_
      refine lv_topi (fun f_5 ef_5 => ?_)
      replace hF := q_letX hF ef_5
      have if_5 : f_5.toInt = cT 2 := (m_rd ef_5 (by decide)).trans (congrFun ctσ_2 _)
      refine lv_iconst (v := 2) hx hb dX12_turns_31 zki_2 ?_
      have gc_6_f_5 := q_rng f_5
      refine q_icmp_lt (A := f_5.toInt) (B := 2) E rfl (by decide) (tgt := 49) dX12_turns_32 (by decide) (fun c_6 => ?_) (fun c_6 => ?_)
      · skip
        replace hF := q_ifp hF c_6
        refine lv_iconst (v := 0) hx hb dX12_turns_49 zki_0 ?_
        have hrv : (0 : Int32).toInt = 0 := zt_0
        exact q_retz E hr hlk hI ⟨by decide, by decide⟩ ⟨⟨by decide, by decide⟩, gσ_2, (by first | exact vσ_2 | exact m_W.le wσ_2 (by first | (clear hn gσ wσ hh if_1 z7σ_2 gσ_2 wσ_2 kdσ_2 hT if_3 c_4 if_5 gc_6_f_5 c_6 hrv; omega) | omega)), kqσ_2, kdσ_2, (hF.trans hout), fr_σ_2⟩ dX12_turns_50
      · skip
        replace hF := q_ifn hF (Int.not_lt.mpr c_6)
        refine lv_aload_n hx hb dX12_turns_35 rfl (lv_at hl 0 rfl) ?_
        refine lv_aload_n hx hb dX12_turns_36 rfl (lv_at hl 0 rfl) ?_
        refine gs_X12_35_12 E hI ha dX12_turns_37 ?_
        refine lv_bipush (v := 6) hx hb dX12_turns_40 zkb_6 ?_
        refine q_iald E hI (q_tk (k' := 34) hI ha rfl (Nat.succ_ne_zero _)) ⟨by decide, rfl⟩ (by decide) (by rw [q_lnk (v := 4650) hI (q_tk (k' := 34) hI ha rfl (Nat.succ_ne_zero _)) rfl (by decide)]; decide) dX12_turns_42 ?_
        refine lv_topi (fun f_7 ef_7 => ?_)
        replace hF := q_letX hF ef_7
        have if_7 : f_7.toInt = cT 6 := (m_rd ef_7 (by decide)).trans (congrFun ctσ_2 _)
        refine q_ci (q_rV11_1 (rest := []) E (hml.trans hl.1.symm) hI (c_X12_cardsOf l X σ_2 a f_7 ha (by rw [ctσ_2]; exact gT) (by first | (clear hn gσ wσ hh if_1 z7σ_2 gσ_2 wσ_2 kdσ_2 if_3 c_4 gc_6_f_5; omega) | omega)) kv_X12_293 ha ⟨Nat.le_of_ble_eq_true rfl, Nat.le_of_ble_eq_true rfl⟩ (Nat.le_of_ble_eq_true rfl) dX12_turns_43) hI (Nat.le_of_ble_eq_true rfl) (fun r_8 σ_9 H locs hpσ_9 hkσ_9 hI => ?_)
        have ahpσ_9 := hpσ_9.1
        have bhpσ_9 := hpσ_9.2.1
        have chpσ_9 := hpσ_9.2.2.1
        have dhpσ_9 := hpσ_9.2.2.2
        clear hpσ_9
        replace hI := q_Irw ahpσ_9 hI
        rw [ctσ_2] at bhpσ_9
        replace hF := q_letX hF dhpσ_9
        have scr_8 : m_S cT (34 + 10 * cT 6) 10 = r_8.toInt := by rw [bhpσ_9, if_7]
        refine q_if_ne (A := r_8.toInt) E rfl (tgt := 51) dX12_turns_46 (by decide) (fun c_10 => ?_) (fun c_10 => ?_)
        · skip
          replace hF := q_ifn hF c_10
          refine lv_aload_n hx hb dX12_turns_51 rfl (lv_at hl 0 rfl) ?_
          refine gs_X12_35_12 E hI ha dX12_turns_52 ?_
          refine lv_bipush (v := 6) hx hb dX12_turns_55 zkb_6 ?_
          refine q_iald E hI (q_tk (k' := 34) hI ha rfl (Nat.succ_ne_zero _)) ⟨by decide, rfl⟩ (by decide) (by rw [q_lnk (v := 4650) hI (q_tk (k' := 34) hI ha rfl (Nat.succ_ne_zero _)) rfl (by decide)]; decide) dX12_turns_57 ?_
          refine lv_topi (fun f_11 ef_11 => ?_)
          replace hF := q_letX hF ef_11
          have if_11 : f_11.toInt = cT 6 := (m_rd ef_11 (by decide)).trans (congrFun ctσ_2 _)
          refine lv_istore_n (lv' := [(1, .int f_11), (0, .ref a)]) hx hb dX12_turns_58 rfl hl (by decide) rfl (fun ls hl => ?_)
          refine lv_iconst (v := 0) hx hb dX12_turns_59 zki_0 ?_
          refine lv_istore_n (lv' := [(2, .int 0), (1, .int f_11), (0, .ref a)]) hx hb dX12_turns_60 rfl hl (by decide) rfl (fun ls hl => ?_)
          have L_61_14 : ∀ (k_14 : Nat) (x_12 : Int32) (σ_13 : ST) (H : Heap) (locs : List Loc) (ls : Array Slot), (2147483647 - x_12.toInt).toNat < k_14 → (0 ≤ x_12.toInt ∧ x_12.toInt ≤ 10) → (∀ k, 0 ≤ k → k < x_12.toInt → m_of σ_13 (q_rf X a 28) k = 0) → (q_ow [(12, 39), (12, 42), (12, 43), (12, 44), (34, 99), (39, 99)] [] X σ σ_13) → (m_G (m_c X σ_13 a)) → (m_W (m_c X σ_13 a) n) → (∀ j, 654 ≤ j → m_c X σ_13 a j = m_c X σ a j) → (m_KD 40 X σ σ_13) → (m_c X σ_13 a = cT) → (F_X12_turns_L61_2 X a f_11 k_14 x_12 σ_13 = out) → q_I X 1 σ s.heap locs σ_13 H → lv_has ls 5 [(0, .ref a), (1, .int f_11), (2, .int x_12)] → W p l e (q_rm 5 112) s m ([.ref a] : List Value).toArray below meth c H locs 0 0 (MQ below (q_Qi X 1 σ (fun (r : Int32) (σ' : ST) => (0 ≤ r.toInt ∧ r.toInt ≤ 1) ∧ (m_G (m_c X σ' a)) ∧ (m_W (m_c X σ' a) (n + 1)) ∧ (∀ j, 654 ≤ j → m_c X σ' a j = m_c X σ a j) ∧ (m_KD 40 X σ σ') ∧ (r, σ') = F_X12_turns X σ a ∧ q_ow [(12, 39), (12, 42), (12, 43), (12, 44), (34, 99), (39, 99)] [] X σ σ')) ([.ref a] : List Value).toArray s 0 0 (q_reg X)) (F0 m 61 ls []) := by
            clear hF
            intro k_14
            induction k_14 with
            | zero =>
              intro x_12 σ_13 H locs ls hms
              exact absurd hms (Nat.not_lt_zero _)
            | succ k_14 ih61 =>
              intro x_12 σ_13 H locs ls hm61 hge61 zlσ_13 fr_σ_13 gσ_13 wσ_13 kqσ_13 kdσ_13 ctσ_13 hF hI hl
              replace hF := (F_X12_turns_L61_2_s).symm.trans hF
              unfold F_X12_turns_B61_2 at hF
              refine lv_iload_n hx hb dX12_turns_61 rfl (lv_at hl 2 rfl) ?_
              refine lv_bipush (v := 10) hx hb dX12_turns_62 zkb_10 ?_
              have gc_15_x_12 := q_rng x_12
              refine q_icmp_ge (A := x_12.toInt) (B := 10) E rfl (by decide) (tgt := 80) dX12_turns_64 (by decide) (fun c_15 => ?_) (fun c_15 => ?_)
              · skip
                replace hF := q_ifn hF (Int.not_lt.mpr c_15)
                unfold F_X12_turns_E80_8 at hF
                have zzσ_13 : ∀ j, 0 ≤ j → j < 10 → m_of σ_13 (q_rf X a 28) j = 0 := fun j h0 h1 => zlσ_13 j h0 (by first | (clear hn gσ wσ hh if_1 z7σ_2 gσ_2 wσ_2 kdσ_2 hT if_3 c_4 if_5 gc_6_f_5 c_6 if_7 ahpσ_9 bhpσ_9 chpσ_9 dhpσ_9 scr_8 c_10 if_11 hm61 gσ_13 wσ_13 kdσ_13 gc_15_x_12; omega) | omega)
                have h5T := gT.h80 (p := cT 6) (k := cT 5) (by first | (clear hn gσ wσ hh if_1 z7σ_2 gσ_2 wσ_2 kdσ_2 if_3 c_4 gc_6_f_5 ahpσ_9 bhpσ_9 chpσ_9 dhpσ_9 scr_8 c_10 hm61 hge61 gσ_13 wσ_13 kdσ_13 gc_15_x_12 c_15; omega) | omega) (by first | (clear hn gσ wσ hh if_1 z7σ_2 gσ_2 wσ_2 kdσ_2 if_3 c_4 gc_6_f_5 ahpσ_9 bhpσ_9 chpσ_9 dhpσ_9 scr_8 c_10 hm61 hge61 gσ_13 wσ_13 kdσ_13 gc_15_x_12 c_15; omega) | omega) (by first | (clear hn gσ wσ hh if_1 z7σ_2 gσ_2 wσ_2 kdσ_2 if_3 c_4 if_5 gc_6_f_5 c_6 if_7 ahpσ_9 bhpσ_9 chpσ_9 dhpσ_9 scr_8 c_10 if_11 hm61 hge61 gσ_13 wσ_13 kdσ_13 gc_15_x_12 c_15; omega) | omega) (by first | (clear hn gσ wσ hh if_1 z7σ_2 gσ_2 wσ_2 kdσ_2 if_3 c_4 if_5 gc_6_f_5 c_6 if_7 ahpσ_9 bhpσ_9 chpσ_9 dhpσ_9 scr_8 c_10 if_11 hm61 hge61 gσ_13 wσ_13 kdσ_13 gc_15_x_12 c_15; omega) | omega)
                refine lv_aload_n hx hb dX12_turns_80 rfl (lv_at hl 0 rfl) ?_
                refine gs_X12_35_12 E hI ha dX12_turns_81 ?_
                refine lv_iconst (v := 4) hx hb dX12_turns_84 zki_4 ?_
                refine q_iald E hI (q_tk (k' := 34) hI ha rfl (Nat.succ_ne_zero _)) ⟨by decide, rfl⟩ (by decide) (by rw [q_lnk (v := 4650) hI (q_tk (k' := 34) hI ha rfl (Nat.succ_ne_zero _)) rfl (by decide)]; decide) dX12_turns_85 ?_
                refine lv_topi (fun f_16 ef_16 => ?_)
                replace hF := q_letX hF ef_16
                have if_16 : f_16.toInt = cT 4 := (m_rd ef_16 (by decide)).trans (congrFun ctσ_13 _)
                refine lv_aload_n hx hb dX12_turns_86 rfl (lv_at hl 0 rfl) ?_
                refine lv_iload_n hx hb dX12_turns_87 rfl (lv_at hl 1 rfl) ?_
                refine lv_aload_n hx hb dX12_turns_88 rfl (lv_at hl 0 rfl) ?_
                refine gs_X12_35_12 E hI ha dX12_turns_89 ?_
                refine lv_iconst (v := 5) hx hb dX12_turns_92 zki_5 ?_
                refine q_iald E hI (q_tk (k' := 34) hI ha rfl (Nat.succ_ne_zero _)) ⟨by decide, rfl⟩ (by decide) (by rw [q_lnk (v := 4650) hI (q_tk (k' := 34) hI ha rfl (Nat.succ_ne_zero _)) rfl (by decide)]; decide) dX12_turns_93 ?_
                refine lv_topi (fun f_17 ef_17 => ?_)
                replace hF := q_letX hF ef_17
                have if_17 : f_17.toInt = cT 5 := (m_rd ef_17 (by decide)).trans (congrFun ctσ_13 _)
                refine q_ci (q_rV11_2 (rest := [.int f_16]) E (hml.trans hl.1.symm) hI (c_X12_handOf l X σ_13 a f_11 f_17 ha (by first | (clear hn gσ wσ hh if_1 z7σ_2 gσ_2 wσ_2 kdσ_2 if_3 c_4 gc_6_f_5 ahpσ_9 bhpσ_9 chpσ_9 dhpσ_9 scr_8 c_10 hm61 hge61 gσ_13 wσ_13 kdσ_13 gc_15_x_12 c_15 h5T if_16 if_17; omega) | omega) (by first | (clear hn gσ wσ hh if_1 z7σ_2 gσ_2 wσ_2 kdσ_2 if_3 c_4 if_5 gc_6_f_5 c_6 if_7 ahpσ_9 bhpσ_9 chpσ_9 dhpσ_9 scr_8 c_10 if_11 hm61 hge61 gσ_13 wσ_13 kdσ_13 gc_15_x_12 c_15 h5T if_16; omega) | omega)) kv_X12_276 ha ⟨Nat.le_of_ble_eq_true rfl, Nat.le_of_ble_eq_true rfl⟩ (Nat.le_of_ble_eq_true rfl) dX12_turns_94) hI (Nat.le_of_ble_eq_true rfl) (fun r_18 σ_19 H locs hpσ_19 hkσ_19 hI => ?_)
                have ahpσ_19 := hpσ_19.1
                have bhpσ_19 := hpσ_19.2.1
                have chpσ_19 := hpσ_19.2.2
                clear hpσ_19
                replace hI := q_Irw ahpσ_19 hI
                rw [ctσ_13] at bhpσ_19
                replace hF := q_letX hF chpσ_19
                have ir_18 : r_18.toInt = (cT (34 + 10 * (cT 6) + (cT 5))) := (by first | exact bhpσ_19 | (rw [bhpσ_19, if_11, if_17]) | (simp only [bhpσ_19, if_11, if_17]))
                refine q_ci (q_runS (As := [.int f_16, .int r_18]) (rest := []) E (hml.trans hl.1.symm) hI (c_J9_min_7cf53 l X σ_13 f_16 r_18) ks_X12_384 rfl ⟨Nat.le_of_ble_eq_true rfl, Nat.le_of_ble_eq_true rfl⟩ ⟨Nat.le_refl _, Nat.le_refl _⟩ rfl (Nat.le_of_ble_eq_true rfl) dX12_turns_97) hI (Nat.le_of_ble_eq_true rfl) (fun r_20 σ_21 H locs hpσ_21 hkσ_21 hI => ?_)
                have ahpσ_21 := hpσ_21.1
                have bhpσ_21 := hpσ_21.2.1
                have chpσ_21 := hpσ_21.2.2
                clear hpσ_21
                replace hI := q_Irw ahpσ_21 hI
                replace hF := q_letX hF chpσ_21
                refine lv_istore_n (lv' := [(2, .int r_20), (0, .ref a), (1, .int f_11)]) hx hb dX12_turns_100 rfl hl (by decide) rfl (fun ls hl => ?_)
                refine lv_aload_n hx hb dX12_turns_101 rfl (lv_at hl 1 rfl) ?_
                refine gs_X12_47_12 E hI ha dX12_turns_102 ?_
                refine lv_aload_n hx hb dX12_turns_105 rfl (lv_at hl 1 rfl) ?_
                refine gs_X12_35_12 E hI ha dX12_turns_106 ?_
                refine lv_iconst (v := 5) hx hb dX12_turns_109 zki_5 ?_
                refine q_iald E hI (q_tk (k' := 34) hI ha rfl (Nat.succ_ne_zero _)) ⟨by decide, rfl⟩ (by decide) (by rw [q_lnk (v := 4650) hI (q_tk (k' := 34) hI ha rfl (Nat.succ_ne_zero _)) rfl (by decide)]; decide) dX12_turns_110 ?_
                refine lv_topi (fun f_22 ef_22 => ?_)
                replace hF := q_letX hF ef_22
                have if_22 : f_22.toInt = cT 5 := (m_rd ef_22 (by decide)).trans (congrFun ctσ_13 _)
                refine lv_iload_n hx hb dX12_turns_111 rfl (lv_at hl 0 rfl) ?_
                refine q_iastN E hI (q_tk (k' := 39) hI ha rfl (Nat.succ_ne_zero _)) ⟨by decide, rfl⟩ (by first | (clear hn gσ wσ hh if_1 z7σ_2 gσ_2 wσ_2 kdσ_2 if_3 c_4 if_5 gc_6_f_5 c_6 if_7 ahpσ_9 bhpσ_9 chpσ_9 dhpσ_9 scr_8 c_10 if_11 hm61 hge61 gσ_13 wσ_13 kdσ_13 gc_15_x_12 c_15 h5T if_16 ahpσ_19 bhpσ_19 chpσ_19 ir_18 ahpσ_21 bhpσ_21 chpσ_21; omega) | omega) (by rw [q_lnk (v := 10) hI (q_tk (k' := 39) hI ha rfl (Nat.succ_ne_zero _)) rfl (by decide)]; omega) (show 1 < 9 by decide) (q_inU rfl) dX12_turns_112 (fun H locs σ_23 hσ_23 hI => ?_)
                replace hF := q_letX hF hσ_23
                have fr_σ_23 := fr_σ_13.si hσ_23 (q_tk (k' := 39) hI ha rfl (Nat.succ_ne_zero _)) rfl
                have mcσ_23 := m_wo hσ_23 (m_ne (q_tk (k' := 39) hI ha rfl (Nat.succ_ne_zero _)) (q_tk (f := 20) (k' := 34) hI ha rfl (by decide)) (by decide))
                have gσ_23 : m_G (m_c X σ_23 a) := m_G.ext (fun j _ _ => mcσ_23 j) gσ_13
                have wσ_23 : m_W (m_c X σ_23 a) n := m_W.ext (fun j _ _ => mcσ_23 j) wσ_13
                have kqσ_23 : ∀ j, 654 ≤ j → m_c X σ_23 a j = m_c X σ a j := fun j h => (mcσ_23 j).trans (kqσ_13 j h)
                have kdσ_23 : m_KD 40 X σ σ_23 := (by first | exact kdσ_13.si hσ_23 ha (by decide) | exact kdσ_13.sl hσ_23 | exact kdσ_13.ar hσ_23 (q_tk (k' := 39) hI ha rfl (Nat.succ_ne_zero _)) (by decide) (by decide))
                have ctσ_23 : m_c X σ_23 a = cT := (funext mcσ_23).trans ctσ_13
                have l1σ_23 : m_l1 (m_of σ_23 (q_rf X a 28)) (cT 5) r_20.toInt := m_l1.mk zzσ_13 (m_ofw hσ_23 (by omega : _ = cT 5) (by first | (clear hn gσ wσ hh if_1 z7σ_2 gσ_2 wσ_2 kdσ_2 if_3 c_4 if_5 gc_6_f_5 c_6 if_7 ahpσ_9 bhpσ_9 chpσ_9 dhpσ_9 scr_8 c_10 if_11 hm61 hge61 gσ_13 wσ_13 kdσ_13 gc_15_x_12 c_15 h5T if_16 ahpσ_19 bhpσ_19 chpσ_19 ir_18 ahpσ_21 bhpσ_21 chpσ_21 gσ_23 wσ_23 kdσ_23; omega) | omega)) rfl
                refine lv_aload_n hx hb dX12_turns_113 rfl (lv_at hl 1 rfl) ?_
                refine lv_iload_n hx hb dX12_turns_114 rfl (lv_at hl 2 rfl) ?_
                refine q_ci (q_rV11_1 (rest := []) E (hml.trans hl.1.symm) hI (c_X12_otherKind l X σ_23 a f_11 ha (by rw [ctσ_23]; exact gT) (by first | (clear hn gσ wσ hh if_1 z7σ_2 gσ_2 wσ_2 kdσ_2 if_3 c_4 gc_6_f_5 ahpσ_9 bhpσ_9 chpσ_9 dhpσ_9 scr_8 c_10 hm61 hge61 gσ_13 wσ_13 kdσ_13 gc_15_x_12 c_15 h5T if_16 if_17 ahpσ_19 bhpσ_19 chpσ_19 ir_18 ahpσ_21 bhpσ_21 chpσ_21 if_22 gσ_23 wσ_23 kdσ_23; omega) | omega)) kv_X12_399 ha ⟨Nat.le_of_ble_eq_true rfl, Nat.le_of_ble_eq_true rfl⟩ (Nat.le_of_ble_eq_true rfl) dX12_turns_115) hI (Nat.le_of_ble_eq_true rfl) (fun r_24 σ_25 H locs hpσ_25 hkσ_25 hI => ?_)
                have ahpσ_25 := hpσ_25.1
                have bhpσ_25 := hpσ_25.2.1
                have chpσ_25 := hpσ_25.2.2.1
                have dhpσ_25 := hpσ_25.2.2.2
                clear hpσ_25
                replace hI := q_Irw ahpσ_25 hI
                rw [ctσ_23] at bhpσ_25
                rw [ctσ_23] at chpσ_25
                replace hF := q_letX hF dhpσ_25
                have otr_24 := bhpσ_25
                rw [if_11] at otr_24
                have osr_24 := fun h5 => otr_24.some gT (by first | (clear hn gσ wσ hh if_1 z7σ_2 gσ_2 wσ_2 kdσ_2 if_3 c_4 gc_6_f_5 ahpσ_9 bhpσ_9 chpσ_9 dhpσ_9 scr_8 c_10 hm61 hge61 gσ_13 wσ_13 kdσ_13 gc_15_x_12 c_15 h5T if_16 if_17 ahpσ_19 bhpσ_19 chpσ_19 ir_18 ahpσ_21 bhpσ_21 chpσ_21 if_22 gσ_23 wσ_23 kdσ_23 ahpσ_25 bhpσ_25 chpσ_25 dhpσ_25; omega) | omega) (by first | (clear hn gσ wσ hh if_1 z7σ_2 gσ_2 wσ_2 kdσ_2 if_3 c_4 if_5 gc_6_f_5 c_6 if_7 ahpσ_9 chpσ_9 dhpσ_9 if_11 hm61 gσ_13 wσ_13 kdσ_13 gc_15_x_12 if_17 ahpσ_19 chpσ_19 ahpσ_21 bhpσ_21 chpσ_21 if_22 gσ_23 wσ_23 kdσ_23 ahpσ_25 bhpσ_25 chpσ_25 dhpσ_25; omega) | omega) h5
                refine lv_istore_n (lv' := [(3, .int r_24), (2, .int r_20), (0, .ref a), (1, .int f_11)]) hx hb dX12_turns_118 rfl hl (by decide) rfl (fun ls hl => ?_)
                refine lv_iload_n hx hb dX12_turns_119 rfl (lv_at hl 1 rfl) ?_
                refine lv_aload_n hx hb dX12_turns_120 rfl (lv_at hl 2 rfl) ?_
                refine gs_X12_35_12 E hI ha dX12_turns_121 ?_
                refine lv_iconst (v := 4) hx hb dX12_turns_124 zki_4 ?_
                refine q_iald E hI (q_tk (k' := 34) hI ha rfl (Nat.succ_ne_zero _)) ⟨by decide, rfl⟩ (by decide) (by rw [q_lnk (v := 4650) hI (q_tk (k' := 34) hI ha rfl (Nat.succ_ne_zero _)) rfl (by decide)]; decide) dX12_turns_125 ?_
                refine lv_topi (fun f_26 ef_26 => ?_)
                replace hF := q_letX hF ef_26
                have if_26 : f_26.toInt = cT 4 := (m_rd ef_26 (by decide)).trans (congrFun ctσ_23 _)
                have J_163_27 : ∀  (σ_27 : ST) (H : Heap) (locs : List Loc) (ls : Array Slot), (m_lo cT (m_of σ_27 (q_rf X a 28)) f_11.toInt) → (q_ow [(12, 39), (12, 42), (12, 43), (12, 44), (34, 99), (39, 99)] [] X σ σ_27) → (m_G (m_c X σ_27 a)) → (m_W (m_c X σ_27 a) n) → (∀ j, 654 ≤ j → m_c X σ_27 a j = m_c X σ a j) → (m_KD 40 X σ σ_27) → (m_c X σ_27 a = cT) → (F_X12_turns_J163_4 X a f_11 σ_27 = out) → q_I X 1 σ s.heap locs σ_27 H → lv_has ls 5 [(0, .ref a), (1, .int f_11), (2, .int r_20), (3, .int r_24)] → W p l e (q_rm 5 112) s m ([.ref a] : List Value).toArray below meth c H locs 0 0 (MQ below (q_Qi X 1 σ (fun (r : Int32) (σ' : ST) => (0 ≤ r.toInt ∧ r.toInt ≤ 1) ∧ (m_G (m_c X σ' a)) ∧ (m_W (m_c X σ' a) (n + 1)) ∧ (∀ j, 654 ≤ j → m_c X σ' a j = m_c X σ a j) ∧ (m_KD 40 X σ σ') ∧ (r, σ') = F_X12_turns X σ a ∧ q_ow [(12, 39), (12, 42), (12, 43), (12, 44), (34, 99), (39, 99)] [] X σ σ')) ([.ref a] : List Value).toArray s 0 0 (q_reg X)) (F0 m 163 ls []) := by
                  clear hF
                  intro σ_27 H locs ls loσ_27 fr_σ_27 gσ_27 wσ_27 kqσ_27 kdσ_27 ctσ_27 hF hI hl
                  try clear zzσ_13; try clear ahpσ_19; try clear ahpσ_21; try clear fr_σ_23; try clear mcσ_23; try clear kqσ_23; try clear kdσ_23; try clear ctσ_23; try clear ahpσ_25
                  unfold F_X12_turns_J163_4 at hF
                  refine lv_aload_n hx hb dX12_turns_163 rfl (lv_at hl 0 rfl) ?_
                  refine lv_iload_n hx hb dX12_turns_164 rfl (lv_at hl 1 rfl) ?_
                  refine lv_aload_n hx hb dX12_turns_165 rfl (lv_at hl 0 rfl) ?_
                  refine gs_X12_47_12 E hI ha dX12_turns_166 ?_
                  refine q_cv (q_rV11_2 (rest := []) E (hml.trans hl.1.symm) hI (c_X12_laysDown l X σ_27 a f_11 (q_rf X a 28) ha (q_tk (k' := 39) hI ha rfl (Nat.succ_ne_zero _)) (by rw [ctσ_27]; exact loσ_27) (by rw [ctσ_27]; omega)) kv_X12_311 ha ⟨Nat.le_of_ble_eq_true rfl, Nat.le_of_ble_eq_true rfl⟩ (Nat.le_of_ble_eq_true rfl) dX12_turns_169) hI (Nat.le_of_ble_eq_true rfl) (fun σ_29 H locs hpσ_29 hkσ_29 hI => ?_)
                  have ahpσ_29 := hpσ_29.1
                  have bhpσ_29 := hpσ_29.2.1
                  have chpσ_29 := hpσ_29.2.2.1
                  have dhpσ_29 := hpσ_29.2.2.2.1
                  have ehpσ_29 := hpσ_29.2.2.2.2.1
                  have fhpσ_29 := hpσ_29.2.2.2.2.2.1
                  have ghpσ_29 := hpσ_29.2.2.2.2.2.2.1
                  have hhpσ_29 := hpσ_29.2.2.2.2.2.2.2
                  clear hpσ_29
                  have fr_σ_29 := fr_σ_27.call hhpσ_29 rfl rfl
                  replace hF := q_letX hF ghpσ_29
                  have gσ_29 : m_G (m_c X σ_29 a) := ahpσ_29
                  have wσ_29 : m_W (m_c X σ_29 a) n := m_W.ext (fun j h0 h1 => bhpσ_29 j (by first | (clear hn gσ wσ hh if_1 z7σ_2 gσ_2 wσ_2 kdσ_2 hT if_3 c_4 if_5 gc_6_f_5 c_6 if_7 ahpσ_9 bhpσ_9 chpσ_9 dhpσ_9 scr_8 c_10 if_11 hm61 hge61 gσ_13 wσ_13 kdσ_13 gc_15_x_12 c_15 h5T if_16 if_17 bhpσ_19 chpσ_19 ir_18 bhpσ_21 chpσ_21 if_22 gσ_23 wσ_23 bhpσ_25 chpσ_25 dhpσ_25 osr_24 if_26 gσ_27 wσ_27 kdσ_27 ahpσ_29 bhpσ_29 chpσ_29 dhpσ_29 ehpσ_29 fhpσ_29 gσ_29; omega) | omega) (by first | (clear hn gσ wσ hh if_1 z7σ_2 gσ_2 wσ_2 kdσ_2 hT if_3 c_4 if_5 gc_6_f_5 c_6 if_7 ahpσ_9 bhpσ_9 chpσ_9 dhpσ_9 scr_8 c_10 if_11 hm61 hge61 gσ_13 wσ_13 kdσ_13 gc_15_x_12 c_15 h5T if_16 if_17 bhpσ_19 chpσ_19 ir_18 bhpσ_21 chpσ_21 if_22 gσ_23 wσ_23 bhpσ_25 chpσ_25 dhpσ_25 osr_24 if_26 gσ_27 wσ_27 kdσ_27 ahpσ_29 bhpσ_29 chpσ_29 dhpσ_29 ehpσ_29 fhpσ_29 gσ_29; omega) | omega)) wσ_27
                  have kqσ_29 : ∀ j, 654 ≤ j → m_c X σ_29 a j = m_c X σ a j := (fun j h => (bhpσ_29 j (by first | (clear hn gσ wσ hh if_1 z7σ_2 gσ_2 wσ_2 kdσ_2 hT if_3 c_4 if_5 gc_6_f_5 c_6 if_7 ahpσ_9 bhpσ_9 chpσ_9 dhpσ_9 scr_8 c_10 if_11 hm61 hge61 gσ_13 wσ_13 kdσ_13 gc_15_x_12 c_15 h5T if_16 if_17 bhpσ_19 chpσ_19 ir_18 bhpσ_21 chpσ_21 if_22 gσ_23 wσ_23 bhpσ_25 chpσ_25 dhpσ_25 osr_24 if_26 gσ_27 wσ_27 kdσ_27 ahpσ_29 bhpσ_29 chpσ_29 dhpσ_29 ehpσ_29 fhpσ_29 gσ_29 wσ_29; omega) | omega) (by first | (clear hn gσ wσ hh if_1 z7σ_2 gσ_2 wσ_2 kdσ_2 hT if_3 c_4 if_5 gc_6_f_5 c_6 if_7 ahpσ_9 bhpσ_9 chpσ_9 dhpσ_9 scr_8 c_10 if_11 hm61 hge61 gσ_13 wσ_13 kdσ_13 gc_15_x_12 c_15 h5T if_16 if_17 bhpσ_19 chpσ_19 ir_18 bhpσ_21 chpσ_21 if_22 gσ_23 wσ_23 bhpσ_25 chpσ_25 dhpσ_25 osr_24 if_26 gσ_27 wσ_27 kdσ_27 ahpσ_29 bhpσ_29 chpσ_29 dhpσ_29 ehpσ_29 fhpσ_29 gσ_29 wσ_29; omega) | omega)).trans (kqσ_27 j h))
                  have kdσ_29 : m_KD 40 X σ σ_29 := kdσ_27.tr fhpσ_29
                  have d7σ_29 := dhpσ_29
                  have d6σ_29 := ehpσ_29
                  obtain ⟨cD, hcD⟩ : ∃ f : Int → Int, f = m_c X σ_29 a := ⟨_, rfl⟩
                  have cxσ_29 : m_c X σ_29 a = cD := hcD.symm
                  have gD : m_G cD := by rw [hcD]; exact gσ_29
                  have hD := gD.hd
                  have zD : cD 7 = 1 ∧ cD 6 = f_11.toInt := by rw [hcD]; exact ⟨d7σ_29, d6σ_29⟩
                  refine lv_aload_n hx hb dX12_turns_172 rfl (lv_at hl 0 rfl) ?_
                  refine lv_dup hx hb dX12_turns_173 rfl ?_
                  refine gs_X12_405_12 E hI ha dX12_turns_174 ?_
                  refine lv_topi (fun f_30 ef_30 => ?_)
                  replace hF := q_letX hF ef_30
                  have if_30 : f_30.toInt = (σ_29.1 a 42).toInt := congrArg Int32.toInt ef_30
                  refine lv_iconst (v := 1) hx hb dX12_turns_177 zki_1 ?_
                  refine lv_iadd hx hb dX12_turns_178 ?_
                  refine lv_topi (fun z_31 ez_31 => ?_)
                  replace hF := q_letX hF ez_31
                  refine ps_X12_405_12 E hI ha (by decide) dX12_turns_179 (fun H locs σ_32 hσ_32 hI => ?_)
                  replace hF := q_letX hF hσ_32
                  have fr_σ_32 := fr_σ_29.si hσ_32 ha rfl
                  have mcσ_32 := m_wo hσ_32 (m_ne ha (q_tk (f := 20) (k' := 34) hI ha rfl (by decide)) (by decide))
                  have gσ_32 : m_G (m_c X σ_32 a) := m_G.ext (fun j _ _ => mcσ_32 j) gσ_29
                  have wσ_32 : m_W (m_c X σ_32 a) n := m_W.ext (fun j _ _ => mcσ_32 j) wσ_29
                  have kqσ_32 : ∀ j, 654 ≤ j → m_c X σ_32 a j = m_c X σ a j := fun j h => (mcσ_32 j).trans (kqσ_29 j h)
                  have kdσ_32 : m_KD 40 X σ σ_32 := (by first | exact kdσ_29.si hσ_32 ha (by decide) | exact kdσ_29.sl hσ_32 | exact kdσ_29.ar hσ_32 ha (by decide) (by decide))
                  have cxσ_32 : m_c X σ_32 a = cD := (funext mcσ_32).trans cxσ_29
                  refine lv_aload_n hx hb dX12_turns_182 rfl (lv_at hl 0 rfl) ?_
                  refine lv_iload_n hx hb dX12_turns_183 rfl (lv_at hl 1 rfl) ?_
                  refine q_ci (q_rV11_1 (rest := []) E (hml.trans hl.1.symm) hI (c_X12_behindOf l X σ_32 a f_11 ha (by rw [cxσ_32]; exact gD) (by rw [cxσ_32]; exact (by first | (clear hn gσ wσ hh if_1 z7σ_2 gσ_2 wσ_2 kdσ_2 hT if_3 c_4 if_5 gc_6_f_5 c_6 if_7 ahpσ_9 bhpσ_9 chpσ_9 dhpσ_9 scr_8 c_10 if_11 hm61 hge61 gσ_13 wσ_13 kdσ_13 gc_15_x_12 c_15 h5T if_16 if_17 bhpσ_19 chpσ_19 ir_18 bhpσ_21 chpσ_21 if_22 gσ_23 wσ_23 bhpσ_25 chpσ_25 dhpσ_25 osr_24 if_26 gσ_27 wσ_27 kdσ_27 ahpσ_29 bhpσ_29 chpσ_29 dhpσ_29 fhpσ_29 gσ_29 wσ_29 kdσ_29 if_30 gσ_32 wσ_32 kdσ_32; omega) | omega))) kv_X12_319 ha ⟨Nat.le_of_ble_eq_true rfl, Nat.le_of_ble_eq_true rfl⟩ (Nat.le_of_ble_eq_true rfl) dX12_turns_184) hI (Nat.le_of_ble_eq_true rfl) (fun r_33 σ_34 H locs hpσ_34 hkσ_34 hI => ?_)
                  have ahpσ_34 := hpσ_34.1
                  have bhpσ_34 := hpσ_34.2.1
                  have chpσ_34 := hpσ_34.2.2.1
                  have dhpσ_34 := hpσ_34.2.2.2
                  clear hpσ_34
                  replace hI := q_Irw ahpσ_34 hI
                  rw [cxσ_32] at bhpσ_34
                  rw [cxσ_32] at chpσ_34
                  replace hF := q_letX hF dhpσ_34
                  refine lv_istore (lv' := [(4, .int r_33), (0, .ref a), (1, .int f_11), (2, .int r_20), (3, .int r_24)]) hx hb dX12_turns_187 hl (by decide) rfl (fun ls hl => ?_)
                  have L_189_37 : ∀ (k_37 : Nat) (x_35 : Int32) (σ_36 : ST) (H : Heap) (locs : List Loc) (ls : Array Slot), (f_11.toInt - x_35.toInt + 20 * min 1 (max 0 (x_35.toInt - f_11.toInt))).toNat < k_37 → (0 ≤ x_35.toInt ∧ x_35.toInt < cD 2) → (q_ow [(12, 39), (12, 42), (12, 43), (12, 44), (34, 99), (39, 99)] [] X σ σ_36) → (m_G (m_c X σ_36 a)) → (m_W (m_c X σ_36 a) n) → (∀ j, 654 ≤ j → m_c X σ_36 a j = m_c X σ a j) → (m_KD 40 X σ σ_36) → (m_c X σ_36 a = cD) → (F_X12_turns_L189_5 X f_11 a k_37 x_35 σ_36 = out) → q_I X 1 σ s.heap locs σ_36 H → lv_has ls 5 [(0, .ref a), (1, .int f_11), (2, .int r_20), (3, .int r_24), (4, .int x_35)] → W p l e (q_rm 5 112) s m ([.ref a] : List Value).toArray below meth c H locs 0 0 (MQ below (q_Qi X 1 σ (fun (r : Int32) (σ' : ST) => (0 ≤ r.toInt ∧ r.toInt ≤ 1) ∧ (m_G (m_c X σ' a)) ∧ (m_W (m_c X σ' a) (n + 1)) ∧ (∀ j, 654 ≤ j → m_c X σ' a j = m_c X σ a j) ∧ (m_KD 40 X σ σ') ∧ (r, σ') = F_X12_turns X σ a ∧ q_ow [(12, 39), (12, 42), (12, 43), (12, 44), (34, 99), (39, 99)] [] X σ σ')) ([.ref a] : List Value).toArray s 0 0 (q_reg X)) (F0 m 189 ls []) := by
                    clear hF
                    intro k_37
                    induction k_37 with
                    | zero =>
                      intro x_35 σ_36 H locs ls hms
                      try clear loσ_27; try clear fr_σ_27; try clear kqσ_27; try clear kdσ_27; try clear ctσ_27; try clear ahpσ_29; try clear fr_σ_29; try clear kqσ_29; try clear kdσ_29; try clear cxσ_29; try clear fr_σ_32; try clear mcσ_32; try clear kqσ_32; try clear kdσ_32; try clear cxσ_32; try clear ahpσ_34
                      exact absurd hms (Nat.not_lt_zero _)
                    | succ k_37 ih189 =>
                      intro x_35 σ_36 H locs ls hm189 hge189 fr_σ_36 gσ_36 wσ_36 kqσ_36 kdσ_36 cxσ_36 hF hI hl
                      replace hF := (F_X12_turns_L189_5_s).symm.trans hF
                      unfold F_X12_turns_B189_5 at hF
                      refine lv_iload hx hb dX12_turns_189 (lv_at hl 4 rfl) ?_
                      refine lv_iload_n hx hb dX12_turns_191 rfl (lv_at hl 1 rfl) ?_
                      have gc_38_x_35 := q_rng x_35
                      have gc_38_f_11 := q_rng f_11
                      refine q_icmp_eq (A := x_35.toInt) (B := f_11.toInt) E rfl rfl (tgt := 271) dX12_turns_192 (by decide) (fun c_38 => ?_) (fun c_38 => ?_)
                      · skip
                        replace hF := q_ifp hF c_38
                        unfold F_X12_turns_E271_6 at hF
                        refine lv_aload_n hx hb dX12_turns_271 rfl (lv_at hl 0 rfl) ?_
                        refine q_cv (q_rV11_0 (rest := []) E (hml.trans hl.1.symm) hI (c_X12_leaves l X σ_36 a n ha gσ_36 wσ_36 (by rw [cxσ_36]; omega)) kv_X12_322 ha ⟨Nat.le_of_ble_eq_true rfl, Nat.le_of_ble_eq_true rfl⟩ (Nat.le_of_ble_eq_true rfl) dX12_turns_272) hI (Nat.le_of_ble_eq_true rfl) (fun σ_40 H locs hpσ_40 hkσ_40 hI => ?_)
                        have ahpσ_40 := hpσ_40.1
                        have bhpσ_40 := hpσ_40.2.1
                        have chpσ_40 := hpσ_40.2.2.1
                        have dhpσ_40 := hpσ_40.2.2.2.1
                        have ehpσ_40 := hpσ_40.2.2.2.2.1
                        have fhpσ_40 := hpσ_40.2.2.2.2.2.1
                        have ghpσ_40 := hpσ_40.2.2.2.2.2.2.1
                        have hhpσ_40 := hpσ_40.2.2.2.2.2.2.2
                        clear hpσ_40
                        have fr_σ_40 := fr_σ_36.call hhpσ_40 rfl rfl
                        replace hF := q_letX hF ghpσ_40
                        have gσ_40 : m_G (m_c X σ_40 a) := ahpσ_40
                        have wσ_40 : m_W (m_c X σ_40 a) n := bhpσ_40
                        have kqσ_40 : ∀ j, 654 ≤ j → m_c X σ_40 a j = m_c X σ a j := (fun j h => (chpσ_40 j h).trans (kqσ_36 j h))
                        have kdσ_40 : m_KD 40 X σ σ_40 := kdσ_36.tr dhpσ_40
                        refine lv_iconst (v := 1) hx hb dX12_turns_275 zki_1 ?_
                        have hrv : (1 : Int32).toInt = 1 := zt_1
                        exact q_retz E hr hlk hI ⟨by decide, by decide⟩ ⟨⟨by decide, by decide⟩, gσ_40, (by first | exact vσ_40 | exact m_W.le wσ_40 (by first | (clear hn gσ wσ hh if_1 z7σ_2 gσ_2 wσ_2 kdσ_2 hT if_3 c_4 if_5 gc_6_f_5 c_6 if_7 ahpσ_9 bhpσ_9 chpσ_9 dhpσ_9 scr_8 c_10 if_11 hm61 hge61 gσ_13 wσ_13 kdσ_13 gc_15_x_12 c_15 h5T if_16 if_17 bhpσ_19 chpσ_19 ir_18 bhpσ_21 chpσ_21 if_22 gσ_23 wσ_23 bhpσ_25 chpσ_25 dhpσ_25 osr_24 if_26 gσ_27 wσ_27 bhpσ_29 chpσ_29 dhpσ_29 ehpσ_29 fhpσ_29 gσ_29 wσ_29 hD zD if_30 gσ_32 wσ_32 bhpσ_34 chpσ_34 dhpσ_34 hm189 hge189 gσ_36 wσ_36 kdσ_36 gc_38_x_35 gc_38_f_11 c_38 ahpσ_40 bhpσ_40 chpσ_40 dhpσ_40 ehpσ_40 fhpσ_40 gσ_40 wσ_40 kdσ_40 hrv; omega) | omega)), kqσ_40, kdσ_40, (hF.trans hout), fr_σ_40⟩ dX12_turns_276
                      · skip
                        replace hF := q_ifn hF c_38
                        refine lv_aload_n hx hb dX12_turns_195 rfl (lv_at hl 0 rfl) ?_
                        refine lv_iload hx hb dX12_turns_196 (lv_at hl 4 rfl) ?_
                        refine q_ci (q_rV11_1 (rest := []) E (hml.trans hl.1.symm) hI (c_X12_isImpossible l X σ_36 a x_35 ha (by rw [cxσ_36]; exact gD) (by rw [cxσ_36]; exact (by omega)) (by rw [cxσ_36]; exact (by first | (clear hn gσ wσ hh if_1 z7σ_2 gσ_2 wσ_2 kdσ_2 hT if_3 c_4 if_5 gc_6_f_5 c_6 if_7 ahpσ_9 bhpσ_9 chpσ_9 dhpσ_9 scr_8 c_10 if_11 hm61 hge61 gσ_13 wσ_13 kdσ_13 gc_15_x_12 c_15 h5T if_16 if_17 bhpσ_19 chpσ_19 ir_18 bhpσ_21 chpσ_21 if_22 gσ_23 wσ_23 bhpσ_25 chpσ_25 dhpσ_25 osr_24 if_26 gσ_27 wσ_27 bhpσ_29 chpσ_29 dhpσ_29 ehpσ_29 fhpσ_29 gσ_29 wσ_29 if_30 gσ_32 wσ_32 bhpσ_34 chpσ_34 dhpσ_34 hm189 hge189 gσ_36 wσ_36 kdσ_36 gc_38_x_35 gc_38_f_11 c_38; omega) | omega))) kv_X12_355 ha ⟨Nat.le_of_ble_eq_true rfl, Nat.le_of_ble_eq_true rfl⟩ (Nat.le_of_ble_eq_true rfl) dX12_turns_198) hI (Nat.le_of_ble_eq_true rfl) (fun r_41 σ_42 H locs hpσ_42 hkσ_42 hI => ?_)
                        have ahpσ_42 := hpσ_42.1
                        have bhpσ_42 := hpσ_42.2.1
                        have chpσ_42 := hpσ_42.2.2
                        clear hpσ_42
                        replace hI := q_Irw ahpσ_42 hI
                        replace hF := q_letX hF chpσ_42
                        refine q_if_ne (A := r_41.toInt) E rfl (tgt := 224) dX12_turns_201 (by decide) (fun c_43 => ?_) (fun c_43 => ?_)
                        · skip
                          replace hF := q_ifn hF c_43
                          replace c_43 := q_ifOne bhpσ_42 c_43
                          unfold F_X12_turns_E224_7 at hF
                          refine lv_aload_n hx hb dX12_turns_224 rfl (lv_at hl 0 rfl) ?_
                          refine lv_dup hx hb dX12_turns_225 rfl ?_
                          refine gs_X12_408_12 E hI ha dX12_turns_226 ?_
                          refine lv_topi (fun f_44 ef_44 => ?_)
                          replace hF := q_letX hF ef_44
                          have if_44 : f_44.toInt = (σ_36.1 a 43).toInt := congrArg Int32.toInt ef_44
                          refine lv_iconst (v := 1) hx hb dX12_turns_229 zki_1 ?_
                          refine lv_iadd hx hb dX12_turns_230 ?_
                          refine lv_topi (fun z_45 ez_45 => ?_)
                          replace hF := q_letX hF ez_45
                          refine ps_X12_408_12 E hI ha (by decide) dX12_turns_231 (fun H locs σ_46 hσ_46 hI => ?_)
                          replace hF := q_letX hF hσ_46
                          have fr_σ_46 := fr_σ_36.si hσ_46 ha rfl
                          have mcσ_46 := m_wo hσ_46 (m_ne ha (q_tk (f := 20) (k' := 34) hI ha rfl (by decide)) (by decide))
                          have gσ_46 : m_G (m_c X σ_46 a) := m_G.ext (fun j _ _ => mcσ_46 j) gσ_36
                          have wσ_46 : m_W (m_c X σ_46 a) n := m_W.ext (fun j _ _ => mcσ_46 j) wσ_36
                          have kqσ_46 : ∀ j, 654 ≤ j → m_c X σ_46 a j = m_c X σ a j := fun j h => (mcσ_46 j).trans (kqσ_36 j h)
                          have kdσ_46 : m_KD 40 X σ σ_46 := (by first | exact kdσ_36.si hσ_46 ha (by decide) | exact kdσ_36.sl hσ_46 | exact kdσ_36.ar hσ_46 ha (by decide) (by decide))
                          have cxσ_46 : m_c X σ_46 a = cD := (funext mcσ_46).trans cxσ_36
                          refine lv_aload_n hx hb dX12_turns_234 rfl (lv_at hl 0 rfl) ?_
                          refine lv_dup hx hb dX12_turns_235 rfl ?_
                          refine gs_X12_411_12 E hI ha dX12_turns_236 ?_
                          refine lv_topi (fun f_47 ef_47 => ?_)
                          replace hF := q_letX hF ef_47
                          have if_47 : f_47.toInt = (σ_46.1 a 44).toInt := congrArg Int32.toInt ef_47
                          refine lv_aload_n hx hb dX12_turns_239 rfl (lv_at hl 0 rfl) ?_
                          refine lv_iload hx hb dX12_turns_240 (lv_at hl 4 rfl) ?_
                          refine q_ci (q_rV11_1 (rest := [.int f_47, .ref a]) E (hml.trans hl.1.symm) hI (c_X12_doubts l X σ_46 a x_35 n ha gσ_46 wσ_46 (by omega) (by rw [cxσ_46]; omega) (by rw [cxσ_46]; omega) (by rw [cxσ_46]; omega)) kv_X12_328 ha ⟨Nat.le_of_ble_eq_true rfl, Nat.le_of_ble_eq_true rfl⟩ (Nat.le_of_ble_eq_true rfl) dX12_turns_242) hI (Nat.le_of_ble_eq_true rfl) (fun r_48 σ_49 H locs hpσ_49 hkσ_49 hI => ?_)
                          have ahpσ_49 := hpσ_49.1
                          have bhpσ_49 := hpσ_49.2.1
                          have chpσ_49 := hpσ_49.2.2.1
                          have dhpσ_49 := hpσ_49.2.2.2.1
                          have ehpσ_49 := hpσ_49.2.2.2.2.1
                          have fhpσ_49 := hpσ_49.2.2.2.2.2
                          clear hpσ_49
                          have fr_σ_49 := fr_σ_46.call fhpσ_49 rfl rfl
                          replace hF := q_biX hF ehpσ_49
                          have gσ_49 : m_G (m_c X σ_49 a) := ahpσ_49
                          have vσ_49 : m_W (m_c X σ_49 a) (n + 1) := bhpσ_49
                          have kqσ_49 : ∀ j, 654 ≤ j → m_c X σ_49 a j = m_c X σ a j := (fun j h => (chpσ_49 j h).trans (kqσ_46 j h))
                          have kdσ_49 : m_KD 40 X σ σ_49 := kdσ_46.tr dhpσ_49
                          refine lv_iload_n hx hb dX12_turns_245 rfl (lv_at hl 1 rfl) ?_
                          have gc_50_r_48 := q_rng r_48
                          have gc_50_f_11 := q_rng f_11
                          refine q_icmp_ne (A := r_48.toInt) (B := f_11.toInt) E rfl rfl (tgt := 253) dX12_turns_246 (by decide) (fun c_50 => ?_) (fun c_50 => ?_)
                          · skip
                            replace hF := q_ifn hF c_50
                            refine lv_iconst (v := 0) hx hb dX12_turns_253 zki_0 ?_
                            refine lv_iadd hx hb dX12_turns_254 ?_
                            refine lv_topi (fun z_51 ez_51 => ?_)
                            replace hF := q_letX hF ez_51
                            refine ps_X12_411_12 E hI ha (by decide) dX12_turns_255 (fun H locs σ_52 hσ_52 hI => ?_)
                            replace hF := q_letX hF hσ_52
                            have fr_σ_52 := fr_σ_49.si hσ_52 ha rfl
                            have mcσ_52 := m_wo hσ_52 (m_ne ha (q_tk (f := 20) (k' := 34) hI ha rfl (by decide)) (by decide))
                            have gσ_52 : m_G (m_c X σ_52 a) := m_G.ext (fun j _ _ => mcσ_52 j) gσ_49
                            have vσ_52 : m_W (m_c X σ_52 a) (n + 1) := m_W.ext (fun j _ _ => mcσ_52 j) vσ_49
                            have kqσ_52 : ∀ j, 654 ≤ j → m_c X σ_52 a j = m_c X σ a j := fun j h => (mcσ_52 j).trans (kqσ_49 j h)
                            have kdσ_52 : m_KD 40 X σ σ_52 := (by first | exact kdσ_49.si hσ_52 ha (by decide) | exact kdσ_49.sl hσ_52 | exact kdσ_49.ar hσ_52 ha (by decide) (by decide))
                            refine lv_iconst (v := 1) hx hb dX12_turns_258 zki_1 ?_
                            have hrv : (1 : Int32).toInt = 1 := zt_1
                            exact q_retz E hr hlk hI ⟨by decide, by decide⟩ ⟨⟨by decide, by decide⟩, gσ_52, (by first | exact vσ_52 | exact m_W.le wσ_52 (by omega)), kqσ_52, kdσ_52, (hF.trans hout), fr_σ_52⟩ dX12_turns_259
                          · skip
                            replace hF := q_ifp hF c_50
                            refine lv_iconst (v := 1) hx hb dX12_turns_249 zki_1 ?_
                            refine lv_goto (tgt := 254) hx hb dX12_turns_250 (by decide) ?_
                            refine lv_iadd hx hb dX12_turns_254 ?_
                            refine lv_topi (fun z_53 ez_53 => ?_)
                            replace hF := q_letX hF ez_53
                            refine ps_X12_411_12 E hI ha (by decide) dX12_turns_255 (fun H locs σ_54 hσ_54 hI => ?_)
                            replace hF := q_letX hF hσ_54
                            have fr_σ_54 := fr_σ_49.si hσ_54 ha rfl
                            have mcσ_54 := m_wo hσ_54 (m_ne ha (q_tk (f := 20) (k' := 34) hI ha rfl (by decide)) (by decide))
                            have gσ_54 : m_G (m_c X σ_54 a) := m_G.ext (fun j _ _ => mcσ_54 j) gσ_49
                            have vσ_54 : m_W (m_c X σ_54 a) (n + 1) := m_W.ext (fun j _ _ => mcσ_54 j) vσ_49
                            have kqσ_54 : ∀ j, 654 ≤ j → m_c X σ_54 a j = m_c X σ a j := fun j h => (mcσ_54 j).trans (kqσ_49 j h)
                            have kdσ_54 : m_KD 40 X σ σ_54 := (by first | exact kdσ_49.si hσ_54 ha (by decide) | exact kdσ_49.sl hσ_54 | exact kdσ_49.ar hσ_54 ha (by decide) (by decide))
                            refine lv_iconst (v := 1) hx hb dX12_turns_258 zki_1 ?_
                            have hrv : (1 : Int32).toInt = 1 := zt_1
                            exact q_retz E hr hlk hI ⟨by decide, by decide⟩ ⟨⟨by decide, by decide⟩, gσ_54, (by first | exact vσ_54 | exact m_W.le wσ_54 (by omega)), kqσ_54, kdσ_54, (hF.trans hout), fr_σ_54⟩ dX12_turns_259
                        · skip
                          replace hF := q_ifp hF c_43
                          refine lv_aload_n hx hb dX12_turns_204 rfl (lv_at hl 0 rfl) ?_
                          refine q_ci (q_rV11_0 (rest := []) E (hml.trans hl.1.symm) hI (c_X12_draw l X σ_36 a ha) kv_X12_402 ha ⟨Nat.le_of_ble_eq_true rfl, Nat.le_of_ble_eq_true rfl⟩ (Nat.le_of_ble_eq_true rfl) dX12_turns_205) hI (Nat.le_of_ble_eq_true rfl) (fun r_55 σ_56 H locs hpσ_56 hkσ_56 hI => ?_)
                          have ahpσ_56 := hpσ_56.1
                          have bhpσ_56 := hpσ_56.2.1
                          have chpσ_56 := hpσ_56.2.2
                          clear hpσ_56
                          have fr_σ_56 := fr_σ_36.call chpσ_56 rfl rfl
                          replace hF := q_biX hF bhpσ_56
                          have mcσ_56 := m_cK hkσ_56 hI.1 ha (by decide)
                          have gσ_56 : m_G (m_c X σ_56 a) := m_G.ext (fun j _ _ => mcσ_56 j) gσ_36
                          have wσ_56 : m_W (m_c X σ_56 a) n := m_W.ext (fun j _ _ => mcσ_56 j) wσ_36
                          have kqσ_56 : ∀ j, 654 ≤ j → m_c X σ_56 a j = m_c X σ a j := fun j h => (mcσ_56 j).trans (kqσ_36 j h)
                          have kdσ_56 : m_KD 40 X σ σ_56 := kdσ_36.draw ahpσ_56 ha
                          have cxσ_56 : m_c X σ_56 a = cD := (funext mcσ_56).trans cxσ_36
                          refine lv_aload_n hx hb dX12_turns_208 rfl (lv_at hl 0 rfl) ?_
                          refine gs_X12_35_12 E hI ha dX12_turns_209 ?_
                          refine lv_bipush (v := 16) hx hb dX12_turns_212 zkb_16 ?_
                          refine lv_iload hx hb dX12_turns_214 (lv_at hl 4 rfl) ?_
                          refine lv_iadd hx hb dX12_turns_216 ?_
                          refine lv_topi (fun z_57 ez_57 => ?_)
                          replace hF := q_letX hF ez_57
                          have iz_57 := q_addI (A := 16) (B := x_35.toInt) ez_57 (by decide) rfl (by first | (clear hn gσ wσ hh if_1 z7σ_2 gσ_2 wσ_2 kdσ_2 hT if_3 c_4 if_5 gc_6_f_5 c_6 if_7 ahpσ_9 bhpσ_9 chpσ_9 dhpσ_9 scr_8 c_10 if_11 hm61 hge61 gσ_13 wσ_13 kdσ_13 gc_15_x_12 c_15 h5T if_16 if_17 bhpσ_19 chpσ_19 ir_18 bhpσ_21 chpσ_21 if_22 gσ_23 wσ_23 bhpσ_25 chpσ_25 dhpσ_25 osr_24 if_26 gσ_27 wσ_27 bhpσ_29 chpσ_29 dhpσ_29 ehpσ_29 fhpσ_29 gσ_29 wσ_29 hD zD if_30 gσ_32 wσ_32 bhpσ_34 chpσ_34 dhpσ_34 hm189 gσ_36 wσ_36 kdσ_36 gc_38_f_11 c_38 ahpσ_42 bhpσ_42 chpσ_42 c_43 ahpσ_56 bhpσ_56 chpσ_56 gσ_56 wσ_56 kdσ_56; omega) | omega) (by first | (clear hn gσ wσ hh if_1 z7σ_2 gσ_2 wσ_2 kdσ_2 if_3 c_4 gc_6_f_5 ahpσ_9 bhpσ_9 chpσ_9 dhpσ_9 scr_8 c_10 hm61 hge61 gσ_13 wσ_13 kdσ_13 gc_15_x_12 c_15 h5T if_16 if_17 bhpσ_19 chpσ_19 ir_18 bhpσ_21 chpσ_21 if_22 gσ_23 wσ_23 bhpσ_25 chpσ_25 dhpσ_25 osr_24 if_26 gσ_27 wσ_27 bhpσ_29 chpσ_29 dhpσ_29 fhpσ_29 gσ_29 wσ_29 if_30 gσ_32 wσ_32 bhpσ_34 chpσ_34 dhpσ_34 hm189 gσ_36 wσ_36 kdσ_36 c_38 ahpσ_42 bhpσ_42 chpσ_42 c_43 ahpσ_56 bhpσ_56 chpσ_56 gσ_56 wσ_56 kdσ_56; omega) | omega)
                          refine q_iald E hI (q_tk (k' := 34) hI ha rfl (Nat.succ_ne_zero _)) ⟨by decide, rfl⟩ (by first | (clear hn gσ wσ hh if_1 z7σ_2 gσ_2 wσ_2 kdσ_2 hT if_3 c_4 if_5 gc_6_f_5 c_6 if_7 ahpσ_9 bhpσ_9 chpσ_9 dhpσ_9 scr_8 c_10 if_11 hm61 hge61 gσ_13 wσ_13 kdσ_13 gc_15_x_12 c_15 h5T if_16 if_17 bhpσ_19 chpσ_19 ir_18 bhpσ_21 chpσ_21 if_22 gσ_23 wσ_23 bhpσ_25 chpσ_25 dhpσ_25 osr_24 if_26 gσ_27 wσ_27 bhpσ_29 chpσ_29 dhpσ_29 ehpσ_29 fhpσ_29 gσ_29 wσ_29 hD zD if_30 gσ_32 wσ_32 bhpσ_34 chpσ_34 dhpσ_34 hm189 gσ_36 wσ_36 kdσ_36 gc_38_f_11 c_38 ahpσ_42 bhpσ_42 chpσ_42 c_43 ahpσ_56 bhpσ_56 chpσ_56 gσ_56 wσ_56 kdσ_56; omega) | omega) (by rw [q_lnk (v := 4650) hI (q_tk (k' := 34) hI ha rfl (Nat.succ_ne_zero _)) rfl (by decide)]; omega) dX12_turns_217 ?_
                          refine lv_topi (fun f_58 ef_58 => ?_)
                          replace hF := q_letX hF ef_58
                          have if_58 : f_58.toInt = cD (16 + x_35.toInt) := (m_rd ef_58 iz_57).trans (congrFun cxσ_56 _)
                          have gc_59_r_55 := q_rng r_55
                          have gc_59_f_58 := q_rng f_58
                          refine q_icmp_lt (A := r_55.toInt) (B := f_58.toInt) E rfl rfl (tgt := 224) dX12_turns_218 (by decide) (fun c_59 => ?_) (fun c_59 => ?_)
                          · skip
                            replace hF := q_ifp hF c_59
                            unfold F_X12_turns_E224_8 at hF
                            refine lv_aload_n hx hb dX12_turns_224 rfl (lv_at hl 0 rfl) ?_
                            refine lv_dup hx hb dX12_turns_225 rfl ?_
                            refine gs_X12_408_12 E hI ha dX12_turns_226 ?_
                            refine lv_topi (fun f_60 ef_60 => ?_)
                            replace hF := q_letX hF ef_60
                            have if_60 : f_60.toInt = (σ_56.1 a 43).toInt := congrArg Int32.toInt ef_60
                            refine lv_iconst (v := 1) hx hb dX12_turns_229 zki_1 ?_
                            refine lv_iadd hx hb dX12_turns_230 ?_
                            refine lv_topi (fun z_61 ez_61 => ?_)
                            replace hF := q_letX hF ez_61
                            refine ps_X12_408_12 E hI ha (by decide) dX12_turns_231 (fun H locs σ_62 hσ_62 hI => ?_)
                            replace hF := q_letX hF hσ_62
                            have fr_σ_62 := fr_σ_56.si hσ_62 ha rfl
                            have mcσ_62 := m_wo hσ_62 (m_ne ha (q_tk (f := 20) (k' := 34) hI ha rfl (by decide)) (by decide))
                            have gσ_62 : m_G (m_c X σ_62 a) := m_G.ext (fun j _ _ => mcσ_62 j) gσ_56
                            have wσ_62 : m_W (m_c X σ_62 a) n := m_W.ext (fun j _ _ => mcσ_62 j) wσ_56
                            have kqσ_62 : ∀ j, 654 ≤ j → m_c X σ_62 a j = m_c X σ a j := fun j h => (mcσ_62 j).trans (kqσ_56 j h)
                            have kdσ_62 : m_KD 40 X σ σ_62 := (by first | exact kdσ_56.si hσ_62 ha (by decide) | exact kdσ_56.sl hσ_62 | exact kdσ_56.ar hσ_62 ha (by decide) (by decide))
                            have cxσ_62 : m_c X σ_62 a = cD := (funext mcσ_62).trans cxσ_56
                            refine lv_aload_n hx hb dX12_turns_234 rfl (lv_at hl 0 rfl) ?_
                            refine lv_dup hx hb dX12_turns_235 rfl ?_
                            refine gs_X12_411_12 E hI ha dX12_turns_236 ?_
                            refine lv_topi (fun f_63 ef_63 => ?_)
                            replace hF := q_letX hF ef_63
                            have if_63 : f_63.toInt = (σ_62.1 a 44).toInt := congrArg Int32.toInt ef_63
                            refine lv_aload_n hx hb dX12_turns_239 rfl (lv_at hl 0 rfl) ?_
                            refine lv_iload hx hb dX12_turns_240 (lv_at hl 4 rfl) ?_
                            refine q_ci (q_rV11_1 (rest := [.int f_63, .ref a]) E (hml.trans hl.1.symm) hI (c_X12_doubts l X σ_62 a x_35 n ha gσ_62 wσ_62 (by omega) (by rw [cxσ_62]; omega) (by rw [cxσ_62]; omega) (by rw [cxσ_62]; omega)) kv_X12_328 ha ⟨Nat.le_of_ble_eq_true rfl, Nat.le_of_ble_eq_true rfl⟩ (Nat.le_of_ble_eq_true rfl) dX12_turns_242) hI (Nat.le_of_ble_eq_true rfl) (fun r_64 σ_65 H locs hpσ_65 hkσ_65 hI => ?_)
                            have ahpσ_65 := hpσ_65.1
                            have bhpσ_65 := hpσ_65.2.1
                            have chpσ_65 := hpσ_65.2.2.1
                            have dhpσ_65 := hpσ_65.2.2.2.1
                            have ehpσ_65 := hpσ_65.2.2.2.2.1
                            have fhpσ_65 := hpσ_65.2.2.2.2.2
                            clear hpσ_65
                            have fr_σ_65 := fr_σ_62.call fhpσ_65 rfl rfl
                            replace hF := q_biX hF ehpσ_65
                            have gσ_65 : m_G (m_c X σ_65 a) := ahpσ_65
                            have vσ_65 : m_W (m_c X σ_65 a) (n + 1) := bhpσ_65
                            have kqσ_65 : ∀ j, 654 ≤ j → m_c X σ_65 a j = m_c X σ a j := (fun j h => (chpσ_65 j h).trans (kqσ_62 j h))
                            have kdσ_65 : m_KD 40 X σ σ_65 := kdσ_62.tr dhpσ_65
                            refine lv_iload_n hx hb dX12_turns_245 rfl (lv_at hl 1 rfl) ?_
                            have gc_66_r_64 := q_rng r_64
                            have gc_66_f_11 := q_rng f_11
                            refine q_icmp_ne (A := r_64.toInt) (B := f_11.toInt) E rfl rfl (tgt := 253) dX12_turns_246 (by decide) (fun c_66 => ?_) (fun c_66 => ?_)
                            · skip
                              replace hF := q_ifn hF c_66
                              refine lv_iconst (v := 0) hx hb dX12_turns_253 zki_0 ?_
                              refine lv_iadd hx hb dX12_turns_254 ?_
                              refine lv_topi (fun z_67 ez_67 => ?_)
                              replace hF := q_letX hF ez_67
                              refine ps_X12_411_12 E hI ha (by decide) dX12_turns_255 (fun H locs σ_68 hσ_68 hI => ?_)
                              replace hF := q_letX hF hσ_68
                              have fr_σ_68 := fr_σ_65.si hσ_68 ha rfl
                              have mcσ_68 := m_wo hσ_68 (m_ne ha (q_tk (f := 20) (k' := 34) hI ha rfl (by decide)) (by decide))
                              have gσ_68 : m_G (m_c X σ_68 a) := m_G.ext (fun j _ _ => mcσ_68 j) gσ_65
                              have vσ_68 : m_W (m_c X σ_68 a) (n + 1) := m_W.ext (fun j _ _ => mcσ_68 j) vσ_65
                              have kqσ_68 : ∀ j, 654 ≤ j → m_c X σ_68 a j = m_c X σ a j := fun j h => (mcσ_68 j).trans (kqσ_65 j h)
                              have kdσ_68 : m_KD 40 X σ σ_68 := (by first | exact kdσ_65.si hσ_68 ha (by decide) | exact kdσ_65.sl hσ_68 | exact kdσ_65.ar hσ_68 ha (by decide) (by decide))
                              refine lv_iconst (v := 1) hx hb dX12_turns_258 zki_1 ?_
                              have hrv : (1 : Int32).toInt = 1 := zt_1
                              exact q_retz E hr hlk hI ⟨by decide, by decide⟩ ⟨⟨by decide, by decide⟩, gσ_68, (by first | exact vσ_68 | exact m_W.le wσ_68 (by omega)), kqσ_68, kdσ_68, (hF.trans hout), fr_σ_68⟩ dX12_turns_259
                            · skip
                              replace hF := q_ifp hF c_66
                              refine lv_iconst (v := 1) hx hb dX12_turns_249 zki_1 ?_
                              refine lv_goto (tgt := 254) hx hb dX12_turns_250 (by decide) ?_
                              refine lv_iadd hx hb dX12_turns_254 ?_
                              refine lv_topi (fun z_69 ez_69 => ?_)
                              replace hF := q_letX hF ez_69
                              refine ps_X12_411_12 E hI ha (by decide) dX12_turns_255 (fun H locs σ_70 hσ_70 hI => ?_)
                              replace hF := q_letX hF hσ_70
                              have fr_σ_70 := fr_σ_65.si hσ_70 ha rfl
                              have mcσ_70 := m_wo hσ_70 (m_ne ha (q_tk (f := 20) (k' := 34) hI ha rfl (by decide)) (by decide))
                              have gσ_70 : m_G (m_c X σ_70 a) := m_G.ext (fun j _ _ => mcσ_70 j) gσ_65
                              have vσ_70 : m_W (m_c X σ_70 a) (n + 1) := m_W.ext (fun j _ _ => mcσ_70 j) vσ_65
                              have kqσ_70 : ∀ j, 654 ≤ j → m_c X σ_70 a j = m_c X σ a j := fun j h => (mcσ_70 j).trans (kqσ_65 j h)
                              have kdσ_70 : m_KD 40 X σ σ_70 := (by first | exact kdσ_65.si hσ_70 ha (by decide) | exact kdσ_65.sl hσ_70 | exact kdσ_65.ar hσ_70 ha (by decide) (by decide))
                              refine lv_iconst (v := 1) hx hb dX12_turns_258 zki_1 ?_
                              have hrv : (1 : Int32).toInt = 1 := zt_1
                              exact q_retz E hr hlk hI ⟨by decide, by decide⟩ ⟨⟨by decide, by decide⟩, gσ_70, (by first | exact vσ_70 | exact m_W.le wσ_70 (by omega)), kqσ_70, kdσ_70, (hF.trans hout), fr_σ_70⟩ dX12_turns_259
                          · skip
                            replace hF := q_ifn hF (Int.not_lt.mpr c_59)
                            refine lv_goto (tgt := 260) hx hb dX12_turns_221 (by decide) ?_
                            refine lv_aload_n hx hb dX12_turns_260 rfl (lv_at hl 0 rfl) ?_
                            refine lv_iload hx hb dX12_turns_261 (lv_at hl 4 rfl) ?_
                            refine q_ci (q_rV11_1 (rest := []) E (hml.trans hl.1.symm) hI (c_X12_behindOf l X σ_56 a x_35 ha (by rw [cxσ_56]; exact gD) (by rw [cxσ_56]; exact (by omega))) kv_X12_319 ha ⟨Nat.le_of_ble_eq_true rfl, Nat.le_of_ble_eq_true rfl⟩ (Nat.le_of_ble_eq_true rfl) dX12_turns_263) hI (Nat.le_of_ble_eq_true rfl) (fun r_71 σ_72 H locs hpσ_72 hkσ_72 hI => ?_)
                            have ahpσ_72 := hpσ_72.1
                            have bhpσ_72 := hpσ_72.2.1
                            have chpσ_72 := hpσ_72.2.2.1
                            have dhpσ_72 := hpσ_72.2.2.2
                            clear hpσ_72
                            replace hI := q_Irw ahpσ_72 hI
                            rw [cxσ_56] at bhpσ_72
                            rw [cxσ_56] at chpσ_72
                            replace hF := q_letX hF dhpσ_72
                            refine lv_istore (lv' := [(4, .int r_71), (0, .ref a), (1, .int f_11), (2, .int r_20), (3, .int r_24)]) hx hb dX12_turns_266 hl (by decide) rfl (fun ls hl => ?_)
                            refine lv_goto (tgt := 189) hx hb dX12_turns_268 (by decide) ?_
                            exact ih189 r_71 σ_56 _ _ ls (by first | (clear hn gσ wσ hh if_1 z7σ_2 gσ_2 wσ_2 kdσ_2 if_3 c_4 gc_6_f_5 ahpσ_9 bhpσ_9 chpσ_9 dhpσ_9 scr_8 c_10 hm61 hge61 gσ_13 wσ_13 kdσ_13 gc_15_x_12 c_15 h5T if_16 if_17 bhpσ_19 chpσ_19 ir_18 bhpσ_21 chpσ_21 if_22 gσ_23 wσ_23 bhpσ_25 chpσ_25 dhpσ_25 osr_24 if_26 gσ_27 wσ_27 bhpσ_29 chpσ_29 dhpσ_29 fhpσ_29 gσ_29 wσ_29 if_30 gσ_32 wσ_32 bhpσ_34 chpσ_34 dhpσ_34 gσ_36 wσ_36 kdσ_36 ahpσ_42 bhpσ_42 chpσ_42 c_43 ahpσ_56 bhpσ_56 chpσ_56 gσ_56 wσ_56 kdσ_56 if_58 gc_59_r_55 gc_59_f_58 c_59 ahpσ_72 dhpσ_72; omega) | omega) (by omega) fr_σ_56 gσ_56 wσ_56 kqσ_56 kdσ_56 cxσ_56 hF hI (lv_sub hl [1, 2, 3, 4, 0] rfl)
                  exact L_189_37 ((f_11.toInt - r_33.toInt + 20 * min 1 (max 0 (r_33.toInt - f_11.toInt))).toNat + 1) r_33 σ_32 _ _ ls (Nat.lt_succ_self _) (by omega) fr_σ_32 gσ_32 wσ_32 kqσ_32 kdσ_32 cxσ_32 hF hI (lv_sub hl [1, 2, 3, 4, 0] rfl)
                have gc_73_r_20 := q_rng r_20
                have gc_73_f_26 := q_rng f_26
                refine q_icmp_ge (A := r_20.toInt) (B := f_26.toInt) E rfl rfl (tgt := 163) dX12_turns_126 (by decide) (fun c_73 => ?_) (fun c_73 => ?_)
                · skip
                  replace hF := q_ifn hF (Int.not_lt.mpr c_73)
                  exact J_163_27 σ_23 _ _ ls (by first | exact lo2σ_23 | exact m_lo.one gT (by first | (clear hn gσ wσ hh if_1 z7σ_2 gσ_2 wσ_2 kdσ_2 if_3 c_4 gc_6_f_5 ahpσ_9 bhpσ_9 chpσ_9 dhpσ_9 scr_8 c_10 hm61 hge61 gσ_13 wσ_13 kdσ_13 gc_15_x_12 c_15 h5T if_16 if_17 bhpσ_19 chpσ_19 ir_18 bhpσ_21 chpσ_21 if_22 gσ_23 wσ_23 bhpσ_25 chpσ_25 dhpσ_25 osr_24 if_26 gc_73_r_20 gc_73_f_26 c_73; omega) | omega) l1σ_23 (by first | (clear hn gσ wσ hh if_1 z7σ_2 gσ_2 wσ_2 kdσ_2 if_3 c_4 if_5 gc_6_f_5 c_6 if_7 ahpσ_9 bhpσ_9 chpσ_9 dhpσ_9 scr_8 c_10 if_11 hm61 hge61 gσ_13 wσ_13 kdσ_13 gc_15_x_12 c_15 h5T if_17 chpσ_19 ir_18 chpσ_21 if_22 gσ_23 wσ_23 bhpσ_25 chpσ_25 dhpσ_25 gc_73_f_26; omega) | omega) (by rw [if_11]; omega)) fr_σ_23 gσ_23 wσ_23 kqσ_23 kdσ_23 ctσ_23 hF hI (lv_sub hl [2, 3, 1, 0] rfl)
                · skip
                  replace hF := q_ifp hF c_73
                  refine lv_iload_n hx hb dX12_turns_129 rfl (lv_at hl 0 rfl) ?_
                  refine q_if_lt (A := r_24.toInt) E rfl (tgt := 163) dX12_turns_130 (by decide) (fun c_74 => ?_) (fun c_74 => ?_)
                  · skip
                    replace hF := q_ifp hF c_74
                    exact J_163_27 σ_23 _ _ ls (by first | exact lo2σ_23 | exact m_lo.one gT (by first | (clear hn gσ wσ hh if_1 z7σ_2 gσ_2 wσ_2 kdσ_2 if_3 c_4 gc_6_f_5 ahpσ_9 bhpσ_9 chpσ_9 dhpσ_9 scr_8 c_10 hm61 hge61 gσ_13 wσ_13 kdσ_13 gc_15_x_12 c_15 h5T if_16 if_17 bhpσ_19 chpσ_19 ir_18 bhpσ_21 chpσ_21 if_22 gσ_23 wσ_23 bhpσ_25 chpσ_25 dhpσ_25 osr_24 if_26 gc_73_r_20 gc_73_f_26 c_73 c_74; omega) | omega) l1σ_23 (by first | (clear hn gσ wσ hh if_1 z7σ_2 gσ_2 wσ_2 kdσ_2 if_3 c_4 if_5 gc_6_f_5 c_6 if_7 ahpσ_9 bhpσ_9 chpσ_9 dhpσ_9 scr_8 c_10 if_11 hm61 hge61 gσ_13 wσ_13 kdσ_13 gc_15_x_12 c_15 if_17 chpσ_19 chpσ_21 if_22 gσ_23 wσ_23 bhpσ_25 dhpσ_25 gc_73_f_26; omega) | omega) (by rw [if_11]; omega)) fr_σ_23 gσ_23 wσ_23 kqσ_23 kdσ_23 ctσ_23 hF hI (lv_sub hl [2, 3, 1, 0] rfl)
                  · skip
                    replace hF := q_ifn hF (Int.not_lt.mpr c_74)
                    refine lv_iload_n hx hb dX12_turns_133 rfl (lv_at hl 1 rfl) ?_
                    refine q_if_eq (A := r_20.toInt) E rfl (tgt := 153) dX12_turns_134 (by decide) (fun c_75 => ?_) (fun c_75 => ?_)
                    · skip
                      replace hF := q_ifp hF c_75
                      have op := otr_24.pos (by omega)
                      refine lv_aload_n hx hb dX12_turns_153 rfl (lv_at hl 2 rfl) ?_
                      refine gs_X12_47_12 E hI ha dX12_turns_154 ?_
                      refine lv_iload_n hx hb dX12_turns_157 rfl (lv_at hl 0 rfl) ?_
                      refine lv_dup2_11 hx hb dX12_turns_158 rfl rfl ?_
                      refine q_iald E hI (q_tk (k' := 39) hI ha rfl (Nat.succ_ne_zero _)) ⟨by decide, rfl⟩ (by omega) (by rw [q_lnk (v := 10) hI (q_tk (k' := 39) hI ha rfl (Nat.succ_ne_zero _)) rfl (by decide)]; omega) dX12_turns_159 ?_
                      refine lv_topi (fun f_76 ef_76 => ?_)
                      replace hF := q_letX hF ef_76
                      have lyf_76 : f_76.toInt = m_of σ_23 (q_rf X a 28) r_24.toInt := by rw [ef_76]; rfl
                      have lzf_76 := l1σ_23 r_24.toInt (by omega) (by first | (clear hn gσ wσ hh if_1 z7σ_2 gσ_2 wσ_2 kdσ_2 if_3 c_4 if_5 gc_6_f_5 c_6 if_7 ahpσ_9 bhpσ_9 chpσ_9 dhpσ_9 scr_8 c_10 if_11 hm61 hge61 gσ_13 wσ_13 kdσ_13 gc_15_x_12 c_15 h5T if_16 if_17 bhpσ_19 chpσ_19 ir_18 bhpσ_21 chpσ_21 if_22 gσ_23 wσ_23 bhpσ_25 dhpσ_25 osr_24 if_26 gc_73_r_20 gc_73_f_26 c_73 c_74 c_75 op lyf_76; omega) | omega)
                      rw [if_neg (by first | (clear hn gσ wσ hh if_1 z7σ_2 gσ_2 wσ_2 kdσ_2 hT if_3 c_4 if_5 gc_6_f_5 c_6 if_7 ahpσ_9 bhpσ_9 chpσ_9 dhpσ_9 scr_8 c_10 if_11 hm61 hge61 gσ_13 wσ_13 kdσ_13 gc_15_x_12 c_15 h5T if_16 bhpσ_19 chpσ_19 ir_18 bhpσ_21 chpσ_21 gσ_23 wσ_23 bhpσ_25 chpσ_25 dhpσ_25 osr_24 if_26 gc_73_r_20 gc_73_f_26 c_73 c_74 c_75 lyf_76 lzf_76; omega) | omega)] at lzf_76
                      refine lv_iconst (v := 1) hx hb dX12_turns_160 zki_1 ?_
                      refine lv_iadd hx hb dX12_turns_161 ?_
                      refine lv_topi (fun z_77 ez_77 => ?_)
                      replace hF := q_letX hF ez_77
                      have iz_77 := q_addI (A := f_76.toInt) (B := 1) ez_77 rfl (by decide) (by first | (clear hn gσ wσ hh if_1 z7σ_2 gσ_2 wσ_2 kdσ_2 hT if_3 c_4 if_5 gc_6_f_5 c_6 if_7 ahpσ_9 bhpσ_9 chpσ_9 dhpσ_9 scr_8 c_10 if_11 hm61 hge61 gσ_13 wσ_13 kdσ_13 gc_15_x_12 c_15 h5T if_16 if_17 bhpσ_19 chpσ_19 ir_18 bhpσ_21 chpσ_21 if_22 gσ_23 wσ_23 bhpσ_25 chpσ_25 dhpσ_25 osr_24 if_26 gc_73_r_20 gc_73_f_26 c_73 c_74 c_75 op; omega) | omega) (by first | (clear hn gσ wσ hh if_1 z7σ_2 gσ_2 wσ_2 kdσ_2 hT if_3 c_4 if_5 gc_6_f_5 c_6 if_7 ahpσ_9 bhpσ_9 chpσ_9 dhpσ_9 scr_8 c_10 if_11 hm61 hge61 gσ_13 wσ_13 kdσ_13 gc_15_x_12 c_15 h5T if_16 if_17 bhpσ_19 chpσ_19 ir_18 bhpσ_21 chpσ_21 if_22 gσ_23 wσ_23 bhpσ_25 chpσ_25 dhpσ_25 osr_24 if_26 gc_73_r_20 gc_73_f_26 c_73 c_74 c_75 op; omega) | omega)
                      refine q_iastN E hI (q_tk (k' := 39) hI ha rfl (Nat.succ_ne_zero _)) ⟨by decide, rfl⟩ (by omega) (by rw [q_lnk (v := 10) hI (q_tk (k' := 39) hI ha rfl (Nat.succ_ne_zero _)) rfl (by decide)]; omega) (show 1 < 9 by decide) (q_inU rfl) dX12_turns_162 (fun H locs σ_78 hσ_78 hI => ?_)
                      replace hF := q_letX hF hσ_78
                      have fr_σ_78 := fr_σ_23.si hσ_78 (q_tk (k' := 39) hI ha rfl (Nat.succ_ne_zero _)) rfl
                      have mcσ_78 := m_wo hσ_78 (m_ne (q_tk (k' := 39) hI ha rfl (Nat.succ_ne_zero _)) (q_tk (f := 20) (k' := 34) hI ha rfl (by decide)) (by decide))
                      have gσ_78 : m_G (m_c X σ_78 a) := m_G.ext (fun j _ _ => mcσ_78 j) gσ_23
                      have wσ_78 : m_W (m_c X σ_78 a) n := m_W.ext (fun j _ _ => mcσ_78 j) wσ_23
                      have kqσ_78 : ∀ j, 654 ≤ j → m_c X σ_78 a j = m_c X σ a j := fun j h => (mcσ_78 j).trans (kqσ_23 j h)
                      have kdσ_78 : m_KD 40 X σ σ_78 := (by first | exact kdσ_23.si hσ_78 ha (by decide) | exact kdσ_23.sl hσ_78 | exact kdσ_23.ar hσ_78 (q_tk (k' := 39) hI ha rfl (Nat.succ_ne_zero _)) (by decide) (by decide))
                      have ctσ_78 : m_c X σ_78 a = cT := (funext mcσ_78).trans ctσ_23
                      have lo2σ_78 : m_lo cT (m_of σ_78 (q_rf X a 28)) f_11.toInt := m_lo.two gT (by first | (clear hn gσ wσ hh if_1 z7σ_2 gσ_2 wσ_2 kdσ_2 if_3 c_4 gc_6_f_5 ahpσ_9 bhpσ_9 chpσ_9 dhpσ_9 scr_8 c_10 hm61 hge61 gσ_13 wσ_13 kdσ_13 gc_15_x_12 c_15 h5T if_16 if_17 bhpσ_19 chpσ_19 ir_18 bhpσ_21 chpσ_21 if_22 gσ_23 wσ_23 bhpσ_25 chpσ_25 dhpσ_25 osr_24 if_26 gc_73_r_20 gc_73_f_26 c_73 c_74 c_75 op lyf_76 lzf_76 iz_77 gσ_78 wσ_78 kdσ_78; omega) | omega) l1σ_23 (m_ofw hσ_78 (rfl : r_24.toInt = _) (by omega)) (by first | (clear hn gσ wσ hh if_1 z7σ_2 gσ_2 wσ_2 kdσ_2 hT if_3 c_4 if_5 gc_6_f_5 c_6 if_7 ahpσ_9 bhpσ_9 chpσ_9 dhpσ_9 scr_8 c_10 if_11 hm61 hge61 gσ_13 wσ_13 kdσ_13 gc_15_x_12 c_15 h5T if_16 if_17 bhpσ_19 chpσ_19 ir_18 bhpσ_21 chpσ_21 if_22 gσ_23 wσ_23 bhpσ_25 chpσ_25 dhpσ_25 osr_24 if_26 gc_73_r_20 gc_73_f_26 c_73 c_74 c_75 op gσ_78 wσ_78 kdσ_78; omega) | omega) (by first | (clear hn gσ wσ hh if_1 z7σ_2 gσ_2 wσ_2 kdσ_2 hT if_3 c_4 if_5 gc_6_f_5 c_6 if_7 ahpσ_9 bhpσ_9 chpσ_9 dhpσ_9 scr_8 c_10 if_11 hm61 hge61 gσ_13 wσ_13 kdσ_13 gc_15_x_12 c_15 h5T if_16 if_17 bhpσ_19 chpσ_19 ir_18 chpσ_21 if_22 gσ_23 wσ_23 bhpσ_25 chpσ_25 dhpσ_25 osr_24 if_26 gc_73_r_20 gc_73_f_26 c_73 c_74 op lyf_76 lzf_76 iz_77 gσ_78 wσ_78 kdσ_78; omega) | omega) (by rw [if_11]; omega) (by first | (clear hn gσ wσ hh if_1 z7σ_2 gσ_2 wσ_2 kdσ_2 if_3 c_4 if_5 gc_6_f_5 c_6 if_7 ahpσ_9 bhpσ_9 chpσ_9 dhpσ_9 scr_8 c_10 if_11 hm61 hge61 gσ_13 wσ_13 kdσ_13 gc_15_x_12 c_15 h5T if_16 if_17 bhpσ_19 chpσ_19 ir_18 bhpσ_21 chpσ_21 if_22 gσ_23 wσ_23 bhpσ_25 dhpσ_25 osr_24 if_26 gc_73_r_20 gc_73_f_26 c_73 c_75 op lyf_76 lzf_76 iz_77 gσ_78 wσ_78 kdσ_78; omega) | omega) (by first | (clear hn gσ wσ hh if_1 z7σ_2 gσ_2 wσ_2 kdσ_2 hT if_3 c_4 if_5 gc_6_f_5 c_6 if_7 ahpσ_9 bhpσ_9 chpσ_9 dhpσ_9 scr_8 c_10 if_11 hm61 hge61 gσ_13 wσ_13 kdσ_13 gc_15_x_12 c_15 h5T if_16 bhpσ_19 chpσ_19 ir_18 bhpσ_21 chpσ_21 gσ_23 wσ_23 bhpσ_25 chpσ_25 dhpσ_25 osr_24 if_26 gc_73_r_20 gc_73_f_26 c_73 c_74 c_75 lyf_76 lzf_76 iz_77 gσ_78 wσ_78 kdσ_78; omega) | omega) (by rw [if_11]; omega)
                      exact J_163_27 σ_78 _ _ ls (by first | exact lo2σ_78 | exact m_lo.one gT (by omega) l1σ_78 (by omega) (by rw [if_11]; omega)) fr_σ_78 gσ_78 wσ_78 kqσ_78 kdσ_78 ctσ_78 hF hI (lv_sub hl [2, 3, 1, 0] rfl)
                    · skip
                      replace hF := q_ifn hF c_75
                      refine lv_aload_n hx hb dX12_turns_137 rfl (lv_at hl 2 rfl) ?_
                      refine q_ci (q_rV11_0 (rest := []) E (hml.trans hl.1.symm) hI (c_X12_draw l X σ_23 a ha) kv_X12_402 ha ⟨Nat.le_of_ble_eq_true rfl, Nat.le_of_ble_eq_true rfl⟩ (Nat.le_of_ble_eq_true rfl) dX12_turns_138) hI (Nat.le_of_ble_eq_true rfl) (fun r_79 σ_80 H locs hpσ_80 hkσ_80 hI => ?_)
                      have ahpσ_80 := hpσ_80.1
                      have bhpσ_80 := hpσ_80.2.1
                      have chpσ_80 := hpσ_80.2.2
                      clear hpσ_80
                      have fr_σ_80 := fr_σ_23.call chpσ_80 rfl rfl
                      replace hF := q_biX hF bhpσ_80
                      have mcσ_80 := m_cK hkσ_80 hI.1 ha (by decide)
                      have gσ_80 : m_G (m_c X σ_80 a) := m_G.ext (fun j _ _ => mcσ_80 j) gσ_23
                      have wσ_80 : m_W (m_c X σ_80 a) n := m_W.ext (fun j _ _ => mcσ_80 j) wσ_23
                      have kqσ_80 : ∀ j, 654 ≤ j → m_c X σ_80 a j = m_c X σ a j := fun j h => (mcσ_80 j).trans (kqσ_23 j h)
                      have kdσ_80 : m_KD 40 X σ σ_80 := kdσ_23.draw ahpσ_80 ha
                      have ctσ_80 : m_c X σ_80 a = cT := (funext mcσ_80).trans ctσ_23
                      have l1σ_80 : m_l1 (m_of σ_80 (q_rf X a 28)) (cT 5) r_20.toInt := m_l1.ext l1σ_23 (fun j => congrArg Int32.toInt (ahpσ_80 (q_rf X a 28) j.toNat (q_cl9 _ _) (fun h => absurd h.1 (m_ne (q_tk (k' := 39) hI ha rfl (Nat.succ_ne_zero _)) ha (by decide)))))
                      refine lv_aload_n hx hb dX12_turns_141 rfl (lv_at hl 2 rfl) ?_
                      refine gs_X12_35_12 E hI ha dX12_turns_142 ?_
                      refine lv_bipush (v := 10) hx hb dX12_turns_145 zkb_10 ?_
                      refine lv_iload_n hx hb dX12_turns_147 rfl (lv_at hl 3 rfl) ?_
                      refine lv_iadd hx hb dX12_turns_148 ?_
                      refine lv_topi (fun z_81 ez_81 => ?_)
                      replace hF := q_letX hF ez_81
                      have iz_81 := q_addI (A := 10) (B := (cT 6)) ez_81 (by decide) if_11 (by first | (clear hn gσ wσ hh if_1 z7σ_2 gσ_2 wσ_2 kdσ_2 if_3 c_4 if_5 gc_6_f_5 c_6 ahpσ_9 bhpσ_9 chpσ_9 dhpσ_9 scr_8 c_10 hm61 hge61 gσ_13 wσ_13 kdσ_13 gc_15_x_12 c_15 h5T if_16 if_17 bhpσ_19 chpσ_19 ir_18 bhpσ_21 chpσ_21 if_22 gσ_23 wσ_23 bhpσ_25 chpσ_25 dhpσ_25 osr_24 if_26 gc_73_r_20 gc_73_f_26 c_73 c_74 c_75 ahpσ_80 bhpσ_80 chpσ_80 gσ_80 wσ_80 kdσ_80; omega) | omega) (by first | (clear hn gσ wσ hh if_1 z7σ_2 gσ_2 wσ_2 kdσ_2 if_3 c_4 gc_6_f_5 ahpσ_9 bhpσ_9 chpσ_9 dhpσ_9 scr_8 c_10 hm61 hge61 gσ_13 wσ_13 kdσ_13 gc_15_x_12 c_15 h5T if_16 if_17 bhpσ_19 chpσ_19 ir_18 bhpσ_21 chpσ_21 if_22 gσ_23 wσ_23 bhpσ_25 chpσ_25 dhpσ_25 osr_24 if_26 gc_73_r_20 gc_73_f_26 c_73 c_74 c_75 ahpσ_80 bhpσ_80 chpσ_80 gσ_80 wσ_80 kdσ_80; omega) | omega)
                      refine q_iald E hI (q_tk (k' := 34) hI ha rfl (Nat.succ_ne_zero _)) ⟨by decide, rfl⟩ (by first | (clear hn gσ wσ hh if_1 z7σ_2 gσ_2 wσ_2 kdσ_2 if_3 c_4 if_5 gc_6_f_5 c_6 ahpσ_9 bhpσ_9 chpσ_9 dhpσ_9 scr_8 c_10 hm61 hge61 gσ_13 wσ_13 kdσ_13 gc_15_x_12 c_15 h5T if_16 if_17 bhpσ_19 chpσ_19 ir_18 bhpσ_21 chpσ_21 if_22 gσ_23 wσ_23 bhpσ_25 chpσ_25 dhpσ_25 osr_24 if_26 gc_73_r_20 gc_73_f_26 c_73 c_74 c_75 ahpσ_80 bhpσ_80 chpσ_80 gσ_80 wσ_80 kdσ_80; omega) | omega) (by rw [q_lnk (v := 4650) hI (q_tk (k' := 34) hI ha rfl (Nat.succ_ne_zero _)) rfl (by decide)]; omega) dX12_turns_149 ?_
                      refine lv_topi (fun f_82 ef_82 => ?_)
                      replace hF := q_letX hF ef_82
                      have if_82 : f_82.toInt = cT (10 + (cT 6)) := (m_rd ef_82 iz_81).trans (congrFun ctσ_80 _)
                      have gc_83_r_79 := q_rng r_79
                      have gc_83_f_82 := q_rng f_82
                      refine q_icmp_ge (A := r_79.toInt) (B := f_82.toInt) E rfl rfl (tgt := 163) dX12_turns_150 (by decide) (fun c_83 => ?_) (fun c_83 => ?_)
                      · skip
                        replace hF := q_ifn hF (Int.not_lt.mpr c_83)
                        exact J_163_27 σ_80 _ _ ls (by first | exact lo2σ_80 | exact m_lo.one gT (by first | (clear hn gσ wσ hh if_1 z7σ_2 gσ_2 wσ_2 kdσ_2 if_3 c_4 gc_6_f_5 ahpσ_9 bhpσ_9 chpσ_9 dhpσ_9 scr_8 c_10 hm61 hge61 gσ_13 wσ_13 kdσ_13 gc_15_x_12 c_15 h5T if_16 if_17 bhpσ_19 chpσ_19 ir_18 bhpσ_21 chpσ_21 if_22 gσ_23 wσ_23 bhpσ_25 chpσ_25 dhpσ_25 osr_24 if_26 gc_73_r_20 gc_73_f_26 c_73 c_74 c_75 ahpσ_80 bhpσ_80 chpσ_80 gσ_80 wσ_80 kdσ_80 if_82 gc_83_r_79 gc_83_f_82 c_83; omega) | omega) l1σ_80 (by first | (clear hn gσ wσ hh if_1 z7σ_2 gσ_2 wσ_2 kdσ_2 if_3 c_4 if_5 gc_6_f_5 c_6 if_7 ahpσ_9 bhpσ_9 chpσ_9 dhpσ_9 scr_8 c_10 if_11 hm61 hge61 gσ_13 wσ_13 kdσ_13 gc_15_x_12 c_15 if_17 chpσ_19 chpσ_21 if_22 gσ_23 wσ_23 bhpσ_25 chpσ_25 dhpσ_25 gc_73_f_26 c_74 ahpσ_80 bhpσ_80 chpσ_80 gσ_80 wσ_80 kdσ_80 iz_81 if_82 gc_83_r_79 gc_83_f_82 c_83; omega) | omega) (by rw [if_11]; omega)) fr_σ_80 gσ_80 wσ_80 kqσ_80 kdσ_80 ctσ_80 hF hI (lv_sub hl [2, 3, 1, 0] rfl)
                      · skip
                        replace hF := q_ifp hF c_83
                        have op := otr_24.pos (by omega)
                        refine lv_aload_n hx hb dX12_turns_153 rfl (lv_at hl 2 rfl) ?_
                        refine gs_X12_47_12 E hI ha dX12_turns_154 ?_
                        refine lv_iload_n hx hb dX12_turns_157 rfl (lv_at hl 0 rfl) ?_
                        refine lv_dup2_11 hx hb dX12_turns_158 rfl rfl ?_
                        refine q_iald E hI (q_tk (k' := 39) hI ha rfl (Nat.succ_ne_zero _)) ⟨by decide, rfl⟩ (by omega) (by rw [q_lnk (v := 10) hI (q_tk (k' := 39) hI ha rfl (Nat.succ_ne_zero _)) rfl (by decide)]; omega) dX12_turns_159 ?_
                        refine lv_topi (fun f_84 ef_84 => ?_)
                        replace hF := q_letX hF ef_84
                        have lyf_84 : f_84.toInt = m_of σ_80 (q_rf X a 28) r_24.toInt := by rw [ef_84]; rfl
                        have lzf_84 := l1σ_80 r_24.toInt (by omega) (by first | (clear hn gσ wσ hh if_1 z7σ_2 gσ_2 wσ_2 kdσ_2 if_3 c_4 if_5 gc_6_f_5 c_6 if_7 ahpσ_9 bhpσ_9 chpσ_9 dhpσ_9 scr_8 c_10 if_11 hm61 hge61 gσ_13 wσ_13 kdσ_13 gc_15_x_12 c_15 h5T if_16 if_17 bhpσ_19 chpσ_19 ir_18 bhpσ_21 chpσ_21 if_22 gσ_23 wσ_23 bhpσ_25 dhpσ_25 osr_24 if_26 gc_73_r_20 gc_73_f_26 c_73 c_74 c_75 ahpσ_80 bhpσ_80 chpσ_80 gσ_80 wσ_80 kdσ_80 iz_81 if_82 gc_83_r_79 gc_83_f_82 c_83 op lyf_84; omega) | omega)
                        rw [if_neg (by first | (clear hn gσ wσ hh if_1 z7σ_2 gσ_2 wσ_2 kdσ_2 hT if_3 c_4 if_5 gc_6_f_5 c_6 if_7 ahpσ_9 bhpσ_9 chpσ_9 dhpσ_9 scr_8 c_10 if_11 hm61 hge61 gσ_13 wσ_13 kdσ_13 gc_15_x_12 c_15 h5T if_16 bhpσ_19 chpσ_19 ir_18 bhpσ_21 chpσ_21 gσ_23 wσ_23 bhpσ_25 chpσ_25 dhpσ_25 osr_24 if_26 gc_73_r_20 gc_73_f_26 c_73 c_74 c_75 ahpσ_80 bhpσ_80 chpσ_80 gσ_80 wσ_80 kdσ_80 iz_81 if_82 gc_83_r_79 gc_83_f_82 c_83 lyf_84 lzf_84; omega) | omega)] at lzf_84
                        refine lv_iconst (v := 1) hx hb dX12_turns_160 zki_1 ?_
                        refine lv_iadd hx hb dX12_turns_161 ?_
                        refine lv_topi (fun z_85 ez_85 => ?_)
                        replace hF := q_letX hF ez_85
                        have iz_85 := q_addI (A := f_84.toInt) (B := 1) ez_85 rfl (by decide) (by first | (clear hn gσ wσ hh if_1 z7σ_2 gσ_2 wσ_2 kdσ_2 hT if_3 c_4 if_5 gc_6_f_5 c_6 if_7 ahpσ_9 bhpσ_9 chpσ_9 dhpσ_9 scr_8 c_10 if_11 hm61 hge61 gσ_13 wσ_13 kdσ_13 gc_15_x_12 c_15 h5T if_16 if_17 bhpσ_19 chpσ_19 ir_18 bhpσ_21 chpσ_21 if_22 gσ_23 wσ_23 bhpσ_25 chpσ_25 dhpσ_25 osr_24 if_26 gc_73_r_20 gc_73_f_26 c_73 c_74 c_75 ahpσ_80 bhpσ_80 chpσ_80 gσ_80 wσ_80 kdσ_80 iz_81 if_82 gc_83_r_79 gc_83_f_82 c_83 op; omega) | omega) (by first | (clear hn gσ wσ hh if_1 z7σ_2 gσ_2 wσ_2 kdσ_2 hT if_3 c_4 if_5 gc_6_f_5 c_6 if_7 ahpσ_9 bhpσ_9 chpσ_9 dhpσ_9 scr_8 c_10 if_11 hm61 hge61 gσ_13 wσ_13 kdσ_13 gc_15_x_12 c_15 h5T if_16 if_17 bhpσ_19 chpσ_19 ir_18 bhpσ_21 chpσ_21 if_22 gσ_23 wσ_23 bhpσ_25 chpσ_25 dhpσ_25 osr_24 if_26 gc_73_r_20 gc_73_f_26 c_73 c_74 c_75 ahpσ_80 bhpσ_80 chpσ_80 gσ_80 wσ_80 kdσ_80 iz_81 if_82 gc_83_r_79 gc_83_f_82 c_83 op; omega) | omega)
                        refine q_iastN E hI (q_tk (k' := 39) hI ha rfl (Nat.succ_ne_zero _)) ⟨by decide, rfl⟩ (by omega) (by rw [q_lnk (v := 10) hI (q_tk (k' := 39) hI ha rfl (Nat.succ_ne_zero _)) rfl (by decide)]; omega) (show 1 < 9 by decide) (q_inU rfl) dX12_turns_162 (fun H locs σ_86 hσ_86 hI => ?_)
                        replace hF := q_letX hF hσ_86
                        have fr_σ_86 := fr_σ_80.si hσ_86 (q_tk (k' := 39) hI ha rfl (Nat.succ_ne_zero _)) rfl
                        have mcσ_86 := m_wo hσ_86 (m_ne (q_tk (k' := 39) hI ha rfl (Nat.succ_ne_zero _)) (q_tk (f := 20) (k' := 34) hI ha rfl (by decide)) (by decide))
                        have gσ_86 : m_G (m_c X σ_86 a) := m_G.ext (fun j _ _ => mcσ_86 j) gσ_80
                        have wσ_86 : m_W (m_c X σ_86 a) n := m_W.ext (fun j _ _ => mcσ_86 j) wσ_80
                        have kqσ_86 : ∀ j, 654 ≤ j → m_c X σ_86 a j = m_c X σ a j := fun j h => (mcσ_86 j).trans (kqσ_80 j h)
                        have kdσ_86 : m_KD 40 X σ σ_86 := (by first | exact kdσ_80.si hσ_86 ha (by decide) | exact kdσ_80.sl hσ_86 | exact kdσ_80.ar hσ_86 (q_tk (k' := 39) hI ha rfl (Nat.succ_ne_zero _)) (by decide) (by decide))
                        have ctσ_86 : m_c X σ_86 a = cT := (funext mcσ_86).trans ctσ_80
                        have lo2σ_86 : m_lo cT (m_of σ_86 (q_rf X a 28)) f_11.toInt := m_lo.two gT (by first | (clear hn gσ wσ hh if_1 z7σ_2 gσ_2 wσ_2 kdσ_2 if_3 c_4 gc_6_f_5 ahpσ_9 bhpσ_9 chpσ_9 dhpσ_9 scr_8 c_10 hm61 hge61 gσ_13 wσ_13 kdσ_13 gc_15_x_12 c_15 h5T if_16 if_17 bhpσ_19 chpσ_19 ir_18 bhpσ_21 chpσ_21 if_22 gσ_23 wσ_23 bhpσ_25 chpσ_25 dhpσ_25 osr_24 if_26 gc_73_r_20 gc_73_f_26 c_73 c_74 c_75 ahpσ_80 bhpσ_80 chpσ_80 gσ_80 wσ_80 kdσ_80 if_82 gc_83_r_79 gc_83_f_82 c_83 op lyf_84 lzf_84 iz_85 gσ_86 wσ_86 kdσ_86; omega) | omega) l1σ_80 (m_ofw hσ_86 (rfl : r_24.toInt = _) (by omega)) (by first | (clear hn gσ wσ hh if_1 z7σ_2 gσ_2 wσ_2 kdσ_2 hT if_3 c_4 if_5 gc_6_f_5 c_6 if_7 ahpσ_9 bhpσ_9 chpσ_9 dhpσ_9 scr_8 c_10 if_11 hm61 hge61 gσ_13 wσ_13 kdσ_13 gc_15_x_12 c_15 h5T if_16 if_17 bhpσ_19 chpσ_19 ir_18 bhpσ_21 chpσ_21 if_22 gσ_23 wσ_23 bhpσ_25 chpσ_25 dhpσ_25 osr_24 if_26 gc_73_r_20 gc_73_f_26 c_73 c_74 c_75 ahpσ_80 bhpσ_80 chpσ_80 gσ_80 wσ_80 kdσ_80 iz_81 if_82 gc_83_r_79 gc_83_f_82 c_83 op gσ_86 wσ_86 kdσ_86; omega) | omega) (by first | (clear hn gσ wσ hh if_1 z7σ_2 gσ_2 wσ_2 kdσ_2 if_3 c_4 if_5 gc_6_f_5 c_6 if_7 ahpσ_9 bhpσ_9 chpσ_9 dhpσ_9 scr_8 c_10 if_11 hm61 hge61 gσ_13 wσ_13 kdσ_13 gc_15_x_12 c_15 if_17 chpσ_19 chpσ_21 if_22 gσ_23 wσ_23 bhpσ_25 chpσ_25 dhpσ_25 gc_73_f_26 c_74 ahpσ_80 bhpσ_80 chpσ_80 gσ_80 wσ_80 kdσ_80 iz_81 if_82 gc_83_r_79 gc_83_f_82 c_83 lyf_84 lzf_84 iz_85 gσ_86 wσ_86 kdσ_86; omega) | omega) (by rw [if_11]; omega) (by first | (clear hn gσ wσ hh if_1 z7σ_2 gσ_2 wσ_2 kdσ_2 if_3 c_4 if_5 gc_6_f_5 c_6 if_7 ahpσ_9 bhpσ_9 chpσ_9 dhpσ_9 scr_8 c_10 if_11 hm61 hge61 gσ_13 wσ_13 kdσ_13 gc_15_x_12 c_15 h5T if_16 if_17 bhpσ_19 chpσ_19 ir_18 bhpσ_21 chpσ_21 if_22 gσ_23 wσ_23 bhpσ_25 dhpσ_25 osr_24 if_26 gc_73_r_20 gc_73_f_26 c_73 c_75 ahpσ_80 bhpσ_80 chpσ_80 gσ_80 wσ_80 kdσ_80 iz_81 if_82 gc_83_r_79 gc_83_f_82 c_83 op lyf_84 lzf_84 iz_85 gσ_86 wσ_86 kdσ_86; omega) | omega) (by first | (clear hn gσ wσ hh if_1 z7σ_2 gσ_2 wσ_2 kdσ_2 hT if_3 c_4 if_5 gc_6_f_5 c_6 if_7 ahpσ_9 bhpσ_9 chpσ_9 dhpσ_9 scr_8 c_10 if_11 hm61 hge61 gσ_13 wσ_13 kdσ_13 gc_15_x_12 c_15 h5T if_16 bhpσ_19 chpσ_19 ir_18 bhpσ_21 chpσ_21 gσ_23 wσ_23 bhpσ_25 chpσ_25 dhpσ_25 osr_24 if_26 gc_73_r_20 gc_73_f_26 c_73 c_74 c_75 ahpσ_80 bhpσ_80 chpσ_80 gσ_80 wσ_80 kdσ_80 iz_81 if_82 gc_83_r_79 gc_83_f_82 c_83 lyf_84 lzf_84 iz_85 gσ_86 wσ_86 kdσ_86; omega) | omega) (by rw [if_11]; omega)
                        exact J_163_27 σ_86 _ _ ls (by first | exact lo2σ_86 | exact m_lo.one gT (by omega) l1σ_86 (by omega) (by rw [if_11]; omega)) fr_σ_86 gσ_86 wσ_86 kqσ_86 kdσ_86 ctσ_86 hF hI (lv_sub hl [2, 3, 1, 0] rfl)
              · skip
                replace hF := q_ifp hF c_15
                refine lv_aload_n hx hb dX12_turns_67 rfl (lv_at hl 0 rfl) ?_
                refine gs_X12_47_12 E hI ha dX12_turns_68 ?_
                refine lv_iload_n hx hb dX12_turns_71 rfl (lv_at hl 2 rfl) ?_
                refine lv_iconst (v := 0) hx hb dX12_turns_72 zki_0 ?_
                have kc_88 : (0 : Int32).toInt = 0 := zt_0
                refine q_iastN E hI (q_tk (k' := 39) hI ha rfl (Nat.succ_ne_zero _)) ⟨by decide, rfl⟩ (by first | (clear hn gσ wσ hh if_1 z7σ_2 gσ_2 wσ_2 kdσ_2 hT if_3 c_4 if_5 gc_6_f_5 c_6 if_7 ahpσ_9 bhpσ_9 chpσ_9 dhpσ_9 scr_8 c_10 if_11 hm61 gσ_13 wσ_13 kdσ_13 gc_15_x_12 kc_88; omega) | omega) (by rw [q_lnk (v := 10) hI (q_tk (k' := 39) hI ha rfl (Nat.succ_ne_zero _)) rfl (by decide)]; omega) (show 1 < 9 by decide) (q_inU rfl) dX12_turns_73 (fun H locs σ_87 hσ_87 hI => ?_)
                replace hF := q_letX hF hσ_87
                have fr_σ_87 := fr_σ_13.si hσ_87 (q_tk (k' := 39) hI ha rfl (Nat.succ_ne_zero _)) rfl
                have mcσ_87 := m_wo hσ_87 (m_ne (q_tk (k' := 39) hI ha rfl (Nat.succ_ne_zero _)) (q_tk (f := 20) (k' := 34) hI ha rfl (by decide)) (by decide))
                have gσ_87 : m_G (m_c X σ_87 a) := m_G.ext (fun j _ _ => mcσ_87 j) gσ_13
                have wσ_87 : m_W (m_c X σ_87 a) n := m_W.ext (fun j _ _ => mcσ_87 j) wσ_13
                have kqσ_87 : ∀ j, 654 ≤ j → m_c X σ_87 a j = m_c X σ a j := fun j h => (mcσ_87 j).trans (kqσ_13 j h)
                have kdσ_87 : m_KD 40 X σ σ_87 := (by first | exact kdσ_13.si hσ_87 ha (by decide) | exact kdσ_13.sl hσ_87 | exact kdσ_13.ar hσ_87 (q_tk (k' := 39) hI ha rfl (Nat.succ_ne_zero _)) (by decide) (by decide))
                have ctσ_87 : m_c X σ_87 a = cT := (funext mcσ_87).trans ctσ_13
                have moσ_87 := m_ofw hσ_87 (rfl : x_12.toInt = _) (by first | (clear hn gσ wσ hh if_1 z7σ_2 gσ_2 wσ_2 kdσ_2 hT if_3 c_4 if_5 gc_6_f_5 c_6 if_7 ahpσ_9 bhpσ_9 chpσ_9 dhpσ_9 scr_8 c_10 if_11 hm61 gσ_13 wσ_13 kdσ_13 gc_15_x_12 kc_88 gσ_87 wσ_87 kdσ_87; omega) | omega)
                have zlσ_87x := zlσ_13
                obtain ⟨z_89, ez_89⟩ : ∃ y : Int32, y = x_12 + 1 := ⟨_, rfl⟩
                replace hF := q_letX hF ez_89
                refine lv_iinc (v := z_89) (lv' := [(2, .int z_89), (0, .ref a), (1, .int f_11)]) hx hb dX12_turns_74 hl (k := 2) rfl (by rw [ez_89]; rfl) (by decide) rfl (fun ls hl => ?_)
                have iz_89 : z_89.toInt = x_12.toInt + 1 := q_inc ez_89 (by first | (clear hn gσ wσ hh if_1 z7σ_2 gσ_2 wσ_2 kdσ_2 hT if_3 c_4 if_5 gc_6_f_5 c_6 if_7 ahpσ_9 bhpσ_9 chpσ_9 dhpσ_9 scr_8 c_10 if_11 hm61 gσ_13 wσ_13 kdσ_13 gc_15_x_12 kc_88 gσ_87 wσ_87 kdσ_87; omega) | omega)
                refine lv_goto (tgt := 61) hx hb dX12_turns_77 (by decide) ?_
                exact ih61 z_89 σ_87 _ _ ls (by first | (clear hn gσ wσ hh if_1 z7σ_2 gσ_2 wσ_2 kdσ_2 hT if_3 c_4 if_5 gc_6_f_5 c_6 if_7 ahpσ_9 bhpσ_9 chpσ_9 dhpσ_9 scr_8 c_10 if_11 gσ_13 wσ_13 kdσ_13 gc_15_x_12 kc_88 gσ_87 wσ_87 kdσ_87; omega) | omega) (by first | (clear hn gσ wσ hh if_1 z7σ_2 gσ_2 wσ_2 kdσ_2 hT if_3 c_4 if_5 gc_6_f_5 c_6 if_7 ahpσ_9 bhpσ_9 chpσ_9 dhpσ_9 scr_8 c_10 if_11 hm61 gσ_13 wσ_13 kdσ_13 gc_15_x_12 kc_88 gσ_87 wσ_87 kdσ_87; omega) | omega) (fun k h0 h1 => by rw [moσ_87 k h0]; split; rfl; exact zlσ_87x k h0 (by first | (clear hn gσ wσ hh if_1 z7σ_2 gσ_2 wσ_2 kdσ_2 hT if_3 c_4 if_5 gc_6_f_5 c_6 if_7 ahpσ_9 bhpσ_9 chpσ_9 dhpσ_9 scr_8 c_10 if_11 hm61 hge61 gσ_13 wσ_13 kdσ_13 gc_15_x_12 c_15 kc_88 gσ_87 wσ_87 kdσ_87; omega) | omega)) fr_σ_87 gσ_87 wσ_87 kqσ_87 kdσ_87 ctσ_87 hF hI (lv_sub hl [1, 2, 0] rfl)
          have kc_90 : (0 : Int32).toInt = 0 := zt_0
          exact L_61_14 ((2147483647 - (0 : Int32).toInt).toNat + 1) 0 σ_2 _ _ ls (Nat.lt_succ_self _) (by decide) (fun k h0 h1 => by have q : (0 : Int32).toInt = 0 := rfl; omega) fr_σ_2 gσ_2 wσ_2 kqσ_2 kdσ_2 ctσ_2 hF hI (lv_sub hl [2, 1, 0] rfl)
        · skip
          replace hF := q_ifp hF c_10
          refine lv_iconst (v := 0) hx hb dX12_turns_49 zki_0 ?_
          have hrv : (0 : Int32).toInt = 0 := zt_0
          exact q_retz E hr hlk hI ⟨by decide, by decide⟩ ⟨⟨by decide, by decide⟩, gσ_2, (by first | exact vσ_2 | exact m_W.le wσ_2 (by first | (clear hn gσ wσ hh if_1 z7σ_2 gσ_2 wσ_2 kdσ_2 hT if_3 c_4 if_5 gc_6_f_5 c_6 if_7 ahpσ_9 bhpσ_9 chpσ_9 dhpσ_9 scr_8 c_10 hrv; omega) | omega)), kqσ_2, kdσ_2, (hF.trans hout), fr_σ_2⟩ dX12_turns_50
  have gc_91_f_1 := q_rng f_1
  refine q_icmp_ne (A := f_1.toInt) (B := 1) E rfl (by decide) (tgt := 15) dX12_turns_8 (by decide) (fun c_91 => ?_) (fun c_91 => ?_)
  · skip
    replace hF := q_ifn hF c_91
    exact J_15_2 σ _ _ ls (by first | exact e7σ | (have := gσ.hd; omega)) fr_σ gσ wσ kqσ kdσ hF hI (lv_sub hl [0] rfl)
  · skip
    replace hF := q_ifp hF c_91
    refine lv_aload_n hx hb dX12_turns_11 rfl (lv_at hl 0 rfl) ?_
    refine q_cv (q_rV11_0 (rest := []) E (hml.trans hl.1.symm) hI (c_X12_leaves l X σ a n ha gσ wσ (by first | (clear hn gσ wσ hh gc_91_f_1; omega) | omega)) kv_X12_322 ha ⟨Nat.le_of_ble_eq_true rfl, Nat.le_of_ble_eq_true rfl⟩ (Nat.le_of_ble_eq_true rfl) dX12_turns_12) hI (Nat.le_of_ble_eq_true rfl) (fun σ_93 H locs hpσ_93 hkσ_93 hI => ?_)
    have ahpσ_93 := hpσ_93.1
    have bhpσ_93 := hpσ_93.2.1
    have chpσ_93 := hpσ_93.2.2.1
    have dhpσ_93 := hpσ_93.2.2.2.1
    have ehpσ_93 := hpσ_93.2.2.2.2.1
    have fhpσ_93 := hpσ_93.2.2.2.2.2.1
    have ghpσ_93 := hpσ_93.2.2.2.2.2.2.1
    have hhpσ_93 := hpσ_93.2.2.2.2.2.2.2
    clear hpσ_93
    have fr_σ_93 := fr_σ.call hhpσ_93 rfl rfl
    replace hF := q_letX hF ghpσ_93
    have gσ_93 : m_G (m_c X σ_93 a) := ahpσ_93
    have wσ_93 : m_W (m_c X σ_93 a) n := bhpσ_93
    have kqσ_93 : ∀ j, 654 ≤ j → m_c X σ_93 a j = m_c X σ a j := (fun j h => (chpσ_93 j h).trans (kqσ j h))
    have kdσ_93 : m_KD 40 X σ σ_93 := kdσ.tr dhpσ_93
    have e7σ_93 := ehpσ_93
    exact J_15_2 σ_93 _ _ ls (by first | exact e7σ_93 | (have := gσ_93.hd; omega)) fr_σ_93 gσ_93 wσ_93 kqσ_93 kdσ_93 hF hI (lv_sub hl [0] rfl)

set_option maxRecDepth 100000 in
set_option maxHeartbeats 4000000 in
theorem c_X12_does (l : Launch) (X : XW) (σ : ST) (a : Nat) (v1 : Int32) (n : Int) (ha : q_kd X a = 12) (hG : m_G (m_c X σ a)) (hW : m_W (m_c X σ a) n) (hn : n ≤ 200000) (hw : 656 ≤ v1.toInt ∧ v1.toInt ≤ 917) (hk : 0 ≤ m_c X σ a v1.toInt ∧ m_c X σ a v1.toInt ≤ 2) (hp : m_c X σ a v1.toInt = 0 ∨ (0 ≤ m_c X σ a (v1.toInt + 1) ∧ m_c X σ a (v1.toInt + 1) ≤ 5)) : Met l yX12_does (q_ws yX12_does cX12_does 3 (some .boolean)) (q_rm 6 136) (q_P X σ [.ref a, .int v1]) (q_Qi X 1 σ (fun (r : Int32) (σ' : ST) => (0 ≤ r.toInt ∧ r.toInt ≤ 1) ∧ (m_G (m_c X σ' a)) ∧ (m_W (m_c X σ' a) (n + 1)) ∧ (∀ j, 654 ≤ j → m_c X σ' a j = m_c X σ a j) ∧ (m_KD 40 X σ σ') ∧ (r, σ') = F_X12_does X σ a v1 ∧ q_ow [(12, 39), (12, 42), (12, 43), (12, 44), (34, 99), (39, 99)] [] X σ σ')) 0 0 (q_reg X) := by
  refine q_met 1 (by first | exact rfl | decide +kernel) rfl (Nat.le_of_ble_eq_true rfl) (fun p e s m below meth c E hml hr hlk hI ls hl => ?_)
  have hx := E.1
  have hb := E.2.1
  have hl : lv_has ls 3 [(0, .ref a), (1, .int v1)] := hl
  have gσ : m_G (m_c X σ a) := hG
  have wσ : m_W (m_c X σ a) n := hW
  have kqσ : ∀ j, 654 ≤ j → m_c X σ a j = m_c X σ a j := fun _ _ => rfl
  have kdσ : m_KD 40 X σ σ := m_KD.rf
  have fr_σ : q_ow [(12, 39), (12, 42), (12, 43), (12, 44), (34, 99), (39, 99)] [] X σ σ := q_ow.rf
  have hh := hG.hd
  obtain ⟨out, hout⟩ : ∃ o, o = F_X12_does X σ a v1 := ⟨_, rfl⟩
  have hF := hout.symm
  unfold F_X12_does at hF
  refine lv_aload_n hx hb dX12_does_0 rfl (lv_at hl 0 rfl) ?_
  refine gs_X12_35_12 E hI ha dX12_does_1 ?_
  refine lv_iload_n hx hb dX12_does_4 rfl (lv_at hl 1 rfl) ?_
  refine q_iald E hI (q_tk (k' := 34) hI ha rfl (Nat.succ_ne_zero _)) ⟨by decide, rfl⟩ (by first | (clear hn hk hp gσ wσ kdσ hh; omega) | omega) (by rw [q_lnk (v := 4650) hI (q_tk (k' := 34) hI ha rfl (Nat.succ_ne_zero _)) rfl (by decide)]; omega) dX12_does_5 ?_
  refine lv_topi (fun f_1 ef_1 => ?_)
  replace hF := q_letX hF ef_1
  have if_1 : f_1.toInt = m_c X σ a v1.toInt := m_rd ef_1 rfl
  refine lv_istore_n (lv' := [(2, .int f_1), (0, .ref a), (1, .int v1)]) hx hb dX12_does_6 rfl hl (by decide) rfl (fun ls hl => ?_)
  refine lv_iload_n hx hb dX12_does_7 rfl (lv_at hl 0 rfl) ?_
  refine q_if_ne (A := f_1.toInt) E rfl (tgt := 16) dX12_does_8 (by decide) (fun c_2 => ?_) (fun c_2 => ?_)
  · skip
    replace hF := q_ifn hF c_2
    refine lv_aload_n hx hb dX12_does_16 rfl (lv_at hl 1 rfl) ?_
    refine gs_X12_35_12 E hI ha dX12_does_17 ?_
    refine lv_iload_n hx hb dX12_does_20 rfl (lv_at hl 0 rfl) ?_
    refine lv_iconst (v := 1) hx hb dX12_does_21 zki_1 ?_
    refine q_icmp_ne (A := f_1.toInt) (B := 1) E rfl (by decide) (tgt := 30) dX12_does_22 (by decide) (fun c_3 => ?_) (fun c_3 => ?_)
    · skip
      replace hF := q_ifn hF c_3
      refine lv_bipush (v := 16) hx hb dX12_does_30 zkb_16 ?_
      refine lv_aload_n hx hb dX12_does_32 rfl (lv_at hl 1 rfl) ?_
      refine gs_X12_35_12 E hI ha dX12_does_33 ?_
      refine lv_iload_n hx hb dX12_does_36 rfl (lv_at hl 2 rfl) ?_
      refine lv_iconst (v := 1) hx hb dX12_does_37 zki_1 ?_
      refine lv_iadd hx hb dX12_does_38 ?_
      refine lv_topi (fun z_4 ez_4 => ?_)
      replace hF := q_letX hF ez_4
      have iz_4 := q_addI (A := v1.toInt) (B := 1) ez_4 rfl (by decide) (by first | (clear hn hk hp gσ wσ kdσ hh if_1 c_2 c_3; omega) | omega) (by first | (clear hn hk hp gσ wσ kdσ hh if_1 c_2 c_3; omega) | omega)
      refine q_iald E hI (q_tk (k' := 34) hI ha rfl (Nat.succ_ne_zero _)) ⟨by decide, rfl⟩ (by first | (clear hn hk hp gσ wσ kdσ hh if_1 c_2 c_3; omega) | omega) (by rw [q_lnk (v := 4650) hI (q_tk (k' := 34) hI ha rfl (Nat.succ_ne_zero _)) rfl (by decide)]; omega) dX12_does_39 ?_
      refine lv_topi (fun f_5 ef_5 => ?_)
      replace hF := q_letX hF ef_5
      have if_5 : f_5.toInt = m_c X σ a (v1.toInt + 1) := m_rd ef_5 iz_4
      refine lv_iadd hx hb dX12_does_40 ?_
      refine lv_topi (fun z_6 ez_6 => ?_)
      replace hF := q_letX hF ez_6
      have iz_6 := q_addI (A := 16) (B := (m_c X σ a (v1.toInt + 1))) ez_6 (by decide) if_5 (by first | (clear hn hw gσ wσ kdσ hh iz_4 if_5; omega) | omega) (by first | (clear hn hw gσ wσ kdσ hh iz_4 if_5; omega) | omega)
      refine lv_aload_n hx hb dX12_does_41 rfl (lv_at hl 1 rfl) ?_
      refine gs_X12_35_12 E hI ha dX12_does_42 ?_
      refine lv_iload_n hx hb dX12_does_45 rfl (lv_at hl 2 rfl) ?_
      refine lv_iconst (v := 2) hx hb dX12_does_46 zki_2 ?_
      refine lv_iadd hx hb dX12_does_47 ?_
      refine lv_topi (fun z_7 ez_7 => ?_)
      replace hF := q_letX hF ez_7
      have iz_7 := q_addI (A := v1.toInt) (B := 2) ez_7 rfl (by decide) (by first | (clear hn hk hp gσ wσ kdσ hh if_1 c_2 c_3 if_5 iz_6; omega) | omega) (by first | (clear hn hk hp gσ wσ kdσ hh if_1 c_2 c_3 if_5 iz_6; omega) | omega)
      refine q_iald E hI (q_tk (k' := 34) hI ha rfl (Nat.succ_ne_zero _)) ⟨by decide, rfl⟩ (by first | (clear hn hk hp gσ wσ kdσ hh if_1 c_2 c_3 if_5 iz_6; omega) | omega) (by rw [q_lnk (v := 4650) hI (q_tk (k' := 34) hI ha rfl (Nat.succ_ne_zero _)) rfl (by decide)]; omega) dX12_does_48 ?_
      refine lv_topi (fun f_8 ef_8 => ?_)
      replace hF := q_letX hF ef_8
      have if_8 : f_8.toInt = m_c X σ a (v1.toInt + 2) := m_rd ef_8 iz_7
      refine q_iastN E hI (q_tk (k' := 34) hI ha rfl (Nat.succ_ne_zero _)) ⟨by decide, rfl⟩ (by first | (clear hn hw gσ wσ kdσ hh iz_4 if_5 iz_7 if_8; omega) | omega) (by rw [q_lnk (v := 4650) hI (q_tk (k' := 34) hI ha rfl (Nat.succ_ne_zero _)) rfl (by decide)]; omega) (show 1 < 2 by decide) (q_inU rfl) dX12_does_49 (fun H locs σ_9 hσ_9 hI => ?_)
      replace hF := q_letX hF hσ_9
      have fr_σ_9 := fr_σ.si hσ_9 (q_tk (k' := 34) hI ha rfl (Nat.succ_ne_zero _)) rfl
      have mcσ_9 := m_wr (v := f_8) (A := (16 + (m_c X σ a (v1.toInt + 1)))) hσ_9 iz_6 (by first | (clear hn hw gσ wσ kdσ hh iz_4 if_5 iz_7 if_8; omega) | omega)
      have gσ_9 : m_G (m_c X σ_9 a) := m_G.wr gσ mcσ_9 (by first | (clear hn hw gσ wσ kdσ iz_4 if_5 iz_7; omega) | omega)
      have wσ_9 : m_W (m_c X σ_9 a) n := m_W.wr wσ mcσ_9 (by first | (clear hn hw gσ wσ kdσ hh iz_4 if_5 iz_7 if_8 gσ_9; omega) | omega)
      have kqσ_9 : ∀ j, 654 ≤ j → m_c X σ_9 a j = m_c X σ a j := fun j h => by rw [mcσ_9 j (by first | (clear hn hw hk hp gσ wσ kdσ hh if_1 c_2 c_3 iz_4 if_5 iz_6 iz_7 if_8 gσ_9 wσ_9; omega) | omega), if_neg (by first | (clear hn hw gσ wσ kdσ hh iz_4 if_5 iz_7 if_8 gσ_9 wσ_9; omega) | omega)] <;> exact kqσ j h
      have kdσ_9 : m_KD 40 X σ σ_9 := kdσ.ar hσ_9 (q_tk (k' := 34) hI ha rfl (Nat.succ_ne_zero _)) (by decide) (by decide)
      refine lv_iconst (v := 1) hx hb dX12_does_50 zki_1 ?_
      have hrv : (1 : Int32).toInt = 1 := zt_1
      exact q_retz E hr hlk hI ⟨by decide, by decide⟩ ⟨⟨by decide, by decide⟩, gσ_9, (by first | exact vσ_9 | exact m_W.le wσ_9 (by first | (clear hn hw hk hp gσ wσ kdσ hh if_1 c_2 c_3 iz_4 if_5 iz_6 iz_7 if_8 gσ_9 wσ_9 kdσ_9 hrv; omega) | omega)), kqσ_9, kdσ_9, (hF.trans hout), fr_σ_9⟩ dX12_does_51
    · skip
      replace hF := q_ifp hF c_3
      refine lv_bipush (v := 10) hx hb dX12_does_25 zkb_10 ?_
      refine lv_goto (tgt := 32) hx hb dX12_does_27 (by decide) ?_
      refine lv_aload_n hx hb dX12_does_32 rfl (lv_at hl 1 rfl) ?_
      refine gs_X12_35_12 E hI ha dX12_does_33 ?_
      refine lv_iload_n hx hb dX12_does_36 rfl (lv_at hl 2 rfl) ?_
      refine lv_iconst (v := 1) hx hb dX12_does_37 zki_1 ?_
      refine lv_iadd hx hb dX12_does_38 ?_
      refine lv_topi (fun z_10 ez_10 => ?_)
      replace hF := q_letX hF ez_10
      have iz_10 := q_addI (A := v1.toInt) (B := 1) ez_10 rfl (by decide) (by first | (clear hn hk hp gσ wσ kdσ hh if_1 c_2 c_3; omega) | omega) (by first | (clear hn hk hp gσ wσ kdσ hh if_1 c_2 c_3; omega) | omega)
      refine q_iald E hI (q_tk (k' := 34) hI ha rfl (Nat.succ_ne_zero _)) ⟨by decide, rfl⟩ (by first | (clear hn hk hp gσ wσ kdσ hh if_1 c_2 c_3; omega) | omega) (by rw [q_lnk (v := 4650) hI (q_tk (k' := 34) hI ha rfl (Nat.succ_ne_zero _)) rfl (by decide)]; omega) dX12_does_39 ?_
      refine lv_topi (fun f_11 ef_11 => ?_)
      replace hF := q_letX hF ef_11
      have if_11 : f_11.toInt = m_c X σ a (v1.toInt + 1) := m_rd ef_11 iz_10
      refine lv_iadd hx hb dX12_does_40 ?_
      refine lv_topi (fun z_12 ez_12 => ?_)
      replace hF := q_letX hF ez_12
      have iz_12 := q_addI (A := 10) (B := (m_c X σ a (v1.toInt + 1))) ez_12 (by decide) if_11 (by first | (clear hn hw hk gσ wσ kdσ hh iz_10 if_11; omega) | omega) (by first | (clear hn hw hk gσ wσ kdσ hh iz_10 if_11; omega) | omega)
      refine lv_aload_n hx hb dX12_does_41 rfl (lv_at hl 1 rfl) ?_
      refine gs_X12_35_12 E hI ha dX12_does_42 ?_
      refine lv_iload_n hx hb dX12_does_45 rfl (lv_at hl 2 rfl) ?_
      refine lv_iconst (v := 2) hx hb dX12_does_46 zki_2 ?_
      refine lv_iadd hx hb dX12_does_47 ?_
      refine lv_topi (fun z_13 ez_13 => ?_)
      replace hF := q_letX hF ez_13
      have iz_13 := q_addI (A := v1.toInt) (B := 2) ez_13 rfl (by decide) (by first | (clear hn hk hp gσ wσ kdσ hh if_1 c_2 c_3 if_11 iz_12; omega) | omega) (by first | (clear hn hk hp gσ wσ kdσ hh if_1 c_2 c_3 if_11 iz_12; omega) | omega)
      refine q_iald E hI (q_tk (k' := 34) hI ha rfl (Nat.succ_ne_zero _)) ⟨by decide, rfl⟩ (by first | (clear hn hk hp gσ wσ kdσ hh if_1 c_2 c_3 if_11 iz_12; omega) | omega) (by rw [q_lnk (v := 4650) hI (q_tk (k' := 34) hI ha rfl (Nat.succ_ne_zero _)) rfl (by decide)]; omega) dX12_does_48 ?_
      refine lv_topi (fun f_14 ef_14 => ?_)
      replace hF := q_letX hF ef_14
      have if_14 : f_14.toInt = m_c X σ a (v1.toInt + 2) := m_rd ef_14 iz_13
      refine q_iastN E hI (q_tk (k' := 34) hI ha rfl (Nat.succ_ne_zero _)) ⟨by decide, rfl⟩ (by first | (clear hn hw hk gσ wσ kdσ hh iz_10 if_11 iz_13 if_14; omega) | omega) (by rw [q_lnk (v := 4650) hI (q_tk (k' := 34) hI ha rfl (Nat.succ_ne_zero _)) rfl (by decide)]; omega) (show 1 < 2 by decide) (q_inU rfl) dX12_does_49 (fun H locs σ_15 hσ_15 hI => ?_)
      replace hF := q_letX hF hσ_15
      have fr_σ_15 := fr_σ.si hσ_15 (q_tk (k' := 34) hI ha rfl (Nat.succ_ne_zero _)) rfl
      have mcσ_15 := m_wr (v := f_14) (A := (10 + (m_c X σ a (v1.toInt + 1)))) hσ_15 iz_12 (by first | (clear hn hw hk gσ wσ kdσ hh iz_10 if_11 iz_13 if_14; omega) | omega)
      have gσ_15 : m_G (m_c X σ_15 a) := m_G.wr gσ mcσ_15 (by first | (clear hn hw hk gσ wσ kdσ iz_10 if_11 iz_13; omega) | omega)
      have wσ_15 : m_W (m_c X σ_15 a) n := m_W.wr wσ mcσ_15 (by first | (clear hn hw hk gσ wσ kdσ hh iz_10 if_11 iz_13 if_14 gσ_15; omega) | omega)
      have kqσ_15 : ∀ j, 654 ≤ j → m_c X σ_15 a j = m_c X σ a j := fun j h => by rw [mcσ_15 j (by first | (clear hn hw hk hp gσ wσ kdσ hh if_1 c_2 c_3 iz_10 if_11 iz_12 iz_13 if_14 gσ_15 wσ_15; omega) | omega), if_neg (by first | (clear hn hw hk gσ wσ kdσ hh iz_10 if_11 iz_13 if_14 gσ_15 wσ_15; omega) | omega)] <;> exact kqσ j h
      have kdσ_15 : m_KD 40 X σ σ_15 := kdσ.ar hσ_15 (q_tk (k' := 34) hI ha rfl (Nat.succ_ne_zero _)) (by decide) (by decide)
      refine lv_iconst (v := 1) hx hb dX12_does_50 zki_1 ?_
      have hrv : (1 : Int32).toInt = 1 := zt_1
      exact q_retz E hr hlk hI ⟨by decide, by decide⟩ ⟨⟨by decide, by decide⟩, gσ_15, (by first | exact vσ_15 | exact m_W.le wσ_15 (by first | (clear hn hw hk hp gσ wσ kdσ hh if_1 c_2 c_3 iz_10 if_11 iz_12 iz_13 if_14 gσ_15 wσ_15 kdσ_15 hrv; omega) | omega)), kqσ_15, kdσ_15, (hF.trans hout), fr_σ_15⟩ dX12_does_51
  · skip
    replace hF := q_ifp hF c_2
    refine lv_aload_n hx hb dX12_does_11 rfl (lv_at hl 1 rfl) ?_
    refine q_ci (q_rV11_0 (rest := []) E (hml.trans hl.1.symm) hI (c_X12_turns l X σ a n ha gσ wσ (by omega)) kv_X12_414 ha ⟨Nat.le_of_ble_eq_true rfl, Nat.le_of_ble_eq_true rfl⟩ (Nat.le_of_ble_eq_true rfl) dX12_does_12) hI (Nat.le_of_ble_eq_true rfl) (fun r_16 σ_17 H locs hpσ_17 hkσ_17 hI => ?_)
    have ahpσ_17 := hpσ_17.1
    have bhpσ_17 := hpσ_17.2.1
    have chpσ_17 := hpσ_17.2.2.1
    have dhpσ_17 := hpσ_17.2.2.2.1
    have ehpσ_17 := hpσ_17.2.2.2.2.1
    have fhpσ_17 := hpσ_17.2.2.2.2.2.1
    have ghpσ_17 := hpσ_17.2.2.2.2.2.2
    clear hpσ_17
    have fr_σ_17 := fr_σ.call ghpσ_17 rfl rfl
    replace hF := q_biX hF fhpσ_17
    have gσ_17 : m_G (m_c X σ_17 a) := bhpσ_17
    have vσ_17 : m_W (m_c X σ_17 a) (n + 1) := chpσ_17
    have kqσ_17 : ∀ j, 654 ≤ j → m_c X σ_17 a j = m_c X σ a j := (fun j h => (dhpσ_17 j h).trans (kqσ j h))
    have kdσ_17 : m_KD 40 X σ σ_17 := kdσ.tr ehpσ_17
    exact q_retz E hr hlk hI ⟨by omega, by omega⟩ ⟨⟨by omega, by omega⟩, gσ_17, (by first | exact vσ_17 | exact m_W.le wσ_17 (by omega)), kqσ_17, kdσ_17, (hF.trans hout), fr_σ_17⟩ dX12_does_15
end
/-! FROM 46.plays.a.lean.txt -/
section
section QS
variable {p : Program} {l : Launch} {e : Env} {R : Room} {s : State} {m : MethodId} {args : Array Value} {below : List Frame} {meth : Method} {c : Code} {H : Heap} {locs : List Loc} {cells slots : Nat} {Q : State → Prop} {cc : ByteArray} {X : XW} {n : Nat} {σ0 σ : ST} {H0 : Heap} {pc : Nat} {ls : Array Slot} {rest : List Value} {a : Nat}
theorem gs_X12_417_12 (E : q_E p c cc s m args RX12 X) (hI : q_I X n σ0 H0 locs σ H) (ha : q_kd X a = 12) (hdg : decode cc pc = .ok (.getfield 417, 3)) (kk : W p l e R s m args below meth c H locs cells slots Q (F0 m (pc + 3) ls (.int (σ.1 a 40) :: rest))) : W p l e R s m args below meth c H locs cells slots Q (F0 m pc ls (.ref a :: rest)) :=
  q_getf (ref := "CheatHeapModel") E hI ha ⟨rfl, by decide⟩ (show vwCl[11]? = some (RX12, TX12, 46) from rfl) q_inX12 (f := 40) (by decide) (q_in_t7 (i := 25) (by first | rfl | decide +kernel) rfl) (Or.inl rfl) rfl hdg kk
theorem ps_X12_417_12 (E : q_E p c cc s m args RX12 X) (hI : q_I X n σ0 H0 locs σ H) (ha : q_kd X a = 12) {v : Int32} (hcl : n < 9) (hdg : decode cc pc = .ok (.putfield 417, 3)) (kk : ∀ (H1 : Heap) (locs1 : List Loc) (σ1 : ST), σ1 = q_si σ a 40 v → q_I X n σ0 H0 locs1 σ1 H1 → W p l e R s m args below meth c H1 locs1 cells slots Q (F0 m (pc + 3) ls rest)) : W p l e R s m args below meth c H locs cells slots Q (F0 m pc ls (.int v :: .ref a :: rest)) :=
  q_puti (ref := "CheatHeapModel") E hI ha ⟨rfl, by decide⟩ (show vwCl[11]? = some (RX12, TX12, 46) from rfl) q_inX12 tyX12_ok nmX12 (f := 40) (by decide) (q_in_t7 (i := 25) (by first | rfl | decide +kernel) rfl) (Or.inl rfl) rfl rfl hcl hdg (q_inU rfl) (Or.inl rfl) (fun H1 l1 h => kk H1 l1 _ rfl h)
theorem ps_X12_420_12 (E : q_E p c cc s m args RX12 X) (hI : q_I X n σ0 H0 locs σ H) (ha : q_kd X a = 12) {v : Int32} (hcl : n < 9) (h1 : 0 ≤ v.toInt) (h2 : v.toInt ≤ 1) (hdg : decode cc pc = .ok (.putfield 420, 3)) (kk : ∀ (H1 : Heap) (locs1 : List Loc) (σ1 : ST), σ1 = q_si σ a 38 v → q_I X n σ0 H0 locs1 σ1 H1 → W p l e R s m args below meth c H1 locs1 cells slots Q (F0 m (pc + 3) ls rest)) : W p l e R s m args below meth c H locs cells slots Q (F0 m pc ls (.int v :: .ref a :: rest)) :=
  q_puti (ref := "CheatHeapModel") E hI ha ⟨rfl, by decide⟩ (show vwCl[11]? = some (RX12, TX12, 46) from rfl) q_inX12 tyX12_ok nmX12 (f := 38) (by decide) (q_in_t7 (i := 23) (by first | rfl | decide +kernel) rfl) (Or.inl rfl) rfl rfl hcl hdg (q_inB rfl h1 h2) (Or.inr ⟨rfl, h1, h2⟩) (fun H1 l1 h => kk H1 l1 _ rfl h)
theorem gs_X12_420_12 (E : q_E p c cc s m args RX12 X) (hI : q_I X n σ0 H0 locs σ H) (ha : q_kd X a = 12) (hdg : decode cc pc = .ok (.getfield 420, 3)) (kk : W p l e R s m args below meth c H locs cells slots Q (F0 m (pc + 3) ls (.int (σ.1 a 38) :: rest))) : W p l e R s m args below meth c H locs cells slots Q (F0 m pc ls (.ref a :: rest)) :=
  q_getf (ref := "CheatHeapModel") E hI ha ⟨rfl, by decide⟩ (show vwCl[11]? = some (RX12, TX12, 46) from rfl) q_inX12 (f := 38) (by decide) (q_in_t7 (i := 23) (by first | rfl | decide +kernel) rfl) (Or.inl rfl) rfl hdg kk
theorem kv_X12_435 : q_okV RX12 435 RX12 yX12_doAll cX12_doAll 4 none 2 := ⟨(q_in_t9 (i := 150) (by first | rfl | decide +kernel) rfl), (q_in_t9 (i := 152) (by first | rfl | decide +kernel) rfl), (q_in_p (i := 106) (by decide +kernel) rfl), (q_in_t1 (i := 14) (by first | rfl | decide +kernel) rfl), (q_in_t9 (i := 153) (by first | rfl | decide +kernel) rfl), ⟨rfl, by decide, by decide, rfl⟩⟩
theorem kv_X12_432 : q_okV RX12 432 RX12 yX12_isSo cX12_isSo 4 (some .boolean) 1 := ⟨(q_in_t9 (i := 175) (by first | rfl | decide +kernel) rfl), (q_in_t9 (i := 177) (by first | rfl | decide +kernel) rfl), (q_in_p (i := 112) (by decide +kernel) rfl), (q_in_t1 (i := 14) (by first | rfl | decide +kernel) rfl), (q_in_t9 (i := 178) (by first | rfl | decide +kernel) rfl), ⟨rfl, by decide, by decide, rfl⟩⟩
theorem gs_X12_426_12 (E : q_E p c cc s m args RX12 X) (hI : q_I X n σ0 H0 locs σ H) (ha : q_kd X a = 12) (hdg : decode cc pc = .ok (.getfield 426, 3)) (kk : W p l e R s m args below meth c H locs cells slots Q (F0 m (pc + 3) ls (.int (σ.1 a 41) :: rest))) : W p l e R s m args below meth c H locs cells slots Q (F0 m pc ls (.ref a :: rest)) :=
  q_getf (ref := "CheatHeapModel") E hI ha ⟨rfl, by decide⟩ (show vwCl[11]? = some (RX12, TX12, 46) from rfl) q_inX12 (f := 41) (by decide) (q_in_t7 (i := 26) (by first | rfl | decide +kernel) rfl) (Or.inl rfl) rfl hdg kk
theorem kv_X12_429 : q_okV RX12 429 RX12 yX12_does cX12_does 3 (some .boolean) 1 := ⟨(q_in_t9 (i := 158) (by first | rfl | decide +kernel) rfl), (q_in_t9 (i := 160) (by first | rfl | decide +kernel) rfl), (q_in_p (i := 108) (by decide +kernel) rfl), (q_in_t1 (i := 14) (by first | rfl | decide +kernel) rfl), (q_in_t9 (i := 161) (by first | rfl | decide +kernel) rfl), ⟨rfl, by decide, by decide, rfl⟩⟩
theorem ps_X12_426_12 (E : q_E p c cc s m args RX12 X) (hI : q_I X n σ0 H0 locs σ H) (ha : q_kd X a = 12) {v : Int32} (hcl : n < 9) (hdg : decode cc pc = .ok (.putfield 426, 3)) (kk : ∀ (H1 : Heap) (locs1 : List Loc) (σ1 : ST), σ1 = q_si σ a 41 v → q_I X n σ0 H0 locs1 σ1 H1 → W p l e R s m args below meth c H1 locs1 cells slots Q (F0 m (pc + 3) ls rest)) : W p l e R s m args below meth c H locs cells slots Q (F0 m pc ls (.int v :: .ref a :: rest)) :=
  q_puti (ref := "CheatHeapModel") E hI ha ⟨rfl, by decide⟩ (show vwCl[11]? = some (RX12, TX12, 46) from rfl) q_inX12 tyX12_ok nmX12 (f := 41) (by decide) (q_in_t7 (i := 26) (by first | rfl | decide +kernel) rfl) (Or.inl rfl) rfl rfl hcl hdg (q_inU rfl) (Or.inl rfl) (fun H1 l1 h => kk H1 l1 _ rfl h)
theorem ps_X12_423_12 (E : q_E p c cc s m args RX12 X) (hI : q_I X n σ0 H0 locs σ H) (ha : q_kd X a = 12) {v : Int32} (hcl : n < 9) (hdg : decode cc pc = .ok (.putfield 423, 3)) (kk : ∀ (H1 : Heap) (locs1 : List Loc) (σ1 : ST), σ1 = q_si σ a 45 v → q_I X n σ0 H0 locs1 σ1 H1 → W p l e R s m args below meth c H1 locs1 cells slots Q (F0 m (pc + 3) ls rest)) : W p l e R s m args below meth c H locs cells slots Q (F0 m pc ls (.int v :: .ref a :: rest)) :=
  q_puti (ref := "CheatHeapModel") E hI ha ⟨rfl, by decide⟩ (show vwCl[11]? = some (RX12, TX12, 46) from rfl) q_inX12 tyX12_ok nmX12 (f := 45) (by decide) (q_in_t7 (i := 30) (by first | rfl | decide +kernel) rfl) (Or.inl rfl) rfl rfl hcl hdg (q_inU rfl) (Or.inl rfl) (fun H1 l1 h => kk H1 l1 _ rfl h)
theorem kv_X12_438 : q_okV RX12 438 RX12 yX12_doOne cX12_doOne 5 none 1 := ⟨(q_in_t9 (i := 154) (by first | rfl | decide +kernel) rfl), (q_in_t9 (i := 156) (by first | rfl | decide +kernel) rfl), (q_in_p (i := 107) (by decide +kernel) rfl), (q_in_t1 (i := 14) (by first | rfl | decide +kernel) rfl), (q_in_t9 (i := 157) (by first | rfl | decide +kernel) rfl), ⟨rfl, by decide, by decide, rfl⟩⟩
end QS
end
/-! FROM 46.plays.b00.lean.txt -/
section
set_option maxRecDepth 100000 in
set_option maxHeartbeats 4000000 in
theorem c_X12_doAll_z (l : Launch) (X : XW) (σ : ST) (a : Nat) (v1 : Int32) (v2 : Int32) (n : Int) (ha : q_kd X a = 12) (hG : m_G (m_c X σ a)) (hW : m_W (m_c X σ a) (n + (σ.1 a 40).toInt)) (hn : 0 ≤ n ∧ n ≤ 199500) (hd : 0 ≤ (σ.1 a 40).toInt ∧ (σ.1 a 40).toInt ≤ 300) (hf : 30 ≤ v1.toInt ∧ 0 ≤ v1.toInt) (ht : v2.toInt ≤ m_c X σ a 655) : Met l yX12_doAll (q_ws yX12_doAll cX12_doAll 4 none) (q_rm 7 158) (q_P X σ [.ref a, .int v1, .int v2]) (q_Qv X 1 σ (fun (σ' : ST) => (m_G (m_c X σ' a)) ∧ (m_W (m_c X σ' a) (n + (σ'.1 a 40).toInt)) ∧ (∀ j, 654 ≤ j → m_c X σ' a j = m_c X σ a j) ∧ ((σ.1 a 40).toInt ≤ (σ'.1 a 40).toInt ∧ (σ'.1 a 40).toInt ≤ 300) ∧ (∀ b g, q_kd X b = 35 → σ'.1 b g = σ.1 b g) ∧ σ' = F_X12_doAll_z X σ a v1 v2 ∧ q_ow [(12, 38), (12, 39), (12, 40), (12, 41), (12, 42), (12, 43), (12, 44), (12, 45), (34, 99), (39, 99)] [] X σ σ')) 0 0 (q_reg X) := by
  refine q_met 1 (by first | exact rfl | decide +kernel) rfl (Nat.le_of_ble_eq_true rfl) (fun p e s m below meth c E hml hr hlk hI ls hl => ?_)
  have hx := E.1
  have hb := E.2.1
  have hl : lv_has ls 4 [(0, .ref a), (1, .int v1), (2, .int v2)] := hl
  have gσ : m_G (m_c X σ a) := hG
  have wσ : m_W (m_c X σ a) (n + (σ.1 a 40).toInt) := hW
  have kqσ : ∀ j, 654 ≤ j → m_c X σ a j = m_c X σ a j := fun _ _ => rfl
  have dnσ : (σ.1 a 40).toInt ≤ (σ.1 a 40).toInt ∧ (σ.1 a 40).toInt ≤ 300 := (by first | (clear hn hf ht gσ wσ; omega) | omega)
  have k5σ : ∀ b g, q_kd X b = 35 → σ.1 b g = σ.1 b g := fun _ _ _ => rfl
  have fr_σ : q_ow [(12, 38), (12, 39), (12, 40), (12, 41), (12, 42), (12, 43), (12, 44), (12, 45), (34, 99), (39, 99)] [] X σ σ := q_ow.rf
  have hh := hG.hd
  have hQ := hG.2.2.2.2.2.1
  obtain ⟨out, hout⟩ : ∃ o, o = F_X12_doAll_z X σ a v1 v2 := ⟨_, rfl⟩
  have hF := hout.symm
  unfold F_X12_doAll_z at hF
  refine lv_iload_n hx hb dX12_doAll_0 rfl (lv_at hl 1 rfl) ?_
  refine lv_istore_n (lv' := [(3, .int v1), (0, .ref a), (1, .int v1), (2, .int v2)]) hx hb dX12_doAll_1 rfl hl (by decide) rfl (fun ls hl => ?_)
  have L_2_3 : ∀ (k_3 : Nat) (x_1 : Int32) (σ_2 : ST) (H : Heap) (locs : List Loc) (ls : Array Slot), (31 - x_1.toInt).toNat < k_3 → (30 ≤ x_1.toInt) → (q_ow [(12, 38), (12, 39), (12, 40), (12, 41), (12, 42), (12, 43), (12, 44), (12, 45), (34, 99), (39, 99)] [] X σ σ_2) → (m_G (m_c X σ_2 a)) → (m_W (m_c X σ_2 a) (n + (σ_2.1 a 40).toInt)) → (∀ j, 654 ≤ j → m_c X σ_2 a j = m_c X σ a j) → ((σ.1 a 40).toInt ≤ (σ_2.1 a 40).toInt ∧ (σ_2.1 a 40).toInt ≤ 300) → (∀ b g, q_kd X b = 35 → σ_2.1 b g = σ.1 b g) → (F_X12_doAll_z_L2_1 X v2 k_3 x_1 σ_2 = out) → q_I X 1 σ s.heap locs σ_2 H → lv_has ls 4 [(0, .ref a), (1, .int v1), (2, .int v2), (3, .int x_1)] → W p l e (q_rm 7 158) s m ([.ref a, .int v1, .int v2] : List Value).toArray below meth c H locs 0 0 (MQ below (q_Qv X 1 σ (fun (σ' : ST) => (m_G (m_c X σ' a)) ∧ (m_W (m_c X σ' a) (n + (σ'.1 a 40).toInt)) ∧ (∀ j, 654 ≤ j → m_c X σ' a j = m_c X σ a j) ∧ ((σ.1 a 40).toInt ≤ (σ'.1 a 40).toInt ∧ (σ'.1 a 40).toInt ≤ 300) ∧ (∀ b g, q_kd X b = 35 → σ'.1 b g = σ.1 b g) ∧ σ' = F_X12_doAll_z X σ a v1 v2 ∧ q_ow [(12, 38), (12, 39), (12, 40), (12, 41), (12, 42), (12, 43), (12, 44), (12, 45), (34, 99), (39, 99)] [] X σ σ')) ([.ref a, .int v1, .int v2] : List Value).toArray s 0 0 (q_reg X)) (F0 m 2 ls []) := by
    clear hF
    intro k_3
    induction k_3 with
    | zero =>
      intro x_1 σ_2 H locs ls hms
      try clear kqσ; try clear dnσ; try clear fr_σ
      exact absurd hms (Nat.not_lt_zero _)
    | succ k_3 ih2 =>
      intro x_1 σ_2 H locs ls hm2 hge2 fr_σ_2 gσ_2 wσ_2 kqσ_2 dnσ_2 k5σ_2 hF hI hl
      replace hF := (F_X12_doAll_z_L2_1_s).symm.trans hF
      unfold F_X12_doAll_z_B2_1 at hF
      have q5 := kqσ_2 655 (by decide)
      refine lv_iload_n hx hb dX12_doAll_2 rfl (lv_at hl 3 rfl) ?_
      refine lv_iload_n hx hb dX12_doAll_3 rfl (lv_at hl 2 rfl) ?_
      have gc_4_x_1 := q_rng x_1
      have gc_4_v2 := q_rng v2
      refine q_icmp_ge (A := x_1.toInt) (B := v2.toInt) E rfl rfl (tgt := 39) dX12_doAll_4 (by decide) (fun c_4 => ?_) (fun c_4 => ?_)
      · skip
        replace hF := q_ifn hF (Int.not_lt.mpr c_4)
        skip
        exact q_retv E hr hlk hI ⟨gσ_2, (by first | exact wσ_2 | exact m_W.le w0σ_2 (by omega)), kqσ_2, dnσ_2, k5σ_2, (hF.trans hout), fr_σ_2⟩ dX12_doAll_39
      · skip
        replace hF := q_ifp hF c_4
        exact absurd c_4 (by first | (clear hn hd hf gσ wσ k5σ hh hm2 gσ_2 wσ_2 dnσ_2 k5σ_2 gc_4_v2; omega) | omega)
  exact L_2_3 ((31 - v1.toInt).toNat + 1) v1 σ _ _ ls (Nat.lt_succ_self _) (by first | (clear hn hd ht gσ wσ k5σ hh hQ; omega) | omega) fr_σ gσ wσ kqσ dnσ k5σ hF hI (lv_sub hl [1, 2, 3, 0] rfl)

set_option maxRecDepth 100000 in
set_option maxHeartbeats 4000000 in
theorem c_X12_doOne_s (l : Launch) (X : XW) (σ : ST) (a : Nat) (v1 : Int32) (n : Int) (d : Nat) (FA : ST → Int32 → Int32 → ST) (hA : ∀ (σ : ST) (v1 v2 : Int32) (hG : m_G (m_c X σ a)) (hW : m_W (m_c X σ a) (n + (σ.1 a 40).toInt)) (hn : 0 ≤ n ∧ n ≤ 199500) (hd : 0 ≤ (σ.1 a 40).toInt ∧ (σ.1 a 40).toInt ≤ 300) (hf : 30 - (d : Int) ≤ v1.toInt ∧ 0 ≤ v1.toInt) (ht : v2.toInt ≤ m_c X σ a 655), Met l yX12_doAll (q_ws yX12_doAll cX12_doAll 4 none) (q_rm (7 + 2 * d) (158 + 47 * d)) (q_P X σ [.ref a, .int v1, .int v2]) (q_Qv X 1 σ (fun (σ' : ST) => (m_G (m_c X σ' a)) ∧ (m_W (m_c X σ' a) (n + (σ'.1 a 40).toInt)) ∧ (∀ j, 654 ≤ j → m_c X σ' a j = m_c X σ a j) ∧ ((σ.1 a 40).toInt ≤ (σ'.1 a 40).toInt ∧ (σ'.1 a 40).toInt ≤ 300) ∧ (∀ b g, q_kd X b = 35 → σ'.1 b g = σ.1 b g) ∧ σ' = FA σ v1 v2 ∧ q_ow [(12, 38), (12, 39), (12, 40), (12, 41), (12, 42), (12, 43), (12, 44), (12, 45), (34, 99), (39, 99)] [] X σ σ')) 0 0 (q_reg X)) (ha : q_kd X a = 12) (hG : m_G (m_c X σ a)) (hW : m_W (m_c X σ a) (n + (σ.1 a 40).toInt)) (hn : 0 ≤ n ∧ n ≤ 199500) (hd : 0 ≤ (σ.1 a 40).toInt ∧ (σ.1 a 40).toInt ≤ 300) (hs : 29 - (d : Int) ≤ v1.toInt ∧ 0 ≤ v1.toInt ∧ v1.toInt < m_c X σ a 655) : Met l yX12_doOne (q_ws yX12_doOne cX12_doOne 5 none) (q_rm (8 + 2 * d) (181 + 47 * d)) (q_P X σ [.ref a, .int v1]) (q_Qv X 1 σ (fun (σ' : ST) => (m_G (m_c X σ' a)) ∧ (m_W (m_c X σ' a) (n + (σ'.1 a 40).toInt)) ∧ (∀ j, 654 ≤ j → m_c X σ' a j = m_c X σ a j) ∧ ((σ.1 a 40).toInt ≤ (σ'.1 a 40).toInt ∧ (σ'.1 a 40).toInt ≤ 300) ∧ (∀ b g, q_kd X b = 35 → σ'.1 b g = σ.1 b g) ∧ σ' = F_X12_doOne_s X σ a v1 FA ∧ q_ow [(12, 38), (12, 39), (12, 40), (12, 41), (12, 42), (12, 43), (12, 44), (12, 45), (34, 99), (39, 99)] [] X σ σ')) 0 0 (q_reg X) := by
  refine q_met 1 (by first | exact rfl | decide +kernel) rfl (Nat.le_of_ble_eq_true rfl) (fun p e s m below meth c E hml hr hlk hI ls hl => ?_)
  have hx := E.1
  have hb := E.2.1
  have hl : lv_has ls 5 [(0, .ref a), (1, .int v1)] := hl
  have gσ : m_G (m_c X σ a) := hG
  have w0σ : m_W (m_c X σ a) (n + (σ.1 a 40).toInt) := hW
  have kqσ : ∀ j, 654 ≤ j → m_c X σ a j = m_c X σ a j := fun _ _ => rfl
  have dnσ : (σ.1 a 40).toInt ≤ (σ.1 a 40).toInt ∧ (σ.1 a 40).toInt ≤ 300 := (by first | (clear hf ht hn hs gσ w0σ; omega) | omega)
  have k5σ : ∀ b g, q_kd X b = 35 → σ.1 b g = σ.1 b g := fun _ _ _ => rfl
  have fxσ : m_c X σ a = m_c X σ a := rfl
  have fr_σ : q_ow [(12, 38), (12, 39), (12, 40), (12, 41), (12, 42), (12, 43), (12, 44), (12, 45), (34, 99), (39, 99)] [] X σ σ := q_ow.rf
  have hh := hG.hd
  have hQ := hG.2.2.2.2.2.1
  have st := hG.2.2.2.2.2.2 v1.toInt (by first | (clear hf ht hn hd gσ w0σ dnσ k5σ hh hQ; omega) | omega) (by first | (clear hf ht hn hd gσ w0σ dnσ k5σ hh hQ; omega) | omega)
  obtain ⟨s1, s2, s3, s4⟩ := st
  obtain ⟨out, hout⟩ : ∃ o, o = F_X12_doOne_s X σ a v1 FA := ⟨_, rfl⟩
  have hF := hout.symm
  unfold F_X12_doOne_s at hF
  refine lv_aload_n hx hb dX12_doOne_0 rfl (lv_at hl 0 rfl) ?_
  refine gs_X12_417_12 E hI ha dX12_doOne_1 ?_
  refine lv_topi (fun f_1 ef_1 => ?_)
  replace hF := q_letX hF ef_1
  have if_1 : f_1.toInt = (σ.1 a 40).toInt := congrArg Int32.toInt ef_1
  refine lv_sipush (v := 300) hx hb dX12_doOne_4 zks_300 ?_
  have gc_2_f_1 := q_rng f_1
  refine q_icmp_ne (A := f_1.toInt) (B := 300) E rfl (by decide) (tgt := 21) dX12_doOne_7 (by decide) (fun c_2 => ?_) (fun c_2 => ?_)
  · skip
    replace hF := q_ifn hF c_2
    refine lv_aload_n hx hb dX12_doOne_21 rfl (lv_at hl 0 rfl) ?_
    refine lv_dup hx hb dX12_doOne_22 rfl ?_
    refine gs_X12_417_12 E hI ha dX12_doOne_23 ?_
    refine lv_topi (fun f_3 ef_3 => ?_)
    replace hF := q_letX hF ef_3
    have if_3 : f_3.toInt = (σ.1 a 40).toInt := congrArg Int32.toInt ef_3
    refine lv_iconst (v := 1) hx hb dX12_doOne_26 zki_1 ?_
    refine lv_iadd hx hb dX12_doOne_27 ?_
    refine lv_topi (fun z_4 ez_4 => ?_)
    replace hF := q_letX hF ez_4
    have iz_4 := q_addI (A := f_3.toInt) (B := 1) ez_4 rfl (by decide) (by first | (clear hf ht hn hs gσ w0σ dnσ k5σ hh hQ gc_2_f_1 c_2; omega) | omega) (by first | (clear hf ht hn hs gσ w0σ dnσ k5σ hh hQ gc_2_f_1 c_2; omega) | omega)
    refine ps_X12_417_12 E hI ha (by decide) dX12_doOne_28 (fun H locs σ_5 hσ_5 hI => ?_)
    replace hF := q_letX hF hσ_5
    have fr_σ_5 := fr_σ.si hσ_5 ha rfl
    have mv40_σ_5 : (σ_5.1 a 40).toInt = z_4.toInt := congrArg Int32.toInt (q_rd hσ_5)
    have mcσ_5 := m_wo hσ_5 (m_ne ha (q_tk (f := 20) (k' := 34) hI ha rfl (by decide)) (by decide))
    have gσ_5 : m_G (m_c X σ_5 a) := m_G.ext (fun j _ _ => mcσ_5 j) gσ
    have w0σ_5 : m_W (m_c X σ_5 a) (n + (σ.1 a 40).toInt) := m_W.ext (fun j _ _ => mcσ_5 j) w0σ
    have kqσ_5 : ∀ j, 654 ≤ j → m_c X σ_5 a j = m_c X σ a j := fun j h => (mcσ_5 j).trans (kqσ j h)
    have dnσ_5 : (σ.1 a 40).toInt ≤ (σ_5.1 a 40).toInt ∧ (σ_5.1 a 40).toInt ≤ 300 := (by first | (clear hf ht hn hs gσ w0σ dnσ k5σ hh hQ gc_2_f_1 gσ_5 w0σ_5; omega) | omega)
    have k5σ_5 : ∀ b g, q_kd X b = 35 → σ_5.1 b g = σ.1 b g := (fun b g q => (q_rdn hσ_5 (Or.inl (m_ne q ha (by decide)))).trans (k5σ b g q))
    have fxσ_5 : m_c X σ_5 a = m_c X σ a := (funext mcσ_5).trans fxσ
    refine lv_sipush (v := 656) hx hb dX12_doOne_31 zks_656 ?_
    refine lv_bipush (v := 9) hx hb dX12_doOne_34 zkb_9 ?_
    refine lv_iload_n hx hb dX12_doOne_36 rfl (lv_at hl 1 rfl) ?_
    refine lv_imul hx hb dX12_doOne_37 ?_
    refine lv_topi (fun z_6 ez_6 => ?_)
    replace hF := q_letX hF ez_6
    have iz_6 := q_mulI (A := 9) (B := v1.toInt) ez_6 (by decide) rfl (by first | (clear hf ht hn hd gσ w0σ dnσ k5σ hh hQ if_1 gc_2_f_1 c_2 if_3 iz_4 mv40_σ_5 gσ_5 w0σ_5 dnσ_5 k5σ_5; omega) | omega) (by first | (clear hf ht hn hd gσ w0σ dnσ k5σ hh if_1 gc_2_f_1 c_2 if_3 iz_4 mv40_σ_5 gσ_5 w0σ_5 dnσ_5 k5σ_5; omega) | omega)
    refine lv_iadd hx hb dX12_doOne_38 ?_
    refine lv_topi (fun z_7 ez_7 => ?_)
    replace hF := q_letX hF ez_7
    have iz_7 := q_addI (A := 656) (B := (9 * v1.toInt)) ez_7 (by decide) iz_6 (by first | (clear hf ht hn hd gσ w0σ dnσ k5σ hh hQ if_1 gc_2_f_1 c_2 if_3 iz_4 mv40_σ_5 gσ_5 w0σ_5 dnσ_5 k5σ_5 iz_6; omega) | omega) (by first | (clear hf ht hn hd gσ w0σ dnσ k5σ hh if_1 gc_2_f_1 c_2 if_3 iz_4 mv40_σ_5 gσ_5 w0σ_5 dnσ_5 k5σ_5 iz_6; omega) | omega)
    refine lv_istore_n (lv' := [(2, .int z_7), (0, .ref a), (1, .int v1)]) hx hb dX12_doOne_39 rfl hl (by decide) rfl (fun ls hl => ?_)
    refine lv_aload_n hx hb dX12_doOne_40 rfl (lv_at hl 1 rfl) ?_
    refine gs_X12_35_12 E hI ha dX12_doOne_41 ?_
    refine lv_iload_n hx hb dX12_doOne_44 rfl (lv_at hl 0 rfl) ?_
    refine q_iald E hI (q_tk (k' := 34) hI ha rfl (Nat.succ_ne_zero _)) ⟨by decide, rfl⟩ (by first | (clear hf ht hn hd gσ w0σ dnσ k5σ hh hQ if_1 gc_2_f_1 c_2 if_3 iz_4 mv40_σ_5 gσ_5 w0σ_5 dnσ_5 k5σ_5 iz_6; omega) | omega) (by rw [q_lnk (v := 4650) hI (q_tk (k' := 34) hI ha rfl (Nat.succ_ne_zero _)) rfl (by decide)]; omega) dX12_doOne_45 ?_
    refine lv_topi (fun f_8 ef_8 => ?_)
    replace hF := q_letX hF ef_8
    have if_8 : f_8.toInt = m_c X σ a (656 + (9 * v1.toInt)) := (m_rd ef_8 iz_7).trans (congrFun fxσ_5 _)
    refine lv_istore_n (lv' := [(3, .int f_8), (2, .int z_7), (0, .ref a), (1, .int v1)]) hx hb dX12_doOne_46 rfl hl (by decide) rfl (fun ls hl => ?_)
    refine lv_iload_n hx hb dX12_doOne_47 rfl (lv_at hl 0 rfl) ?_
    refine lv_iconst (v := 3) hx hb dX12_doOne_48 zki_3 ?_
    have gc_9_f_8 := q_rng f_8
    refine q_icmp_ge (A := f_8.toInt) (B := 3) E rfl (by decide) (tgt := 77) dX12_doOne_49 (by decide) (fun c_9 => ?_) (fun c_9 => ?_)
    · skip
      replace hF := q_ifn hF (Int.not_lt.mpr c_9)
      refine lv_iload_n hx hb dX12_doOne_77 rfl (lv_at hl 0 rfl) ?_
      refine lv_iconst (v := 3) hx hb dX12_doOne_78 zki_3 ?_
      have gc_10_f_8 := q_rng f_8
      refine q_icmp_ne (A := f_8.toInt) (B := 3) E rfl (by decide) (tgt := 109) dX12_doOne_79 (by decide) (fun c_10 => ?_) (fun c_10 => ?_)
      · skip
        replace hF := q_ifn hF c_10
        refine lv_iload_n hx hb dX12_doOne_109 rfl (lv_at hl 0 rfl) ?_
        refine lv_iconst (v := 4) hx hb dX12_doOne_110 zki_4 ?_
        have gc_11_f_8 := q_rng f_8
        refine q_icmp_ne (A := f_8.toInt) (B := 4) E rfl (by decide) (tgt := 162) dX12_doOne_111 (by decide) (fun c_11 => ?_) (fun c_11 => ?_)
        · skip
          replace hF := q_ifn hF c_11
          have wσ_5 : m_W (m_c X σ_5 a) (n + (σ_5.1 a 40).toInt) := m_W.le w0σ_5 (by first | (clear hf ht hn hd hs gσ w0σ dnσ k5σ hh hQ gc_2_f_1 c_2 gσ_5 w0σ_5 dnσ_5 k5σ_5 iz_6 iz_7 if_8 gc_9_f_8 c_9 gc_10_f_8 c_10 gc_11_f_8 c_11; omega) | omega)
          refine lv_iload_n hx hb dX12_doOne_162 rfl (lv_at hl 0 rfl) ?_
          refine lv_iconst (v := 4) hx hb dX12_doOne_163 zki_4 ?_
          have gc_12_f_8 := q_rng f_8
          refine q_icmp_le (A := f_8.toInt) (B := 4) E rfl (by decide) (tgt := 172) dX12_doOne_164 (by decide) (fun c_12 => ?_) (fun c_12 => ?_)
          · skip
            replace hF := q_ifn hF (Int.not_lt.mpr c_12)
            exact q_retv E hr hlk hI ⟨gσ_5, (by first | exact wσ_5 | exact m_W.le w0σ_5 (by omega)), kqσ_5, dnσ_5, k5σ_5, (hF.trans hout), fr_σ_5⟩ dX12_doOne_172
          · skip
            replace hF := q_ifp hF c_12
            refine lv_aload_n hx hb dX12_doOne_167 rfl (lv_at hl 2 rfl) ?_
            refine lv_iconst (v := 1) hx hb dX12_doOne_168 zki_1 ?_
            refine ps_X12_420_12 E hI ha (by decide) (by decide) (by decide) dX12_doOne_169 (fun H locs σ_13 hσ_13 hI => ?_)
            replace hF := q_letX hF hσ_13
            have fr_σ_13 := fr_σ_5.si hσ_13 ha rfl
            have mv40_σ_13 : (σ_13.1 a 40).toInt = (σ_5.1 a 40).toInt := congrArg Int32.toInt (q_rdn hσ_13 (Or.inr (by decide)))
            have mcσ_13 := m_wo hσ_13 (m_ne ha (q_tk (f := 20) (k' := 34) hI ha rfl (by decide)) (by decide))
            have gσ_13 : m_G (m_c X σ_13 a) := m_G.ext (fun j _ _ => mcσ_13 j) gσ_5
            have wσ_13 : m_W (m_c X σ_13 a) (n + (σ_13.1 a 40).toInt) := (m_W.le (m_W.ext (fun j _ _ => mcσ_13 j) wσ_5) (by first | (clear hf ht hn hd hs gσ w0σ dnσ k5σ hh hQ if_1 gc_2_f_1 c_2 if_3 iz_4 mv40_σ_5 gσ_5 w0σ_5 dnσ_5 k5σ_5 iz_6 iz_7 if_8 gc_9_f_8 c_9 gc_10_f_8 c_10 gc_11_f_8 c_11 wσ_5 gc_12_f_8 c_12 gσ_13; omega) | omega))
            have kqσ_13 : ∀ j, 654 ≤ j → m_c X σ_13 a j = m_c X σ a j := fun j h => (mcσ_13 j).trans (kqσ_5 j h)
            have dnσ_13 : (σ.1 a 40).toInt ≤ (σ_13.1 a 40).toInt ∧ (σ_13.1 a 40).toInt ≤ 300 := (by first | (clear hf ht hn hs gσ w0σ dnσ k5σ hh hQ gc_2_f_1 c_2 gσ_5 w0σ_5 k5σ_5 iz_6 iz_7 if_8 gc_9_f_8 c_9 gc_10_f_8 c_10 gc_11_f_8 c_11 wσ_5 gc_12_f_8 c_12 gσ_13 wσ_13; omega) | omega)
            have k5σ_13 : ∀ b g, q_kd X b = 35 → σ_13.1 b g = σ.1 b g := (fun b g q => (q_rdn hσ_13 (Or.inl (m_ne q ha (by decide)))).trans (k5σ_5 b g q))
            exact q_retv E hr hlk hI ⟨gσ_13, (by first | exact wσ_13 | exact m_W.le w0σ_13 (by omega)), kqσ_13, dnσ_13, k5σ_13, (hF.trans hout), fr_σ_13⟩ dX12_doOne_172
        · skip
          replace hF := q_ifp hF c_11
          have wσ_5 : m_W (m_c X σ_5 a) (n + (σ_5.1 a 40).toInt) := m_W.le w0σ_5 (by first | (clear hf ht hn hd hs gσ w0σ dnσ k5σ hh hQ gc_2_f_1 c_2 gσ_5 w0σ_5 dnσ_5 k5σ_5 iz_6 iz_7 if_8 gc_9_f_8 c_9 gc_10_f_8 c_10 gc_11_f_8 c_11; omega) | omega)
          refine lv_iconst (v := 0) hx hb dX12_doOne_114 zki_0 ?_
          refine lv_istore (lv' := [(4, .int 0), (3, .int f_8), (2, .int z_7), (0, .ref a), (1, .int v1)]) hx hb dX12_doOne_115 hl (by decide) rfl (fun ls hl => ?_)
          have L_117_16 : ∀ (k_16 : Nat) (x_14 : Int32) (σ_15 : ST) (H : Heap) (locs : List Loc) (ls : Array Slot), (2147483647 - x_14.toInt).toNat < k_16 → (q_ow [(12, 38), (12, 39), (12, 40), (12, 41), (12, 42), (12, 43), (12, 44), (12, 45), (34, 99), (39, 99)] [] X σ σ_15) → (m_G (m_c X σ_15 a)) → (m_W (m_c X σ_15 a) (n + (σ_15.1 a 40).toInt)) → (∀ j, 654 ≤ j → m_c X σ_15 a j = m_c X σ a j) → ((σ.1 a 40).toInt ≤ (σ_15.1 a 40).toInt ∧ (σ_15.1 a 40).toInt ≤ 300) → (∀ b g, q_kd X b = 35 → σ_15.1 b g = σ.1 b g) → (F_X12_doOne_s_L117_1 X z_7 a v1 FA k_16 x_14 σ_15 = out) → q_I X 1 σ s.heap locs σ_15 H → lv_has ls 5 [(0, .ref a), (1, .int v1), (2, .int z_7), (3, .int f_8), (4, .int x_14)] → W p l e (q_rm (8 + 2 * d) (181 + 47 * d)) s m ([.ref a, .int v1] : List Value).toArray below meth c H locs 0 0 (MQ below (q_Qv X 1 σ (fun (σ' : ST) => (m_G (m_c X σ' a)) ∧ (m_W (m_c X σ' a) (n + (σ'.1 a 40).toInt)) ∧ (∀ j, 654 ≤ j → m_c X σ' a j = m_c X σ a j) ∧ ((σ.1 a 40).toInt ≤ (σ'.1 a 40).toInt ∧ (σ'.1 a 40).toInt ≤ 300) ∧ (∀ b g, q_kd X b = 35 → σ'.1 b g = σ.1 b g) ∧ σ' = F_X12_doOne_s X σ a v1 FA ∧ q_ow [(12, 38), (12, 39), (12, 40), (12, 41), (12, 42), (12, 43), (12, 44), (12, 45), (34, 99), (39, 99)] [] X σ σ')) ([.ref a, .int v1] : List Value).toArray s 0 0 (q_reg X)) (F0 m 117 ls []) := by
            clear hF
            intro k_16
            induction k_16 with
            | zero =>
              intro x_14 σ_15 H locs ls hms
              exact absurd hms (Nat.not_lt_zero _)
            | succ k_16 ih117 =>
              intro x_14 σ_15 H locs ls hm117 fr_σ_15 gσ_15 wσ_15 kqσ_15 dnσ_15 k5σ_15 hF hI hl
              replace hF := (F_X12_doOne_s_L117_1_s).symm.trans hF
              unfold F_X12_doOne_s_B117_1 at hF
              have q1 := kqσ_15 (656 + 9 * v1.toInt + 1) (by first | (clear hf ht hn hd gσ w0σ dnσ k5σ hh hQ if_1 gc_2_f_1 c_2 if_3 iz_4 mv40_σ_5 gσ_5 w0σ_5 dnσ_5 k5σ_5 iz_6 iz_7 if_8 gc_9_f_8 c_9 gc_10_f_8 c_10 gc_11_f_8 c_11 wσ_5 hm117 gσ_15 wσ_15 dnσ_15 k5σ_15; omega) | omega)
              have q8 := kqσ_15 (656 + 9 * v1.toInt + 8) (by first | (clear hf ht hn hd gσ w0σ dnσ k5σ hh hQ if_1 gc_2_f_1 c_2 if_3 iz_4 mv40_σ_5 gσ_5 w0σ_5 dnσ_5 k5σ_5 iz_6 iz_7 if_8 gc_9_f_8 c_9 gc_10_f_8 c_10 gc_11_f_8 c_11 wσ_5 hm117 gσ_15 wσ_15 dnσ_15 k5σ_15; omega) | omega)
              refine lv_iload hx hb dX12_doOne_117 (lv_at hl 4 rfl) ?_
              refine lv_aload_n hx hb dX12_doOne_119 rfl (lv_at hl 0 rfl) ?_
              refine gs_X12_35_12 E hI ha dX12_doOne_120 ?_
              refine lv_iload_n hx hb dX12_doOne_123 rfl (lv_at hl 2 rfl) ?_
              refine lv_iconst (v := 1) hx hb dX12_doOne_124 zki_1 ?_
              refine lv_iadd hx hb dX12_doOne_125 ?_
              refine lv_topi (fun z_17 ez_17 => ?_)
              replace hF := q_letX hF ez_17
              have iz_17 := q_addI (A := (656 + (9 * v1.toInt))) (B := 1) ez_17 iz_7 (by decide) (by first | (clear hf ht hn hd gσ w0σ dnσ k5σ hh hQ if_1 gc_2_f_1 c_2 if_3 iz_4 mv40_σ_5 gσ_5 w0σ_5 dnσ_5 k5σ_5 iz_6 iz_7 if_8 gc_9_f_8 c_9 gc_10_f_8 c_10 gc_11_f_8 c_11 wσ_5 hm117 gσ_15 wσ_15 dnσ_15 k5σ_15; omega) | omega) (by first | (clear hf ht hn hd gσ w0σ dnσ k5σ hh if_1 gc_2_f_1 c_2 if_3 iz_4 mv40_σ_5 gσ_5 w0σ_5 dnσ_5 k5σ_5 iz_6 iz_7 if_8 gc_9_f_8 c_9 gc_10_f_8 c_10 gc_11_f_8 c_11 wσ_5 hm117 gσ_15 wσ_15 dnσ_15 k5σ_15; omega) | omega)
              refine q_iald E hI (q_tk (k' := 34) hI ha rfl (Nat.succ_ne_zero _)) ⟨by decide, rfl⟩ (by first | (clear hf ht hn hd gσ w0σ dnσ k5σ hh hQ if_1 gc_2_f_1 c_2 if_3 iz_4 mv40_σ_5 gσ_5 w0σ_5 dnσ_5 k5σ_5 iz_6 iz_7 if_8 gc_9_f_8 c_9 gc_10_f_8 c_10 gc_11_f_8 c_11 wσ_5 hm117 gσ_15 wσ_15 dnσ_15 k5σ_15; omega) | omega) (by rw [q_lnk (v := 4650) hI (q_tk (k' := 34) hI ha rfl (Nat.succ_ne_zero _)) rfl (by decide)]; omega) dX12_doOne_126 ?_
              refine lv_topi (fun f_18 ef_18 => ?_)
              replace hF := q_letX hF ef_18
              have if_18 : f_18.toInt = m_c X σ_15 a ((656 + (9 * v1.toInt)) + 1) := m_rd ef_18 iz_17
              have gc_19_x_14 := q_rng x_14
              have gc_19_f_18 := q_rng f_18
              refine q_icmp_ge (A := x_14.toInt) (B := f_18.toInt) E rfl rfl (tgt := 159) dX12_doOne_127 (by decide) (fun c_19 => ?_) (fun c_19 => ?_)
              · skip
                replace hF := q_ifn hF (Int.not_lt.mpr c_19)
                skip
                refine lv_goto (tgt := 172) hx hb dX12_doOne_159 (by decide) ?_
                exact q_retv E hr hlk hI ⟨gσ_15, (by first | exact wσ_15 | exact m_W.le w0σ_15 (by omega)), kqσ_15, dnσ_15, k5σ_15, (hF.trans hout), fr_σ_15⟩ dX12_doOne_172
              · skip
                replace hF := q_ifp hF c_19
                refine lv_aload_n hx hb dX12_doOne_130 rfl (lv_at hl 0 rfl) ?_
                refine gs_X12_420_12 E hI ha dX12_doOne_131 ?_
                refine lv_topi (fun f_20 ef_20 => ?_)
                replace hF := q_letX hF ef_20
                have if_20 : f_20.toInt = (σ_15.1 a 38).toInt := congrArg Int32.toInt ef_20
                have bf_20 : 0 ≤ f_20.toInt ∧ f_20.toInt ≤ 1 := by rw [ef_20]; exact q_bd hI ha rfl
                refine q_if_ne (A := f_20.toInt) E rfl (tgt := 159) dX12_doOne_134 (by decide) (fun c_21 => ?_) (fun c_21 => ?_)
                · skip
                  replace hF := q_ifn hF c_21
                  skip
                  refine lv_goto (tgt := 172) hx hb dX12_doOne_159 (by decide) ?_
                  exact q_retv E hr hlk hI ⟨gσ_15, (by first | exact wσ_15 | exact m_W.le w0σ_15 (by omega)), kqσ_15, dnσ_15, k5σ_15, (hF.trans hout), fr_σ_15⟩ dX12_doOne_172
                · skip
                  replace hF := q_ifp hF c_21
                  refine lv_aload_n hx hb dX12_doOne_137 rfl (lv_at hl 0 rfl) ?_
                  refine lv_iload_n hx hb dX12_doOne_138 rfl (lv_at hl 1 rfl) ?_
                  refine lv_iconst (v := 1) hx hb dX12_doOne_139 zki_1 ?_
                  refine lv_iadd hx hb dX12_doOne_140 ?_
                  refine lv_topi (fun z_22 ez_22 => ?_)
                  replace hF := q_letX hF ez_22
                  have iz_22 := q_addI (A := v1.toInt) (B := 1) ez_22 rfl (by decide) (by first | (clear hf ht hn hd gσ w0σ dnσ k5σ hh hQ if_1 gc_2_f_1 c_2 if_3 iz_4 mv40_σ_5 gσ_5 w0σ_5 dnσ_5 k5σ_5 iz_6 iz_7 if_8 gc_9_f_8 c_9 gc_10_f_8 c_10 gc_11_f_8 c_11 wσ_5 hm117 gσ_15 wσ_15 dnσ_15 k5σ_15 iz_17 if_18 gc_19_x_14 gc_19_f_18 c_19 if_20 bf_20 c_21; omega) | omega) (by first | (clear hf ht hn hd gσ w0σ dnσ k5σ hh if_1 gc_2_f_1 c_2 if_3 iz_4 mv40_σ_5 gσ_5 w0σ_5 dnσ_5 k5σ_5 iz_6 iz_7 if_8 gc_9_f_8 c_9 gc_10_f_8 c_10 gc_11_f_8 c_11 wσ_5 hm117 gσ_15 wσ_15 dnσ_15 k5σ_15 iz_17 if_18 gc_19_x_14 gc_19_f_18 c_19 if_20 bf_20 c_21; omega) | omega)
                  refine lv_aload_n hx hb dX12_doOne_141 rfl (lv_at hl 0 rfl) ?_
                  refine gs_X12_35_12 E hI ha dX12_doOne_142 ?_
                  refine lv_iload_n hx hb dX12_doOne_145 rfl (lv_at hl 2 rfl) ?_
                  refine lv_bipush (v := 8) hx hb dX12_doOne_146 zkb_8 ?_
                  refine lv_iadd hx hb dX12_doOne_148 ?_
                  refine lv_topi (fun z_23 ez_23 => ?_)
                  replace hF := q_letX hF ez_23
                  have iz_23 := q_addI (A := (656 + (9 * v1.toInt))) (B := 8) ez_23 iz_7 (by decide) (by first | (clear hf ht hn hd gσ w0σ dnσ k5σ hh hQ if_1 gc_2_f_1 c_2 if_3 iz_4 mv40_σ_5 gσ_5 w0σ_5 dnσ_5 k5σ_5 iz_6 iz_7 if_8 gc_9_f_8 c_9 gc_10_f_8 c_10 gc_11_f_8 c_11 wσ_5 hm117 gσ_15 wσ_15 dnσ_15 k5σ_15 iz_17 if_18 gc_19_x_14 gc_19_f_18 c_19 if_20 bf_20 c_21; omega) | omega) (by first | (clear hf ht hn hd gσ w0σ dnσ k5σ hh if_1 gc_2_f_1 c_2 if_3 iz_4 mv40_σ_5 gσ_5 w0σ_5 dnσ_5 k5σ_5 iz_6 iz_7 if_8 gc_9_f_8 c_9 gc_10_f_8 c_10 gc_11_f_8 c_11 wσ_5 hm117 gσ_15 wσ_15 dnσ_15 k5σ_15 iz_17 if_18 gc_19_x_14 gc_19_f_18 c_19 if_20 bf_20 c_21; omega) | omega)
                  refine q_iald E hI (q_tk (k' := 34) hI ha rfl (Nat.succ_ne_zero _)) ⟨by decide, rfl⟩ (by first | (clear hf ht hn hd gσ w0σ dnσ k5σ hh if_1 gc_2_f_1 c_2 if_3 iz_4 mv40_σ_5 gσ_5 w0σ_5 dnσ_5 k5σ_5 iz_6 iz_7 if_8 gc_9_f_8 c_9 gc_10_f_8 c_10 gc_11_f_8 c_11 wσ_5 hm117 gσ_15 wσ_15 dnσ_15 k5σ_15 iz_17 if_18 gc_19_x_14 gc_19_f_18 c_19 if_20 bf_20 c_21; omega) | omega) (by rw [q_lnk (v := 4650) hI (q_tk (k' := 34) hI ha rfl (Nat.succ_ne_zero _)) rfl (by decide)]; omega) dX12_doOne_149 ?_
                  refine lv_topi (fun f_24 ef_24 => ?_)
                  replace hF := q_letX hF ef_24
                  have if_24 : f_24.toInt = m_c X σ_15 a ((656 + (9 * v1.toInt)) + 8) := m_rd ef_24 iz_23
                  refine q_cv (q_runV (As := [.int z_22, .int f_24]) (rest := []) E (hml.trans hl.1.symm) hI (hA σ_15 z_22 f_24 gσ_15 wσ_15 (by omega) (by first | (clear hf ht hn hs gσ w0σ dnσ k5σ hh hQ gc_2_f_1 c_2 gσ_5 w0σ_5 k5σ_5 iz_6 iz_7 if_8 gc_9_f_8 c_9 gc_10_f_8 c_10 gc_11_f_8 c_11 wσ_5 hm117 gσ_15 wσ_15 k5σ_15 iz_17 if_18 gc_19_x_14 gc_19_f_18 c_19 if_20 bf_20 c_21 iz_22 iz_23 if_24; omega) | omega) (by first | (clear hf ht hn hd gσ w0σ dnσ k5σ hh hQ if_1 gc_2_f_1 c_2 if_3 iz_4 mv40_σ_5 gσ_5 w0σ_5 dnσ_5 k5σ_5 iz_6 iz_7 if_8 gc_9_f_8 c_9 gc_10_f_8 c_10 gc_11_f_8 c_11 wσ_5 hm117 gσ_15 wσ_15 dnσ_15 k5σ_15 iz_17 if_18 gc_19_x_14 gc_19_f_18 c_19 if_20 bf_20 c_21 iz_23 if_24; omega) | omega) (by rw [kqσ_15 655 (by decide)]; omega)) kv_X12_435 ha ⟨rfl, by decide⟩ (show vwCl[11]? = some (RX12, TX12, 46) from rfl) rfl (by constructor <;> (simp only [q_rm]; omega)) ⟨Nat.le_refl _, Nat.le_refl _⟩ rfl (Nat.le_of_ble_eq_true rfl) dX12_doOne_150) hI (Nat.le_of_ble_eq_true rfl) (fun σ_26 H locs hpσ_26 hkσ_26 hI => ?_)
                  have ahpσ_26 := hpσ_26.1
                  have bhpσ_26 := hpσ_26.2.1
                  have chpσ_26 := hpσ_26.2.2.1
                  have dhpσ_26 := hpσ_26.2.2.2.1
                  have ehpσ_26 := hpσ_26.2.2.2.2.1
                  have fhpσ_26 := hpσ_26.2.2.2.2.2.1
                  have ghpσ_26 := hpσ_26.2.2.2.2.2.2
                  clear hpσ_26
                  have fr_σ_26 := fr_σ_15.call ghpσ_26 rfl rfl
                  replace hF := q_letX hF fhpσ_26
                  have gσ_26 : m_G (m_c X σ_26 a) := ahpσ_26
                  have wσ_26 : m_W (m_c X σ_26 a) (n + (σ_26.1 a 40).toInt) := bhpσ_26
                  have kqσ_26 : ∀ j, 654 ≤ j → m_c X σ_26 a j = m_c X σ a j := (fun j h => (chpσ_26 j h).trans (kqσ_15 j h))
                  have dnσ_26 : (σ.1 a 40).toInt ≤ (σ_26.1 a 40).toInt ∧ (σ_26.1 a 40).toInt ≤ 300 := (by first | (clear hf ht hn hd hs gσ w0σ dnσ k5σ hh hQ gc_2_f_1 c_2 gσ_5 w0σ_5 dnσ_5 k5σ_5 iz_6 iz_7 if_8 gc_9_f_8 c_9 gc_10_f_8 c_10 gc_11_f_8 c_11 wσ_5 hm117 gσ_15 wσ_15 k5σ_15 iz_17 if_18 gc_19_x_14 gc_19_f_18 c_19 if_20 bf_20 c_21 iz_22 iz_23 if_24 ahpσ_26 bhpσ_26 chpσ_26 ehpσ_26 fhpσ_26 gσ_26 wσ_26; omega) | omega)
                  have k5σ_26 : ∀ b g, q_kd X b = 35 → σ_26.1 b g = σ.1 b g := (fun b g q => (ehpσ_26 b g q).trans (k5σ_15 b g q))
                  obtain ⟨z_27, ez_27⟩ : ∃ y : Int32, y = x_14 + 1 := ⟨_, rfl⟩
                  replace hF := q_letX hF ez_27
                  refine lv_iinc (v := z_27) (lv' := [(4, .int z_27), (0, .ref a), (1, .int v1), (2, .int z_7), (3, .int f_8)]) hx hb dX12_doOne_153 hl (k := 4) rfl (by rw [ez_27]; rfl) (by decide) rfl (fun ls hl => ?_)
                  have iz_27 : z_27.toInt = x_14.toInt + 1 := q_inc ez_27 (by first | (clear hf ht hn hd hs gσ w0σ dnσ k5σ hh hQ if_1 gc_2_f_1 c_2 if_3 iz_4 mv40_σ_5 gσ_5 w0σ_5 dnσ_5 k5σ_5 iz_6 iz_7 if_8 gc_9_f_8 c_9 gc_10_f_8 c_10 gc_11_f_8 c_11 wσ_5 hm117 gσ_15 wσ_15 dnσ_15 k5σ_15 iz_17 if_18 if_20 bf_20 c_21 iz_22 iz_23 if_24 ahpσ_26 bhpσ_26 chpσ_26 dhpσ_26 ehpσ_26 fhpσ_26 gσ_26 wσ_26 dnσ_26 k5σ_26; omega) | omega)
                  refine lv_goto (tgt := 117) hx hb dX12_doOne_156 (by decide) ?_
                  exact ih117 z_27 σ_26 _ _ ls (by first | (clear hf ht hn hd hs gσ w0σ dnσ k5σ hh hQ if_1 gc_2_f_1 c_2 if_3 iz_4 mv40_σ_5 gσ_5 w0σ_5 dnσ_5 k5σ_5 iz_6 iz_7 if_8 gc_9_f_8 c_9 gc_10_f_8 c_10 gc_11_f_8 c_11 wσ_5 gσ_15 wσ_15 dnσ_15 k5σ_15 iz_17 if_18 if_20 bf_20 c_21 iz_22 iz_23 if_24 ahpσ_26 bhpσ_26 chpσ_26 dhpσ_26 ehpσ_26 fhpσ_26 gσ_26 wσ_26 dnσ_26 k5σ_26; omega) | omega) fr_σ_26 gσ_26 wσ_26 kqσ_26 dnσ_26 k5σ_26 hF hI (lv_sub hl [1, 2, 3, 4, 0] rfl)
          have kc_28 : (0 : Int32).toInt = 0 := zt_0
          exact L_117_16 ((2147483647 - (0 : Int32).toInt).toNat + 1) 0 σ_5 _ _ ls (Nat.lt_succ_self _) fr_σ_5 gσ_5 wσ_5 kqσ_5 dnσ_5 k5σ_5 hF hI (lv_sub hl [3, 4, 2, 1, 0] rfl)
      · skip
        replace hF := q_ifp hF c_10
        refine lv_aload_n hx hb dX12_doOne_82 rfl (lv_at hl 2 rfl) ?_
        refine lv_iload_n hx hb dX12_doOne_83 rfl (lv_at hl 1 rfl) ?_
        refine q_ci (q_runV (As := [.int z_7]) (rest := []) E (hml.trans hl.1.symm) hI (c_X12_isSo l X σ_5 a z_7 ha (by rw [fxσ_5]; exact hG) (by first | (clear hf ht hn hd gσ w0σ dnσ k5σ hh if_1 gc_2_f_1 c_2 if_3 iz_4 mv40_σ_5 gσ_5 w0σ_5 dnσ_5 k5σ_5 iz_6 if_8 gc_9_f_8 c_9 gc_10_f_8 c_10; omega) | omega) (by rw [fxσ_5]; exact (by rw [iz_7]; exact ⟨s3 (by first | (clear hf ht hn hd hs gσ w0σ dnσ k5σ hh hQ if_1 gc_2_f_1 c_2 if_3 iz_4 mv40_σ_5 gσ_5 w0σ_5 dnσ_5 k5σ_5 iz_6 iz_7 gc_9_f_8 c_9 gc_10_f_8; omega) | omega), fun q => s2 (by first | (clear hf ht hn hd hs gσ w0σ dnσ k5σ hh hQ if_1 gc_2_f_1 c_2 if_3 iz_4 mv40_σ_5 gσ_5 w0σ_5 dnσ_5 k5σ_5 iz_6 iz_7 gc_9_f_8 c_9 gc_10_f_8; omega) | omega)⟩))) kv_X12_432 ha ⟨rfl, by decide⟩ (show vwCl[11]? = some (RX12, TX12, 46) from rfl) rfl (by constructor <;> (simp only [q_rm]; omega)) ⟨Nat.le_refl _, Nat.le_refl _⟩ rfl (Nat.le_of_ble_eq_true rfl) dX12_doOne_84) hI (Nat.le_of_ble_eq_true rfl) (fun r_29 σ_30 H locs hpσ_30 hkσ_30 hI => ?_)
        have ahpσ_30 := hpσ_30.1
        have bhpσ_30 := hpσ_30.2.1
        have chpσ_30 := hpσ_30.2.2
        clear hpσ_30
        replace hI := q_Irw ahpσ_30 hI
        replace hF := q_letX hF chpσ_30
        refine q_if_eq (A := r_29.toInt) E rfl (tgt := 109) dX12_doOne_87 (by decide) (fun c_31 => ?_) (fun c_31 => ?_)
        · skip
          replace hF := q_ifp hF c_31
          refine lv_iload_n hx hb dX12_doOne_109 rfl (lv_at hl 0 rfl) ?_
          refine lv_iconst (v := 4) hx hb dX12_doOne_110 zki_4 ?_
          have gc_32_f_8 := q_rng f_8
          refine q_icmp_ne (A := f_8.toInt) (B := 4) E rfl (by decide) (tgt := 162) dX12_doOne_111 (by decide) (fun c_32 => ?_) (fun c_32 => ?_)
          · skip
            replace hF := q_ifn hF c_32
            have wσ_5 : m_W (m_c X σ_5 a) (n + (σ_5.1 a 40).toInt) := m_W.le w0σ_5 (by first | (clear hf ht hn hd hs gσ w0σ dnσ k5σ hh hQ gc_2_f_1 c_2 gσ_5 w0σ_5 dnσ_5 k5σ_5 iz_6 iz_7 if_8 gc_9_f_8 c_9 gc_10_f_8 c_10 ahpσ_30 bhpσ_30 chpσ_30 c_31 gc_32_f_8 c_32; omega) | omega)
            refine lv_iload_n hx hb dX12_doOne_162 rfl (lv_at hl 0 rfl) ?_
            refine lv_iconst (v := 4) hx hb dX12_doOne_163 zki_4 ?_
            have gc_33_f_8 := q_rng f_8
            refine q_icmp_le (A := f_8.toInt) (B := 4) E rfl (by decide) (tgt := 172) dX12_doOne_164 (by decide) (fun c_33 => ?_) (fun c_33 => ?_)
            · skip
              replace hF := q_ifn hF (Int.not_lt.mpr c_33)
              exact q_retv E hr hlk hI ⟨gσ_5, (by first | exact wσ_5 | exact m_W.le w0σ_5 (by omega)), kqσ_5, dnσ_5, k5σ_5, (hF.trans hout), fr_σ_5⟩ dX12_doOne_172
            · skip
              replace hF := q_ifp hF c_33
              refine lv_aload_n hx hb dX12_doOne_167 rfl (lv_at hl 2 rfl) ?_
              refine lv_iconst (v := 1) hx hb dX12_doOne_168 zki_1 ?_
              refine ps_X12_420_12 E hI ha (by decide) (by decide) (by decide) dX12_doOne_169 (fun H locs σ_34 hσ_34 hI => ?_)
              replace hF := q_letX hF hσ_34
              have fr_σ_34 := fr_σ_5.si hσ_34 ha rfl
              have mv40_σ_34 : (σ_34.1 a 40).toInt = (σ_5.1 a 40).toInt := congrArg Int32.toInt (q_rdn hσ_34 (Or.inr (by decide)))
              have mcσ_34 := m_wo hσ_34 (m_ne ha (q_tk (f := 20) (k' := 34) hI ha rfl (by decide)) (by decide))
              have gσ_34 : m_G (m_c X σ_34 a) := m_G.ext (fun j _ _ => mcσ_34 j) gσ_5
              have wσ_34 : m_W (m_c X σ_34 a) (n + (σ_34.1 a 40).toInt) := (m_W.le (m_W.ext (fun j _ _ => mcσ_34 j) wσ_5) (by first | (clear hf ht hn hd hs gσ w0σ dnσ k5σ hh hQ if_1 gc_2_f_1 c_2 if_3 iz_4 mv40_σ_5 gσ_5 w0σ_5 dnσ_5 k5σ_5 iz_6 iz_7 if_8 gc_9_f_8 c_9 gc_10_f_8 ahpσ_30 bhpσ_30 chpσ_30 c_31 gc_32_f_8 c_32 wσ_5 gc_33_f_8 mv40_σ_34 gσ_34; omega) | omega))
              have kqσ_34 : ∀ j, 654 ≤ j → m_c X σ_34 a j = m_c X σ a j := fun j h => (mcσ_34 j).trans (kqσ_5 j h)
              have dnσ_34 : (σ.1 a 40).toInt ≤ (σ_34.1 a 40).toInt ∧ (σ_34.1 a 40).toInt ≤ 300 := (by first | (clear hf ht hn hd hs gσ w0σ dnσ k5σ hh hQ if_1 gc_2_f_1 c_2 if_3 iz_4 mv40_σ_5 gσ_5 w0σ_5 dnσ_5 k5σ_5 iz_6 iz_7 if_8 gc_9_f_8 c_9 gc_10_f_8 ahpσ_30 bhpσ_30 chpσ_30 c_31 gc_32_f_8 c_32 wσ_5 gc_33_f_8 mv40_σ_34 gσ_34 wσ_34; omega) | omega)
              have k5σ_34 : ∀ b g, q_kd X b = 35 → σ_34.1 b g = σ.1 b g := (fun b g q => (q_rdn hσ_34 (Or.inl (m_ne q ha (by decide)))).trans (k5σ_5 b g q))
              exact q_retv E hr hlk hI ⟨gσ_34, (by first | exact wσ_34 | exact m_W.le w0σ_34 (by omega)), kqσ_34, dnσ_34, k5σ_34, (hF.trans hout), fr_σ_34⟩ dX12_doOne_172
          · skip
            replace hF := q_ifp hF c_32
            have wσ_5 : m_W (m_c X σ_5 a) (n + (σ_5.1 a 40).toInt) := m_W.le w0σ_5 (by first | (clear hf ht hn hd hs gσ w0σ dnσ k5σ hh hQ if_1 gc_2_f_1 c_2 if_3 iz_4 mv40_σ_5 gσ_5 w0σ_5 dnσ_5 k5σ_5 iz_6 iz_7 if_8 gc_9_f_8 c_9 gc_10_f_8 ahpσ_30 bhpσ_30 chpσ_30 c_31 gc_32_f_8; omega) | omega)
            refine lv_iconst (v := 0) hx hb dX12_doOne_114 zki_0 ?_
            refine lv_istore (lv' := [(4, .int 0), (3, .int f_8), (2, .int z_7), (0, .ref a), (1, .int v1)]) hx hb dX12_doOne_115 hl (by decide) rfl (fun ls hl => ?_)
            have L_117_37 : ∀ (k_37 : Nat) (x_35 : Int32) (σ_36 : ST) (H : Heap) (locs : List Loc) (ls : Array Slot), (2147483647 - x_35.toInt).toNat < k_37 → (q_ow [(12, 38), (12, 39), (12, 40), (12, 41), (12, 42), (12, 43), (12, 44), (12, 45), (34, 99), (39, 99)] [] X σ σ_36) → (m_G (m_c X σ_36 a)) → (m_W (m_c X σ_36 a) (n + (σ_36.1 a 40).toInt)) → (∀ j, 654 ≤ j → m_c X σ_36 a j = m_c X σ a j) → ((σ.1 a 40).toInt ≤ (σ_36.1 a 40).toInt ∧ (σ_36.1 a 40).toInt ≤ 300) → (∀ b g, q_kd X b = 35 → σ_36.1 b g = σ.1 b g) → (F_X12_doOne_s_L117_4 X z_7 a v1 FA k_37 x_35 σ_36 = out) → q_I X 1 σ s.heap locs σ_36 H → lv_has ls 5 [(0, .ref a), (1, .int v1), (2, .int z_7), (3, .int f_8), (4, .int x_35)] → W p l e (q_rm (8 + 2 * d) (181 + 47 * d)) s m ([.ref a, .int v1] : List Value).toArray below meth c H locs 0 0 (MQ below (q_Qv X 1 σ (fun (σ' : ST) => (m_G (m_c X σ' a)) ∧ (m_W (m_c X σ' a) (n + (σ'.1 a 40).toInt)) ∧ (∀ j, 654 ≤ j → m_c X σ' a j = m_c X σ a j) ∧ ((σ.1 a 40).toInt ≤ (σ'.1 a 40).toInt ∧ (σ'.1 a 40).toInt ≤ 300) ∧ (∀ b g, q_kd X b = 35 → σ'.1 b g = σ.1 b g) ∧ σ' = F_X12_doOne_s X σ a v1 FA ∧ q_ow [(12, 38), (12, 39), (12, 40), (12, 41), (12, 42), (12, 43), (12, 44), (12, 45), (34, 99), (39, 99)] [] X σ σ')) ([.ref a, .int v1] : List Value).toArray s 0 0 (q_reg X)) (F0 m 117 ls []) := by
              clear hF
              intro k_37
              induction k_37 with
              | zero =>
                intro x_35 σ_36 H locs ls hms
                exact absurd hms (Nat.not_lt_zero _)
              | succ k_37 ih117 =>
                intro x_35 σ_36 H locs ls hm117 fr_σ_36 gσ_36 wσ_36 kqσ_36 dnσ_36 k5σ_36 hF hI hl
                replace hF := (F_X12_doOne_s_L117_4_s).symm.trans hF
                unfold F_X12_doOne_s_B117_4 at hF
                have q1 := kqσ_36 (656 + 9 * v1.toInt + 1) (by first | (clear hf ht hn hd hs gσ w0σ dnσ k5σ hh hQ if_1 gc_2_f_1 c_2 if_3 iz_4 mv40_σ_5 gσ_5 w0σ_5 dnσ_5 k5σ_5 iz_6 iz_7 if_8 gc_9_f_8 c_9 gc_10_f_8 ahpσ_30 bhpσ_30 chpσ_30 c_31 gc_32_f_8 wσ_5 hm117 gσ_36 wσ_36 dnσ_36 k5σ_36; omega) | omega)
                have q8 := kqσ_36 (656 + 9 * v1.toInt + 8) (by first | (clear hf ht hn hd hs gσ w0σ dnσ k5σ hh hQ if_1 gc_2_f_1 c_2 if_3 iz_4 mv40_σ_5 gσ_5 w0σ_5 dnσ_5 k5σ_5 iz_6 iz_7 if_8 gc_9_f_8 c_9 gc_10_f_8 ahpσ_30 bhpσ_30 chpσ_30 c_31 gc_32_f_8 wσ_5 hm117 gσ_36 wσ_36 dnσ_36 k5σ_36; omega) | omega)
                refine lv_iload hx hb dX12_doOne_117 (lv_at hl 4 rfl) ?_
                refine lv_aload_n hx hb dX12_doOne_119 rfl (lv_at hl 0 rfl) ?_
                refine gs_X12_35_12 E hI ha dX12_doOne_120 ?_
                refine lv_iload_n hx hb dX12_doOne_123 rfl (lv_at hl 2 rfl) ?_
                refine lv_iconst (v := 1) hx hb dX12_doOne_124 zki_1 ?_
                refine lv_iadd hx hb dX12_doOne_125 ?_
                refine lv_topi (fun z_38 ez_38 => ?_)
                replace hF := q_letX hF ez_38
                have iz_38 := q_addI (A := (656 + (9 * v1.toInt))) (B := 1) ez_38 iz_7 (by decide) (by first | (clear hf ht hn hd hs gσ w0σ dnσ k5σ hh hQ if_1 gc_2_f_1 c_2 if_3 iz_4 mv40_σ_5 gσ_5 w0σ_5 dnσ_5 k5σ_5 iz_6 iz_7 if_8 gc_9_f_8 c_9 gc_10_f_8 ahpσ_30 bhpσ_30 chpσ_30 c_31 gc_32_f_8 wσ_5 hm117 gσ_36 wσ_36 dnσ_36 k5σ_36; omega) | omega) (by first | (clear hf ht hn hd hs gσ w0σ dnσ k5σ hh hQ if_1 gc_2_f_1 c_2 if_3 iz_4 mv40_σ_5 gσ_5 w0σ_5 dnσ_5 k5σ_5 iz_6 iz_7 if_8 gc_9_f_8 c_9 gc_10_f_8 ahpσ_30 bhpσ_30 chpσ_30 c_31 gc_32_f_8 wσ_5 hm117 gσ_36 wσ_36 dnσ_36 k5σ_36; omega) | omega)
                refine q_iald E hI (q_tk (k' := 34) hI ha rfl (Nat.succ_ne_zero _)) ⟨by decide, rfl⟩ (by first | (clear hf ht hn hd hs gσ w0σ dnσ k5σ hh hQ if_1 gc_2_f_1 c_2 if_3 iz_4 mv40_σ_5 gσ_5 w0σ_5 dnσ_5 k5σ_5 iz_6 iz_7 if_8 gc_9_f_8 c_9 gc_10_f_8 ahpσ_30 bhpσ_30 chpσ_30 c_31 gc_32_f_8 wσ_5 hm117 gσ_36 wσ_36 dnσ_36 k5σ_36 iz_38; omega) | omega) (by rw [q_lnk (v := 4650) hI (q_tk (k' := 34) hI ha rfl (Nat.succ_ne_zero _)) rfl (by decide)]; omega) dX12_doOne_126 ?_
                refine lv_topi (fun f_39 ef_39 => ?_)
                replace hF := q_letX hF ef_39
                have if_39 : f_39.toInt = m_c X σ_36 a ((656 + (9 * v1.toInt)) + 1) := m_rd ef_39 iz_38
                have gc_40_x_35 := q_rng x_35
                have gc_40_f_39 := q_rng f_39
                refine q_icmp_ge (A := x_35.toInt) (B := f_39.toInt) E rfl rfl (tgt := 159) dX12_doOne_127 (by decide) (fun c_40 => ?_) (fun c_40 => ?_)
                · skip
                  replace hF := q_ifn hF (Int.not_lt.mpr c_40)
                  skip
                  refine lv_goto (tgt := 172) hx hb dX12_doOne_159 (by decide) ?_
                  exact q_retv E hr hlk hI ⟨gσ_36, (by first | exact wσ_36 | exact m_W.le w0σ_36 (by omega)), kqσ_36, dnσ_36, k5σ_36, (hF.trans hout), fr_σ_36⟩ dX12_doOne_172
                · skip
                  replace hF := q_ifp hF c_40
                  refine lv_aload_n hx hb dX12_doOne_130 rfl (lv_at hl 0 rfl) ?_
                  refine gs_X12_420_12 E hI ha dX12_doOne_131 ?_
                  refine lv_topi (fun f_41 ef_41 => ?_)
                  replace hF := q_letX hF ef_41
                  have if_41 : f_41.toInt = (σ_36.1 a 38).toInt := congrArg Int32.toInt ef_41
                  have bf_41 : 0 ≤ f_41.toInt ∧ f_41.toInt ≤ 1 := by rw [ef_41]; exact q_bd hI ha rfl
                  refine q_if_ne (A := f_41.toInt) E rfl (tgt := 159) dX12_doOne_134 (by decide) (fun c_42 => ?_) (fun c_42 => ?_)
                  · skip
                    replace hF := q_ifn hF c_42
                    skip
                    refine lv_goto (tgt := 172) hx hb dX12_doOne_159 (by decide) ?_
                    exact q_retv E hr hlk hI ⟨gσ_36, (by first | exact wσ_36 | exact m_W.le w0σ_36 (by omega)), kqσ_36, dnσ_36, k5σ_36, (hF.trans hout), fr_σ_36⟩ dX12_doOne_172
                  · skip
                    replace hF := q_ifp hF c_42
                    refine lv_aload_n hx hb dX12_doOne_137 rfl (lv_at hl 0 rfl) ?_
                    refine lv_iload_n hx hb dX12_doOne_138 rfl (lv_at hl 1 rfl) ?_
                    refine lv_iconst (v := 1) hx hb dX12_doOne_139 zki_1 ?_
                    refine lv_iadd hx hb dX12_doOne_140 ?_
                    refine lv_topi (fun z_43 ez_43 => ?_)
                    replace hF := q_letX hF ez_43
                    have iz_43 := q_addI (A := v1.toInt) (B := 1) ez_43 rfl (by decide) (by first | (clear hf ht hn hd hs gσ w0σ dnσ k5σ hh hQ if_1 gc_2_f_1 c_2 if_3 iz_4 mv40_σ_5 gσ_5 w0σ_5 dnσ_5 k5σ_5 iz_6 iz_7 if_8 gc_9_f_8 c_9 gc_10_f_8 ahpσ_30 bhpσ_30 chpσ_30 c_31 gc_32_f_8 wσ_5 hm117 gσ_36 wσ_36 dnσ_36 k5σ_36 iz_38 if_39 gc_40_x_35 gc_40_f_39 c_40 if_41 bf_41 c_42; omega) | omega) (by first | (clear hf ht hn hd hs gσ w0σ dnσ k5σ hh hQ if_1 gc_2_f_1 c_2 if_3 iz_4 mv40_σ_5 gσ_5 w0σ_5 dnσ_5 k5σ_5 iz_6 iz_7 if_8 gc_9_f_8 c_9 gc_10_f_8 ahpσ_30 bhpσ_30 chpσ_30 c_31 gc_32_f_8 wσ_5 hm117 gσ_36 wσ_36 dnσ_36 k5σ_36 iz_38 if_39 gc_40_x_35 gc_40_f_39 c_40 if_41 bf_41 c_42; omega) | omega)
                    refine lv_aload_n hx hb dX12_doOne_141 rfl (lv_at hl 0 rfl) ?_
                    refine gs_X12_35_12 E hI ha dX12_doOne_142 ?_
                    refine lv_iload_n hx hb dX12_doOne_145 rfl (lv_at hl 2 rfl) ?_
                    refine lv_bipush (v := 8) hx hb dX12_doOne_146 zkb_8 ?_
                    refine lv_iadd hx hb dX12_doOne_148 ?_
                    refine lv_topi (fun z_44 ez_44 => ?_)
                    replace hF := q_letX hF ez_44
                    have iz_44 := q_addI (A := (656 + (9 * v1.toInt))) (B := 8) ez_44 iz_7 (by decide) (by first | (clear hf ht hn hd hs gσ w0σ dnσ k5σ hh hQ if_1 gc_2_f_1 c_2 if_3 iz_4 mv40_σ_5 gσ_5 w0σ_5 dnσ_5 k5σ_5 iz_6 iz_7 if_8 gc_9_f_8 c_9 gc_10_f_8 ahpσ_30 bhpσ_30 chpσ_30 c_31 gc_32_f_8 wσ_5 hm117 gσ_36 wσ_36 dnσ_36 k5σ_36 iz_38 if_39 gc_40_x_35 gc_40_f_39 c_40 if_41 bf_41 c_42 iz_43; omega) | omega) (by first | (clear hf ht hn hd hs gσ w0σ dnσ k5σ hh hQ if_1 gc_2_f_1 c_2 if_3 iz_4 mv40_σ_5 gσ_5 w0σ_5 dnσ_5 k5σ_5 iz_6 iz_7 if_8 gc_9_f_8 c_9 gc_10_f_8 ahpσ_30 bhpσ_30 chpσ_30 c_31 gc_32_f_8 wσ_5 hm117 gσ_36 wσ_36 dnσ_36 k5σ_36 iz_38 if_39 gc_40_x_35 gc_40_f_39 c_40 if_41 bf_41 c_42 iz_43; omega) | omega)
                    refine q_iald E hI (q_tk (k' := 34) hI ha rfl (Nat.succ_ne_zero _)) ⟨by decide, rfl⟩ (by first | (clear hf ht hn hd hs gσ w0σ dnσ k5σ hh hQ if_1 gc_2_f_1 c_2 if_3 iz_4 mv40_σ_5 gσ_5 w0σ_5 dnσ_5 k5σ_5 iz_6 iz_7 if_8 gc_9_f_8 c_9 gc_10_f_8 ahpσ_30 bhpσ_30 chpσ_30 c_31 gc_32_f_8 wσ_5 hm117 gσ_36 wσ_36 dnσ_36 k5σ_36 iz_38 if_39 gc_40_x_35 gc_40_f_39 c_40 if_41 bf_41 c_42 iz_43 iz_44; omega) | omega) (by rw [q_lnk (v := 4650) hI (q_tk (k' := 34) hI ha rfl (Nat.succ_ne_zero _)) rfl (by decide)]; omega) dX12_doOne_149 ?_
                    refine lv_topi (fun f_45 ef_45 => ?_)
                    replace hF := q_letX hF ef_45
                    have if_45 : f_45.toInt = m_c X σ_36 a ((656 + (9 * v1.toInt)) + 8) := m_rd ef_45 iz_44
                    refine q_cv (q_runV (As := [.int z_43, .int f_45]) (rest := []) E (hml.trans hl.1.symm) hI (hA σ_36 z_43 f_45 gσ_36 wσ_36 (by omega) (by first | (clear hf ht hn hd hs gσ w0σ dnσ k5σ hh hQ if_1 gc_2_f_1 c_2 if_3 iz_4 mv40_σ_5 gσ_5 w0σ_5 dnσ_5 k5σ_5 iz_6 iz_7 if_8 gc_9_f_8 c_9 gc_10_f_8 ahpσ_30 bhpσ_30 chpσ_30 c_31 gc_32_f_8 wσ_5 hm117 gσ_36 wσ_36 dnσ_36 k5σ_36 iz_38 if_39 gc_40_x_35 gc_40_f_39 c_40 if_41 bf_41 c_42 iz_43 iz_44 if_45; omega) | omega) (by first | (clear hf ht hn hd hs gσ w0σ dnσ k5σ hh hQ if_1 gc_2_f_1 c_2 if_3 iz_4 mv40_σ_5 gσ_5 w0σ_5 dnσ_5 k5σ_5 iz_6 iz_7 if_8 gc_9_f_8 c_9 gc_10_f_8 ahpσ_30 bhpσ_30 chpσ_30 c_31 gc_32_f_8 wσ_5 hm117 gσ_36 wσ_36 dnσ_36 k5σ_36 iz_38 if_39 gc_40_x_35 gc_40_f_39 c_40 if_41 bf_41 c_42 iz_43 iz_44 if_45; omega) | omega) (by rw [kqσ_36 655 (by decide)]; omega)) kv_X12_435 ha ⟨rfl, by decide⟩ (show vwCl[11]? = some (RX12, TX12, 46) from rfl) rfl (by constructor <;> (simp only [q_rm]; omega)) ⟨Nat.le_refl _, Nat.le_refl _⟩ rfl (Nat.le_of_ble_eq_true rfl) dX12_doOne_150) hI (Nat.le_of_ble_eq_true rfl) (fun σ_47 H locs hpσ_47 hkσ_47 hI => ?_)
                    have ahpσ_47 := hpσ_47.1
                    have bhpσ_47 := hpσ_47.2.1
                    have chpσ_47 := hpσ_47.2.2.1
                    have dhpσ_47 := hpσ_47.2.2.2.1
                    have ehpσ_47 := hpσ_47.2.2.2.2.1
                    have fhpσ_47 := hpσ_47.2.2.2.2.2.1
                    have ghpσ_47 := hpσ_47.2.2.2.2.2.2
                    clear hpσ_47
                    have fr_σ_47 := fr_σ_36.call ghpσ_47 rfl rfl
                    replace hF := q_letX hF fhpσ_47
                    have gσ_47 : m_G (m_c X σ_47 a) := ahpσ_47
                    have wσ_47 : m_W (m_c X σ_47 a) (n + (σ_47.1 a 40).toInt) := bhpσ_47
                    have kqσ_47 : ∀ j, 654 ≤ j → m_c X σ_47 a j = m_c X σ a j := (fun j h => (chpσ_47 j h).trans (kqσ_36 j h))
                    have dnσ_47 : (σ.1 a 40).toInt ≤ (σ_47.1 a 40).toInt ∧ (σ_47.1 a 40).toInt ≤ 300 := (by first | (clear hf ht hn hd hs gσ w0σ dnσ k5σ hh hQ if_1 gc_2_f_1 c_2 if_3 iz_4 mv40_σ_5 gσ_5 w0σ_5 dnσ_5 k5σ_5 iz_6 iz_7 if_8 gc_9_f_8 c_9 gc_10_f_8 ahpσ_30 bhpσ_30 chpσ_30 c_31 gc_32_f_8 wσ_5 hm117 gσ_36 wσ_36 dnσ_36 k5σ_36 iz_38 if_39 gc_40_x_35 gc_40_f_39 c_40 if_41 bf_41 c_42 iz_43 iz_44 if_45 ahpσ_47 bhpσ_47 chpσ_47 dhpσ_47 ehpσ_47 fhpσ_47 gσ_47 wσ_47; omega) | omega)
                    have k5σ_47 : ∀ b g, q_kd X b = 35 → σ_47.1 b g = σ.1 b g := (fun b g q => (ehpσ_47 b g q).trans (k5σ_36 b g q))
                    obtain ⟨z_48, ez_48⟩ : ∃ y : Int32, y = x_35 + 1 := ⟨_, rfl⟩
                    replace hF := q_letX hF ez_48
                    refine lv_iinc (v := z_48) (lv' := [(4, .int z_48), (0, .ref a), (1, .int v1), (2, .int z_7), (3, .int f_8)]) hx hb dX12_doOne_153 hl (k := 4) rfl (by rw [ez_48]; rfl) (by decide) rfl (fun ls hl => ?_)
                    have iz_48 : z_48.toInt = x_35.toInt + 1 := q_inc ez_48 (by first | (clear hf ht hn hd hs gσ w0σ dnσ k5σ hh hQ if_1 gc_2_f_1 c_2 if_3 iz_4 mv40_σ_5 gσ_5 w0σ_5 dnσ_5 k5σ_5 iz_6 iz_7 if_8 gc_9_f_8 c_9 gc_10_f_8 ahpσ_30 bhpσ_30 chpσ_30 c_31 gc_32_f_8 wσ_5 hm117 gσ_36 wσ_36 dnσ_36 k5σ_36 iz_38 if_39 gc_40_x_35 gc_40_f_39 c_40 if_41 bf_41 c_42 iz_43 iz_44 if_45 ahpσ_47 bhpσ_47 chpσ_47 dhpσ_47 ehpσ_47 fhpσ_47 gσ_47 wσ_47 dnσ_47 k5σ_47; omega) | omega)
                    refine lv_goto (tgt := 117) hx hb dX12_doOne_156 (by decide) ?_
                    exact ih117 z_48 σ_47 _ _ ls (by first | (clear hf ht hn hd hs gσ w0σ dnσ k5σ hh hQ if_1 gc_2_f_1 c_2 if_3 iz_4 mv40_σ_5 gσ_5 w0σ_5 dnσ_5 k5σ_5 iz_6 iz_7 if_8 gc_9_f_8 c_9 gc_10_f_8 ahpσ_30 bhpσ_30 chpσ_30 c_31 gc_32_f_8 wσ_5 hm117 gσ_36 wσ_36 dnσ_36 k5σ_36 iz_38 if_39 gc_40_x_35 gc_40_f_39 c_40 if_41 bf_41 c_42 iz_43 iz_44 if_45 ahpσ_47 bhpσ_47 chpσ_47 dhpσ_47 ehpσ_47 fhpσ_47 gσ_47 wσ_47 dnσ_47 k5σ_47 iz_48; omega) | omega) fr_σ_47 gσ_47 wσ_47 kqσ_47 dnσ_47 k5σ_47 hF hI (lv_sub hl [1, 2, 3, 4, 0] rfl)
            have kc_49 : (0 : Int32).toInt = 0 := zt_0
            exact L_117_37 ((2147483647 - (0 : Int32).toInt).toNat + 1) 0 σ_5 _ _ ls (Nat.lt_succ_self _) fr_σ_5 gσ_5 wσ_5 kqσ_5 dnσ_5 k5σ_5 hF hI (lv_sub hl [3, 4, 2, 1, 0] rfl)
        · skip
          replace hF := q_ifn hF c_31
          replace c_31 := q_ifOne bhpσ_30 c_31
          have wσ_5 : m_W (m_c X σ_5 a) (n + (σ_5.1 a 40).toInt) := m_W.le w0σ_5 (by first | (clear hf ht hn hd hs gσ w0σ dnσ k5σ hh hQ gc_2_f_1 c_2 gσ_5 w0σ_5 dnσ_5 k5σ_5 iz_6 iz_7 if_8 gc_9_f_8 c_9 gc_10_f_8 c_10 ahpσ_30 bhpσ_30 chpσ_30 c_31; omega) | omega)
          have q8 := kqσ_5 (656 + 9 * v1.toInt + 8) (by first | (clear hf ht hn hd gσ w0σ dnσ k5σ hh hQ if_1 gc_2_f_1 c_2 if_3 iz_4 mv40_σ_5 gσ_5 w0σ_5 dnσ_5 k5σ_5 iz_6 iz_7 if_8 gc_9_f_8 c_9 gc_10_f_8 c_10 ahpσ_30 bhpσ_30 chpσ_30 c_31 wσ_5; omega) | omega)
          refine lv_aload_n hx hb dX12_doOne_90 rfl (lv_at hl 2 rfl) ?_
          refine lv_iload_n hx hb dX12_doOne_91 rfl (lv_at hl 3 rfl) ?_
          refine lv_iconst (v := 1) hx hb dX12_doOne_92 zki_1 ?_
          refine lv_iadd hx hb dX12_doOne_93 ?_
          refine lv_topi (fun z_50 ez_50 => ?_)
          replace hF := q_letX hF ez_50
          have iz_50 := q_addI (A := v1.toInt) (B := 1) ez_50 rfl (by decide) (by first | (clear hf ht hn hd gσ w0σ dnσ k5σ hh hQ if_1 gc_2_f_1 c_2 if_3 iz_4 mv40_σ_5 gσ_5 w0σ_5 dnσ_5 k5σ_5 iz_6 iz_7 if_8 gc_9_f_8 c_9 gc_10_f_8 c_10 ahpσ_30 bhpσ_30 chpσ_30 c_31 wσ_5; omega) | omega) (by first | (clear hf ht hn hd gσ w0σ dnσ k5σ hh if_1 gc_2_f_1 c_2 if_3 iz_4 mv40_σ_5 gσ_5 w0σ_5 dnσ_5 k5σ_5 iz_6 iz_7 if_8 gc_9_f_8 c_9 gc_10_f_8 c_10 ahpσ_30 bhpσ_30 chpσ_30 c_31 wσ_5; omega) | omega)
          refine lv_aload_n hx hb dX12_doOne_94 rfl (lv_at hl 2 rfl) ?_
          refine gs_X12_35_12 E hI ha dX12_doOne_95 ?_
          refine lv_iload_n hx hb dX12_doOne_98 rfl (lv_at hl 1 rfl) ?_
          refine lv_bipush (v := 8) hx hb dX12_doOne_99 zkb_8 ?_
          refine lv_iadd hx hb dX12_doOne_101 ?_
          refine lv_topi (fun z_51 ez_51 => ?_)
          replace hF := q_letX hF ez_51
          have iz_51 := q_addI (A := (656 + (9 * v1.toInt))) (B := 8) ez_51 iz_7 (by decide) (by first | (clear hf ht hn hd gσ w0σ dnσ k5σ hh hQ if_1 gc_2_f_1 c_2 if_3 iz_4 mv40_σ_5 gσ_5 w0σ_5 dnσ_5 k5σ_5 iz_6 iz_7 if_8 gc_9_f_8 c_9 gc_10_f_8 c_10 ahpσ_30 bhpσ_30 chpσ_30 c_31 wσ_5; omega) | omega) (by first | (clear hf ht hn hd gσ w0σ dnσ k5σ hh if_1 gc_2_f_1 c_2 if_3 iz_4 mv40_σ_5 gσ_5 w0σ_5 dnσ_5 k5σ_5 iz_6 iz_7 if_8 gc_9_f_8 c_9 gc_10_f_8 c_10 ahpσ_30 bhpσ_30 chpσ_30 c_31 wσ_5; omega) | omega)
          refine q_iald E hI (q_tk (k' := 34) hI ha rfl (Nat.succ_ne_zero _)) ⟨by decide, rfl⟩ (by first | (clear hf ht hn hd gσ w0σ dnσ k5σ hh if_1 gc_2_f_1 c_2 if_3 iz_4 mv40_σ_5 gσ_5 w0σ_5 dnσ_5 k5σ_5 iz_6 iz_7 if_8 gc_9_f_8 c_9 gc_10_f_8 c_10 ahpσ_30 bhpσ_30 chpσ_30 c_31 wσ_5; omega) | omega) (by rw [q_lnk (v := 4650) hI (q_tk (k' := 34) hI ha rfl (Nat.succ_ne_zero _)) rfl (by decide)]; omega) dX12_doOne_102 ?_
          refine lv_topi (fun f_52 ef_52 => ?_)
          replace hF := q_letX hF ef_52
          have if_52 : f_52.toInt = m_c X σ_5 a ((656 + (9 * v1.toInt)) + 8) := m_rd ef_52 iz_51
          refine q_cv (q_runV (As := [.int z_50, .int f_52]) (rest := []) E (hml.trans hl.1.symm) hI (hA σ_5 z_50 f_52 gσ_5 wσ_5 (by omega) (by first | (clear hf ht hn hs gσ w0σ dnσ k5σ hh hQ gc_2_f_1 c_2 gσ_5 w0σ_5 k5σ_5 iz_6 iz_7 if_8 gc_9_f_8 c_9 gc_10_f_8 c_10 ahpσ_30 bhpσ_30 chpσ_30 c_31 wσ_5 iz_50 iz_51 if_52; omega) | omega) (by first | (clear hf ht hn hd gσ w0σ dnσ k5σ hh hQ if_1 gc_2_f_1 c_2 if_3 iz_4 mv40_σ_5 gσ_5 w0σ_5 dnσ_5 k5σ_5 iz_6 iz_7 if_8 gc_9_f_8 c_9 gc_10_f_8 c_10 ahpσ_30 bhpσ_30 chpσ_30 c_31 wσ_5 iz_51 if_52; omega) | omega) (by rw [kqσ_5 655 (by decide)]; omega)) kv_X12_435 ha ⟨rfl, by decide⟩ (show vwCl[11]? = some (RX12, TX12, 46) from rfl) rfl (by constructor <;> (simp only [q_rm]; omega)) ⟨Nat.le_refl _, Nat.le_refl _⟩ rfl (Nat.le_of_ble_eq_true rfl) dX12_doOne_103) hI (Nat.le_of_ble_eq_true rfl) (fun σ_54 H locs hpσ_54 hkσ_54 hI => ?_)
          have ahpσ_54 := hpσ_54.1
          have bhpσ_54 := hpσ_54.2.1
          have chpσ_54 := hpσ_54.2.2.1
          have dhpσ_54 := hpσ_54.2.2.2.1
          have ehpσ_54 := hpσ_54.2.2.2.2.1
          have fhpσ_54 := hpσ_54.2.2.2.2.2.1
          have ghpσ_54 := hpσ_54.2.2.2.2.2.2
          clear hpσ_54
          have fr_σ_54 := fr_σ_5.call ghpσ_54 rfl rfl
          replace hF := q_letX hF fhpσ_54
          have gσ_54 : m_G (m_c X σ_54 a) := ahpσ_54
          have wσ_54 : m_W (m_c X σ_54 a) (n + (σ_54.1 a 40).toInt) := bhpσ_54
          have kqσ_54 : ∀ j, 654 ≤ j → m_c X σ_54 a j = m_c X σ a j := (fun j h => (chpσ_54 j h).trans (kqσ_5 j h))
          have dnσ_54 : (σ.1 a 40).toInt ≤ (σ_54.1 a 40).toInt ∧ (σ_54.1 a 40).toInt ≤ 300 := (by first | (clear hf ht hn hd hs gσ w0σ dnσ k5σ hh hQ gc_2_f_1 c_2 gσ_5 w0σ_5 dnσ_5 k5σ_5 iz_6 iz_7 if_8 gc_9_f_8 c_9 gc_10_f_8 c_10 ahpσ_30 bhpσ_30 chpσ_30 c_31 wσ_5 iz_50 iz_51 if_52 ahpσ_54 bhpσ_54 chpσ_54 ehpσ_54 fhpσ_54 gσ_54 wσ_54; omega) | omega)
          have k5σ_54 : ∀ b g, q_kd X b = 35 → σ_54.1 b g = σ.1 b g := (fun b g q => (ehpσ_54 b g q).trans (k5σ_5 b g q))
          refine lv_goto (tgt := 172) hx hb dX12_doOne_106 (by decide) ?_
          exact q_retv E hr hlk hI ⟨gσ_54, (by first | exact wσ_54 | exact m_W.le w0σ_54 (by omega)), kqσ_54, dnσ_54, k5σ_54, (hF.trans hout), fr_σ_54⟩ dX12_doOne_172
    · skip
      replace hF := q_ifp hF c_9
      refine lv_aload_n hx hb dX12_doOne_52 rfl (lv_at hl 2 rfl) ?_
      refine lv_dup hx hb dX12_doOne_53 rfl ?_
      refine gs_X12_426_12 E hI ha dX12_doOne_54 ?_
      refine lv_topi (fun f_55 ef_55 => ?_)
      replace hF := q_letX hF ef_55
      have if_55 : f_55.toInt = (σ_5.1 a 41).toInt := congrArg Int32.toInt ef_55
      refine lv_aload_n hx hb dX12_doOne_57 rfl (lv_at hl 2 rfl) ?_
      refine lv_iload_n hx hb dX12_doOne_58 rfl (lv_at hl 1 rfl) ?_
      refine q_ci (q_runV (As := [.int z_7]) (rest := [.int f_55, .ref a]) E (hml.trans hl.1.symm) hI (c_X12_does l X σ_5 a z_7 (n + (σ.1 a 40).toInt) ha (by rw [fxσ_5]; exact hG) (by rw [fxσ_5]; exact hW) (by first | (clear hf ht hs gσ w0σ dnσ k5σ hh hQ gc_2_f_1 c_2 gσ_5 w0σ_5 k5σ_5 iz_6 iz_7 if_8 gc_9_f_8 c_9 if_55; omega) | omega) (by first | (clear hf ht hn hd gσ w0σ dnσ k5σ hh if_1 gc_2_f_1 c_2 if_3 iz_4 mv40_σ_5 gσ_5 w0σ_5 dnσ_5 k5σ_5 iz_6 if_8 gc_9_f_8 c_9 if_55; omega) | omega) (by rw [fxσ_5]; exact (by rw [iz_7]; omega)) (by rw [fxσ_5]; exact (by rw [iz_7]; omega))) kv_X12_429 ha ⟨rfl, by decide⟩ (show vwCl[11]? = some (RX12, TX12, 46) from rfl) rfl (by constructor <;> (simp only [q_rm]; omega)) ⟨Nat.le_refl _, Nat.le_refl _⟩ rfl (Nat.le_of_ble_eq_true rfl) dX12_doOne_59) hI (Nat.le_of_ble_eq_true rfl) (fun r_56 σ_57 H locs hpσ_57 hkσ_57 hI => ?_)
      have ahpσ_57 := hpσ_57.1
      have bhpσ_57 := hpσ_57.2.1
      have chpσ_57 := hpσ_57.2.2.1
      have dhpσ_57 := hpσ_57.2.2.2.1
      have ehpσ_57 := hpσ_57.2.2.2.2.1
      have fhpσ_57 := hpσ_57.2.2.2.2.2.1
      have ghpσ_57 := hpσ_57.2.2.2.2.2.2
      clear hpσ_57
      rw [fxσ_5] at dhpσ_57
      have fr_σ_57 := fr_σ_5.call ghpσ_57 rfl rfl
      replace hF := q_biX hF fhpσ_57
      have gσ_57 : m_G (m_c X σ_57 a) := bhpσ_57
      have wσ_57 : m_W (m_c X σ_57 a) (n + (σ_57.1 a 40).toInt) := (m_W.le chpσ_57 (by have q := congrArg Int32.toInt (ehpσ_57 a 40 (Or.inr ⟨ha, rfl⟩)); omega))
      have kqσ_57 : ∀ j, 654 ≤ j → m_c X σ_57 a j = m_c X σ a j := dhpσ_57
      have dnσ_57 : (σ.1 a 40).toInt ≤ (σ_57.1 a 40).toInt ∧ (σ_57.1 a 40).toInt ≤ 300 := (by have q := congrArg Int32.toInt (ehpσ_57 a 40 (Or.inr ⟨ha, rfl⟩)); omega)
      have k5σ_57 : ∀ b g, q_kd X b = 35 → σ_57.1 b g = σ.1 b g := (fun b g q => (ehpσ_57 b g (Or.inl q)).trans (k5σ_5 b g q))
      refine q_if_eq (A := r_56.toInt) E rfl (tgt := 69) dX12_doOne_62 (by decide) (fun c_58 => ?_) (fun c_58 => ?_)
      · skip
        replace hF := q_ifp hF c_58
        refine lv_iconst (v := 1) hx hb dX12_doOne_69 zki_1 ?_
        refine lv_iadd hx hb dX12_doOne_70 ?_
        refine lv_topi (fun z_59 ez_59 => ?_)
        replace hF := q_letX hF ez_59
        refine ps_X12_426_12 E hI ha (by decide) dX12_doOne_71 (fun H locs σ_60 hσ_60 hI => ?_)
        replace hF := q_letX hF hσ_60
        have fr_σ_60 := fr_σ_57.si hσ_60 ha rfl
        have mv40_σ_60 : (σ_60.1 a 40).toInt = (σ_57.1 a 40).toInt := congrArg Int32.toInt (q_rdn hσ_60 (Or.inr (by decide)))
        have mcσ_60 := m_wo hσ_60 (m_ne ha (q_tk (f := 20) (k' := 34) hI ha rfl (by decide)) (by decide))
        have gσ_60 : m_G (m_c X σ_60 a) := m_G.ext (fun j _ _ => mcσ_60 j) gσ_57
        have wσ_60 : m_W (m_c X σ_60 a) (n + (σ_60.1 a 40).toInt) := (m_W.le (m_W.ext (fun j _ _ => mcσ_60 j) wσ_57) (by first | (clear hf ht hn hd hs gσ w0σ dnσ k5σ hh hQ if_1 gc_2_f_1 c_2 if_3 iz_4 mv40_σ_5 gσ_5 w0σ_5 dnσ_5 k5σ_5 iz_6 iz_7 if_8 gc_9_f_8 c_9 if_55 ahpσ_57 bhpσ_57 chpσ_57 dhpσ_57 ehpσ_57 fhpσ_57 gσ_57 wσ_57 dnσ_57 k5σ_57 c_58 gσ_60; omega) | omega))
        have kqσ_60 : ∀ j, 654 ≤ j → m_c X σ_60 a j = m_c X σ a j := fun j h => (mcσ_60 j).trans (kqσ_57 j h)
        have dnσ_60 : (σ.1 a 40).toInt ≤ (σ_60.1 a 40).toInt ∧ (σ_60.1 a 40).toInt ≤ 300 := (by first | (clear hf ht hn hd hs gσ w0σ dnσ k5σ hh hQ gc_2_f_1 c_2 gσ_5 w0σ_5 dnσ_5 k5σ_5 iz_6 iz_7 if_8 gc_9_f_8 c_9 if_55 ahpσ_57 bhpσ_57 chpσ_57 dhpσ_57 ehpσ_57 fhpσ_57 gσ_57 wσ_57 k5σ_57 c_58 gσ_60 wσ_60; omega) | omega)
        have k5σ_60 : ∀ b g, q_kd X b = 35 → σ_60.1 b g = σ.1 b g := (fun b g q => (q_rdn hσ_60 (Or.inl (m_ne q ha (by decide)))).trans (k5σ_57 b g q))
        refine lv_goto (tgt := 172) hx hb dX12_doOne_74 (by decide) ?_
        exact q_retv E hr hlk hI ⟨gσ_60, (by first | exact wσ_60 | exact m_W.le w0σ_60 (by omega)), kqσ_60, dnσ_60, k5σ_60, (hF.trans hout), fr_σ_60⟩ dX12_doOne_172
      · skip
        replace hF := q_ifn hF c_58
        replace c_58 := q_ifOne ahpσ_57 c_58
        refine lv_iconst (v := 0) hx hb dX12_doOne_65 zki_0 ?_
        refine lv_goto (tgt := 70) hx hb dX12_doOne_66 (by decide) ?_
        refine lv_iadd hx hb dX12_doOne_70 ?_
        refine lv_topi (fun z_61 ez_61 => ?_)
        replace hF := q_letX hF ez_61
        refine ps_X12_426_12 E hI ha (by decide) dX12_doOne_71 (fun H locs σ_62 hσ_62 hI => ?_)
        replace hF := q_letX hF hσ_62
        have fr_σ_62 := fr_σ_57.si hσ_62 ha rfl
        have mv40_σ_62 : (σ_62.1 a 40).toInt = (σ_57.1 a 40).toInt := congrArg Int32.toInt (q_rdn hσ_62 (Or.inr (by decide)))
        have mcσ_62 := m_wo hσ_62 (m_ne ha (q_tk (f := 20) (k' := 34) hI ha rfl (by decide)) (by decide))
        have gσ_62 : m_G (m_c X σ_62 a) := m_G.ext (fun j _ _ => mcσ_62 j) gσ_57
        have wσ_62 : m_W (m_c X σ_62 a) (n + (σ_62.1 a 40).toInt) := (m_W.le (m_W.ext (fun j _ _ => mcσ_62 j) wσ_57) (by first | (clear hf ht hn hd hs gσ w0σ dnσ k5σ hh hQ if_1 gc_2_f_1 c_2 if_3 iz_4 mv40_σ_5 gσ_5 w0σ_5 dnσ_5 k5σ_5 iz_6 iz_7 if_8 gc_9_f_8 c_9 if_55 ahpσ_57 bhpσ_57 chpσ_57 dhpσ_57 ehpσ_57 fhpσ_57 gσ_57 wσ_57 dnσ_57 k5σ_57 c_58 gσ_62; omega) | omega))
        have kqσ_62 : ∀ j, 654 ≤ j → m_c X σ_62 a j = m_c X σ a j := fun j h => (mcσ_62 j).trans (kqσ_57 j h)
        have dnσ_62 : (σ.1 a 40).toInt ≤ (σ_62.1 a 40).toInt ∧ (σ_62.1 a 40).toInt ≤ 300 := (by first | (clear hf ht hn hd hs gσ w0σ dnσ k5σ hh hQ gc_2_f_1 c_2 gσ_5 w0σ_5 dnσ_5 k5σ_5 iz_6 iz_7 if_8 gc_9_f_8 c_9 if_55 ahpσ_57 bhpσ_57 chpσ_57 dhpσ_57 ehpσ_57 fhpσ_57 gσ_57 wσ_57 k5σ_57 c_58 gσ_62 wσ_62; omega) | omega)
        have k5σ_62 : ∀ b g, q_kd X b = 35 → σ_62.1 b g = σ.1 b g := (fun b g q => (q_rdn hσ_62 (Or.inl (m_ne q ha (by decide)))).trans (k5σ_57 b g q))
        refine lv_goto (tgt := 172) hx hb dX12_doOne_74 (by decide) ?_
        exact q_retv E hr hlk hI ⟨gσ_62, (by first | exact wσ_62 | exact m_W.le w0σ_62 (by omega)), kqσ_62, dnσ_62, k5σ_62, (hF.trans hout), fr_σ_62⟩ dX12_doOne_172
  · skip
    replace hF := q_ifp hF c_2
    refine lv_aload_n hx hb dX12_doOne_10 rfl (lv_at hl 0 rfl) ?_
    refine lv_iconst (v := 1) hx hb dX12_doOne_11 zki_1 ?_
    refine ps_X12_420_12 E hI ha (by decide) (by decide) (by decide) dX12_doOne_12 (fun H locs σ_63 hσ_63 hI => ?_)
    replace hF := q_letX hF hσ_63
    have fr_σ_63 := fr_σ.si hσ_63 ha rfl
    have mv40_σ_63 : (σ_63.1 a 40).toInt = (σ.1 a 40).toInt := congrArg Int32.toInt (q_rdn hσ_63 (Or.inr (by decide)))
    have mcσ_63 := m_wo hσ_63 (m_ne ha (q_tk (f := 20) (k' := 34) hI ha rfl (by decide)) (by decide))
    have gσ_63 : m_G (m_c X σ_63 a) := m_G.ext (fun j _ _ => mcσ_63 j) gσ
    have w0σ_63 : m_W (m_c X σ_63 a) (n + (σ.1 a 40).toInt) := m_W.ext (fun j _ _ => mcσ_63 j) w0σ
    have kqσ_63 : ∀ j, 654 ≤ j → m_c X σ_63 a j = m_c X σ a j := fun j h => (mcσ_63 j).trans (kqσ j h)
    have dnσ_63 : (σ.1 a 40).toInt ≤ (σ_63.1 a 40).toInt ∧ (σ_63.1 a 40).toInt ≤ 300 := (by first | (clear hf ht hn hd hs gσ w0σ dnσ k5σ hh hQ gc_2_f_1 gσ_63 w0σ_63; omega) | omega)
    have k5σ_63 : ∀ b g, q_kd X b = 35 → σ_63.1 b g = σ.1 b g := (fun b g q => (q_rdn hσ_63 (Or.inl (m_ne q ha (by decide)))).trans (k5σ b g q))
    have fxσ_63 : m_c X σ_63 a = m_c X σ a := (funext mcσ_63).trans fxσ
    refine lv_aload_n hx hb dX12_doOne_15 rfl (lv_at hl 0 rfl) ?_
    refine lv_iconst (v := 1) hx hb dX12_doOne_16 zki_1 ?_
    refine ps_X12_423_12 E hI ha (by decide) dX12_doOne_17 (fun H locs σ_64 hσ_64 hI => ?_)
    replace hF := q_letX hF hσ_64
    have fr_σ_64 := fr_σ_63.si hσ_64 ha rfl
    have mv40_σ_64 : (σ_64.1 a 40).toInt = (σ_63.1 a 40).toInt := congrArg Int32.toInt (q_rdn hσ_64 (Or.inr (by decide)))
    have mcσ_64 := m_wo hσ_64 (m_ne ha (q_tk (f := 20) (k' := 34) hI ha rfl (by decide)) (by decide))
    have gσ_64 : m_G (m_c X σ_64 a) := m_G.ext (fun j _ _ => mcσ_64 j) gσ_63
    have w0σ_64 : m_W (m_c X σ_64 a) (n + (σ.1 a 40).toInt) := m_W.ext (fun j _ _ => mcσ_64 j) w0σ_63
    have kqσ_64 : ∀ j, 654 ≤ j → m_c X σ_64 a j = m_c X σ a j := fun j h => (mcσ_64 j).trans (kqσ_63 j h)
    have dnσ_64 : (σ.1 a 40).toInt ≤ (σ_64.1 a 40).toInt ∧ (σ_64.1 a 40).toInt ≤ 300 := (by first | (clear hf ht hn hd hs gσ w0σ dnσ k5σ hh hQ gc_2_f_1 gσ_63 w0σ_63 dnσ_63 k5σ_63 gσ_64 w0σ_64; omega) | omega)
    have k5σ_64 : ∀ b g, q_kd X b = 35 → σ_64.1 b g = σ.1 b g := (fun b g q => (q_rdn hσ_64 (Or.inl (m_ne q ha (by decide)))).trans (k5σ_63 b g q))
    have fxσ_64 : m_c X σ_64 a = m_c X σ a := (funext mcσ_64).trans fxσ_63
    exact q_retv E hr hlk hI ⟨gσ_64, (by first | exact wσ_64 | exact m_W.le w0σ_64 (by first | (clear hf ht hn hd hs gσ w0σ dnσ k5σ hh hQ gc_2_f_1 gσ_63 w0σ_63 dnσ_63 k5σ_63 gσ_64 w0σ_64 dnσ_64 k5σ_64; omega) | omega)), kqσ_64, dnσ_64, k5σ_64, (hF.trans hout), fr_σ_64⟩ dX12_doOne_20

set_option maxRecDepth 100000 in
set_option maxHeartbeats 4000000 in
theorem c_X12_doAll_s (l : Launch) (X : XW) (σ : ST) (a : Nat) (v1 : Int32) (v2 : Int32) (n : Int) (d : Nat) (FO : ST → Int32 → ST) (hO : ∀ (σ : ST) (v1 : Int32) (hG : m_G (m_c X σ a)) (hW : m_W (m_c X σ a) (n + (σ.1 a 40).toInt)) (hn : 0 ≤ n ∧ n ≤ 199500) (hd : 0 ≤ (σ.1 a 40).toInt ∧ (σ.1 a 40).toInt ≤ 300) (hs : 29 - (d : Int) ≤ v1.toInt ∧ 0 ≤ v1.toInt ∧ v1.toInt < m_c X σ a 655), Met l yX12_doOne (q_ws yX12_doOne cX12_doOne 5 none) (q_rm (8 + 2 * d) (181 + 47 * d)) (q_P X σ [.ref a, .int v1]) (q_Qv X 1 σ (fun (σ' : ST) => (m_G (m_c X σ' a)) ∧ (m_W (m_c X σ' a) (n + (σ'.1 a 40).toInt)) ∧ (∀ j, 654 ≤ j → m_c X σ' a j = m_c X σ a j) ∧ ((σ.1 a 40).toInt ≤ (σ'.1 a 40).toInt ∧ (σ'.1 a 40).toInt ≤ 300) ∧ (∀ b g, q_kd X b = 35 → σ'.1 b g = σ.1 b g) ∧ σ' = FO σ v1 ∧ q_ow [(12, 38), (12, 39), (12, 40), (12, 41), (12, 42), (12, 43), (12, 44), (12, 45), (34, 99), (39, 99)] [] X σ σ')) 0 0 (q_reg X)) (ha : q_kd X a = 12) (hG : m_G (m_c X σ a)) (hW : m_W (m_c X σ a) (n + (σ.1 a 40).toInt)) (hn : 0 ≤ n ∧ n ≤ 199500) (hd : 0 ≤ (σ.1 a 40).toInt ∧ (σ.1 a 40).toInt ≤ 300) (hf : 29 - (d : Int) ≤ v1.toInt ∧ 0 ≤ v1.toInt) (ht : v2.toInt ≤ m_c X σ a 655) : Met l yX12_doAll (q_ws yX12_doAll cX12_doAll 4 none) (q_rm (7 + 2 * (d + 1)) (158 + 47 * (d + 1))) (q_P X σ [.ref a, .int v1, .int v2]) (q_Qv X 1 σ (fun (σ' : ST) => (m_G (m_c X σ' a)) ∧ (m_W (m_c X σ' a) (n + (σ'.1 a 40).toInt)) ∧ (∀ j, 654 ≤ j → m_c X σ' a j = m_c X σ a j) ∧ ((σ.1 a 40).toInt ≤ (σ'.1 a 40).toInt ∧ (σ'.1 a 40).toInt ≤ 300) ∧ (∀ b g, q_kd X b = 35 → σ'.1 b g = σ.1 b g) ∧ σ' = F_X12_doAll_s X σ a v1 v2 FO ∧ q_ow [(12, 38), (12, 39), (12, 40), (12, 41), (12, 42), (12, 43), (12, 44), (12, 45), (34, 99), (39, 99)] [] X σ σ')) 0 0 (q_reg X) := by
  refine q_met 1 (by first | exact rfl | decide +kernel) rfl (Nat.le_of_ble_eq_true rfl) (fun p e s m below meth c E hml hr hlk hI ls hl => ?_)
  have hx := E.1
  have hb := E.2.1
  have hl : lv_has ls 4 [(0, .ref a), (1, .int v1), (2, .int v2)] := hl
  have gσ : m_G (m_c X σ a) := hG
  have wσ : m_W (m_c X σ a) (n + (σ.1 a 40).toInt) := hW
  have kqσ : ∀ j, 654 ≤ j → m_c X σ a j = m_c X σ a j := fun _ _ => rfl
  have dnσ : (σ.1 a 40).toInt ≤ (σ.1 a 40).toInt ∧ (σ.1 a 40).toInt ≤ 300 := (by first | (clear hs hn hf ht gσ wσ; omega) | omega)
  have k5σ : ∀ b g, q_kd X b = 35 → σ.1 b g = σ.1 b g := fun _ _ _ => rfl
  have fr_σ : q_ow [(12, 38), (12, 39), (12, 40), (12, 41), (12, 42), (12, 43), (12, 44), (12, 45), (34, 99), (39, 99)] [] X σ σ := q_ow.rf
  have hh := hG.hd
  have hQ := hG.2.2.2.2.2.1
  obtain ⟨out, hout⟩ : ∃ o, o = F_X12_doAll_s X σ a v1 v2 FO := ⟨_, rfl⟩
  have hF := hout.symm
  unfold F_X12_doAll_s at hF
  refine lv_iload_n hx hb dX12_doAll_0 rfl (lv_at hl 1 rfl) ?_
  refine lv_istore_n (lv' := [(3, .int v1), (0, .ref a), (1, .int v1), (2, .int v2)]) hx hb dX12_doAll_1 rfl hl (by decide) rfl (fun ls hl => ?_)
  have L_2_3 : ∀ (k_3 : Nat) (x_1 : Int32) (σ_2 : ST) (H : Heap) (locs : List Loc) (ls : Array Slot), (31 - x_1.toInt).toNat < k_3 → (29 - (d : Int) ≤ x_1.toInt ∧ 0 ≤ x_1.toInt) → (q_ow [(12, 38), (12, 39), (12, 40), (12, 41), (12, 42), (12, 43), (12, 44), (12, 45), (34, 99), (39, 99)] [] X σ σ_2) → (m_G (m_c X σ_2 a)) → (m_W (m_c X σ_2 a) (n + (σ_2.1 a 40).toInt)) → (∀ j, 654 ≤ j → m_c X σ_2 a j = m_c X σ a j) → ((σ.1 a 40).toInt ≤ (σ_2.1 a 40).toInt ∧ (σ_2.1 a 40).toInt ≤ 300) → (∀ b g, q_kd X b = 35 → σ_2.1 b g = σ.1 b g) → (F_X12_doAll_s_L2_1 X v2 a FO k_3 x_1 σ_2 = out) → q_I X 1 σ s.heap locs σ_2 H → lv_has ls 4 [(0, .ref a), (1, .int v1), (2, .int v2), (3, .int x_1)] → W p l e (q_rm (7 + 2 * (d + 1)) (158 + 47 * (d + 1))) s m ([.ref a, .int v1, .int v2] : List Value).toArray below meth c H locs 0 0 (MQ below (q_Qv X 1 σ (fun (σ' : ST) => (m_G (m_c X σ' a)) ∧ (m_W (m_c X σ' a) (n + (σ'.1 a 40).toInt)) ∧ (∀ j, 654 ≤ j → m_c X σ' a j = m_c X σ a j) ∧ ((σ.1 a 40).toInt ≤ (σ'.1 a 40).toInt ∧ (σ'.1 a 40).toInt ≤ 300) ∧ (∀ b g, q_kd X b = 35 → σ'.1 b g = σ.1 b g) ∧ σ' = F_X12_doAll_s X σ a v1 v2 FO ∧ q_ow [(12, 38), (12, 39), (12, 40), (12, 41), (12, 42), (12, 43), (12, 44), (12, 45), (34, 99), (39, 99)] [] X σ σ')) ([.ref a, .int v1, .int v2] : List Value).toArray s 0 0 (q_reg X)) (F0 m 2 ls []) := by
    clear hF
    intro k_3
    induction k_3 with
    | zero =>
      intro x_1 σ_2 H locs ls hms
      try clear kqσ; try clear dnσ; try clear fr_σ
      exact absurd hms (Nat.not_lt_zero _)
    | succ k_3 ih2 =>
      intro x_1 σ_2 H locs ls hm2 hge2 fr_σ_2 gσ_2 wσ_2 kqσ_2 dnσ_2 k5σ_2 hF hI hl
      replace hF := (F_X12_doAll_s_L2_1_s).symm.trans hF
      unfold F_X12_doAll_s_B2_1 at hF
      have q5 := kqσ_2 655 (by decide)
      refine lv_iload_n hx hb dX12_doAll_2 rfl (lv_at hl 3 rfl) ?_
      refine lv_iload_n hx hb dX12_doAll_3 rfl (lv_at hl 2 rfl) ?_
      have gc_4_x_1 := q_rng x_1
      have gc_4_v2 := q_rng v2
      refine q_icmp_ge (A := x_1.toInt) (B := v2.toInt) E rfl rfl (tgt := 39) dX12_doAll_4 (by decide) (fun c_4 => ?_) (fun c_4 => ?_)
      · skip
        replace hF := q_ifn hF (Int.not_lt.mpr c_4)
        skip
        exact q_retv E hr hlk hI ⟨gσ_2, (by first | exact wσ_2 | exact m_W.le w0σ_2 (by omega)), kqσ_2, dnσ_2, k5σ_2, (hF.trans hout), fr_σ_2⟩ dX12_doAll_39
      · skip
        replace hF := q_ifp hF c_4
        refine lv_aload_n hx hb dX12_doAll_7 rfl (lv_at hl 0 rfl) ?_
        refine gs_X12_420_12 E hI ha dX12_doAll_8 ?_
        refine lv_topi (fun f_5 ef_5 => ?_)
        replace hF := q_letX hF ef_5
        have if_5 : f_5.toInt = (σ_2.1 a 38).toInt := congrArg Int32.toInt ef_5
        have bf_5 : 0 ≤ f_5.toInt ∧ f_5.toInt ≤ 1 := by rw [ef_5]; exact q_bd hI ha rfl
        refine q_if_ne (A := f_5.toInt) E rfl (tgt := 39) dX12_doAll_11 (by decide) (fun c_6 => ?_) (fun c_6 => ?_)
        · skip
          replace hF := q_ifn hF c_6
          skip
          exact q_retv E hr hlk hI ⟨gσ_2, (by first | exact wσ_2 | exact m_W.le w0σ_2 (by omega)), kqσ_2, dnσ_2, k5σ_2, (hF.trans hout), fr_σ_2⟩ dX12_doAll_39
        · skip
          replace hF := q_ifp hF c_6
          refine lv_aload_n hx hb dX12_doAll_14 rfl (lv_at hl 0 rfl) ?_
          refine lv_iload_n hx hb dX12_doAll_15 rfl (lv_at hl 3 rfl) ?_
          refine q_cv (q_runV (As := [.int x_1]) (rest := []) E (hml.trans hl.1.symm) hI (hO σ_2 x_1 gσ_2 wσ_2 (by omega) (by first | (clear hs hn hf ht gσ wσ k5σ hh hQ hm2 hge2 gσ_2 wσ_2 k5σ_2 gc_4_x_1 gc_4_v2 c_4 if_5 bf_5 c_6; omega) | omega) (by first | (clear hs hn hd hf gσ wσ k5σ hh hQ hm2 gσ_2 wσ_2 dnσ_2 k5σ_2 gc_4_v2 if_5 bf_5 c_6; omega) | omega)) kv_X12_438 ha ⟨rfl, by decide⟩ (show vwCl[11]? = some (RX12, TX12, 46) from rfl) rfl (by constructor <;> (simp only [q_rm]; omega)) ⟨Nat.le_refl _, Nat.le_refl _⟩ rfl (Nat.le_of_ble_eq_true rfl) dX12_doAll_16) hI (Nat.le_of_ble_eq_true rfl) (fun σ_8 H locs hpσ_8 hkσ_8 hI => ?_)
          have ahpσ_8 := hpσ_8.1
          have bhpσ_8 := hpσ_8.2.1
          have chpσ_8 := hpσ_8.2.2.1
          have dhpσ_8 := hpσ_8.2.2.2.1
          have ehpσ_8 := hpσ_8.2.2.2.2.1
          have fhpσ_8 := hpσ_8.2.2.2.2.2.1
          have ghpσ_8 := hpσ_8.2.2.2.2.2.2
          clear hpσ_8
          have fr_σ_8 := fr_σ_2.call ghpσ_8 rfl rfl
          replace hF := q_letX hF fhpσ_8
          have gσ_8 : m_G (m_c X σ_8 a) := ahpσ_8
          have wσ_8 : m_W (m_c X σ_8 a) (n + (σ_8.1 a 40).toInt) := bhpσ_8
          have kqσ_8 : ∀ j, 654 ≤ j → m_c X σ_8 a j = m_c X σ a j := (fun j h => (chpσ_8 j h).trans (kqσ_2 j h))
          have dnσ_8 : (σ.1 a 40).toInt ≤ (σ_8.1 a 40).toInt ∧ (σ_8.1 a 40).toInt ≤ 300 := (by first | (clear hs hn hd hf ht gσ wσ k5σ hh hQ hm2 hge2 gσ_2 wσ_2 k5σ_2 gc_4_x_1 gc_4_v2 c_4 if_5 bf_5 c_6 ahpσ_8 bhpσ_8 chpσ_8 ehpσ_8 fhpσ_8 gσ_8 wσ_8; omega) | omega)
          have k5σ_8 : ∀ b g, q_kd X b = 35 → σ_8.1 b g = σ.1 b g := (fun b g q => (ehpσ_8 b g q).trans (k5σ_2 b g q))
          have q8 := kqσ_8 (656 + 9 * x_1.toInt + 8) (by first | (clear hs hn hd hf ht gσ wσ k5σ hh hQ hm2 gσ_2 wσ_2 dnσ_2 k5σ_2 gc_4_v2 c_4 if_5 bf_5 c_6 ahpσ_8 bhpσ_8 chpσ_8 dhpσ_8 ehpσ_8 fhpσ_8 gσ_8 wσ_8 dnσ_8 k5σ_8; omega) | omega)
          have st := hG.2.2.2.2.2.2 x_1.toInt (by first | (clear hs hn hd hf ht gσ wσ k5σ hh hQ hm2 gσ_2 wσ_2 dnσ_2 k5σ_2 gc_4_v2 c_4 if_5 bf_5 c_6 ahpσ_8 bhpσ_8 chpσ_8 dhpσ_8 ehpσ_8 fhpσ_8 gσ_8 wσ_8 dnσ_8 k5σ_8; omega) | omega) (by first | (clear hs hn hd hf gσ wσ k5σ hh hQ hm2 hge2 gσ_2 wσ_2 dnσ_2 k5σ_2 gc_4_x_1 gc_4_v2 if_5 bf_5 c_6 ahpσ_8 bhpσ_8 chpσ_8 dhpσ_8 ehpσ_8 fhpσ_8 gσ_8 wσ_8 dnσ_8 k5σ_8; omega) | omega)
          have s4 := st.2.2.2
          refine lv_aload_n hx hb dX12_doAll_19 rfl (lv_at hl 0 rfl) ?_
          refine gs_X12_35_12 E hI ha dX12_doAll_20 ?_
          refine lv_sipush (v := 656) hx hb dX12_doAll_23 zks_656 ?_
          refine lv_bipush (v := 9) hx hb dX12_doAll_26 zkb_9 ?_
          refine lv_iload_n hx hb dX12_doAll_28 rfl (lv_at hl 3 rfl) ?_
          refine lv_imul hx hb dX12_doAll_29 ?_
          refine lv_topi (fun z_9 ez_9 => ?_)
          replace hF := q_letX hF ez_9
          have iz_9 := q_mulI (A := 9) (B := x_1.toInt) ez_9 (by decide) rfl (by first | (clear hs hn hd hf ht gσ wσ k5σ hh hQ hm2 gσ_2 wσ_2 dnσ_2 k5σ_2 gc_4_v2 c_4 if_5 bf_5 c_6 ahpσ_8 bhpσ_8 chpσ_8 dhpσ_8 ehpσ_8 fhpσ_8 gσ_8 wσ_8 dnσ_8 k5σ_8; omega) | omega) (by first | (clear hs hn hd hf ht gσ wσ k5σ hh hm2 gσ_2 wσ_2 dnσ_2 k5σ_2 gc_4_v2 c_4 if_5 bf_5 c_6 ahpσ_8 bhpσ_8 chpσ_8 dhpσ_8 ehpσ_8 fhpσ_8 gσ_8 wσ_8 dnσ_8 k5σ_8; omega) | omega)
          refine lv_iadd hx hb dX12_doAll_30 ?_
          refine lv_topi (fun z_10 ez_10 => ?_)
          replace hF := q_letX hF ez_10
          have iz_10 := q_addI (A := 656) (B := (9 * x_1.toInt)) ez_10 (by decide) iz_9 (by first | (clear hs hn hd hf ht gσ wσ k5σ hh hQ hm2 gσ_2 wσ_2 dnσ_2 k5σ_2 gc_4_v2 c_4 if_5 bf_5 c_6 ahpσ_8 bhpσ_8 chpσ_8 dhpσ_8 ehpσ_8 fhpσ_8 gσ_8 wσ_8 dnσ_8 k5σ_8 iz_9; omega) | omega) (by first | (clear hs hn hd hf ht gσ wσ k5σ hh hm2 gσ_2 wσ_2 dnσ_2 k5σ_2 gc_4_v2 c_4 if_5 bf_5 c_6 ahpσ_8 bhpσ_8 chpσ_8 dhpσ_8 ehpσ_8 fhpσ_8 gσ_8 wσ_8 dnσ_8 k5σ_8 iz_9; omega) | omega)
          refine lv_bipush (v := 8) hx hb dX12_doAll_31 zkb_8 ?_
          refine lv_iadd hx hb dX12_doAll_33 ?_
          refine lv_topi (fun z_11 ez_11 => ?_)
          replace hF := q_letX hF ez_11
          have iz_11 := q_addI (A := (656 + (9 * x_1.toInt))) (B := 8) ez_11 iz_10 (by decide) (by first | (clear hs hn hd hf ht gσ wσ k5σ hh hQ hm2 gσ_2 wσ_2 dnσ_2 k5σ_2 gc_4_v2 c_4 if_5 bf_5 c_6 ahpσ_8 bhpσ_8 chpσ_8 dhpσ_8 ehpσ_8 fhpσ_8 gσ_8 wσ_8 dnσ_8 k5σ_8 iz_9 iz_10; omega) | omega) (by first | (clear hs hn hd hf ht gσ wσ k5σ hh hm2 gσ_2 wσ_2 dnσ_2 k5σ_2 gc_4_v2 c_4 if_5 bf_5 c_6 ahpσ_8 bhpσ_8 chpσ_8 dhpσ_8 ehpσ_8 fhpσ_8 gσ_8 wσ_8 dnσ_8 k5σ_8 iz_9 iz_10; omega) | omega)
          refine q_iald E hI (q_tk (k' := 34) hI ha rfl (Nat.succ_ne_zero _)) ⟨by decide, rfl⟩ (by first | (clear hs hn hd hf ht gσ wσ k5σ hh hQ hm2 gσ_2 wσ_2 dnσ_2 k5σ_2 if_5 bf_5 c_6 ahpσ_8 bhpσ_8 chpσ_8 dhpσ_8 ehpσ_8 fhpσ_8 gσ_8 wσ_8 dnσ_8 k5σ_8 iz_9 iz_10; omega) | omega) (by rw [q_lnk (v := 4650) hI (q_tk (k' := 34) hI ha rfl (Nat.succ_ne_zero _)) rfl (by decide)]; omega) dX12_doAll_34 ?_
          refine lv_topi (fun f_12 ef_12 => ?_)
          replace hF := q_letX hF ef_12
          have if_12 : f_12.toInt = m_c X σ_8 a ((656 + (9 * x_1.toInt)) + 8) := m_rd ef_12 iz_11
          refine lv_istore_n (lv' := [(3, .int f_12), (0, .ref a), (1, .int v1), (2, .int v2)]) hx hb dX12_doAll_35 rfl hl (by decide) rfl (fun ls hl => ?_)
          refine lv_goto (tgt := 2) hx hb dX12_doAll_36 (by decide) ?_
          exact ih2 f_12 σ_8 _ _ ls (by first | (clear hs hn hd hf ht gσ wσ k5σ hh gσ_2 wσ_2 dnσ_2 k5σ_2 gc_4_v2 c_4 if_5 bf_5 c_6 ahpσ_8 bhpσ_8 chpσ_8 dhpσ_8 ehpσ_8 fhpσ_8 gσ_8 wσ_8 dnσ_8 k5σ_8 iz_9 iz_10 iz_11; omega) | omega) (by first | (clear hs hn hd hf ht gσ wσ k5σ hh hQ hm2 gσ_2 wσ_2 dnσ_2 k5σ_2 gc_4_v2 c_4 if_5 bf_5 c_6 ahpσ_8 bhpσ_8 chpσ_8 dhpσ_8 ehpσ_8 fhpσ_8 gσ_8 wσ_8 dnσ_8 k5σ_8 iz_9 iz_10 iz_11; omega) | omega) fr_σ_8 gσ_8 wσ_8 kqσ_8 dnσ_8 k5σ_8 hF hI (lv_sub hl [1, 2, 3, 0] rfl)
  exact L_2_3 ((31 - v1.toInt).toNat + 1) v1 σ _ _ ls (Nat.lt_succ_self _) (by omega) fr_σ gσ wσ kqσ dnσ k5σ hF hI (lv_sub hl [1, 2, 3, 0] rfl)

/-- all depths -/
theorem c_X12_doAllN (l : Launch) (X : XW) (a : Nat) (n : Int) (ha : q_kd X a = 12) (d : Nat) (hd30 : d ≤ 30) : ∀ (σ : ST) (v1 v2 : Int32) (hG : m_G (m_c X σ a)) (hW : m_W (m_c X σ a) (n + (σ.1 a 40).toInt)) (hn : 0 ≤ n ∧ n ≤ 199500) (hd : 0 ≤ (σ.1 a 40).toInt ∧ (σ.1 a 40).toInt ≤ 300) (hf : 30 - (d : Int) ≤ v1.toInt ∧ 0 ≤ v1.toInt) (ht : v2.toInt ≤ m_c X σ a 655), Met l yX12_doAll (q_ws yX12_doAll cX12_doAll 4 none) (q_rm (7 + 2 * d) (158 + 47 * d)) (q_P X σ [.ref a, .int v1, .int v2]) (q_Qv X 1 σ (fun (σ' : ST) => (m_G (m_c X σ' a)) ∧ (m_W (m_c X σ' a) (n + (σ'.1 a 40).toInt)) ∧ (∀ j, 654 ≤ j → m_c X σ' a j = m_c X σ a j) ∧ ((σ.1 a 40).toInt ≤ (σ'.1 a 40).toInt ∧ (σ'.1 a 40).toInt ≤ 300) ∧ (∀ b g, q_kd X b = 35 → σ'.1 b g = σ.1 b g) ∧ σ' = F_X12_doAllN X a d σ v1 v2 ∧ q_ow [(12, 38), (12, 39), (12, 40), (12, 41), (12, 42), (12, 43), (12, 44), (12, 45), (34, 99), (39, 99)] [] X σ σ')) 0 0 (q_reg X) := by
  induction d with
  | zero =>
    intro σ v1 v2 hG hW hn hd hf ht
    exact c_X12_doAll_z l X σ a v1 v2 n ha hG hW hn hd (by first | (clear hd30 hn hd ht; omega) | omega) ht
  | succ d ih =>
    intro σ v1 v2 hG hW hn hd hf ht
    have hO : ∀ (σ : ST) (v1 : Int32) (hG : m_G (m_c X σ a)) (hW : m_W (m_c X σ a) (n + (σ.1 a 40).toInt)) (hn : 0 ≤ n ∧ n ≤ 199500) (hd : 0 ≤ (σ.1 a 40).toInt ∧ (σ.1 a 40).toInt ≤ 300) (hs : 29 - (d : Int) ≤ v1.toInt ∧ 0 ≤ v1.toInt ∧ v1.toInt < m_c X σ a 655), Met l yX12_doOne (q_ws yX12_doOne cX12_doOne 5 none) (q_rm (8 + 2 * d) (181 + 47 * d)) (q_P X σ [.ref a, .int v1]) (q_Qv X 1 σ (fun (σ' : ST) => (m_G (m_c X σ' a)) ∧ (m_W (m_c X σ' a) (n + (σ'.1 a 40).toInt)) ∧ (∀ j, 654 ≤ j → m_c X σ' a j = m_c X σ a j) ∧ ((σ.1 a 40).toInt ≤ (σ'.1 a 40).toInt ∧ (σ'.1 a 40).toInt ≤ 300) ∧ (∀ b g, q_kd X b = 35 → σ'.1 b g = σ.1 b g) ∧ σ' = (fun τ w => F_X12_doOne_s X τ a w (F_X12_doAllN X a d)) σ v1 ∧ q_ow [(12, 38), (12, 39), (12, 40), (12, 41), (12, 42), (12, 43), (12, 44), (12, 45), (34, 99), (39, 99)] [] X σ σ')) 0 0 (q_reg X) := fun σ v1 hG hW hn hd hs => c_X12_doOne_s l X σ a v1 n d (F_X12_doAllN X a d) (ih (by first | (clear hn hd hf ht; omega) | omega)) ha hG hW hn hd hs
    exact c_X12_doAll_s l X σ a v1 v2 n d (fun τ w => F_X12_doOne_s X τ a w (F_X12_doAllN X a d)) hO ha hG hW hn hd (by first | (clear hd30 hn hd ht; omega) | omega) ht

set_option maxRecDepth 100000 in
set_option maxHeartbeats 4000000 in
theorem c_X12_plays (l : Launch) (X : XW) (σ : ST) (a : Nat) (v1 : Int32) (n : Int) (ha : q_kd X a = 12) (hG : m_G (m_c X σ a)) (hW : m_W (m_c X σ a) n) (hn : 0 ≤ n ∧ n ≤ 199500) : Met l yX12_plays (q_ws yX12_plays cX12_plays 2 none) (q_rm 68 1591) (q_P X σ [.ref a, .int v1]) (q_Qv X 1 σ (fun (σ' : ST) => (m_G (m_c X σ' a)) ∧ (m_W (m_c X σ' a) (n + 300)) ∧ (∀ j, 654 ≤ j → m_c X σ' a j = m_c X σ a j) ∧ (∀ b g, q_kd X b = 35 → σ'.1 b g = σ.1 b g) ∧ σ' = F_X12_plays X σ a v1 ∧ q_ow [(12, 38), (12, 39), (12, 40), (12, 41), (12, 42), (12, 43), (12, 44), (12, 45), (34, 99), (39, 99)] [] X σ σ')) 0 0 (q_reg X) := by
  refine q_met 1 (by first | exact rfl | decide +kernel) rfl (Nat.le_of_ble_eq_true rfl) (fun p e s m below meth c E hml hr hlk hI ls hl => ?_)
  have hx := E.1
  have hb := E.2.1
  have hl : lv_has ls 2 [(0, .ref a), (1, .int v1)] := hl
  have gσ : m_G (m_c X σ a) := hG
  have w0σ : m_W (m_c X σ a) n := hW
  have kqσ : ∀ j, 654 ≤ j → m_c X σ a j = m_c X σ a j := fun _ _ => rfl
  have k5σ : ∀ b g, q_kd X b = 35 → σ.1 b g = σ.1 b g := fun _ _ _ => rfl
  have fr_σ : q_ow [(12, 38), (12, 39), (12, 40), (12, 41), (12, 42), (12, 43), (12, 44), (12, 45), (34, 99), (39, 99)] [] X σ σ := q_ow.rf
  have hh := hG.hd
  have hQ := hG.2.2.2.2.2.1
  obtain ⟨out, hout⟩ : ∃ o, o = F_X12_plays X σ a v1 := ⟨_, rfl⟩
  have hF := hout.symm
  unfold F_X12_plays at hF
  refine lv_aload_n hx hb dX12_plays_0 rfl (lv_at hl 0 rfl) ?_
  refine lv_iload_n hx hb dX12_plays_1 rfl (lv_at hl 1 rfl) ?_
  refine ps_X12_395_12 E hI ha (by decide) dX12_plays_2 (fun H locs σ_1 hσ_1 hI => ?_)
  replace hF := q_letX hF hσ_1
  have fr_σ_1 := fr_σ.si hσ_1 ha rfl
  have mv40_σ_1 : (σ_1.1 a 40).toInt = (σ.1 a 40).toInt := congrArg Int32.toInt (q_rdn hσ_1 (Or.inr (by decide)))
  have mcσ_1 := m_wo hσ_1 (m_ne ha (q_tk (f := 20) (k' := 34) hI ha rfl (by decide)) (by decide))
  have gσ_1 : m_G (m_c X σ_1 a) := m_G.ext (fun j _ _ => mcσ_1 j) gσ
  have w0σ_1 : m_W (m_c X σ_1 a) n := m_W.ext (fun j _ _ => mcσ_1 j) w0σ
  have kqσ_1 : ∀ j, 654 ≤ j → m_c X σ_1 a j = m_c X σ a j := fun j h => (mcσ_1 j).trans (kqσ j h)
  have k5σ_1 : ∀ b g, q_kd X b = 35 → σ_1.1 b g = σ.1 b g := (fun b g q => (q_rdn hσ_1 (Or.inl (m_ne q ha (by decide)))).trans (k5σ b g q))
  refine lv_aload_n hx hb dX12_plays_5 rfl (lv_at hl 0 rfl) ?_
  refine lv_iconst (v := 0) hx hb dX12_plays_6 zki_0 ?_
  refine ps_X12_417_12 E hI ha (by decide) dX12_plays_7 (fun H locs σ_2 hσ_2 hI => ?_)
  replace hF := q_letX hF hσ_2
  have fr_σ_2 := fr_σ_1.si hσ_2 ha rfl
  have mv40_σ_2 : (σ_2.1 a 40).toInt = 0 := by rw [q_rd hσ_2]; rfl
  have mcσ_2 := m_wo hσ_2 (m_ne ha (q_tk (f := 20) (k' := 34) hI ha rfl (by decide)) (by decide))
  have gσ_2 : m_G (m_c X σ_2 a) := m_G.ext (fun j _ _ => mcσ_2 j) gσ_1
  have w0σ_2 : m_W (m_c X σ_2 a) n := m_W.ext (fun j _ _ => mcσ_2 j) w0σ_1
  have kqσ_2 : ∀ j, 654 ≤ j → m_c X σ_2 a j = m_c X σ a j := fun j h => (mcσ_2 j).trans (kqσ_1 j h)
  have deσ_2 : 0 ≤ (σ_2.1 a 40).toInt ∧ (σ_2.1 a 40).toInt ≤ 300 := (by first | (clear hn gσ w0σ k5σ hh hQ mv40_σ_1 gσ_1 w0σ_1 k5σ_1 gσ_2 w0σ_2; omega) | omega)
  have k5σ_2 : ∀ b g, q_kd X b = 35 → σ_2.1 b g = σ.1 b g := (fun b g q => (q_rdn hσ_2 (Or.inl (m_ne q ha (by decide)))).trans (k5σ_1 b g q))
  refine lv_aload_n hx hb dX12_plays_10 rfl (lv_at hl 0 rfl) ?_
  refine lv_iconst (v := 0) hx hb dX12_plays_11 zki_0 ?_
  refine ps_X12_426_12 E hI ha (by decide) dX12_plays_12 (fun H locs σ_3 hσ_3 hI => ?_)
  replace hF := q_letX hF hσ_3
  have fr_σ_3 := fr_σ_2.si hσ_3 ha rfl
  have mv40_σ_3 : (σ_3.1 a 40).toInt = (σ_2.1 a 40).toInt := congrArg Int32.toInt (q_rdn hσ_3 (Or.inr (by decide)))
  have mcσ_3 := m_wo hσ_3 (m_ne ha (q_tk (f := 20) (k' := 34) hI ha rfl (by decide)) (by decide))
  have gσ_3 : m_G (m_c X σ_3 a) := m_G.ext (fun j _ _ => mcσ_3 j) gσ_2
  have w0σ_3 : m_W (m_c X σ_3 a) n := m_W.ext (fun j _ _ => mcσ_3 j) w0σ_2
  have kqσ_3 : ∀ j, 654 ≤ j → m_c X σ_3 a j = m_c X σ a j := fun j h => (mcσ_3 j).trans (kqσ_2 j h)
  have deσ_3 : 0 ≤ (σ_3.1 a 40).toInt ∧ (σ_3.1 a 40).toInt ≤ 300 := (by first | (clear hn gσ w0σ k5σ hh hQ mv40_σ_1 gσ_1 w0σ_1 k5σ_1 gσ_2 w0σ_2 k5σ_2 gσ_3 w0σ_3; omega) | omega)
  have k5σ_3 : ∀ b g, q_kd X b = 35 → σ_3.1 b g = σ.1 b g := (fun b g q => (q_rdn hσ_3 (Or.inl (m_ne q ha (by decide)))).trans (k5σ_2 b g q))
  refine lv_aload_n hx hb dX12_plays_15 rfl (lv_at hl 0 rfl) ?_
  refine lv_iconst (v := 0) hx hb dX12_plays_16 zki_0 ?_
  refine ps_X12_405_12 E hI ha (by decide) dX12_plays_17 (fun H locs σ_4 hσ_4 hI => ?_)
  replace hF := q_letX hF hσ_4
  have fr_σ_4 := fr_σ_3.si hσ_4 ha rfl
  have mv40_σ_4 : (σ_4.1 a 40).toInt = (σ_3.1 a 40).toInt := congrArg Int32.toInt (q_rdn hσ_4 (Or.inr (by decide)))
  have mcσ_4 := m_wo hσ_4 (m_ne ha (q_tk (f := 20) (k' := 34) hI ha rfl (by decide)) (by decide))
  have gσ_4 : m_G (m_c X σ_4 a) := m_G.ext (fun j _ _ => mcσ_4 j) gσ_3
  have w0σ_4 : m_W (m_c X σ_4 a) n := m_W.ext (fun j _ _ => mcσ_4 j) w0σ_3
  have kqσ_4 : ∀ j, 654 ≤ j → m_c X σ_4 a j = m_c X σ a j := fun j h => (mcσ_4 j).trans (kqσ_3 j h)
  have deσ_4 : 0 ≤ (σ_4.1 a 40).toInt ∧ (σ_4.1 a 40).toInt ≤ 300 := (by first | (clear hn gσ w0σ k5σ hh hQ mv40_σ_1 gσ_1 w0σ_1 k5σ_1 gσ_2 w0σ_2 k5σ_2 gσ_3 w0σ_3 k5σ_3 gσ_4 w0σ_4; omega) | omega)
  have k5σ_4 : ∀ b g, q_kd X b = 35 → σ_4.1 b g = σ.1 b g := (fun b g q => (q_rdn hσ_4 (Or.inl (m_ne q ha (by decide)))).trans (k5σ_3 b g q))
  refine lv_aload_n hx hb dX12_plays_20 rfl (lv_at hl 0 rfl) ?_
  refine lv_iconst (v := 0) hx hb dX12_plays_21 zki_0 ?_
  refine ps_X12_408_12 E hI ha (by decide) dX12_plays_22 (fun H locs σ_5 hσ_5 hI => ?_)
  replace hF := q_letX hF hσ_5
  have fr_σ_5 := fr_σ_4.si hσ_5 ha rfl
  have mv40_σ_5 : (σ_5.1 a 40).toInt = (σ_4.1 a 40).toInt := congrArg Int32.toInt (q_rdn hσ_5 (Or.inr (by decide)))
  have mcσ_5 := m_wo hσ_5 (m_ne ha (q_tk (f := 20) (k' := 34) hI ha rfl (by decide)) (by decide))
  have gσ_5 : m_G (m_c X σ_5 a) := m_G.ext (fun j _ _ => mcσ_5 j) gσ_4
  have w0σ_5 : m_W (m_c X σ_5 a) n := m_W.ext (fun j _ _ => mcσ_5 j) w0σ_4
  have kqσ_5 : ∀ j, 654 ≤ j → m_c X σ_5 a j = m_c X σ a j := fun j h => (mcσ_5 j).trans (kqσ_4 j h)
  have deσ_5 : 0 ≤ (σ_5.1 a 40).toInt ∧ (σ_5.1 a 40).toInt ≤ 300 := (by first | (clear hn gσ w0σ k5σ hh hQ mv40_σ_1 gσ_1 w0σ_1 k5σ_1 gσ_2 w0σ_2 k5σ_2 gσ_3 w0σ_3 k5σ_3 gσ_4 w0σ_4 k5σ_4 gσ_5 w0σ_5; omega) | omega)
  have k5σ_5 : ∀ b g, q_kd X b = 35 → σ_5.1 b g = σ.1 b g := (fun b g q => (q_rdn hσ_5 (Or.inl (m_ne q ha (by decide)))).trans (k5σ_4 b g q))
  refine lv_aload_n hx hb dX12_plays_25 rfl (lv_at hl 0 rfl) ?_
  refine lv_iconst (v := 0) hx hb dX12_plays_26 zki_0 ?_
  refine ps_X12_411_12 E hI ha (by decide) dX12_plays_27 (fun H locs σ_6 hσ_6 hI => ?_)
  replace hF := q_letX hF hσ_6
  have fr_σ_6 := fr_σ_5.si hσ_6 ha rfl
  have mv40_σ_6 : (σ_6.1 a 40).toInt = (σ_5.1 a 40).toInt := congrArg Int32.toInt (q_rdn hσ_6 (Or.inr (by decide)))
  have mcσ_6 := m_wo hσ_6 (m_ne ha (q_tk (f := 20) (k' := 34) hI ha rfl (by decide)) (by decide))
  have gσ_6 : m_G (m_c X σ_6 a) := m_G.ext (fun j _ _ => mcσ_6 j) gσ_5
  have w0σ_6 : m_W (m_c X σ_6 a) n := m_W.ext (fun j _ _ => mcσ_6 j) w0σ_5
  have kqσ_6 : ∀ j, 654 ≤ j → m_c X σ_6 a j = m_c X σ a j := fun j h => (mcσ_6 j).trans (kqσ_5 j h)
  have deσ_6 : 0 ≤ (σ_6.1 a 40).toInt ∧ (σ_6.1 a 40).toInt ≤ 300 := (by first | (clear hn gσ w0σ k5σ hh hQ mv40_σ_1 gσ_1 w0σ_1 k5σ_1 gσ_2 w0σ_2 k5σ_2 gσ_3 w0σ_3 k5σ_3 gσ_4 w0σ_4 k5σ_4 gσ_5 w0σ_5 k5σ_5 gσ_6 w0σ_6; omega) | omega)
  have k5σ_6 : ∀ b g, q_kd X b = 35 → σ_6.1 b g = σ.1 b g := (fun b g q => (q_rdn hσ_6 (Or.inl (m_ne q ha (by decide)))).trans (k5σ_5 b g q))
  refine lv_aload_n hx hb dX12_plays_30 rfl (lv_at hl 0 rfl) ?_
  refine lv_iconst (v := 0) hx hb dX12_plays_31 zki_0 ?_
  refine ps_X12_423_12 E hI ha (by decide) dX12_plays_32 (fun H locs σ_7 hσ_7 hI => ?_)
  replace hF := q_letX hF hσ_7
  have fr_σ_7 := fr_σ_6.si hσ_7 ha rfl
  have mv40_σ_7 : (σ_7.1 a 40).toInt = (σ_6.1 a 40).toInt := congrArg Int32.toInt (q_rdn hσ_7 (Or.inr (by decide)))
  have mcσ_7 := m_wo hσ_7 (m_ne ha (q_tk (f := 20) (k' := 34) hI ha rfl (by decide)) (by decide))
  have gσ_7 : m_G (m_c X σ_7 a) := m_G.ext (fun j _ _ => mcσ_7 j) gσ_6
  have w0σ_7 : m_W (m_c X σ_7 a) n := m_W.ext (fun j _ _ => mcσ_7 j) w0σ_6
  have kqσ_7 : ∀ j, 654 ≤ j → m_c X σ_7 a j = m_c X σ a j := fun j h => (mcσ_7 j).trans (kqσ_6 j h)
  have deσ_7 : 0 ≤ (σ_7.1 a 40).toInt ∧ (σ_7.1 a 40).toInt ≤ 300 := (by first | (clear hn gσ w0σ k5σ hh hQ mv40_σ_1 gσ_1 w0σ_1 k5σ_1 gσ_2 w0σ_2 k5σ_2 gσ_3 w0σ_3 k5σ_3 gσ_4 w0σ_4 k5σ_4 gσ_5 w0σ_5 k5σ_5 gσ_6 w0σ_6 k5σ_6 gσ_7 w0σ_7; omega) | omega)
  have k5σ_7 : ∀ b g, q_kd X b = 35 → σ_7.1 b g = σ.1 b g := (fun b g q => (q_rdn hσ_7 (Or.inl (m_ne q ha (by decide)))).trans (k5σ_6 b g q))
  refine lv_aload_n hx hb dX12_plays_35 rfl (lv_at hl 0 rfl) ?_
  refine lv_iconst (v := 0) hx hb dX12_plays_36 zki_0 ?_
  refine ps_X12_420_12 E hI ha (by decide) (by decide) (by decide) dX12_plays_37 (fun H locs σ_8 hσ_8 hI => ?_)
  replace hF := q_letX hF hσ_8
  have fr_σ_8 := fr_σ_7.si hσ_8 ha rfl
  have mv40_σ_8 : (σ_8.1 a 40).toInt = (σ_7.1 a 40).toInt := congrArg Int32.toInt (q_rdn hσ_8 (Or.inr (by decide)))
  have mcσ_8 := m_wo hσ_8 (m_ne ha (q_tk (f := 20) (k' := 34) hI ha rfl (by decide)) (by decide))
  have gσ_8 : m_G (m_c X σ_8 a) := m_G.ext (fun j _ _ => mcσ_8 j) gσ_7
  have w0σ_8 : m_W (m_c X σ_8 a) n := m_W.ext (fun j _ _ => mcσ_8 j) w0σ_7
  have kqσ_8 : ∀ j, 654 ≤ j → m_c X σ_8 a j = m_c X σ a j := fun j h => (mcσ_8 j).trans (kqσ_7 j h)
  have deσ_8 : 0 ≤ (σ_8.1 a 40).toInt ∧ (σ_8.1 a 40).toInt ≤ 300 := (by first | (clear hn gσ w0σ k5σ hh hQ mv40_σ_1 gσ_1 w0σ_1 k5σ_1 gσ_2 w0σ_2 k5σ_2 gσ_3 w0σ_3 k5σ_3 gσ_4 w0σ_4 k5σ_4 gσ_5 w0σ_5 k5σ_5 gσ_6 w0σ_6 k5σ_6 gσ_7 w0σ_7 k5σ_7 gσ_8 w0σ_8; omega) | omega)
  have k5σ_8 : ∀ b g, q_kd X b = 35 → σ_8.1 b g = σ.1 b g := (fun b g q => (q_rdn hσ_8 (Or.inl (m_ne q ha (by decide)))).trans (k5σ_7 b g q))
  refine lv_aload_n hx hb dX12_plays_40 rfl (lv_at hl 0 rfl) ?_
  refine lv_iconst (v := 0) hx hb dX12_plays_41 zki_0 ?_
  refine lv_aload_n hx hb dX12_plays_42 rfl (lv_at hl 0 rfl) ?_
  refine gs_X12_35_12 E hI ha dX12_plays_43 ?_
  refine lv_sipush (v := 655) hx hb dX12_plays_46 zks_655 ?_
  refine q_iald E hI (q_tk (k' := 34) hI ha rfl (Nat.succ_ne_zero _)) ⟨by decide, rfl⟩ (by decide) (by rw [q_lnk (v := 4650) hI (q_tk (k' := 34) hI ha rfl (Nat.succ_ne_zero _)) rfl (by decide)]; decide) dX12_plays_49 ?_
  refine lv_topi (fun f_9 ef_9 => ?_)
  replace hF := q_letX hF ef_9
  have if_9 : f_9.toInt = m_c X σ_8 a 655 := m_rd ef_9 (by decide)
  have kc_10 : (0 : Int32).toInt = 0 := zt_0
  refine q_cv (q_rV11_2 (rest := []) E (hml.trans hl.1.symm) hI (c_X12_doAllN l X a n ha 30 (by decide) σ_8 (0 : Int32) f_9 gσ_8 (m_W.le w0σ_8 (by first | (clear hn gσ w0σ k5σ hh hQ mv40_σ_1 gσ_1 w0σ_1 k5σ_1 gσ_2 w0σ_2 k5σ_2 gσ_3 w0σ_3 k5σ_3 gσ_4 w0σ_4 k5σ_4 gσ_5 w0σ_5 k5σ_5 gσ_6 w0σ_6 k5σ_6 gσ_7 w0σ_7 k5σ_7 gσ_8 w0σ_8 k5σ_8 if_9 kc_10; omega) | omega)) (by omega) (by omega) (by first | (clear hn gσ w0σ k5σ hh hQ mv40_σ_1 gσ_1 w0σ_1 k5σ_1 mv40_σ_2 gσ_2 w0σ_2 k5σ_2 mv40_σ_3 gσ_3 w0σ_3 k5σ_3 mv40_σ_4 gσ_4 w0σ_4 k5σ_4 mv40_σ_5 gσ_5 w0σ_5 k5σ_5 mv40_σ_6 gσ_6 w0σ_6 k5σ_6 mv40_σ_7 gσ_7 w0σ_7 k5σ_7 mv40_σ_8 gσ_8 w0σ_8 k5σ_8 if_9; omega) | omega) (by first | (clear hn gσ w0σ k5σ hh hQ mv40_σ_1 gσ_1 w0σ_1 k5σ_1 mv40_σ_2 gσ_2 w0σ_2 k5σ_2 mv40_σ_3 gσ_3 w0σ_3 k5σ_3 mv40_σ_4 gσ_4 w0σ_4 k5σ_4 mv40_σ_5 gσ_5 w0σ_5 k5σ_5 mv40_σ_6 gσ_6 w0σ_6 k5σ_6 mv40_σ_7 gσ_7 w0σ_7 k5σ_7 mv40_σ_8 gσ_8 w0σ_8 k5σ_8 kc_10; omega) | omega)) kv_X12_435 ha ⟨Nat.le_of_ble_eq_true rfl, Nat.le_of_ble_eq_true rfl⟩ (Nat.le_of_ble_eq_true rfl) dX12_plays_50) hI (Nat.le_of_ble_eq_true rfl) (fun σ_12 H locs hpσ_12 hkσ_12 hI => ?_)
  have ahpσ_12 := hpσ_12.1
  have bhpσ_12 := hpσ_12.2.1
  have chpσ_12 := hpσ_12.2.2.1
  have dhpσ_12 := hpσ_12.2.2.2.1
  have ehpσ_12 := hpσ_12.2.2.2.2.1
  have fhpσ_12 := hpσ_12.2.2.2.2.2.1
  have ghpσ_12 := hpσ_12.2.2.2.2.2.2
  clear hpσ_12
  have fr_σ_12 := fr_σ_8.call ghpσ_12 rfl rfl
  replace hF := q_letX hF fhpσ_12
  have gσ_12 : m_G (m_c X σ_12 a) := ahpσ_12
  have wσ_12 : m_W (m_c X σ_12 a) (n + (σ_12.1 a 40).toInt) := bhpσ_12
  have kqσ_12 : ∀ j, 654 ≤ j → m_c X σ_12 a j = m_c X σ a j := (fun j h => (chpσ_12 j h).trans (kqσ_8 j h))
  have deσ_12 : 0 ≤ (σ_12.1 a 40).toInt ∧ (σ_12.1 a 40).toInt ≤ 300 := (by first | (clear hn gσ w0σ k5σ hh hQ mv40_σ_1 gσ_1 w0σ_1 k5σ_1 gσ_2 w0σ_2 k5σ_2 gσ_3 w0σ_3 k5σ_3 gσ_4 w0σ_4 k5σ_4 gσ_5 w0σ_5 k5σ_5 gσ_6 w0σ_6 k5σ_6 gσ_7 w0σ_7 k5σ_7 gσ_8 w0σ_8 k5σ_8 if_9 kc_10 ahpσ_12 bhpσ_12 chpσ_12 ehpσ_12 fhpσ_12 gσ_12 wσ_12; omega) | omega)
  have k5σ_12 : ∀ b g, q_kd X b = 35 → σ_12.1 b g = σ.1 b g := (fun b g q => (ehpσ_12 b g q).trans (k5σ_8 b g q))
  exact q_retv E hr hlk hI ⟨gσ_12, (m_W.le wσ_12 (by first | (clear hn gσ w0σ k5σ hh hQ mv40_σ_1 gσ_1 w0σ_1 k5σ_1 gσ_2 w0σ_2 k5σ_2 gσ_3 w0σ_3 k5σ_3 gσ_4 w0σ_4 k5σ_4 gσ_5 w0σ_5 k5σ_5 gσ_6 w0σ_6 k5σ_6 gσ_7 w0σ_7 k5σ_7 gσ_8 w0σ_8 k5σ_8 if_9 kc_10 ahpσ_12 bhpσ_12 chpσ_12 ehpσ_12 fhpσ_12 gσ_12 wσ_12 k5σ_12; omega) | omega)), kqσ_12, k5σ_12, (hF.trans hout), fr_σ_12⟩ dX12_plays_53
end
/-! FROM 47.marks.a.lean.txt -/
section
section QS
variable {p : Program} {l : Launch} {e : Env} {R : Room} {s : State} {m : MethodId} {args : Array Value} {below : List Frame} {meth : Method} {c : Code} {H : Heap} {locs : List Loc} {cells slots : Nat} {Q : State → Prop} {cc : ByteArray} {X : XW} {n : Nat} {σ0 σ : ST} {H0 : Heap} {pc : Nat} {ls : Array Slot} {rest : List Value} {a : Nat}
theorem kv_X12_443 : q_okV RX12 443 RX12 yX12_plays cX12_plays 2 none 1 := ⟨(q_in_t9 (i := 146) (by first | rfl | decide +kernel) rfl), (q_in_t9 (i := 148) (by first | rfl | decide +kernel) rfl), (q_in_p (i := 105) (by decide +kernel) rfl), (q_in_t1 (i := 14) (by first | rfl | decide +kernel) rfl), (q_in_t9 (i := 149) (by first | rfl | decide +kernel) rfl), ⟨rfl, by decide, by decide, rfl⟩⟩
theorem gs_X12_423_12 (E : q_E p c cc s m args RX12 X) (hI : q_I X n σ0 H0 locs σ H) (ha : q_kd X a = 12) (hdg : decode cc pc = .ok (.getfield 423, 3)) (kk : W p l e R s m args below meth c H locs cells slots Q (F0 m (pc + 3) ls (.int (σ.1 a 45) :: rest))) : W p l e R s m args below meth c H locs cells slots Q (F0 m pc ls (.ref a :: rest)) :=
  q_getf (ref := "CheatHeapModel") E hI ha ⟨rfl, by decide⟩ (show vwCl[11]? = some (RX12, TX12, 46) from rfl) q_inX12 (f := 45) (by decide) (q_in_t7 (i := 30) (by first | rfl | decide +kernel) rfl) (Or.inl rfl) rfl hdg kk
theorem ps_X12_446_12 (E : q_E p c cc s m args RX12 X) (hI : q_I X n σ0 H0 locs σ H) (ha : q_kd X a = 12) {v : Int32} (hcl : n < 9) (h1 : 0 ≤ v.toInt) (h2 : v.toInt ≤ 1) (hdg : decode cc pc = .ok (.putfield 446, 3)) (kk : ∀ (H1 : Heap) (locs1 : List Loc) (σ1 : ST), σ1 = q_si σ a 37 v → q_I X n σ0 H0 locs1 σ1 H1 → W p l e R s m args below meth c H1 locs1 cells slots Q (F0 m (pc + 3) ls rest)) : W p l e R s m args below meth c H locs cells slots Q (F0 m pc ls (.int v :: .ref a :: rest)) :=
  q_puti (ref := "CheatHeapModel") E hI ha ⟨rfl, by decide⟩ (show vwCl[11]? = some (RX12, TX12, 46) from rfl) q_inX12 tyX12_ok nmX12 (f := 37) (by decide) (q_in_t7 (i := 22) (by first | rfl | decide +kernel) rfl) (Or.inl rfl) rfl rfl hcl hdg (q_inB rfl h1 h2) (Or.inr ⟨rfl, h1, h2⟩) (fun H1 l1 h => kk H1 l1 _ rfl h)
theorem gs_X12_38_12 (E : q_E p c cc s m args RX12 X) (hI : q_I X n σ0 H0 locs σ H) (ha : q_kd X a = 12) (hdg : decode cc pc = .ok (.getfield 38, 3)) (kk : W p l e R s m args below meth c H locs cells slots Q (F0 m (pc + 3) ls (.ref (q_rf X a 21) :: rest))) : W p l e R s m args below meth c H locs cells slots Q (F0 m pc ls (.ref a :: rest)) :=
  q_getf (ref := "CheatHeapModel") E hI ha ⟨rfl, by decide⟩ (show vwCl[11]? = some (RX12, TX12, 46) from rfl) q_inX12 (f := 21) (by decide) (q_in_t7 (i := 6) (by first | rfl | decide +kernel) rfl) (Or.inl rfl) rfl hdg kk
theorem kv_X12_451 : q_okV RX12 451 RX12 yX12_tries cX12_tries 8 (some .boolean) 4 := ⟨(q_in_t9 (i := 187) (by first | rfl | decide +kernel) rfl), (q_in_t9 (i := 189) (by first | rfl | decide +kernel) rfl), (q_in_p (i := 113) (by decide +kernel) rfl), (q_in_t1 (i := 14) (by first | rfl | decide +kernel) rfl), (q_in_t9 (i := 190) (by first | rfl | decide +kernel) rfl), ⟨rfl, by decide, by decide, rfl⟩⟩
theorem gs_X12_455_12 (E : q_E p c cc s m args RX12 X) (hI : q_I X n σ0 H0 locs σ H) (ha : q_kd X a = 12) (hdg : decode cc pc = .ok (.getfield 455, 3)) (kk : W p l e R s m args below meth c H locs cells slots Q (F0 m (pc + 3) ls (.int (σ.1 a 24) :: rest))) : W p l e R s m args below meth c H locs cells slots Q (F0 m pc ls (.ref a :: rest)) :=
  q_getf (ref := "CheatHeapModel") E hI ha ⟨rfl, by decide⟩ (show vwCl[11]? = some (RX12, TX12, 46) from rfl) q_inX12 (f := 24) (by decide) (q_in_t7 (i := 9) (by first | rfl | decide +kernel) rfl) (Or.inl rfl) rfl hdg kk
theorem ps_X12_455_12 (E : q_E p c cc s m args RX12 X) (hI : q_I X n σ0 H0 locs σ H) (ha : q_kd X a = 12) {v : Int32} (hcl : n < 1) (h1 : 0 ≤ v.toInt) (h2 : v.toInt ≤ 3) (hdg : decode cc pc = .ok (.putfield 455, 3)) (kk : ∀ (H1 : Heap) (locs1 : List Loc) (σ1 : ST), σ1 = q_si σ a 24 v → q_I X n σ0 H0 locs1 σ1 H1 → W p l e R s m args below meth c H1 locs1 cells slots Q (F0 m (pc + 3) ls rest)) : W p l e R s m args below meth c H locs cells slots Q (F0 m pc ls (.int v :: .ref a :: rest)) :=
  q_puti (ref := "CheatHeapModel") E hI ha ⟨rfl, by decide⟩ (show vwCl[11]? = some (RX12, TX12, 46) from rfl) q_inX12 tyX12_ok nmX12 (f := 24) (by decide) (q_in_t7 (i := 9) (by first | rfl | decide +kernel) rfl) (Or.inl rfl) rfl rfl hcl hdg (q_inB rfl h1 h2) (Or.inl rfl) (fun H1 l1 h => kk H1 l1 _ rfl h)
end QS
end
/-! FROM 47.marks.b00.lean.txt -/
section
set_option maxRecDepth 100000 in
set_option maxHeartbeats 4000000 in
theorem c_X12_play (l : Launch) (X : XW) (σ : ST) (a : Nat) (v1 : Int32) (n : Int) (ha : q_kd X a = 12) (hG : m_G (m_c X σ a)) (hW : m_W (m_c X σ a) n) (hn : 0 ≤ n ∧ n ≤ 199000) : Met l yX12_play (q_ws yX12_play cX12_play 2 (some .int)) (q_rm 69 1612) (q_P X σ [.ref a, .int v1]) (q_Qi X 1 σ (fun (r : Int32) (σ' : ST) => (m_G (m_c X σ' a)) ∧ (m_W (m_c X σ' a) (n + 301)) ∧ (∀ j, 930 ≤ j → j < 3720 → m_c X σ' a j = m_c X σ a j) ∧ (r, σ') = F_X12_play X σ a v1 ∧ q_ow [(12, 0), (12, 1), (12, 37), (12, 38), (12, 39), (12, 40), (12, 41), (12, 42), (12, 43), (12, 44), (12, 45), (34, 99), (39, 99), (41, 99)] [] X σ σ')) 0 0 (q_reg X) := by
  refine q_met 1 (by first | exact rfl | decide +kernel) rfl (Nat.le_of_ble_eq_true rfl) (fun p e s m below meth c E hml hr hlk hI ls hl => ?_)
  have hx := E.1
  have hb := E.2.1
  have hl : lv_has ls 2 [(0, .ref a), (1, .int v1)] := hl
  have gσ : m_G (m_c X σ a) := hG
  have wσ : m_W (m_c X σ a) n := hW
  have kqσ : ∀ j, 654 ≤ j → m_c X σ a j = m_c X σ a j := fun _ _ => rfl
  have fxσ : m_c X σ a = m_c X σ a := rfl
  have fr_σ : q_ow [(12, 0), (12, 1), (12, 37), (12, 38), (12, 39), (12, 40), (12, 41), (12, 42), (12, 43), (12, 44), (12, 45), (34, 99), (39, 99), (41, 99)] [] X σ σ := q_ow.rf
  have hh := hG.hd
  obtain ⟨out, hout⟩ : ∃ o, o = F_X12_play X σ a v1 := ⟨_, rfl⟩
  have hF := hout.symm
  unfold F_X12_play at hF
  refine lv_aload_n hx hb dX12_play_0 rfl (lv_at hl 0 rfl) ?_
  refine lv_iconst (v := 0) hx hb dX12_play_1 zki_0 ?_
  refine ps_X12_59_12 E hI ha (by decide) dX12_play_2 (fun H locs σ_1 hσ_1 hI => ?_)
  replace hF := q_letX hF hσ_1
  have fr_σ_1 := fr_σ.si hσ_1 ha rfl
  have mcσ_1 := m_wo hσ_1 (m_ne ha (q_tk (f := 20) (k' := 34) hI ha rfl (by decide)) (by decide))
  have gσ_1 : m_G (m_c X σ_1 a) := m_G.ext (fun j _ _ => mcσ_1 j) gσ
  have wσ_1 : m_W (m_c X σ_1 a) n := m_W.ext (fun j _ _ => mcσ_1 j) wσ
  have kqσ_1 : ∀ j, 654 ≤ j → m_c X σ_1 a j = m_c X σ a j := fun j h => (mcσ_1 j).trans (kqσ j h)
  have fxσ_1 : m_c X σ_1 a = m_c X σ a := (funext mcσ_1).trans fxσ
  refine lv_aload_n hx hb dX12_play_5 rfl (lv_at hl 0 rfl) ?_
  refine lv_iconst (v := 0) hx hb dX12_play_6 zki_0 ?_
  refine ps_X12_62_12 E hI ha (by decide) dX12_play_7 (fun H locs σ_2 hσ_2 hI => ?_)
  replace hF := q_letX hF hσ_2
  have fr_σ_2 := fr_σ_1.si hσ_2 ha rfl
  have mcσ_2 := m_wo hσ_2 (m_ne ha (q_tk (f := 20) (k' := 34) hI ha rfl (by decide)) (by decide))
  have gσ_2 : m_G (m_c X σ_2 a) := m_G.ext (fun j _ _ => mcσ_2 j) gσ_1
  have wσ_2 : m_W (m_c X σ_2 a) n := m_W.ext (fun j _ _ => mcσ_2 j) wσ_1
  have kqσ_2 : ∀ j, 654 ≤ j → m_c X σ_2 a j = m_c X σ a j := fun j h => (mcσ_2 j).trans (kqσ_1 j h)
  have fxσ_2 : m_c X σ_2 a = m_c X σ a := (funext mcσ_2).trans fxσ_1
  refine lv_iload_n hx hb dX12_play_10 rfl (lv_at hl 1 rfl) ?_
  refine lv_i2l hx hb dX12_play_11 rfl ?_
  refine lv_topl (fun y_3 ey_3 => ?_)
  replace hF := q_letX hF ey_3
  have ggy_3 := q_rng v1
  have iy_3 : y_3.toInt = v1.toInt := by rw [ey_3]; exact (q_i2l _).trans rfl
  refine lv_lconst (v := 0) hx hb dX12_play_12 (by decide) ?_
  refine lv_ldc2 (v := 9999) hx hb E.2.2.1 (E.2.2.2.1 _ (q_in_t9 (i := 145) (by first | rfl | decide +kernel) rfl)) dX12_play_13 ?_
  have kc_4 : (0 : Int64).toInt = 0 := rfl
  have kc_5 : (9999 : Int64).toInt = 9999 := rfl
  refine q_ci (q_runS (As := [.long y_3, .long 0, .long 9999]) (rest := []) E (hml.trans hl.1.symm) hI (c_X12_isIn l X σ_2 y_3 (0 : Int64) (9999 : Int64)) ks_X12_94 rfl ⟨Nat.le_of_ble_eq_true rfl, Nat.le_of_ble_eq_true rfl⟩ ⟨Nat.le_refl _, Nat.le_refl _⟩ rfl (Nat.le_of_ble_eq_true rfl) dX12_play_16) hI (Nat.le_of_ble_eq_true rfl) (fun r_6 σ_7 H locs hpσ_7 hkσ_7 hI => ?_)
  have ahpσ_7 := hpσ_7.1
  have bhpσ_7 := hpσ_7.2.1
  have chpσ_7 := hpσ_7.2.2.1
  have dhpσ_7 := hpσ_7.2.2.2
  clear hpσ_7
  replace hI := q_Irw ahpσ_7 hI
  replace hF := q_letX hF dhpσ_7
  refine q_if_ne (A := r_6.toInt) E rfl (tgt := 28) dX12_play_19 (by decide) (fun c_8 => ?_) (fun c_8 => ?_)
  · skip
    replace hF := q_ifn hF c_8
    replace c_8 := q_ifOne bhpσ_7 c_8
    replace chpσ_7 := q_ifYes chpσ_7 c_8
    refine lv_aload_n hx hb dX12_play_28 rfl (lv_at hl 0 rfl) ?_
    refine gs_X12_35_12 E hI ha dX12_play_29 ?_
    refine lv_sipush (v := 654) hx hb dX12_play_32 zks_654 ?_
    refine q_iald E hI (q_tk (k' := 34) hI ha rfl (Nat.succ_ne_zero _)) ⟨by decide, rfl⟩ (by decide) (by rw [q_lnk (v := 4650) hI (q_tk (k' := 34) hI ha rfl (Nat.succ_ne_zero _)) rfl (by decide)]; decide) dX12_play_35 ?_
    refine lv_topi (fun f_9 ef_9 => ?_)
    replace hF := q_letX hF ef_9
    have if_9 : f_9.toInt = m_c X σ a 654 := (m_rd ef_9 (by decide)).trans (congrFun fxσ_2 _)
    refine q_if_ne (A := f_9.toInt) E rfl (tgt := 46) dX12_play_36 (by decide) (fun c_10 => ?_) (fun c_10 => ?_)
    · skip
      replace hF := q_ifn hF c_10
      refine lv_aload_n hx hb dX12_play_46 rfl (lv_at hl 0 rfl) ?_
      refine lv_iload_n hx hb dX12_play_47 rfl (lv_at hl 1 rfl) ?_
      refine q_cv (q_rV11_1 (rest := []) E (hml.trans hl.1.symm) hI (c_X12_plays l X σ_2 a v1 n ha gσ_2 wσ_2 (by first | (clear gσ wσ hh gσ_1 wσ_1 gσ_2 wσ_2 ggy_3 iy_3 kc_4 kc_5 ahpσ_7 bhpσ_7 dhpσ_7 c_8 chpσ_7 if_9 c_10; omega) | omega)) kv_X12_443 ha ⟨Nat.le_of_ble_eq_true rfl, Nat.le_of_ble_eq_true rfl⟩ (Nat.le_of_ble_eq_true rfl) dX12_play_48) hI (Nat.le_of_ble_eq_true rfl) (fun σ_12 H locs hpσ_12 hkσ_12 hI => ?_)
      have ahpσ_12 := hpσ_12.1
      have bhpσ_12 := hpσ_12.2.1
      have chpσ_12 := hpσ_12.2.2.1
      have dhpσ_12 := hpσ_12.2.2.2.1
      have ehpσ_12 := hpσ_12.2.2.2.2.1
      have fhpσ_12 := hpσ_12.2.2.2.2.2
      clear hpσ_12
      have fr_σ_12 := fr_σ_2.call fhpσ_12 rfl rfl
      replace hF := q_letX hF ehpσ_12
      have gσ_12 : m_G (m_c X σ_12 a) := ahpσ_12
      have vσ_12 : m_W (m_c X σ_12 a) (n + 300) := bhpσ_12
      have kqσ_12 : ∀ j, 654 ≤ j → m_c X σ_12 a j = m_c X σ a j := (fun j h => (chpσ_12 j h).trans (kqσ_2 j h))
      refine lv_aload_n hx hb dX12_play_51 rfl (lv_at hl 0 rfl) ?_
      refine gs_X12_56_12 E hI ha dX12_play_52 ?_
      refine lv_iconst (v := 0) hx hb dX12_play_55 zki_0 ?_
      refine lv_aload_n hx hb dX12_play_56 rfl (lv_at hl 0 rfl) ?_
      refine gs_X12_426_12 E hI ha dX12_play_57 ?_
      refine lv_topi (fun f_13 ef_13 => ?_)
      replace hF := q_letX hF ef_13
      have if_13 : f_13.toInt = (σ_12.1 a 41).toInt := congrArg Int32.toInt ef_13
      refine q_iastN E hI (q_tk (k' := 41) hI ha rfl (Nat.succ_ne_zero _)) ⟨by decide, rfl⟩ (by decide) (by rw [q_lnk (v := 5) hI (q_tk (k' := 41) hI ha rfl (Nat.succ_ne_zero _)) rfl (by decide)]; decide) (show 1 < 9 by decide) (q_inU rfl) dX12_play_60 (fun H locs σ_14 hσ_14 hI => ?_)
      replace hF := q_letX hF hσ_14
      have fr_σ_14 := fr_σ_12.si hσ_14 (q_tk (k' := 41) hI ha rfl (Nat.succ_ne_zero _)) rfl
      have mcσ_14 := m_wo hσ_14 (m_ne (q_tk (k' := 41) hI ha rfl (Nat.succ_ne_zero _)) (q_tk (f := 20) (k' := 34) hI ha rfl (by decide)) (by decide))
      have gσ_14 : m_G (m_c X σ_14 a) := m_G.ext (fun j _ _ => mcσ_14 j) gσ_12
      have vσ_14 : m_W (m_c X σ_14 a) (n + 300) := m_W.ext (fun j _ _ => mcσ_14 j) vσ_12
      have kqσ_14 : ∀ j, 654 ≤ j → m_c X σ_14 a j = m_c X σ a j := fun j h => (mcσ_14 j).trans (kqσ_12 j h)
      refine lv_aload_n hx hb dX12_play_61 rfl (lv_at hl 0 rfl) ?_
      refine gs_X12_56_12 E hI ha dX12_play_62 ?_
      refine lv_iconst (v := 1) hx hb dX12_play_65 zki_1 ?_
      refine lv_aload_n hx hb dX12_play_66 rfl (lv_at hl 0 rfl) ?_
      refine gs_X12_405_12 E hI ha dX12_play_67 ?_
      refine lv_topi (fun f_15 ef_15 => ?_)
      replace hF := q_letX hF ef_15
      have if_15 : f_15.toInt = (σ_14.1 a 42).toInt := congrArg Int32.toInt ef_15
      refine q_iastN E hI (q_tk (k' := 41) hI ha rfl (Nat.succ_ne_zero _)) ⟨by decide, rfl⟩ (by decide) (by rw [q_lnk (v := 5) hI (q_tk (k' := 41) hI ha rfl (Nat.succ_ne_zero _)) rfl (by decide)]; decide) (show 1 < 9 by decide) (q_inU rfl) dX12_play_70 (fun H locs σ_16 hσ_16 hI => ?_)
      replace hF := q_letX hF hσ_16
      have fr_σ_16 := fr_σ_14.si hσ_16 (q_tk (k' := 41) hI ha rfl (Nat.succ_ne_zero _)) rfl
      have mcσ_16 := m_wo hσ_16 (m_ne (q_tk (k' := 41) hI ha rfl (Nat.succ_ne_zero _)) (q_tk (f := 20) (k' := 34) hI ha rfl (by decide)) (by decide))
      have gσ_16 : m_G (m_c X σ_16 a) := m_G.ext (fun j _ _ => mcσ_16 j) gσ_14
      have vσ_16 : m_W (m_c X σ_16 a) (n + 300) := m_W.ext (fun j _ _ => mcσ_16 j) vσ_14
      have kqσ_16 : ∀ j, 654 ≤ j → m_c X σ_16 a j = m_c X σ a j := fun j h => (mcσ_16 j).trans (kqσ_14 j h)
      refine lv_aload_n hx hb dX12_play_71 rfl (lv_at hl 0 rfl) ?_
      refine gs_X12_56_12 E hI ha dX12_play_72 ?_
      refine lv_iconst (v := 2) hx hb dX12_play_75 zki_2 ?_
      refine lv_aload_n hx hb dX12_play_76 rfl (lv_at hl 0 rfl) ?_
      refine gs_X12_408_12 E hI ha dX12_play_77 ?_
      refine lv_topi (fun f_17 ef_17 => ?_)
      replace hF := q_letX hF ef_17
      have if_17 : f_17.toInt = (σ_16.1 a 43).toInt := congrArg Int32.toInt ef_17
      refine q_iastN E hI (q_tk (k' := 41) hI ha rfl (Nat.succ_ne_zero _)) ⟨by decide, rfl⟩ (by decide) (by rw [q_lnk (v := 5) hI (q_tk (k' := 41) hI ha rfl (Nat.succ_ne_zero _)) rfl (by decide)]; decide) (show 1 < 9 by decide) (q_inU rfl) dX12_play_80 (fun H locs σ_18 hσ_18 hI => ?_)
      replace hF := q_letX hF hσ_18
      have fr_σ_18 := fr_σ_16.si hσ_18 (q_tk (k' := 41) hI ha rfl (Nat.succ_ne_zero _)) rfl
      have mcσ_18 := m_wo hσ_18 (m_ne (q_tk (k' := 41) hI ha rfl (Nat.succ_ne_zero _)) (q_tk (f := 20) (k' := 34) hI ha rfl (by decide)) (by decide))
      have gσ_18 : m_G (m_c X σ_18 a) := m_G.ext (fun j _ _ => mcσ_18 j) gσ_16
      have vσ_18 : m_W (m_c X σ_18 a) (n + 300) := m_W.ext (fun j _ _ => mcσ_18 j) vσ_16
      have kqσ_18 : ∀ j, 654 ≤ j → m_c X σ_18 a j = m_c X σ a j := fun j h => (mcσ_18 j).trans (kqσ_16 j h)
      refine lv_aload_n hx hb dX12_play_81 rfl (lv_at hl 0 rfl) ?_
      refine gs_X12_56_12 E hI ha dX12_play_82 ?_
      refine lv_iconst (v := 3) hx hb dX12_play_85 zki_3 ?_
      refine lv_aload_n hx hb dX12_play_86 rfl (lv_at hl 0 rfl) ?_
      refine gs_X12_411_12 E hI ha dX12_play_87 ?_
      refine lv_topi (fun f_19 ef_19 => ?_)
      replace hF := q_letX hF ef_19
      have if_19 : f_19.toInt = (σ_18.1 a 44).toInt := congrArg Int32.toInt ef_19
      refine q_iastN E hI (q_tk (k' := 41) hI ha rfl (Nat.succ_ne_zero _)) ⟨by decide, rfl⟩ (by decide) (by rw [q_lnk (v := 5) hI (q_tk (k' := 41) hI ha rfl (Nat.succ_ne_zero _)) rfl (by decide)]; decide) (show 1 < 9 by decide) (q_inU rfl) dX12_play_90 (fun H locs σ_20 hσ_20 hI => ?_)
      replace hF := q_letX hF hσ_20
      have fr_σ_20 := fr_σ_18.si hσ_20 (q_tk (k' := 41) hI ha rfl (Nat.succ_ne_zero _)) rfl
      have mcσ_20 := m_wo hσ_20 (m_ne (q_tk (k' := 41) hI ha rfl (Nat.succ_ne_zero _)) (q_tk (f := 20) (k' := 34) hI ha rfl (by decide)) (by decide))
      have gσ_20 : m_G (m_c X σ_20 a) := m_G.ext (fun j _ _ => mcσ_20 j) gσ_18
      have vσ_20 : m_W (m_c X σ_20 a) (n + 300) := m_W.ext (fun j _ _ => mcσ_20 j) vσ_18
      have kqσ_20 : ∀ j, 654 ≤ j → m_c X σ_20 a j = m_c X σ a j := fun j h => (mcσ_20 j).trans (kqσ_18 j h)
      refine lv_aload_n hx hb dX12_play_91 rfl (lv_at hl 0 rfl) ?_
      refine gs_X12_56_12 E hI ha dX12_play_92 ?_
      refine lv_iconst (v := 4) hx hb dX12_play_95 zki_4 ?_
      refine lv_aload_n hx hb dX12_play_96 rfl (lv_at hl 0 rfl) ?_
      refine gs_X12_423_12 E hI ha dX12_play_97 ?_
      refine lv_topi (fun f_21 ef_21 => ?_)
      replace hF := q_letX hF ef_21
      have if_21 : f_21.toInt = (σ_20.1 a 45).toInt := congrArg Int32.toInt ef_21
      refine q_iastN E hI (q_tk (k' := 41) hI ha rfl (Nat.succ_ne_zero _)) ⟨by decide, rfl⟩ (by decide) (by rw [q_lnk (v := 5) hI (q_tk (k' := 41) hI ha rfl (Nat.succ_ne_zero _)) rfl (by decide)]; decide) (show 1 < 9 by decide) (q_inU rfl) dX12_play_100 (fun H locs σ_22 hσ_22 hI => ?_)
      replace hF := q_letX hF hσ_22
      have fr_σ_22 := fr_σ_20.si hσ_22 (q_tk (k' := 41) hI ha rfl (Nat.succ_ne_zero _)) rfl
      have mcσ_22 := m_wo hσ_22 (m_ne (q_tk (k' := 41) hI ha rfl (Nat.succ_ne_zero _)) (q_tk (f := 20) (k' := 34) hI ha rfl (by decide)) (by decide))
      have gσ_22 : m_G (m_c X σ_22 a) := m_G.ext (fun j _ _ => mcσ_22 j) gσ_20
      have vσ_22 : m_W (m_c X σ_22 a) (n + 300) := m_W.ext (fun j _ _ => mcσ_22 j) vσ_20
      have kqσ_22 : ∀ j, 654 ≤ j → m_c X σ_22 a j = m_c X σ a j := fun j h => (mcσ_22 j).trans (kqσ_20 j h)
      refine lv_aload_n hx hb dX12_play_101 rfl (lv_at hl 0 rfl) ?_
      refine lv_iconst (v := 1) hx hb dX12_play_102 zki_1 ?_
      refine ps_X12_446_12 E hI ha (by decide) (by decide) (by decide) dX12_play_103 (fun H locs σ_23 hσ_23 hI => ?_)
      replace hF := q_letX hF hσ_23
      have fr_σ_23 := fr_σ_22.si hσ_23 ha rfl
      have mcσ_23 := m_wo hσ_23 (m_ne ha (q_tk (f := 20) (k' := 34) hI ha rfl (by decide)) (by decide))
      have gσ_23 : m_G (m_c X σ_23 a) := m_G.ext (fun j _ _ => mcσ_23 j) gσ_22
      have vσ_23 : m_W (m_c X σ_23 a) (n + 300) := m_W.ext (fun j _ _ => mcσ_23 j) vσ_22
      have kqσ_23 : ∀ j, 654 ≤ j → m_c X σ_23 a j = m_c X σ a j := fun j h => (mcσ_23 j).trans (kqσ_22 j h)
      refine lv_aload_n hx hb dX12_play_106 rfl (lv_at hl 0 rfl) ?_
      refine gs_X12_417_12 E hI ha dX12_play_107 ?_
      refine lv_topi (fun f_24 ef_24 => ?_)
      replace hF := q_letX hF ef_24
      have if_24 : f_24.toInt = (σ_23.1 a 40).toInt := congrArg Int32.toInt ef_24
      exact q_reti E hr hlk hI ⟨gσ_23, (by first | exact m_W.le vσ_23 (by first | (clear hn gσ wσ hh gσ_1 wσ_1 gσ_2 wσ_2 ggy_3 iy_3 kc_4 kc_5 ahpσ_7 bhpσ_7 dhpσ_7 c_8 chpσ_7 if_9 c_10 ahpσ_12 bhpσ_12 chpσ_12 dhpσ_12 ehpσ_12 fhpσ_12 gσ_12 vσ_12 if_13 gσ_14 vσ_14 if_15 gσ_16 vσ_16 if_17 gσ_18 vσ_18 if_19 gσ_20 vσ_20 if_21 gσ_22 vσ_22 gσ_23 vσ_23 if_24; omega) | omega) | exact m_W.le wσ_23 (by omega)), (fun j h0 h1 => kqσ_23 j (by first | (clear hn gσ wσ hh gσ_1 wσ_1 gσ_2 wσ_2 ggy_3 iy_3 kc_4 kc_5 ahpσ_7 bhpσ_7 dhpσ_7 c_8 chpσ_7 if_9 c_10 ahpσ_12 bhpσ_12 chpσ_12 dhpσ_12 ehpσ_12 fhpσ_12 gσ_12 vσ_12 if_13 gσ_14 vσ_14 if_15 gσ_16 vσ_16 if_17 gσ_18 vσ_18 if_19 gσ_20 vσ_20 if_21 gσ_22 vσ_22 gσ_23 vσ_23 if_24; omega) | omega)), (hF.trans hout), fr_σ_23⟩ dX12_play_110
    · skip
      replace hF := q_ifp hF c_10
      refine lv_aload_n hx hb dX12_play_39 rfl (lv_at hl 0 rfl) ?_
      refine lv_bipush (v := 8) hx hb dX12_play_40 zkb_8 ?_
      have kc_25 : (8 : Int32).toInt = 8 := zt_8
      refine q_ci (q_rV11_1 (rest := []) E (hml.trans hl.1.symm) hI (c_X12_refuse l X σ_2 a (8 : Int32) ha) kv_X12_284 ha ⟨Nat.le_of_ble_eq_true rfl, Nat.le_of_ble_eq_true rfl⟩ (Nat.le_of_ble_eq_true rfl) dX12_play_42) hI (Nat.le_of_ble_eq_true rfl) (fun r_26 σ_27 H locs hpσ_27 hkσ_27 hI => ?_)
      have ahpσ_27 := hpσ_27.1
      have bhpσ_27 := hpσ_27.2.1
      have chpσ_27 := hpσ_27.2.2
      clear hpσ_27
      have fr_σ_27 := fr_σ_2.call chpσ_27 rfl rfl
      replace hF := q_biX hF bhpσ_27
      have mcσ_27 := m_cK hkσ_27 hI.1 ha (by decide)
      have gσ_27 : m_G (m_c X σ_27 a) := m_G.ext (fun j _ _ => mcσ_27 j) gσ_2
      have wσ_27 : m_W (m_c X σ_27 a) n := m_W.ext (fun j _ _ => mcσ_27 j) wσ_2
      have kqσ_27 : ∀ j, 654 ≤ j → m_c X σ_27 a j = m_c X σ a j := fun j h => (mcσ_27 j).trans (kqσ_2 j h)
      have fxσ_27 : m_c X σ_27 a = m_c X σ a := (funext mcσ_27).trans fxσ_2
      exact q_reti E hr hlk hI ⟨gσ_27, (by first | exact m_W.le vσ_27 (by omega) | exact m_W.le wσ_27 (by first | (clear hn gσ wσ hh gσ_1 wσ_1 gσ_2 wσ_2 ggy_3 iy_3 kc_4 kc_5 ahpσ_7 bhpσ_7 dhpσ_7 c_8 chpσ_7 if_9 c_10 kc_25 ahpσ_27 bhpσ_27 chpσ_27 gσ_27 wσ_27; omega) | omega)), (fun j h0 h1 => kqσ_27 j (by first | (clear hn gσ wσ hh gσ_1 wσ_1 gσ_2 wσ_2 ggy_3 iy_3 kc_4 kc_5 ahpσ_7 bhpσ_7 dhpσ_7 c_8 chpσ_7 if_9 c_10 kc_25 ahpσ_27 bhpσ_27 chpσ_27 gσ_27 wσ_27; omega) | omega)), (hF.trans hout), fr_σ_27⟩ dX12_play_45
  · skip
    replace hF := q_ifp hF c_8
    replace chpσ_7 := q_ifNo chpσ_7 c_8
    refine lv_aload_n hx hb dX12_play_22 rfl (lv_at hl 0 rfl) ?_
    refine lv_iconst (v := 5) hx hb dX12_play_23 zki_5 ?_
    have kc_28 : (5 : Int32).toInt = 5 := zt_5
    refine q_ci (q_rV11_1 (rest := []) E (hml.trans hl.1.symm) hI (c_X12_refuse l X σ_2 a (5 : Int32) ha) kv_X12_284 ha ⟨Nat.le_of_ble_eq_true rfl, Nat.le_of_ble_eq_true rfl⟩ (Nat.le_of_ble_eq_true rfl) dX12_play_24) hI (Nat.le_of_ble_eq_true rfl) (fun r_29 σ_30 H locs hpσ_30 hkσ_30 hI => ?_)
    have ahpσ_30 := hpσ_30.1
    have bhpσ_30 := hpσ_30.2.1
    have chpσ_30 := hpσ_30.2.2
    clear hpσ_30
    have fr_σ_30 := fr_σ_2.call chpσ_30 rfl rfl
    replace hF := q_biX hF bhpσ_30
    have mcσ_30 := m_cK hkσ_30 hI.1 ha (by decide)
    have gσ_30 : m_G (m_c X σ_30 a) := m_G.ext (fun j _ _ => mcσ_30 j) gσ_2
    have wσ_30 : m_W (m_c X σ_30 a) n := m_W.ext (fun j _ _ => mcσ_30 j) wσ_2
    have kqσ_30 : ∀ j, 654 ≤ j → m_c X σ_30 a j = m_c X σ a j := fun j h => (mcσ_30 j).trans (kqσ_2 j h)
    have fxσ_30 : m_c X σ_30 a = m_c X σ a := (funext mcσ_30).trans fxσ_2
    exact q_reti E hr hlk hI ⟨gσ_30, (by first | exact m_W.le vσ_30 (by omega) | exact m_W.le wσ_30 (by first | (clear hn gσ wσ hh gσ_1 wσ_1 gσ_2 wσ_2 ggy_3 iy_3 kc_4 kc_5 ahpσ_7 bhpσ_7 dhpσ_7 c_8 chpσ_7 kc_28 ahpσ_30 bhpσ_30 chpσ_30 gσ_30 wσ_30; omega) | omega)), (fun j h0 h1 => kqσ_30 j (by first | (clear hn gσ wσ hh gσ_1 wσ_1 gσ_2 wσ_2 ggy_3 iy_3 kc_4 kc_5 ahpσ_7 bhpσ_7 dhpσ_7 c_8 chpσ_7 kc_28 ahpσ_30 bhpσ_30 chpσ_30 gσ_30 wσ_30; omega) | omega)), (hF.trans hout), fr_σ_30⟩ dX12_play_27

set_option maxRecDepth 100000 in
set_option maxHeartbeats 4000000 in
theorem c_X12_tries (l : Launch) (X : XW) (σ : ST) (a : Nat) (v1 : Int32) (v2 : Int32) (v3 : Int32) (v4 : Int32) (n : Int) (ha : q_kd X a = 12) (hG : m_G (m_c X σ a)) (hW : m_W (m_c X σ a) n) (hn : 0 ≤ n ∧ n ≤ 199000) : Met l yX12_tries (q_ws yX12_tries cX12_tries 8 (some .boolean)) (q_rm 69 1612) (q_P X σ [.ref a, .int v1, .int v2, .int v3, .int v4]) (q_Qi X 1 σ (fun (r : Int32) (σ' : ST) => (0 ≤ r.toInt ∧ r.toInt ≤ 1) ∧ (m_c X σ' a = m_c X σ a) ∧ (r, σ') = F_X12_tries X σ a v1 v2 v3 v4 ∧ q_ow [(12, 0), (12, 1), (12, 38), (12, 39), (12, 40), (12, 41), (12, 42), (12, 43), (12, 44), (12, 45), (34, 99), (35, 99), (39, 99)] [(12, 2), (12, 3)] X σ σ')) 0 0 (q_reg X) := by
  refine q_met 1 (by first | exact rfl | decide +kernel) rfl (Nat.le_of_ble_eq_true rfl) (fun p e s m below meth c E hml hr hlk hI ls hl => ?_)
  have hx := E.1
  have hb := E.2.1
  have hl : lv_has ls 8 [(0, .ref a), (1, .int v1), (2, .int v2), (3, .int v3), (4, .int v4)] := hl
  have fxσ : m_c X σ a = m_c X σ a := rfl
  have fr_σ : q_ow [(12, 0), (12, 1), (12, 38), (12, 39), (12, 40), (12, 41), (12, 42), (12, 43), (12, 44), (12, 45), (34, 99), (35, 99), (39, 99)] [(12, 2), (12, 3)] X σ σ := q_ow.rf
  have hh := hG.hd
  obtain ⟨out, hout⟩ : ∃ o, o = F_X12_tries X σ a v1 v2 v3 v4 := ⟨_, rfl⟩
  have hF := hout.symm
  unfold F_X12_tries at hF
  refine lv_aload_n hx hb dX12_tries_0 rfl (lv_at hl 0 rfl) ?_
  refine lv_iconst (v := 0) hx hb dX12_tries_1 zki_0 ?_
  refine ps_X12_59_12 E hI ha (by decide) dX12_tries_2 (fun H locs σ_1 hσ_1 hI => ?_)
  replace hF := q_letX hF hσ_1
  have fr_σ_1 := fr_σ.si hσ_1 ha rfl
  have mcσ_1 := m_wo hσ_1 (m_ne ha (q_tk (f := 20) (k' := 34) hI ha rfl (by decide)) (by decide))
  have fxσ_1 : m_c X σ_1 a = m_c X σ a := (funext mcσ_1).trans fxσ
  refine lv_aload_n hx hb dX12_tries_5 rfl (lv_at hl 0 rfl) ?_
  refine lv_iconst (v := 0) hx hb dX12_tries_6 zki_0 ?_
  refine ps_X12_62_12 E hI ha (by decide) dX12_tries_7 (fun H locs σ_2 hσ_2 hI => ?_)
  replace hF := q_letX hF hσ_2
  have fr_σ_2 := fr_σ_1.si hσ_2 ha rfl
  have mcσ_2 := m_wo hσ_2 (m_ne ha (q_tk (f := 20) (k' := 34) hI ha rfl (by decide)) (by decide))
  have fxσ_2 : m_c X σ_2 a = m_c X σ a := (funext mcσ_2).trans fxσ_1
  refine lv_aload_n hx hb dX12_tries_10 rfl (lv_at hl 0 rfl) ?_
  refine lv_iload_n hx hb dX12_tries_11 rfl (lv_at hl 1 rfl) ?_
  refine q_ci (q_rV11_1 (rest := []) E (hml.trans hl.1.symm) hI (c_X12_isPlayerAt l X σ_2 a v1 ha (by rw [fxσ_2]; exact hG)) kv_X12_290 ha ⟨Nat.le_of_ble_eq_true rfl, Nat.le_of_ble_eq_true rfl⟩ (Nat.le_of_ble_eq_true rfl) dX12_tries_12) hI (Nat.le_of_ble_eq_true rfl) (fun r_3 σ_4 H locs hpσ_4 hkσ_4 hI => ?_)
  have ahpσ_4 := hpσ_4.1
  have bhpσ_4 := hpσ_4.2.1
  have chpσ_4 := hpσ_4.2.2.1
  have dhpσ_4 := hpσ_4.2.2.2
  clear hpσ_4
  replace hI := q_Irw ahpσ_4 hI
  rw [fxσ_2] at chpσ_4
  replace hF := q_letX hF dhpσ_4
  refine q_if_ne (A := r_3.toInt) E rfl (tgt := 24) dX12_tries_15 (by decide) (fun c_5 => ?_) (fun c_5 => ?_)
  · skip
    replace hF := q_ifn hF c_5
    replace c_5 := q_ifOne bhpσ_4 c_5
    replace chpσ_4 := q_ifYes chpσ_4 c_5
    refine lv_iload_n hx hb dX12_tries_24 rfl (lv_at hl 3 rfl) ?_
    refine lv_i2l hx hb dX12_tries_25 rfl ?_
    refine lv_topl (fun y_6 ey_6 => ?_)
    replace hF := q_letX hF ey_6
    have ggy_6 := q_rng v3
    have iy_6 : y_6.toInt = v3.toInt := by rw [ey_6]; exact (q_i2l _).trans rfl
    refine lv_lconst (v := 1) hx hb dX12_tries_26 (by decide) ?_
    refine lv_ldc2 (v := 20) hx hb E.2.2.1 (E.2.2.2.1 _ (q_in_t9 (i := 191) (by first | rfl | decide +kernel) rfl)) dX12_tries_27 ?_
    have kc_7 : (1 : Int64).toInt = 1 := rfl
    have kc_8 : (20 : Int64).toInt = 20 := rfl
    refine q_ci (q_runS (As := [.long y_6, .long 1, .long 20]) (rest := []) E (hml.trans hl.1.symm) hI (c_X12_isIn l X σ_2 y_6 (1 : Int64) (20 : Int64)) ks_X12_94 rfl ⟨Nat.le_of_ble_eq_true rfl, Nat.le_of_ble_eq_true rfl⟩ ⟨Nat.le_refl _, Nat.le_refl _⟩ rfl (Nat.le_of_ble_eq_true rfl) dX12_tries_30) hI (Nat.le_of_ble_eq_true rfl) (fun r_9 σ_10 H locs hpσ_10 hkσ_10 hI => ?_)
    have ahpσ_10 := hpσ_10.1
    have bhpσ_10 := hpσ_10.2.1
    have chpσ_10 := hpσ_10.2.2.1
    have dhpσ_10 := hpσ_10.2.2.2
    clear hpσ_10
    replace hI := q_Irw ahpσ_10 hI
    replace hF := q_letX hF dhpσ_10
    refine q_if_eq (A := r_9.toInt) E rfl (tgt := 51) dX12_tries_33 (by decide) (fun c_11 => ?_) (fun c_11 => ?_)
    · skip
      replace hF := q_ifp hF c_11
      replace chpσ_10 := q_ifNo chpσ_10 c_11
      refine lv_aload_n hx hb dX12_tries_51 rfl (lv_at hl 0 rfl) ?_
      refine lv_iconst (v := 5) hx hb dX12_tries_52 zki_5 ?_
      have kc_12 : (5 : Int32).toInt = 5 := zt_5
      refine q_ci (q_rV11_1 (rest := []) E (hml.trans hl.1.symm) hI (c_X12_no l X σ_2 a (5 : Int32) ha) kv_X12_74 ha ⟨Nat.le_of_ble_eq_true rfl, Nat.le_of_ble_eq_true rfl⟩ (Nat.le_of_ble_eq_true rfl) dX12_tries_53) hI (Nat.le_of_ble_eq_true rfl) (fun r_13 σ_14 H locs hpσ_14 hkσ_14 hI => ?_)
      have ahpσ_14 := hpσ_14.1
      have bhpσ_14 := hpσ_14.2.1
      have chpσ_14 := hpσ_14.2.2.1
      have dhpσ_14 := hpσ_14.2.2.2
      clear hpσ_14
      have fr_σ_14 := fr_σ_2.call dhpσ_14 rfl rfl
      replace hF := q_biX hF chpσ_14
      have mcσ_14 := m_cK hkσ_14 hI.1 ha (by decide)
      have fxσ_14 : m_c X σ_14 a = m_c X σ a := (funext mcσ_14).trans fxσ_2
      exact q_retz E hr hlk hI ⟨by omega, by omega⟩ ⟨⟨by omega, by omega⟩, fxσ_14, (hF.trans hout), fr_σ_14⟩ dX12_tries_56
    · skip
      replace hF := q_ifn hF c_11
      replace c_11 := q_ifOne bhpσ_10 c_11
      replace chpσ_10 := q_ifYes chpσ_10 c_11
      refine lv_iload_n hx hb dX12_tries_36 rfl (lv_at hl 2 rfl) ?_
      refine lv_i2l hx hb dX12_tries_37 rfl ?_
      refine lv_topl (fun y_15 ey_15 => ?_)
      replace hF := q_letX hF ey_15
      have ggy_15 := q_rng v2
      have iy_15 : y_15.toInt = v2.toInt := by rw [ey_15]; exact (q_i2l _).trans rfl
      refine lv_lconst (v := 0) hx hb dX12_tries_38 (by decide) ?_
      refine lv_sipush (v := 10000) hx hb dX12_tries_39 zks_10000 ?_
      refine lv_iload_n hx hb dX12_tries_42 rfl (lv_at hl 3 rfl) ?_
      refine lv_isub hx hb dX12_tries_43 ?_
      refine lv_topi (fun z_16 ez_16 => ?_)
      replace hF := q_letX hF ez_16
      refine lv_i2l hx hb dX12_tries_44 rfl ?_
      refine lv_topl (fun y_17 ey_17 => ?_)
      replace hF := q_letX hF ey_17
      have ggy_17 := q_rng z_16
      have iy_17 : y_17.toInt = z_16.toInt := by rw [ey_17]; exact (q_i2l _).trans rfl
      have kc_18 : (0 : Int64).toInt = 0 := rfl
      refine q_ci (q_runS (As := [.long y_15, .long 0, .long y_17]) (rest := []) E (hml.trans hl.1.symm) hI (c_X12_isIn l X σ_2 y_15 (0 : Int64) y_17) ks_X12_94 rfl ⟨Nat.le_of_ble_eq_true rfl, Nat.le_of_ble_eq_true rfl⟩ ⟨Nat.le_refl _, Nat.le_refl _⟩ rfl (Nat.le_of_ble_eq_true rfl) dX12_tries_45) hI (Nat.le_of_ble_eq_true rfl) (fun r_19 σ_20 H locs hpσ_20 hkσ_20 hI => ?_)
      have ahpσ_20 := hpσ_20.1
      have bhpσ_20 := hpσ_20.2.1
      have chpσ_20 := hpσ_20.2.2.1
      have dhpσ_20 := hpσ_20.2.2.2
      clear hpσ_20
      replace hI := q_Irw ahpσ_20 hI
      replace hF := q_letX hF dhpσ_20
      refine q_if_ne (A := r_19.toInt) E rfl (tgt := 57) dX12_tries_48 (by decide) (fun c_21 => ?_) (fun c_21 => ?_)
      · skip
        replace hF := q_ifn hF c_21
        replace c_21 := q_ifOne bhpσ_20 c_21
        replace chpσ_20 := q_ifYes chpσ_20 c_21
        refine lv_aload_n hx hb dX12_tries_57 rfl (lv_at hl 0 rfl) ?_
        refine gs_X12_35_12 E hI ha dX12_tries_58 ?_
        refine lv_sipush (v := 654) hx hb dX12_tries_61 zks_654 ?_
        refine q_iald E hI (q_tk (k' := 34) hI ha rfl (Nat.succ_ne_zero _)) ⟨by decide, rfl⟩ (by decide) (by rw [q_lnk (v := 4650) hI (q_tk (k' := 34) hI ha rfl (Nat.succ_ne_zero _)) rfl (by decide)]; decide) dX12_tries_64 ?_
        refine lv_topi (fun f_22 ef_22 => ?_)
        replace hF := q_letX hF ef_22
        have if_22 : f_22.toInt = m_c X σ a 654 := (m_rd ef_22 (by decide)).trans (congrFun fxσ_2 _)
        refine q_if_ne (A := f_22.toInt) E rfl (tgt := 75) dX12_tries_65 (by decide) (fun c_23 => ?_) (fun c_23 => ?_)
        · skip
          replace hF := q_ifn hF c_23
          refine lv_iconst (v := 0) hx hb dX12_tries_75 zki_0 ?_
          refine lv_istore (lv' := [(5, .int 0), (0, .ref a), (1, .int v1), (2, .int v2), (3, .int v3), (4, .int v4)]) hx hb dX12_tries_76 hl (by decide) rfl (fun ls hl => ?_)
          have L_78_26 : ∀ (k_26 : Nat) (x_24 : Int32) (σ_25 : ST) (H : Heap) (locs : List Loc) (ls : Array Slot), (2147483647 - x_24.toInt).toNat < k_26 → (0 ≤ x_24.toInt ∧ x_24.toInt ≤ 654) → (∀ j, 0 ≤ j → j < x_24.toInt → m_of σ_25 (q_rf X a 21) j = m_c X σ a j) → (q_ow [(12, 0), (12, 1), (12, 38), (12, 39), (12, 40), (12, 41), (12, 42), (12, 43), (12, 44), (12, 45), (34, 99), (35, 99), (39, 99)] [(12, 2), (12, 3)] X σ σ_25) → (m_c X σ_25 a = m_c X σ a) → (F_X12_tries_L78_1 X a v3 v2 v4 v1 k_26 x_24 σ_25 = out) → q_I X 1 σ s.heap locs σ_25 H → lv_has ls 8 [(0, .ref a), (1, .int v1), (2, .int v2), (3, .int v3), (4, .int v4), (5, .int x_24)] → W p l e (q_rm 69 1612) s m ([.ref a, .int v1, .int v2, .int v3, .int v4] : List Value).toArray below meth c H locs 0 0 (MQ below (q_Qi X 1 σ (fun (r : Int32) (σ' : ST) => (0 ≤ r.toInt ∧ r.toInt ≤ 1) ∧ (m_c X σ' a = m_c X σ a) ∧ (r, σ') = F_X12_tries X σ a v1 v2 v3 v4 ∧ q_ow [(12, 0), (12, 1), (12, 38), (12, 39), (12, 40), (12, 41), (12, 42), (12, 43), (12, 44), (12, 45), (34, 99), (35, 99), (39, 99)] [(12, 2), (12, 3)] X σ σ')) ([.ref a, .int v1, .int v2, .int v3, .int v4] : List Value).toArray s 0 0 (q_reg X)) (F0 m 78 ls []) := by
            clear hF
            intro k_26
            induction k_26 with
            | zero =>
              intro x_24 σ_25 H locs ls hms
              exact absurd hms (Nat.not_lt_zero _)
            | succ k_26 ih78 =>
              intro x_24 σ_25 H locs ls hm78 hge78 klσ_25 fr_σ_25 fxσ_25 hF hI hl
              replace hF := (F_X12_tries_L78_1_s).symm.trans hF
              unfold F_X12_tries_B78_1 at hF
              refine lv_iload hx hb dX12_tries_78 (lv_at hl 5 rfl) ?_
              refine lv_sipush (v := 654) hx hb dX12_tries_80 zks_654 ?_
              have gc_27_x_24 := q_rng x_24
              refine q_icmp_ge (A := x_24.toInt) (B := 654) E rfl (by decide) (tgt := 106) dX12_tries_83 (by decide) (fun c_27 => ?_) (fun c_27 => ?_)
              · skip
                replace hF := q_ifn hF (Int.not_lt.mpr c_27)
                skip
                have kfσ_25 : ∀ j, 0 ≤ j → j < 654 → m_of σ_25 (q_rf X a 21) j = m_c X σ a j := fun j h0 h1 => klσ_25 j h0 (by first | (clear hn hh ahpσ_4 bhpσ_4 dhpσ_4 c_5 chpσ_4 ggy_6 iy_6 kc_7 kc_8 ahpσ_10 bhpσ_10 dhpσ_10 c_11 chpσ_10 ggy_15 iy_15 ggy_17 iy_17 kc_18 ahpσ_20 bhpσ_20 dhpσ_20 c_21 chpσ_20 if_22 c_23 hm78 gc_27_x_24; omega) | omega)
                refine lv_iconst (v := 0) hx hb dX12_tries_106 zki_0 ?_
                refine lv_istore (lv' := [(5, .int 0), (0, .ref a), (1, .int v1), (2, .int v2), (3, .int v3), (4, .int v4)]) hx hb dX12_tries_107 hl (by decide) rfl (fun ls hl => ?_)
                refine lv_iconst (v := 0) hx hb dX12_tries_109 zki_0 ?_
                refine lv_istore (lv' := [(6, .int 0), (5, .int 0), (0, .ref a), (1, .int v1), (2, .int v2), (3, .int v3), (4, .int v4)]) hx hb dX12_tries_110 hl (by decide) rfl (fun ls hl => ?_)
                have L_112_31 : ∀ (k_31 : Nat) (x_28 : Int32) (x_29 : Int32) (σ_30 : ST) (H : Heap) (locs : List Loc) (ls : Array Slot), (2147483647 - x_29.toInt).toNat < k_31 → (0 ≤ x_29.toInt) → (q_ow [(12, 0), (12, 1), (12, 38), (12, 39), (12, 40), (12, 41), (12, 42), (12, 43), (12, 44), (12, 45), (34, 99), (35, 99), (39, 99)] [(12, 2), (12, 3)] X σ σ_30) → (m_c X σ_30 a = m_c X σ a) → (∀ j, 0 ≤ j → j < 654 → m_of σ_30 (q_rf X a 21) j = m_c X σ a j) → (F_X12_tries_L112_3 X v3 v2 a v4 v1 k_31 x_28 x_29 σ_30 = out) → q_I X 1 σ s.heap locs σ_30 H → lv_has ls 8 [(0, .ref a), (1, .int v1), (2, .int v2), (3, .int v3), (4, .int v4), (5, .int x_28), (6, .int x_29)] → W p l e (q_rm 69 1612) s m ([.ref a, .int v1, .int v2, .int v3, .int v4] : List Value).toArray below meth c H locs 0 0 (MQ below (q_Qi X 1 σ (fun (r : Int32) (σ' : ST) => (0 ≤ r.toInt ∧ r.toInt ≤ 1) ∧ (m_c X σ' a = m_c X σ a) ∧ (r, σ') = F_X12_tries X σ a v1 v2 v3 v4 ∧ q_ow [(12, 0), (12, 1), (12, 38), (12, 39), (12, 40), (12, 41), (12, 42), (12, 43), (12, 44), (12, 45), (34, 99), (35, 99), (39, 99)] [(12, 2), (12, 3)] X σ σ')) ([.ref a, .int v1, .int v2, .int v3, .int v4] : List Value).toArray s 0 0 (q_reg X)) (F0 m 112 ls []) := by
                  clear hF
                  intro k_31
                  induction k_31 with
                  | zero =>
                    intro x_28 x_29 σ_30 H locs ls hms
                    try clear kfσ_25
                    exact absurd hms (Nat.not_lt_zero _)
                  | succ k_31 ih112 =>
                    intro x_28 x_29 σ_30 H locs ls hm112 hge112 fr_σ_30 fxσ_30 kfσ_30 hF hI hl
                    replace hF := (F_X12_tries_L112_3_s).symm.trans hF
                    unfold F_X12_tries_B112_3 at hF
                    refine lv_iload hx hb dX12_tries_112 (lv_at hl 6 rfl) ?_
                    refine lv_iload_n hx hb dX12_tries_114 rfl (lv_at hl 3 rfl) ?_
                    have gc_32_x_29 := q_rng x_29
                    have gc_32_v3 := q_rng v3
                    refine q_icmp_ge (A := x_29.toInt) (B := v3.toInt) E rfl rfl (tgt := 197) dX12_tries_115 (by decide) (fun c_32 => ?_) (fun c_32 => ?_)
                    · skip
                      replace hF := q_ifn hF (Int.not_lt.mpr c_32)
                      unfold F_X12_tries_E197_4 at hF
                      refine lv_aload_n hx hb dX12_tries_197 rfl (lv_at hl 0 rfl) ?_
                      refine lv_iload hx hb dX12_tries_198 (lv_at hl 5 rfl) ?_
                      refine lv_i2l hx hb dX12_tries_200 rfl ?_
                      refine lv_topl (fun y_33 ey_33 => ?_)
                      replace hF := q_letX hF ey_33
                      have ggy_33 := q_rng x_28
                      have iy_33 : y_33.toInt = x_28.toInt := by rw [ey_33]; exact (q_i2l _).trans rfl
                      refine lv_iload_n hx hb dX12_tries_201 rfl (lv_at hl 3 rfl) ?_
                      refine lv_i2l hx hb dX12_tries_202 rfl ?_
                      refine lv_topl (fun y_34 ey_34 => ?_)
                      replace hF := q_letX hF ey_34
                      have ggy_34 := q_rng v3
                      have iy_34 : y_34.toInt = v3.toInt := by rw [ey_34]; exact (q_i2l _).trans rfl
                      refine q_ci (q_rV11_2 (rest := []) E (hml.trans hl.1.symm) hI (c_X12_fraction l X σ_30 a y_33 y_34 ha (by first | (clear hn hh ahpσ_4 bhpσ_4 dhpσ_4 c_5 chpσ_4 ggy_6 ahpσ_10 bhpσ_10 dhpσ_10 c_11 ggy_15 iy_15 ggy_17 iy_17 kc_18 ahpσ_20 bhpσ_20 dhpσ_20 c_21 chpσ_20 if_22 c_23 hm78 hge78 gc_27_x_24 c_27 hm112 hge112 gc_32_x_29 gc_32_v3 c_32 ggy_33 iy_33 ggy_34; omega) | omega)) kv_X12_361 ha ⟨Nat.le_of_ble_eq_true rfl, Nat.le_of_ble_eq_true rfl⟩ (Nat.le_of_ble_eq_true rfl) dX12_tries_203) hI (Nat.le_of_ble_eq_true rfl) (fun r_35 σ_36 H locs hpσ_36 hkσ_36 hI => ?_)
                      have ahpσ_36 := hpσ_36.1
                      have bhpσ_36 := hpσ_36.2.1
                      have chpσ_36 := hpσ_36.2.2
                      clear hpσ_36
                      have fr_σ_36 := fr_σ_30.call chpσ_36 rfl rfl
                      replace hF := q_biX hF bhpσ_36
                      have mcσ_36 := m_cK hkσ_36 hI.1 ha (by decide)
                      have fxσ_36 : m_c X σ_36 a = m_c X σ a := (funext mcσ_36).trans fxσ_30
                      exact q_retz E hr hlk hI ⟨by omega, by omega⟩ ⟨⟨by omega, by omega⟩, fxσ_36, (hF.trans hout), fr_σ_36⟩ dX12_tries_206
                    · skip
                      replace hF := q_ifp hF c_32
                      refine lv_aload_n hx hb dX12_tries_118 rfl (lv_at hl 0 rfl) ?_
                      refine lv_iload_n hx hb dX12_tries_119 rfl (lv_at hl 2 rfl) ?_
                      refine lv_iload hx hb dX12_tries_120 (lv_at hl 6 rfl) ?_
                      refine lv_iadd hx hb dX12_tries_122 ?_
                      refine lv_topi (fun z_37 ez_37 => ?_)
                      replace hF := q_letX hF ez_37
                      refine q_cv (q_rV11_1 (rest := []) E (hml.trans hl.1.symm) hI (c_X12_plays l X σ_30 a z_37 n ha (by rw [fxσ_30]; exact hG) (by rw [fxσ_30]; exact hW) (by first | (clear hh ahpσ_4 bhpσ_4 dhpσ_4 c_5 chpσ_4 ggy_6 iy_6 kc_7 kc_8 ahpσ_10 bhpσ_10 dhpσ_10 c_11 chpσ_10 ggy_15 iy_15 ggy_17 iy_17 kc_18 ahpσ_20 bhpσ_20 dhpσ_20 c_21 chpσ_20 if_22 c_23 hm78 hge78 gc_27_x_24 c_27 hm112 hge112 gc_32_x_29 gc_32_v3 c_32; omega) | omega)) kv_X12_443 ha ⟨Nat.le_of_ble_eq_true rfl, Nat.le_of_ble_eq_true rfl⟩ (Nat.le_of_ble_eq_true rfl) dX12_tries_123) hI (Nat.le_of_ble_eq_true rfl) (fun σ_39 H locs hpσ_39 hkσ_39 hI => ?_)
                      have ahpσ_39 := hpσ_39.1
                      have bhpσ_39 := hpσ_39.2.1
                      have chpσ_39 := hpσ_39.2.2.1
                      have dhpσ_39 := hpσ_39.2.2.2.1
                      have ehpσ_39 := hpσ_39.2.2.2.2.1
                      have fhpσ_39 := hpσ_39.2.2.2.2.2
                      clear hpσ_39
                      have fr_σ_39 := fr_σ_30.call fhpσ_39 rfl rfl
                      replace hF := q_letX hF ehpσ_39
                      have gσ_39 : m_G (m_c X σ_39 a) := ahpσ_39
                      have kqσ_39 : ∀ j, 654 ≤ j → m_c X σ_39 a j = m_c X σ a j := (fun j h => (chpσ_39 j h).trans (congrFun fxσ_30 j))
                      have kfσ_39 : ∀ j, 0 ≤ j → j < 654 → m_of σ_39 (q_rf X a 21) j = m_c X σ a j := (fun j h0 h1 => (congrArg Int32.toInt (dhpσ_39 (q_rf X a 21) j.toNat (q_tk (k' := 35) hI ha rfl (Nat.succ_ne_zero _)))).trans (kfσ_30 j h0 h1))
                      refine lv_iload hx hb dX12_tries_126 (lv_at hl 5 rfl) ?_
                      refine lv_iload hx hb dX12_tries_128 (lv_at hl 4 rfl) ?_
                      refine q_if_eq (A := v4.toInt) E rfl (tgt := 152) dX12_tries_130 (by decide) (fun c_40 => ?_) (fun c_40 => ?_)
                      · skip
                        replace hF := q_ifp hF c_40
                        refine lv_aload_n hx hb dX12_tries_152 rfl (lv_at hl 0 rfl) ?_
                        refine lv_iload_n hx hb dX12_tries_153 rfl (lv_at hl 1 rfl) ?_
                        refine q_ci (q_rV11_1 (rest := [.int x_28]) E (hml.trans hl.1.symm) hI (c_X12_cardsOf l X σ_39 a v1 ha gσ_39 (by first | (clear hn ahpσ_4 bhpσ_4 dhpσ_4 c_5 ggy_6 iy_6 kc_7 kc_8 ahpσ_10 bhpσ_10 dhpσ_10 c_11 chpσ_10 ggy_15 iy_15 ggy_17 iy_17 kc_18 ahpσ_20 bhpσ_20 dhpσ_20 c_21 chpσ_20 if_22 c_23 hm78 hge78 gc_27_x_24 c_27 hm112 hge112 gc_32_x_29 gc_32_v3 c_32 ahpσ_39 bhpσ_39 chpσ_39 dhpσ_39 ehpσ_39 fhpσ_39 gσ_39 c_40; omega) | omega)) kv_X12_293 ha ⟨Nat.le_of_ble_eq_true rfl, Nat.le_of_ble_eq_true rfl⟩ (Nat.le_of_ble_eq_true rfl) dX12_tries_154) hI (Nat.le_of_ble_eq_true rfl) (fun r_41 σ_42 H locs hpσ_42 hkσ_42 hI => ?_)
                        have ahpσ_42 := hpσ_42.1
                        have bhpσ_42 := hpσ_42.2.1
                        have chpσ_42 := hpσ_42.2.2.1
                        have dhpσ_42 := hpσ_42.2.2.2
                        clear hpσ_42
                        replace hI := q_Irw ahpσ_42 hI
                        replace hF := q_letX hF dhpσ_42
                        refine lv_iadd hx hb dX12_tries_157 ?_
                        refine lv_topi (fun z_43 ez_43 => ?_)
                        replace hF := q_letX hF ez_43
                        refine lv_istore (lv' := [(5, .int z_43), (0, .ref a), (1, .int v1), (2, .int v2), (3, .int v3), (4, .int v4), (6, .int x_29)]) hx hb dX12_tries_158 hl (by decide) rfl (fun ls hl => ?_)
                        refine lv_iconst (v := 0) hx hb dX12_tries_160 zki_0 ?_
                        refine lv_istore (lv' := [(7, .int 0), (5, .int z_43), (0, .ref a), (1, .int v1), (2, .int v2), (3, .int v3), (4, .int v4), (6, .int x_29)]) hx hb dX12_tries_161 hl (by decide) rfl (fun ls hl => ?_)
                        have L_163_46 : ∀ (k_46 : Nat) (x_44 : Int32) (σ_45 : ST) (H : Heap) (locs : List Loc) (ls : Array Slot), (2147483647 - x_44.toInt).toNat < k_46 → (0 ≤ x_44.toInt ∧ x_44.toInt ≤ 654) → (∀ j, 0 ≤ j → j < x_44.toInt → m_c X σ_45 a j = m_c X σ a j) → (q_ow [(12, 0), (12, 1), (12, 38), (12, 39), (12, 40), (12, 41), (12, 42), (12, 43), (12, 44), (12, 45), (34, 99), (35, 99), (39, 99)] [(12, 2), (12, 3)] X σ σ_45) → (∀ j, 654 ≤ j → m_c X σ_45 a j = m_c X σ a j) → (∀ j, 0 ≤ j → j < 654 → m_of σ_45 (q_rf X a 21) j = m_c X σ a j) → (F_X12_tries_L163_5 X a x_29 (F_X12_tries_L112_3 X v3 v2 a v4 v1 k_31) z_43 k_46 x_44 σ_45 = out) → q_I X 1 σ s.heap locs σ_45 H → lv_has ls 8 [(0, .ref a), (1, .int v1), (2, .int v2), (3, .int v3), (4, .int v4), (5, .int z_43), (6, .int x_29), (7, .int x_44)] → W p l e (q_rm 69 1612) s m ([.ref a, .int v1, .int v2, .int v3, .int v4] : List Value).toArray below meth c H locs 0 0 (MQ below (q_Qi X 1 σ (fun (r : Int32) (σ' : ST) => (0 ≤ r.toInt ∧ r.toInt ≤ 1) ∧ (m_c X σ' a = m_c X σ a) ∧ (r, σ') = F_X12_tries X σ a v1 v2 v3 v4 ∧ q_ow [(12, 0), (12, 1), (12, 38), (12, 39), (12, 40), (12, 41), (12, 42), (12, 43), (12, 44), (12, 45), (34, 99), (35, 99), (39, 99)] [(12, 2), (12, 3)] X σ σ')) ([.ref a, .int v1, .int v2, .int v3, .int v4] : List Value).toArray s 0 0 (q_reg X)) (F0 m 163 ls []) := by
                          clear hF
                          intro k_46
                          induction k_46 with
                          | zero =>
                            intro x_44 σ_45 H locs ls hms
                            try clear ahpσ_42
                            exact absurd hms (Nat.not_lt_zero _)
                          | succ k_46 ih163 =>
                            intro x_44 σ_45 H locs ls hm163 hge163 rsσ_45 fr_σ_45 kqσ_45 kfσ_45 hF hI hl
                            replace hF := (F_X12_tries_L163_5_s).symm.trans hF
                            unfold F_X12_tries_B163_5 at hF
                            refine lv_iload hx hb dX12_tries_163 (lv_at hl 7 rfl) ?_
                            refine lv_sipush (v := 654) hx hb dX12_tries_165 zks_654 ?_
                            have gc_47_x_44 := q_rng x_44
                            refine q_icmp_ge (A := x_44.toInt) (B := 654) E rfl (by decide) (tgt := 191) dX12_tries_168 (by decide) (fun c_47 => ?_) (fun c_47 => ?_)
                            · skip
                              replace hF := q_ifn hF (Int.not_lt.mpr c_47)
                              unfold F_X12_tries_E191_6 at hF
                              have fxσ_45 : m_c X σ_45 a = m_c X σ a := m_c_ext (fun j hj => if h : j < 654 then rsσ_45 j hj (by first | (clear hn hh ahpσ_4 bhpσ_4 dhpσ_4 c_5 chpσ_4 ggy_6 iy_6 kc_7 kc_8 ahpσ_10 bhpσ_10 dhpσ_10 c_11 chpσ_10 ggy_15 iy_15 ggy_17 iy_17 kc_18 ahpσ_20 bhpσ_20 dhpσ_20 c_21 chpσ_20 if_22 c_23 hm78 hge78 gc_27_x_24 c_27 hm112 hge112 gc_32_x_29 gc_32_v3 c_32 ahpσ_39 bhpσ_39 chpσ_39 dhpσ_39 ehpσ_39 fhpσ_39 gσ_39 c_40 bhpσ_42 chpσ_42 dhpσ_42 hm163 gc_47_x_44; omega) | omega) else kqσ_45 j (by first | (clear hn hh ahpσ_4 bhpσ_4 dhpσ_4 c_5 chpσ_4 ggy_6 iy_6 kc_7 kc_8 ahpσ_10 bhpσ_10 dhpσ_10 c_11 chpσ_10 ggy_15 iy_15 ggy_17 iy_17 kc_18 ahpσ_20 bhpσ_20 dhpσ_20 c_21 chpσ_20 if_22 c_23 hm78 hge78 gc_27_x_24 c_27 hm112 hge112 gc_32_x_29 gc_32_v3 c_32 ahpσ_39 bhpσ_39 chpσ_39 dhpσ_39 ehpσ_39 fhpσ_39 gσ_39 c_40 bhpσ_42 chpσ_42 dhpσ_42 hm163 hge163 gc_47_x_44 c_47; omega) | omega))
                              obtain ⟨z_48, ez_48⟩ : ∃ y : Int32, y = x_29 + 1 := ⟨_, rfl⟩
                              replace hF := q_letX hF ez_48
                              refine lv_iinc (v := z_48) (lv' := [(6, .int z_48), (0, .ref a), (1, .int v1), (2, .int v2), (3, .int v3), (4, .int v4), (5, .int z_43), (7, .int x_44)]) hx hb dX12_tries_191 hl (k := 6) rfl (by rw [ez_48]; rfl) (by decide) rfl (fun ls hl => ?_)
                              have iz_48 : z_48.toInt = x_29.toInt + 1 := q_inc ez_48 (by first | (clear hn hh ahpσ_4 bhpσ_4 dhpσ_4 c_5 chpσ_4 ggy_6 kc_7 ahpσ_10 bhpσ_10 dhpσ_10 c_11 ggy_15 iy_15 ggy_17 iy_17 kc_18 ahpσ_20 bhpσ_20 dhpσ_20 c_21 chpσ_20 if_22 c_23 hm78 hge78 gc_27_x_24 c_27 hm112 gc_32_v3 ahpσ_39 bhpσ_39 chpσ_39 dhpσ_39 ehpσ_39 fhpσ_39 gσ_39 c_40 bhpσ_42 chpσ_42 dhpσ_42 hm163 hge163 gc_47_x_44 c_47; omega) | omega)
                              refine lv_goto (tgt := 112) hx hb dX12_tries_194 (by decide) ?_
                              exact ih112 z_43 z_48 σ_45 _ _ ls (by first | (clear hn hh ahpσ_4 bhpσ_4 dhpσ_4 c_5 chpσ_4 ggy_6 kc_7 ahpσ_10 bhpσ_10 dhpσ_10 c_11 ggy_15 iy_15 ggy_17 iy_17 kc_18 ahpσ_20 bhpσ_20 dhpσ_20 c_21 chpσ_20 if_22 c_23 hm78 hge78 gc_27_x_24 c_27 gc_32_v3 ahpσ_39 bhpσ_39 chpσ_39 dhpσ_39 ehpσ_39 fhpσ_39 gσ_39 c_40 bhpσ_42 chpσ_42 dhpσ_42 hm163 gc_47_x_44; omega) | omega) (by first | (clear hn hh ahpσ_4 bhpσ_4 dhpσ_4 c_5 chpσ_4 ggy_6 iy_6 kc_7 kc_8 ahpσ_10 bhpσ_10 dhpσ_10 c_11 chpσ_10 ggy_15 iy_15 ggy_17 iy_17 kc_18 ahpσ_20 bhpσ_20 dhpσ_20 c_21 chpσ_20 if_22 c_23 hm78 hge78 gc_27_x_24 c_27 hm112 gc_32_v3 c_32 ahpσ_39 bhpσ_39 chpσ_39 dhpσ_39 ehpσ_39 fhpσ_39 gσ_39 c_40 bhpσ_42 chpσ_42 dhpσ_42 hm163 hge163 gc_47_x_44 c_47; omega) | omega) fr_σ_45 fxσ_45 kfσ_45 hF hI (lv_sub hl [1, 2, 3, 4, 5, 6, 0] rfl)
                            · skip
                              replace hF := q_ifp hF c_47
                              refine lv_aload_n hx hb dX12_tries_171 rfl (lv_at hl 0 rfl) ?_
                              refine gs_X12_35_12 E hI ha dX12_tries_172 ?_
                              refine lv_iload hx hb dX12_tries_175 (lv_at hl 7 rfl) ?_
                              refine lv_aload_n hx hb dX12_tries_177 rfl (lv_at hl 0 rfl) ?_
                              refine gs_X12_38_12 E hI ha dX12_tries_178 ?_
                              refine lv_iload hx hb dX12_tries_181 (lv_at hl 7 rfl) ?_
                              refine q_iald E hI (q_tk (k' := 35) hI ha rfl (Nat.succ_ne_zero _)) ⟨by decide, rfl⟩ (by first | (clear hn hh ahpσ_4 bhpσ_4 dhpσ_4 c_5 chpσ_4 ggy_6 iy_6 kc_7 kc_8 ahpσ_10 bhpσ_10 dhpσ_10 c_11 chpσ_10 ggy_15 iy_15 ggy_17 iy_17 kc_18 ahpσ_20 bhpσ_20 dhpσ_20 c_21 chpσ_20 if_22 c_23 hm78 hge78 gc_27_x_24 c_27 hm112 hge112 gc_32_x_29 gc_32_v3 c_32 ahpσ_39 bhpσ_39 chpσ_39 dhpσ_39 ehpσ_39 fhpσ_39 gσ_39 c_40 bhpσ_42 chpσ_42 dhpσ_42 hm163 gc_47_x_44; omega) | omega) (by rw [q_lnk (v := 654) hI (q_tk (k' := 35) hI ha rfl (Nat.succ_ne_zero _)) rfl (by decide)]; omega) dX12_tries_183 ?_
                              refine lv_topi (fun f_49 ef_49 => ?_)
                              replace hF := q_letX hF ef_49
                              have krf_49 : f_49.toInt = m_of σ_45 (q_rf X a 21) x_44.toInt := by rw [ef_49]; rfl
                              refine q_iastN E hI (q_tk (k' := 34) hI ha rfl (Nat.succ_ne_zero _)) ⟨by decide, rfl⟩ (by first | (clear hn hh ahpσ_4 bhpσ_4 dhpσ_4 c_5 chpσ_4 ggy_6 iy_6 kc_7 kc_8 ahpσ_10 bhpσ_10 dhpσ_10 c_11 chpσ_10 ggy_15 iy_15 ggy_17 iy_17 kc_18 ahpσ_20 bhpσ_20 dhpσ_20 c_21 chpσ_20 if_22 c_23 hm78 hge78 gc_27_x_24 c_27 hm112 hge112 gc_32_x_29 gc_32_v3 c_32 ahpσ_39 bhpσ_39 chpσ_39 dhpσ_39 ehpσ_39 fhpσ_39 gσ_39 c_40 bhpσ_42 chpσ_42 dhpσ_42 hm163 gc_47_x_44; omega) | omega) (by rw [q_lnk (v := 4650) hI (q_tk (k' := 34) hI ha rfl (Nat.succ_ne_zero _)) rfl (by decide)]; omega) (show 1 < 2 by decide) (q_inU rfl) dX12_tries_184 (fun H locs σ_50 hσ_50 hI => ?_)
                              replace hF := q_letX hF hσ_50
                              have fr_σ_50 := fr_σ_45.si hσ_50 (q_tk (k' := 34) hI ha rfl (Nat.succ_ne_zero _)) rfl
                              have mcσ_50 := m_wr (v := f_49) (A := x_44.toInt) hσ_50 rfl (by first | (clear hn hh ahpσ_4 bhpσ_4 dhpσ_4 c_5 chpσ_4 ggy_6 iy_6 kc_7 kc_8 ahpσ_10 bhpσ_10 dhpσ_10 c_11 chpσ_10 ggy_15 iy_15 ggy_17 iy_17 kc_18 ahpσ_20 bhpσ_20 dhpσ_20 c_21 chpσ_20 if_22 c_23 hm78 hge78 gc_27_x_24 c_27 hm112 hge112 gc_32_x_29 gc_32_v3 c_32 ahpσ_39 bhpσ_39 chpσ_39 dhpσ_39 ehpσ_39 fhpσ_39 gσ_39 c_40 bhpσ_42 chpσ_42 dhpσ_42 hm163 gc_47_x_44; omega) | omega)
                              have kqσ_50 : ∀ j, 654 ≤ j → m_c X σ_50 a j = m_c X σ a j := fun j h => by rw [mcσ_50 j (by first | (clear hn hh ahpσ_4 bhpσ_4 dhpσ_4 c_5 chpσ_4 ggy_6 iy_6 kc_7 kc_8 ahpσ_10 bhpσ_10 dhpσ_10 c_11 chpσ_10 ggy_15 iy_15 ggy_17 iy_17 kc_18 ahpσ_20 bhpσ_20 dhpσ_20 c_21 chpσ_20 if_22 c_23 hm78 hge78 gc_27_x_24 c_27 hm112 hge112 gc_32_x_29 gc_32_v3 c_32 ahpσ_39 bhpσ_39 chpσ_39 dhpσ_39 ehpσ_39 fhpσ_39 gσ_39 c_40 bhpσ_42 chpσ_42 dhpσ_42 hm163 hge163 gc_47_x_44 c_47; omega) | omega), if_neg (by first | (clear hn hh ahpσ_4 bhpσ_4 dhpσ_4 c_5 chpσ_4 ggy_6 iy_6 kc_7 kc_8 ahpσ_10 bhpσ_10 dhpσ_10 c_11 chpσ_10 ggy_15 iy_15 ggy_17 iy_17 kc_18 ahpσ_20 bhpσ_20 dhpσ_20 c_21 chpσ_20 if_22 c_23 hm78 hge78 gc_27_x_24 c_27 hm112 hge112 gc_32_x_29 gc_32_v3 c_32 ahpσ_39 bhpσ_39 chpσ_39 dhpσ_39 ehpσ_39 fhpσ_39 gσ_39 c_40 bhpσ_42 chpσ_42 dhpσ_42 hm163 gc_47_x_44; omega) | omega)] <;> exact kqσ_45 j h
                              have kfσ_50 : ∀ j, 0 ≤ j → j < 654 → m_of σ_50 (q_rf X a 21) j = m_c X σ a j := fun j h0 h1 => (m_ofo hσ_50 (m_ne (q_tk (f := 21) (k' := 35) hI ha rfl (by decide)) (q_tk (k' := 34) hI ha rfl (Nat.succ_ne_zero _)) (by decide)) j).trans (kfσ_45 j h0 h1)
                              have rsσ_50x := rsσ_45
                              have kvσ_50 : (f_49).toInt = m_c X σ a x_44.toInt := by rw [krf_49]; exact kfσ_45 _ (by first | (clear hn hh ahpσ_4 bhpσ_4 dhpσ_4 c_5 chpσ_4 ggy_6 iy_6 kc_7 kc_8 ahpσ_10 bhpσ_10 dhpσ_10 c_11 chpσ_10 ggy_15 iy_15 ggy_17 iy_17 kc_18 ahpσ_20 bhpσ_20 dhpσ_20 c_21 chpσ_20 if_22 c_23 hm78 hge78 gc_27_x_24 c_27 hm112 hge112 gc_32_x_29 gc_32_v3 c_32 ahpσ_39 bhpσ_39 chpσ_39 dhpσ_39 ehpσ_39 fhpσ_39 gσ_39 c_40 bhpσ_42 chpσ_42 dhpσ_42 hm163 gc_47_x_44; omega) | omega) (by omega)
                              obtain ⟨z_51, ez_51⟩ : ∃ y : Int32, y = x_44 + 1 := ⟨_, rfl⟩
                              replace hF := q_letX hF ez_51
                              refine lv_iinc (v := z_51) (lv' := [(7, .int z_51), (0, .ref a), (1, .int v1), (2, .int v2), (3, .int v3), (4, .int v4), (5, .int z_43), (6, .int x_29)]) hx hb dX12_tries_185 hl (k := 7) rfl (by rw [ez_51]; rfl) (by decide) rfl (fun ls hl => ?_)
                              have iz_51 : z_51.toInt = x_44.toInt + 1 := q_inc ez_51 (by first | (clear hn hh ahpσ_4 bhpσ_4 dhpσ_4 c_5 chpσ_4 ggy_6 iy_6 kc_7 kc_8 ahpσ_10 bhpσ_10 dhpσ_10 c_11 chpσ_10 ggy_15 iy_15 ggy_17 iy_17 kc_18 ahpσ_20 bhpσ_20 dhpσ_20 c_21 chpσ_20 if_22 c_23 hm78 hge78 gc_27_x_24 c_27 hm112 hge112 gc_32_x_29 gc_32_v3 c_32 ahpσ_39 bhpσ_39 chpσ_39 dhpσ_39 ehpσ_39 fhpσ_39 gσ_39 c_40 bhpσ_42 chpσ_42 dhpσ_42 hm163 gc_47_x_44; omega) | omega)
                              refine lv_goto (tgt := 163) hx hb dX12_tries_188 (by decide) ?_
                              exact ih163 z_51 σ_50 _ _ ls (by first | (clear hn hh ahpσ_4 bhpσ_4 dhpσ_4 c_5 chpσ_4 ggy_6 iy_6 kc_7 kc_8 ahpσ_10 bhpσ_10 dhpσ_10 c_11 chpσ_10 ggy_15 iy_15 ggy_17 iy_17 kc_18 ahpσ_20 bhpσ_20 dhpσ_20 c_21 chpσ_20 if_22 c_23 hm78 hge78 gc_27_x_24 c_27 hm112 hge112 gc_32_x_29 gc_32_v3 c_32 ahpσ_39 bhpσ_39 chpσ_39 dhpσ_39 ehpσ_39 fhpσ_39 gσ_39 c_40 bhpσ_42 chpσ_42 dhpσ_42 gc_47_x_44; omega) | omega) (by first | (clear hn hh ahpσ_4 bhpσ_4 dhpσ_4 c_5 chpσ_4 ggy_6 iy_6 kc_7 kc_8 ahpσ_10 bhpσ_10 dhpσ_10 c_11 chpσ_10 ggy_15 iy_15 ggy_17 iy_17 kc_18 ahpσ_20 bhpσ_20 dhpσ_20 c_21 chpσ_20 if_22 c_23 hm78 hge78 gc_27_x_24 c_27 hm112 hge112 gc_32_x_29 gc_32_v3 c_32 ahpσ_39 bhpσ_39 chpσ_39 dhpσ_39 ehpσ_39 fhpσ_39 gσ_39 c_40 bhpσ_42 chpσ_42 dhpσ_42 hm163 gc_47_x_44; omega) | omega) (fun j h0 h1 => (by rw [mcσ_50 j h0]; split; (rename_i q; rw [q]; exact kvσ_50); exact rsσ_50x j h0 (by first | (clear hn hh ahpσ_4 bhpσ_4 dhpσ_4 c_5 chpσ_4 ggy_6 iy_6 kc_7 kc_8 ahpσ_10 bhpσ_10 dhpσ_10 c_11 chpσ_10 ggy_15 iy_15 ggy_17 iy_17 kc_18 ahpσ_20 bhpσ_20 dhpσ_20 c_21 chpσ_20 if_22 c_23 hm78 hge78 gc_27_x_24 c_27 hm112 hge112 gc_32_x_29 gc_32_v3 c_32 ahpσ_39 bhpσ_39 chpσ_39 dhpσ_39 ehpσ_39 fhpσ_39 gσ_39 c_40 bhpσ_42 chpσ_42 dhpσ_42 hm163 hge163 gc_47_x_44 c_47; omega) | omega))) fr_σ_50 kqσ_50 kfσ_50 hF hI (lv_sub hl [1, 2, 3, 4, 5, 6, 7, 0] rfl)
                        have kc_52 : (0 : Int32).toInt = 0 := zt_0
                        exact L_163_46 ((2147483647 - (0 : Int32).toInt).toNat + 1) 0 σ_39 _ _ ls (Nat.lt_succ_self _) (by decide) (fun j h0 h1 => by have q : (0 : Int32).toInt = 0 := rfl; omega) fr_σ_39 kqσ_39 kfσ_39 hF hI (lv_sub hl [2, 3, 4, 5, 6, 1, 7, 0] rfl)
                      · skip
                        replace hF := q_ifn hF c_40
                        refine lv_aload_n hx hb dX12_tries_133 rfl (lv_at hl 0 rfl) ?_
                        refine gs_X12_35_12 E hI ha dX12_tries_134 ?_
                        refine lv_bipush (v := 8) hx hb dX12_tries_137 zkb_8 ?_
                        refine q_iald E hI (q_tk (k' := 34) hI ha rfl (Nat.succ_ne_zero _)) ⟨by decide, rfl⟩ (by decide) (by rw [q_lnk (v := 4650) hI (q_tk (k' := 34) hI ha rfl (Nat.succ_ne_zero _)) rfl (by decide)]; decide) dX12_tries_139 ?_
                        refine lv_topi (fun f_53 ef_53 => ?_)
                        replace hF := q_letX hF ef_53
                        have if_53 : f_53.toInt = m_c X σ_39 a 8 := m_rd ef_53 (by decide)
                        refine lv_iload_n hx hb dX12_tries_140 rfl (lv_at hl 1 rfl) ?_
                        have gc_54_f_53 := q_rng f_53
                        have gc_54_v1 := q_rng v1
                        refine q_icmp_ne (A := f_53.toInt) (B := v1.toInt) E rfl rfl (tgt := 148) dX12_tries_141 (by decide) (fun c_54 => ?_) (fun c_54 => ?_)
                        · skip
                          replace hF := q_ifn hF c_54
                          refine lv_iconst (v := 0) hx hb dX12_tries_148 zki_0 ?_
                          refine lv_goto (tgt := 157) hx hb dX12_tries_149 (by decide) ?_
                          refine lv_iadd hx hb dX12_tries_157 ?_
                          refine lv_topi (fun z_55 ez_55 => ?_)
                          replace hF := q_letX hF ez_55
                          refine lv_istore (lv' := [(5, .int z_55), (0, .ref a), (1, .int v1), (2, .int v2), (3, .int v3), (4, .int v4), (6, .int x_29)]) hx hb dX12_tries_158 hl (by decide) rfl (fun ls hl => ?_)
                          refine lv_iconst (v := 0) hx hb dX12_tries_160 zki_0 ?_
                          refine lv_istore (lv' := [(7, .int 0), (5, .int z_55), (0, .ref a), (1, .int v1), (2, .int v2), (3, .int v3), (4, .int v4), (6, .int x_29)]) hx hb dX12_tries_161 hl (by decide) rfl (fun ls hl => ?_)
                          have L_163_58 : ∀ (k_58 : Nat) (x_56 : Int32) (σ_57 : ST) (H : Heap) (locs : List Loc) (ls : Array Slot), (2147483647 - x_56.toInt).toNat < k_58 → (0 ≤ x_56.toInt ∧ x_56.toInt ≤ 654) → (∀ j, 0 ≤ j → j < x_56.toInt → m_c X σ_57 a j = m_c X σ a j) → (q_ow [(12, 0), (12, 1), (12, 38), (12, 39), (12, 40), (12, 41), (12, 42), (12, 43), (12, 44), (12, 45), (34, 99), (35, 99), (39, 99)] [(12, 2), (12, 3)] X σ σ_57) → (∀ j, 654 ≤ j → m_c X σ_57 a j = m_c X σ a j) → (∀ j, 0 ≤ j → j < 654 → m_of σ_57 (q_rf X a 21) j = m_c X σ a j) → (F_X12_tries_L163_7 X a x_29 (F_X12_tries_L112_3 X v3 v2 a v4 v1 k_31) z_55 k_58 x_56 σ_57 = out) → q_I X 1 σ s.heap locs σ_57 H → lv_has ls 8 [(0, .ref a), (1, .int v1), (2, .int v2), (3, .int v3), (4, .int v4), (5, .int z_55), (6, .int x_29), (7, .int x_56)] → W p l e (q_rm 69 1612) s m ([.ref a, .int v1, .int v2, .int v3, .int v4] : List Value).toArray below meth c H locs 0 0 (MQ below (q_Qi X 1 σ (fun (r : Int32) (σ' : ST) => (0 ≤ r.toInt ∧ r.toInt ≤ 1) ∧ (m_c X σ' a = m_c X σ a) ∧ (r, σ') = F_X12_tries X σ a v1 v2 v3 v4 ∧ q_ow [(12, 0), (12, 1), (12, 38), (12, 39), (12, 40), (12, 41), (12, 42), (12, 43), (12, 44), (12, 45), (34, 99), (35, 99), (39, 99)] [(12, 2), (12, 3)] X σ σ')) ([.ref a, .int v1, .int v2, .int v3, .int v4] : List Value).toArray s 0 0 (q_reg X)) (F0 m 163 ls []) := by
                            clear hF
                            intro k_58
                            induction k_58 with
                            | zero =>
                              intro x_56 σ_57 H locs ls hms
                              exact absurd hms (Nat.not_lt_zero _)
                            | succ k_58 ih163 =>
                              intro x_56 σ_57 H locs ls hm163 hge163 rsσ_57 fr_σ_57 kqσ_57 kfσ_57 hF hI hl
                              replace hF := (F_X12_tries_L163_7_s).symm.trans hF
                              unfold F_X12_tries_B163_7 at hF
                              refine lv_iload hx hb dX12_tries_163 (lv_at hl 7 rfl) ?_
                              refine lv_sipush (v := 654) hx hb dX12_tries_165 zks_654 ?_
                              have gc_59_x_56 := q_rng x_56
                              refine q_icmp_ge (A := x_56.toInt) (B := 654) E rfl (by decide) (tgt := 191) dX12_tries_168 (by decide) (fun c_59 => ?_) (fun c_59 => ?_)
                              · skip
                                replace hF := q_ifn hF (Int.not_lt.mpr c_59)
                                unfold F_X12_tries_E191_8 at hF
                                have fxσ_57 : m_c X σ_57 a = m_c X σ a := m_c_ext (fun j hj => if h : j < 654 then rsσ_57 j hj (by first | (clear hn hh ahpσ_4 bhpσ_4 dhpσ_4 c_5 chpσ_4 ggy_6 iy_6 kc_7 kc_8 ahpσ_10 bhpσ_10 dhpσ_10 c_11 chpσ_10 ggy_15 iy_15 ggy_17 iy_17 kc_18 ahpσ_20 bhpσ_20 dhpσ_20 c_21 chpσ_20 if_22 c_23 hm78 hge78 gc_27_x_24 c_27 hm112 hge112 gc_32_x_29 gc_32_v3 c_32 ahpσ_39 bhpσ_39 chpσ_39 dhpσ_39 ehpσ_39 fhpσ_39 gσ_39 c_40 if_53 gc_54_f_53 gc_54_v1 c_54 hm163 gc_59_x_56; omega) | omega) else kqσ_57 j (by first | (clear hn hh ahpσ_4 bhpσ_4 dhpσ_4 c_5 chpσ_4 ggy_6 iy_6 kc_7 kc_8 ahpσ_10 bhpσ_10 dhpσ_10 c_11 chpσ_10 ggy_15 iy_15 ggy_17 iy_17 kc_18 ahpσ_20 bhpσ_20 dhpσ_20 c_21 chpσ_20 if_22 c_23 hm78 hge78 gc_27_x_24 c_27 hm112 hge112 gc_32_x_29 gc_32_v3 c_32 ahpσ_39 bhpσ_39 chpσ_39 dhpσ_39 ehpσ_39 fhpσ_39 gσ_39 c_40 if_53 gc_54_f_53 gc_54_v1 c_54 hm163 hge163 gc_59_x_56 c_59; omega) | omega))
                                obtain ⟨z_60, ez_60⟩ : ∃ y : Int32, y = x_29 + 1 := ⟨_, rfl⟩
                                replace hF := q_letX hF ez_60
                                refine lv_iinc (v := z_60) (lv' := [(6, .int z_60), (0, .ref a), (1, .int v1), (2, .int v2), (3, .int v3), (4, .int v4), (5, .int z_55), (7, .int x_56)]) hx hb dX12_tries_191 hl (k := 6) rfl (by rw [ez_60]; rfl) (by decide) rfl (fun ls hl => ?_)
                                have iz_60 : z_60.toInt = x_29.toInt + 1 := q_inc ez_60 (by first | (clear hn hh ahpσ_4 bhpσ_4 dhpσ_4 c_5 chpσ_4 ggy_6 kc_7 ahpσ_10 bhpσ_10 dhpσ_10 c_11 ggy_15 iy_15 ggy_17 iy_17 kc_18 ahpσ_20 bhpσ_20 dhpσ_20 c_21 chpσ_20 if_22 c_23 hm78 hge78 gc_27_x_24 c_27 hm112 gc_32_v3 ahpσ_39 bhpσ_39 chpσ_39 dhpσ_39 ehpσ_39 fhpσ_39 gσ_39 c_40 if_53 gc_54_f_53 gc_54_v1 c_54 hm163 hge163 gc_59_x_56 c_59; omega) | omega)
                                refine lv_goto (tgt := 112) hx hb dX12_tries_194 (by decide) ?_
                                exact ih112 z_55 z_60 σ_57 _ _ ls (by first | (clear hn hh ahpσ_4 bhpσ_4 dhpσ_4 c_5 chpσ_4 ggy_6 kc_7 ahpσ_10 bhpσ_10 dhpσ_10 c_11 ggy_15 iy_15 ggy_17 iy_17 kc_18 ahpσ_20 bhpσ_20 dhpσ_20 c_21 chpσ_20 if_22 c_23 hm78 hge78 gc_27_x_24 c_27 gc_32_v3 ahpσ_39 bhpσ_39 chpσ_39 dhpσ_39 ehpσ_39 fhpσ_39 gσ_39 if_53 gc_54_f_53 gc_54_v1 hm163 gc_59_x_56; omega) | omega) (by first | (clear hn hh ahpσ_4 bhpσ_4 dhpσ_4 c_5 chpσ_4 ggy_6 iy_6 kc_7 kc_8 ahpσ_10 bhpσ_10 dhpσ_10 c_11 chpσ_10 ggy_15 iy_15 ggy_17 iy_17 kc_18 ahpσ_20 bhpσ_20 dhpσ_20 c_21 chpσ_20 if_22 c_23 hm78 hge78 gc_27_x_24 c_27 hm112 gc_32_v3 c_32 ahpσ_39 bhpσ_39 chpσ_39 dhpσ_39 ehpσ_39 fhpσ_39 gσ_39 c_40 if_53 gc_54_f_53 gc_54_v1 c_54 hm163 hge163 gc_59_x_56 c_59; omega) | omega) fr_σ_57 fxσ_57 kfσ_57 hF hI (lv_sub hl [1, 2, 3, 4, 5, 6, 0] rfl)
                              · skip
                                replace hF := q_ifp hF c_59
                                refine lv_aload_n hx hb dX12_tries_171 rfl (lv_at hl 0 rfl) ?_
                                refine gs_X12_35_12 E hI ha dX12_tries_172 ?_
                                refine lv_iload hx hb dX12_tries_175 (lv_at hl 7 rfl) ?_
                                refine lv_aload_n hx hb dX12_tries_177 rfl (lv_at hl 0 rfl) ?_
                                refine gs_X12_38_12 E hI ha dX12_tries_178 ?_
                                refine lv_iload hx hb dX12_tries_181 (lv_at hl 7 rfl) ?_
                                refine q_iald E hI (q_tk (k' := 35) hI ha rfl (Nat.succ_ne_zero _)) ⟨by decide, rfl⟩ (by first | (clear hn hh ahpσ_4 bhpσ_4 dhpσ_4 c_5 chpσ_4 ggy_6 iy_6 kc_7 kc_8 ahpσ_10 bhpσ_10 dhpσ_10 c_11 chpσ_10 ggy_15 iy_15 ggy_17 iy_17 kc_18 ahpσ_20 bhpσ_20 dhpσ_20 c_21 chpσ_20 if_22 c_23 hm78 hge78 gc_27_x_24 c_27 hm112 hge112 gc_32_x_29 gc_32_v3 c_32 ahpσ_39 bhpσ_39 chpσ_39 dhpσ_39 ehpσ_39 fhpσ_39 gσ_39 c_40 if_53 gc_54_f_53 gc_54_v1 c_54 hm163 gc_59_x_56; omega) | omega) (by rw [q_lnk (v := 654) hI (q_tk (k' := 35) hI ha rfl (Nat.succ_ne_zero _)) rfl (by decide)]; omega) dX12_tries_183 ?_
                                refine lv_topi (fun f_61 ef_61 => ?_)
                                replace hF := q_letX hF ef_61
                                have krf_61 : f_61.toInt = m_of σ_57 (q_rf X a 21) x_56.toInt := by rw [ef_61]; rfl
                                refine q_iastN E hI (q_tk (k' := 34) hI ha rfl (Nat.succ_ne_zero _)) ⟨by decide, rfl⟩ (by first | (clear hn hh ahpσ_4 bhpσ_4 dhpσ_4 c_5 chpσ_4 ggy_6 iy_6 kc_7 kc_8 ahpσ_10 bhpσ_10 dhpσ_10 c_11 chpσ_10 ggy_15 iy_15 ggy_17 iy_17 kc_18 ahpσ_20 bhpσ_20 dhpσ_20 c_21 chpσ_20 if_22 c_23 hm78 hge78 gc_27_x_24 c_27 hm112 hge112 gc_32_x_29 gc_32_v3 c_32 ahpσ_39 bhpσ_39 chpσ_39 dhpσ_39 ehpσ_39 fhpσ_39 gσ_39 c_40 if_53 gc_54_f_53 gc_54_v1 c_54 hm163 gc_59_x_56; omega) | omega) (by rw [q_lnk (v := 4650) hI (q_tk (k' := 34) hI ha rfl (Nat.succ_ne_zero _)) rfl (by decide)]; omega) (show 1 < 2 by decide) (q_inU rfl) dX12_tries_184 (fun H locs σ_62 hσ_62 hI => ?_)
                                replace hF := q_letX hF hσ_62
                                have fr_σ_62 := fr_σ_57.si hσ_62 (q_tk (k' := 34) hI ha rfl (Nat.succ_ne_zero _)) rfl
                                have mcσ_62 := m_wr (v := f_61) (A := x_56.toInt) hσ_62 rfl (by first | (clear hn hh ahpσ_4 bhpσ_4 dhpσ_4 c_5 chpσ_4 ggy_6 iy_6 kc_7 kc_8 ahpσ_10 bhpσ_10 dhpσ_10 c_11 chpσ_10 ggy_15 iy_15 ggy_17 iy_17 kc_18 ahpσ_20 bhpσ_20 dhpσ_20 c_21 chpσ_20 if_22 c_23 hm78 hge78 gc_27_x_24 c_27 hm112 hge112 gc_32_x_29 gc_32_v3 c_32 ahpσ_39 bhpσ_39 chpσ_39 dhpσ_39 ehpσ_39 fhpσ_39 gσ_39 c_40 if_53 gc_54_f_53 gc_54_v1 c_54 hm163 gc_59_x_56; omega) | omega)
                                have kqσ_62 : ∀ j, 654 ≤ j → m_c X σ_62 a j = m_c X σ a j := fun j h => by rw [mcσ_62 j (by first | (clear hn hh ahpσ_4 bhpσ_4 dhpσ_4 c_5 chpσ_4 ggy_6 iy_6 kc_7 kc_8 ahpσ_10 bhpσ_10 dhpσ_10 c_11 chpσ_10 ggy_15 iy_15 ggy_17 iy_17 kc_18 ahpσ_20 bhpσ_20 dhpσ_20 c_21 chpσ_20 if_22 c_23 hm78 hge78 gc_27_x_24 c_27 hm112 hge112 gc_32_x_29 gc_32_v3 c_32 ahpσ_39 bhpσ_39 chpσ_39 dhpσ_39 ehpσ_39 fhpσ_39 gσ_39 c_40 if_53 gc_54_f_53 gc_54_v1 c_54 hm163 hge163 gc_59_x_56 c_59; omega) | omega), if_neg (by first | (clear hn hh ahpσ_4 bhpσ_4 dhpσ_4 c_5 chpσ_4 ggy_6 iy_6 kc_7 kc_8 ahpσ_10 bhpσ_10 dhpσ_10 c_11 chpσ_10 ggy_15 iy_15 ggy_17 iy_17 kc_18 ahpσ_20 bhpσ_20 dhpσ_20 c_21 chpσ_20 if_22 c_23 hm78 hge78 gc_27_x_24 c_27 hm112 hge112 gc_32_x_29 gc_32_v3 c_32 ahpσ_39 bhpσ_39 chpσ_39 dhpσ_39 ehpσ_39 fhpσ_39 gσ_39 c_40 if_53 gc_54_f_53 gc_54_v1 c_54 hm163 gc_59_x_56; omega) | omega)] <;> exact kqσ_57 j h
                                have kfσ_62 : ∀ j, 0 ≤ j → j < 654 → m_of σ_62 (q_rf X a 21) j = m_c X σ a j := fun j h0 h1 => (m_ofo hσ_62 (m_ne (q_tk (f := 21) (k' := 35) hI ha rfl (by decide)) (q_tk (k' := 34) hI ha rfl (Nat.succ_ne_zero _)) (by decide)) j).trans (kfσ_57 j h0 h1)
                                have rsσ_62x := rsσ_57
                                have kvσ_62 : (f_61).toInt = m_c X σ a x_56.toInt := by rw [krf_61]; exact kfσ_57 _ (by first | (clear hn hh ahpσ_4 bhpσ_4 dhpσ_4 c_5 chpσ_4 ggy_6 iy_6 kc_7 kc_8 ahpσ_10 bhpσ_10 dhpσ_10 c_11 chpσ_10 ggy_15 iy_15 ggy_17 iy_17 kc_18 ahpσ_20 bhpσ_20 dhpσ_20 c_21 chpσ_20 if_22 c_23 hm78 hge78 gc_27_x_24 c_27 hm112 hge112 gc_32_x_29 gc_32_v3 c_32 ahpσ_39 bhpσ_39 chpσ_39 dhpσ_39 ehpσ_39 fhpσ_39 gσ_39 c_40 if_53 gc_54_f_53 gc_54_v1 c_54 hm163 gc_59_x_56; omega) | omega) (by omega)
                                obtain ⟨z_63, ez_63⟩ : ∃ y : Int32, y = x_56 + 1 := ⟨_, rfl⟩
                                replace hF := q_letX hF ez_63
                                refine lv_iinc (v := z_63) (lv' := [(7, .int z_63), (0, .ref a), (1, .int v1), (2, .int v2), (3, .int v3), (4, .int v4), (5, .int z_55), (6, .int x_29)]) hx hb dX12_tries_185 hl (k := 7) rfl (by rw [ez_63]; rfl) (by decide) rfl (fun ls hl => ?_)
                                have iz_63 : z_63.toInt = x_56.toInt + 1 := q_inc ez_63 (by first | (clear hn hh ahpσ_4 bhpσ_4 dhpσ_4 c_5 chpσ_4 ggy_6 iy_6 kc_7 kc_8 ahpσ_10 bhpσ_10 dhpσ_10 c_11 chpσ_10 ggy_15 iy_15 ggy_17 iy_17 kc_18 ahpσ_20 bhpσ_20 dhpσ_20 c_21 chpσ_20 if_22 c_23 hm78 hge78 gc_27_x_24 c_27 hm112 hge112 gc_32_x_29 gc_32_v3 c_32 ahpσ_39 bhpσ_39 chpσ_39 dhpσ_39 ehpσ_39 fhpσ_39 gσ_39 c_40 if_53 gc_54_f_53 gc_54_v1 c_54 hm163 gc_59_x_56; omega) | omega)
                                refine lv_goto (tgt := 163) hx hb dX12_tries_188 (by decide) ?_
                                exact ih163 z_63 σ_62 _ _ ls (by first | (clear hn hh ahpσ_4 bhpσ_4 dhpσ_4 c_5 chpσ_4 ggy_6 iy_6 kc_7 kc_8 ahpσ_10 bhpσ_10 dhpσ_10 c_11 chpσ_10 ggy_15 iy_15 ggy_17 iy_17 kc_18 ahpσ_20 bhpσ_20 dhpσ_20 c_21 chpσ_20 if_22 c_23 hm78 hge78 gc_27_x_24 c_27 hm112 hge112 gc_32_x_29 gc_32_v3 c_32 ahpσ_39 bhpσ_39 chpσ_39 dhpσ_39 ehpσ_39 fhpσ_39 gσ_39 c_40 if_53 gc_54_f_53 gc_54_v1 c_54 gc_59_x_56; omega) | omega) (by first | (clear hn hh ahpσ_4 bhpσ_4 dhpσ_4 c_5 chpσ_4 ggy_6 iy_6 kc_7 kc_8 ahpσ_10 bhpσ_10 dhpσ_10 c_11 chpσ_10 ggy_15 iy_15 ggy_17 iy_17 kc_18 ahpσ_20 bhpσ_20 dhpσ_20 c_21 chpσ_20 if_22 c_23 hm78 hge78 gc_27_x_24 c_27 hm112 hge112 gc_32_x_29 gc_32_v3 c_32 ahpσ_39 bhpσ_39 chpσ_39 dhpσ_39 ehpσ_39 fhpσ_39 gσ_39 c_40 if_53 gc_54_f_53 gc_54_v1 c_54 hm163 gc_59_x_56; omega) | omega) (fun j h0 h1 => (by rw [mcσ_62 j h0]; split; (rename_i q; rw [q]; exact kvσ_62); exact rsσ_62x j h0 (by first | (clear hn hh ahpσ_4 bhpσ_4 dhpσ_4 c_5 chpσ_4 ggy_6 iy_6 kc_7 kc_8 ahpσ_10 bhpσ_10 dhpσ_10 c_11 chpσ_10 ggy_15 iy_15 ggy_17 iy_17 kc_18 ahpσ_20 bhpσ_20 dhpσ_20 c_21 chpσ_20 if_22 c_23 hm78 hge78 gc_27_x_24 c_27 hm112 hge112 gc_32_x_29 gc_32_v3 c_32 ahpσ_39 bhpσ_39 chpσ_39 dhpσ_39 ehpσ_39 fhpσ_39 gσ_39 c_40 if_53 gc_54_f_53 gc_54_v1 c_54 hm163 hge163 gc_59_x_56 c_59; omega) | omega))) fr_σ_62 kqσ_62 kfσ_62 hF hI (lv_sub hl [1, 2, 3, 4, 5, 6, 7, 0] rfl)
                          have kc_64 : (0 : Int32).toInt = 0 := zt_0
                          exact L_163_58 ((2147483647 - (0 : Int32).toInt).toNat + 1) 0 σ_39 _ _ ls (Nat.lt_succ_self _) (by decide) (fun j h0 h1 => by have q : (0 : Int32).toInt = 0 := rfl; omega) fr_σ_39 kqσ_39 kfσ_39 hF hI (lv_sub hl [2, 3, 4, 5, 6, 1, 7, 0] rfl)
                        · skip
                          replace hF := q_ifp hF c_54
                          refine lv_iconst (v := 1) hx hb dX12_tries_144 zki_1 ?_
                          refine lv_goto (tgt := 157) hx hb dX12_tries_145 (by decide) ?_
                          refine lv_iadd hx hb dX12_tries_157 ?_
                          refine lv_topi (fun z_65 ez_65 => ?_)
                          replace hF := q_letX hF ez_65
                          refine lv_istore (lv' := [(5, .int z_65), (0, .ref a), (1, .int v1), (2, .int v2), (3, .int v3), (4, .int v4), (6, .int x_29)]) hx hb dX12_tries_158 hl (by decide) rfl (fun ls hl => ?_)
                          refine lv_iconst (v := 0) hx hb dX12_tries_160 zki_0 ?_
                          refine lv_istore (lv' := [(7, .int 0), (5, .int z_65), (0, .ref a), (1, .int v1), (2, .int v2), (3, .int v3), (4, .int v4), (6, .int x_29)]) hx hb dX12_tries_161 hl (by decide) rfl (fun ls hl => ?_)
                          have L_163_68 : ∀ (k_68 : Nat) (x_66 : Int32) (σ_67 : ST) (H : Heap) (locs : List Loc) (ls : Array Slot), (2147483647 - x_66.toInt).toNat < k_68 → (0 ≤ x_66.toInt ∧ x_66.toInt ≤ 654) → (∀ j, 0 ≤ j → j < x_66.toInt → m_c X σ_67 a j = m_c X σ a j) → (q_ow [(12, 0), (12, 1), (12, 38), (12, 39), (12, 40), (12, 41), (12, 42), (12, 43), (12, 44), (12, 45), (34, 99), (35, 99), (39, 99)] [(12, 2), (12, 3)] X σ σ_67) → (∀ j, 654 ≤ j → m_c X σ_67 a j = m_c X σ a j) → (∀ j, 0 ≤ j → j < 654 → m_of σ_67 (q_rf X a 21) j = m_c X σ a j) → (F_X12_tries_L163_9 X a x_29 (F_X12_tries_L112_3 X v3 v2 a v4 v1 k_31) z_65 k_68 x_66 σ_67 = out) → q_I X 1 σ s.heap locs σ_67 H → lv_has ls 8 [(0, .ref a), (1, .int v1), (2, .int v2), (3, .int v3), (4, .int v4), (5, .int z_65), (6, .int x_29), (7, .int x_66)] → W p l e (q_rm 69 1612) s m ([.ref a, .int v1, .int v2, .int v3, .int v4] : List Value).toArray below meth c H locs 0 0 (MQ below (q_Qi X 1 σ (fun (r : Int32) (σ' : ST) => (0 ≤ r.toInt ∧ r.toInt ≤ 1) ∧ (m_c X σ' a = m_c X σ a) ∧ (r, σ') = F_X12_tries X σ a v1 v2 v3 v4 ∧ q_ow [(12, 0), (12, 1), (12, 38), (12, 39), (12, 40), (12, 41), (12, 42), (12, 43), (12, 44), (12, 45), (34, 99), (35, 99), (39, 99)] [(12, 2), (12, 3)] X σ σ')) ([.ref a, .int v1, .int v2, .int v3, .int v4] : List Value).toArray s 0 0 (q_reg X)) (F0 m 163 ls []) := by
                            clear hF
                            intro k_68
                            induction k_68 with
                            | zero =>
                              intro x_66 σ_67 H locs ls hms
                              exact absurd hms (Nat.not_lt_zero _)
                            | succ k_68 ih163 =>
                              intro x_66 σ_67 H locs ls hm163 hge163 rsσ_67 fr_σ_67 kqσ_67 kfσ_67 hF hI hl
                              replace hF := (F_X12_tries_L163_9_s).symm.trans hF
                              unfold F_X12_tries_B163_9 at hF
                              refine lv_iload hx hb dX12_tries_163 (lv_at hl 7 rfl) ?_
                              refine lv_sipush (v := 654) hx hb dX12_tries_165 zks_654 ?_
                              have gc_69_x_66 := q_rng x_66
                              refine q_icmp_ge (A := x_66.toInt) (B := 654) E rfl (by decide) (tgt := 191) dX12_tries_168 (by decide) (fun c_69 => ?_) (fun c_69 => ?_)
                              · skip
                                replace hF := q_ifn hF (Int.not_lt.mpr c_69)
                                unfold F_X12_tries_E191_10 at hF
                                have fxσ_67 : m_c X σ_67 a = m_c X σ a := m_c_ext (fun j hj => if h : j < 654 then rsσ_67 j hj (by first | (clear hn hh ahpσ_4 bhpσ_4 dhpσ_4 c_5 chpσ_4 ggy_6 iy_6 kc_7 kc_8 ahpσ_10 bhpσ_10 dhpσ_10 c_11 chpσ_10 ggy_15 iy_15 ggy_17 iy_17 kc_18 ahpσ_20 bhpσ_20 dhpσ_20 c_21 chpσ_20 if_22 c_23 hm78 hge78 gc_27_x_24 c_27 hm112 hge112 gc_32_x_29 gc_32_v3 c_32 ahpσ_39 bhpσ_39 chpσ_39 dhpσ_39 ehpσ_39 fhpσ_39 gσ_39 c_40 if_53 gc_54_f_53 gc_54_v1 c_54 hm163 gc_69_x_66; omega) | omega) else kqσ_67 j (by first | (clear hn hh ahpσ_4 bhpσ_4 dhpσ_4 c_5 chpσ_4 ggy_6 iy_6 kc_7 kc_8 ahpσ_10 bhpσ_10 dhpσ_10 c_11 chpσ_10 ggy_15 iy_15 ggy_17 iy_17 kc_18 ahpσ_20 bhpσ_20 dhpσ_20 c_21 chpσ_20 if_22 c_23 hm78 hge78 gc_27_x_24 c_27 hm112 hge112 gc_32_x_29 gc_32_v3 c_32 ahpσ_39 bhpσ_39 chpσ_39 dhpσ_39 ehpσ_39 fhpσ_39 gσ_39 c_40 if_53 gc_54_f_53 gc_54_v1 c_54 hm163 hge163 gc_69_x_66 c_69; omega) | omega))
                                obtain ⟨z_70, ez_70⟩ : ∃ y : Int32, y = x_29 + 1 := ⟨_, rfl⟩
                                replace hF := q_letX hF ez_70
                                refine lv_iinc (v := z_70) (lv' := [(6, .int z_70), (0, .ref a), (1, .int v1), (2, .int v2), (3, .int v3), (4, .int v4), (5, .int z_65), (7, .int x_66)]) hx hb dX12_tries_191 hl (k := 6) rfl (by rw [ez_70]; rfl) (by decide) rfl (fun ls hl => ?_)
                                have iz_70 : z_70.toInt = x_29.toInt + 1 := q_inc ez_70 (by first | (clear hn hh ahpσ_4 bhpσ_4 dhpσ_4 c_5 chpσ_4 ggy_6 kc_7 ahpσ_10 bhpσ_10 dhpσ_10 c_11 ggy_15 iy_15 ggy_17 iy_17 kc_18 ahpσ_20 bhpσ_20 dhpσ_20 c_21 chpσ_20 if_22 c_23 hm78 hge78 gc_27_x_24 c_27 hm112 gc_32_v3 ahpσ_39 bhpσ_39 chpσ_39 dhpσ_39 ehpσ_39 fhpσ_39 gσ_39 c_40 if_53 gc_54_f_53 gc_54_v1 c_54 hm163 hge163 gc_69_x_66 c_69; omega) | omega)
                                refine lv_goto (tgt := 112) hx hb dX12_tries_194 (by decide) ?_
                                exact ih112 z_65 z_70 σ_67 _ _ ls (by first | (clear hn hh ahpσ_4 bhpσ_4 dhpσ_4 c_5 chpσ_4 ggy_6 kc_7 ahpσ_10 bhpσ_10 dhpσ_10 c_11 ggy_15 iy_15 ggy_17 iy_17 kc_18 ahpσ_20 bhpσ_20 dhpσ_20 c_21 chpσ_20 if_22 c_23 hm78 hge78 gc_27_x_24 c_27 gc_32_v3 ahpσ_39 bhpσ_39 chpσ_39 dhpσ_39 ehpσ_39 fhpσ_39 gσ_39 if_53 gc_54_f_53 gc_54_v1 c_54 hm163 gc_69_x_66; omega) | omega) (by first | (clear hn hh ahpσ_4 bhpσ_4 dhpσ_4 c_5 chpσ_4 ggy_6 iy_6 kc_7 kc_8 ahpσ_10 bhpσ_10 dhpσ_10 c_11 chpσ_10 ggy_15 iy_15 ggy_17 iy_17 kc_18 ahpσ_20 bhpσ_20 dhpσ_20 c_21 chpσ_20 if_22 c_23 hm78 hge78 gc_27_x_24 c_27 hm112 gc_32_v3 c_32 ahpσ_39 bhpσ_39 chpσ_39 dhpσ_39 ehpσ_39 fhpσ_39 gσ_39 c_40 if_53 gc_54_f_53 gc_54_v1 c_54 hm163 hge163 gc_69_x_66 c_69; omega) | omega) fr_σ_67 fxσ_67 kfσ_67 hF hI (lv_sub hl [1, 2, 3, 4, 5, 6, 0] rfl)
                              · skip
                                replace hF := q_ifp hF c_69
                                refine lv_aload_n hx hb dX12_tries_171 rfl (lv_at hl 0 rfl) ?_
                                refine gs_X12_35_12 E hI ha dX12_tries_172 ?_
                                refine lv_iload hx hb dX12_tries_175 (lv_at hl 7 rfl) ?_
                                refine lv_aload_n hx hb dX12_tries_177 rfl (lv_at hl 0 rfl) ?_
                                refine gs_X12_38_12 E hI ha dX12_tries_178 ?_
                                refine lv_iload hx hb dX12_tries_181 (lv_at hl 7 rfl) ?_
                                refine q_iald E hI (q_tk (k' := 35) hI ha rfl (Nat.succ_ne_zero _)) ⟨by decide, rfl⟩ (by first | (clear hn hh ahpσ_4 bhpσ_4 dhpσ_4 c_5 chpσ_4 ggy_6 iy_6 kc_7 kc_8 ahpσ_10 bhpσ_10 dhpσ_10 c_11 chpσ_10 ggy_15 iy_15 ggy_17 iy_17 kc_18 ahpσ_20 bhpσ_20 dhpσ_20 c_21 chpσ_20 if_22 c_23 hm78 hge78 gc_27_x_24 c_27 hm112 hge112 gc_32_x_29 gc_32_v3 c_32 ahpσ_39 bhpσ_39 chpσ_39 dhpσ_39 ehpσ_39 fhpσ_39 gσ_39 c_40 if_53 gc_54_f_53 gc_54_v1 c_54 hm163 gc_69_x_66; omega) | omega) (by rw [q_lnk (v := 654) hI (q_tk (k' := 35) hI ha rfl (Nat.succ_ne_zero _)) rfl (by decide)]; omega) dX12_tries_183 ?_
                                refine lv_topi (fun f_71 ef_71 => ?_)
                                replace hF := q_letX hF ef_71
                                have krf_71 : f_71.toInt = m_of σ_67 (q_rf X a 21) x_66.toInt := by rw [ef_71]; rfl
                                refine q_iastN E hI (q_tk (k' := 34) hI ha rfl (Nat.succ_ne_zero _)) ⟨by decide, rfl⟩ (by first | (clear hn hh ahpσ_4 bhpσ_4 dhpσ_4 c_5 chpσ_4 ggy_6 iy_6 kc_7 kc_8 ahpσ_10 bhpσ_10 dhpσ_10 c_11 chpσ_10 ggy_15 iy_15 ggy_17 iy_17 kc_18 ahpσ_20 bhpσ_20 dhpσ_20 c_21 chpσ_20 if_22 c_23 hm78 hge78 gc_27_x_24 c_27 hm112 hge112 gc_32_x_29 gc_32_v3 c_32 ahpσ_39 bhpσ_39 chpσ_39 dhpσ_39 ehpσ_39 fhpσ_39 gσ_39 c_40 if_53 gc_54_f_53 gc_54_v1 c_54 hm163 gc_69_x_66; omega) | omega) (by rw [q_lnk (v := 4650) hI (q_tk (k' := 34) hI ha rfl (Nat.succ_ne_zero _)) rfl (by decide)]; omega) (show 1 < 2 by decide) (q_inU rfl) dX12_tries_184 (fun H locs σ_72 hσ_72 hI => ?_)
                                replace hF := q_letX hF hσ_72
                                have fr_σ_72 := fr_σ_67.si hσ_72 (q_tk (k' := 34) hI ha rfl (Nat.succ_ne_zero _)) rfl
                                have mcσ_72 := m_wr (v := f_71) (A := x_66.toInt) hσ_72 rfl (by first | (clear hn hh ahpσ_4 bhpσ_4 dhpσ_4 c_5 chpσ_4 ggy_6 iy_6 kc_7 kc_8 ahpσ_10 bhpσ_10 dhpσ_10 c_11 chpσ_10 ggy_15 iy_15 ggy_17 iy_17 kc_18 ahpσ_20 bhpσ_20 dhpσ_20 c_21 chpσ_20 if_22 c_23 hm78 hge78 gc_27_x_24 c_27 hm112 hge112 gc_32_x_29 gc_32_v3 c_32 ahpσ_39 bhpσ_39 chpσ_39 dhpσ_39 ehpσ_39 fhpσ_39 gσ_39 c_40 if_53 gc_54_f_53 gc_54_v1 c_54 hm163 gc_69_x_66; omega) | omega)
                                have kqσ_72 : ∀ j, 654 ≤ j → m_c X σ_72 a j = m_c X σ a j := fun j h => by rw [mcσ_72 j (by first | (clear hn hh ahpσ_4 bhpσ_4 dhpσ_4 c_5 chpσ_4 ggy_6 iy_6 kc_7 kc_8 ahpσ_10 bhpσ_10 dhpσ_10 c_11 chpσ_10 ggy_15 iy_15 ggy_17 iy_17 kc_18 ahpσ_20 bhpσ_20 dhpσ_20 c_21 chpσ_20 if_22 c_23 hm78 hge78 gc_27_x_24 c_27 hm112 hge112 gc_32_x_29 gc_32_v3 c_32 ahpσ_39 bhpσ_39 chpσ_39 dhpσ_39 ehpσ_39 fhpσ_39 gσ_39 c_40 if_53 gc_54_f_53 gc_54_v1 c_54 hm163 hge163 gc_69_x_66 c_69; omega) | omega), if_neg (by first | (clear hn hh ahpσ_4 bhpσ_4 dhpσ_4 c_5 chpσ_4 ggy_6 iy_6 kc_7 kc_8 ahpσ_10 bhpσ_10 dhpσ_10 c_11 chpσ_10 ggy_15 iy_15 ggy_17 iy_17 kc_18 ahpσ_20 bhpσ_20 dhpσ_20 c_21 chpσ_20 if_22 c_23 hm78 hge78 gc_27_x_24 c_27 hm112 hge112 gc_32_x_29 gc_32_v3 c_32 ahpσ_39 bhpσ_39 chpσ_39 dhpσ_39 ehpσ_39 fhpσ_39 gσ_39 c_40 if_53 gc_54_f_53 gc_54_v1 c_54 hm163 gc_69_x_66; omega) | omega)] <;> exact kqσ_67 j h
                                have kfσ_72 : ∀ j, 0 ≤ j → j < 654 → m_of σ_72 (q_rf X a 21) j = m_c X σ a j := fun j h0 h1 => (m_ofo hσ_72 (m_ne (q_tk (f := 21) (k' := 35) hI ha rfl (by decide)) (q_tk (k' := 34) hI ha rfl (Nat.succ_ne_zero _)) (by decide)) j).trans (kfσ_67 j h0 h1)
                                have rsσ_72x := rsσ_67
                                have kvσ_72 : (f_71).toInt = m_c X σ a x_66.toInt := by rw [krf_71]; exact kfσ_67 _ (by first | (clear hn hh ahpσ_4 bhpσ_4 dhpσ_4 c_5 chpσ_4 ggy_6 iy_6 kc_7 kc_8 ahpσ_10 bhpσ_10 dhpσ_10 c_11 chpσ_10 ggy_15 iy_15 ggy_17 iy_17 kc_18 ahpσ_20 bhpσ_20 dhpσ_20 c_21 chpσ_20 if_22 c_23 hm78 hge78 gc_27_x_24 c_27 hm112 hge112 gc_32_x_29 gc_32_v3 c_32 ahpσ_39 bhpσ_39 chpσ_39 dhpσ_39 ehpσ_39 fhpσ_39 gσ_39 c_40 if_53 gc_54_f_53 gc_54_v1 c_54 hm163 gc_69_x_66; omega) | omega) (by omega)
                                obtain ⟨z_73, ez_73⟩ : ∃ y : Int32, y = x_66 + 1 := ⟨_, rfl⟩
                                replace hF := q_letX hF ez_73
                                refine lv_iinc (v := z_73) (lv' := [(7, .int z_73), (0, .ref a), (1, .int v1), (2, .int v2), (3, .int v3), (4, .int v4), (5, .int z_65), (6, .int x_29)]) hx hb dX12_tries_185 hl (k := 7) rfl (by rw [ez_73]; rfl) (by decide) rfl (fun ls hl => ?_)
                                have iz_73 : z_73.toInt = x_66.toInt + 1 := q_inc ez_73 (by first | (clear hn hh ahpσ_4 bhpσ_4 dhpσ_4 c_5 chpσ_4 ggy_6 iy_6 kc_7 kc_8 ahpσ_10 bhpσ_10 dhpσ_10 c_11 chpσ_10 ggy_15 iy_15 ggy_17 iy_17 kc_18 ahpσ_20 bhpσ_20 dhpσ_20 c_21 chpσ_20 if_22 c_23 hm78 hge78 gc_27_x_24 c_27 hm112 hge112 gc_32_x_29 gc_32_v3 c_32 ahpσ_39 bhpσ_39 chpσ_39 dhpσ_39 ehpσ_39 fhpσ_39 gσ_39 c_40 if_53 gc_54_f_53 gc_54_v1 c_54 hm163 gc_69_x_66; omega) | omega)
                                refine lv_goto (tgt := 163) hx hb dX12_tries_188 (by decide) ?_
                                exact ih163 z_73 σ_72 _ _ ls (by first | (clear hn hh ahpσ_4 bhpσ_4 dhpσ_4 c_5 chpσ_4 ggy_6 iy_6 kc_7 kc_8 ahpσ_10 bhpσ_10 dhpσ_10 c_11 chpσ_10 ggy_15 iy_15 ggy_17 iy_17 kc_18 ahpσ_20 bhpσ_20 dhpσ_20 c_21 chpσ_20 if_22 c_23 hm78 hge78 gc_27_x_24 c_27 hm112 hge112 gc_32_x_29 gc_32_v3 c_32 ahpσ_39 bhpσ_39 chpσ_39 dhpσ_39 ehpσ_39 fhpσ_39 gσ_39 c_40 if_53 gc_54_f_53 gc_54_v1 c_54 gc_69_x_66; omega) | omega) (by first | (clear hn hh ahpσ_4 bhpσ_4 dhpσ_4 c_5 chpσ_4 ggy_6 iy_6 kc_7 kc_8 ahpσ_10 bhpσ_10 dhpσ_10 c_11 chpσ_10 ggy_15 iy_15 ggy_17 iy_17 kc_18 ahpσ_20 bhpσ_20 dhpσ_20 c_21 chpσ_20 if_22 c_23 hm78 hge78 gc_27_x_24 c_27 hm112 hge112 gc_32_x_29 gc_32_v3 c_32 ahpσ_39 bhpσ_39 chpσ_39 dhpσ_39 ehpσ_39 fhpσ_39 gσ_39 c_40 if_53 gc_54_f_53 gc_54_v1 c_54 hm163 gc_69_x_66; omega) | omega) (fun j h0 h1 => (by rw [mcσ_72 j h0]; split; (rename_i q; rw [q]; exact kvσ_72); exact rsσ_72x j h0 (by first | (clear hn hh ahpσ_4 bhpσ_4 dhpσ_4 c_5 chpσ_4 ggy_6 iy_6 kc_7 kc_8 ahpσ_10 bhpσ_10 dhpσ_10 c_11 chpσ_10 ggy_15 iy_15 ggy_17 iy_17 kc_18 ahpσ_20 bhpσ_20 dhpσ_20 c_21 chpσ_20 if_22 c_23 hm78 hge78 gc_27_x_24 c_27 hm112 hge112 gc_32_x_29 gc_32_v3 c_32 ahpσ_39 bhpσ_39 chpσ_39 dhpσ_39 ehpσ_39 fhpσ_39 gσ_39 c_40 if_53 gc_54_f_53 gc_54_v1 c_54 hm163 hge163 gc_69_x_66 c_69; omega) | omega))) fr_σ_72 kqσ_72 kfσ_72 hF hI (lv_sub hl [1, 2, 3, 4, 5, 6, 7, 0] rfl)
                          have kc_74 : (0 : Int32).toInt = 0 := zt_0
                          exact L_163_68 ((2147483647 - (0 : Int32).toInt).toNat + 1) 0 σ_39 _ _ ls (Nat.lt_succ_self _) (by decide) (fun j h0 h1 => by have q : (0 : Int32).toInt = 0 := rfl; omega) fr_σ_39 kqσ_39 kfσ_39 hF hI (lv_sub hl [2, 3, 4, 5, 6, 1, 7, 0] rfl)
                have kc_75 : (0 : Int32).toInt = 0 := zt_0
                exact L_112_31 ((2147483647 - (0 : Int32).toInt).toNat + 1) 0 0 σ_25 _ _ ls (Nat.lt_succ_self _) (by decide) fr_σ_25 fxσ_25 kfσ_25 hF hI (lv_sub hl [2, 3, 4, 5, 6, 1, 0] rfl)
              · skip
                replace hF := q_ifp hF c_27
                refine lv_aload_n hx hb dX12_tries_86 rfl (lv_at hl 0 rfl) ?_
                refine gs_X12_38_12 E hI ha dX12_tries_87 ?_
                refine lv_iload hx hb dX12_tries_90 (lv_at hl 5 rfl) ?_
                refine lv_aload_n hx hb dX12_tries_92 rfl (lv_at hl 0 rfl) ?_
                refine gs_X12_35_12 E hI ha dX12_tries_93 ?_
                refine lv_iload hx hb dX12_tries_96 (lv_at hl 5 rfl) ?_
                refine q_iald E hI (q_tk (k' := 34) hI ha rfl (Nat.succ_ne_zero _)) ⟨by decide, rfl⟩ (by first | (clear hn hh ahpσ_4 bhpσ_4 dhpσ_4 c_5 chpσ_4 ggy_6 iy_6 kc_7 kc_8 ahpσ_10 bhpσ_10 dhpσ_10 c_11 chpσ_10 ggy_15 iy_15 ggy_17 iy_17 kc_18 ahpσ_20 bhpσ_20 dhpσ_20 c_21 chpσ_20 if_22 c_23 hm78 gc_27_x_24; omega) | omega) (by rw [q_lnk (v := 4650) hI (q_tk (k' := 34) hI ha rfl (Nat.succ_ne_zero _)) rfl (by decide)]; omega) dX12_tries_98 ?_
                refine lv_topi (fun f_76 ef_76 => ?_)
                replace hF := q_letX hF ef_76
                have if_76 : f_76.toInt = m_c X σ a x_24.toInt := (m_rd ef_76 rfl).trans (congrFun fxσ_25 _)
                refine q_iastN E hI (q_tk (k' := 35) hI ha rfl (Nat.succ_ne_zero _)) ⟨by decide, rfl⟩ (by first | (clear hn hh ahpσ_4 bhpσ_4 dhpσ_4 c_5 chpσ_4 ggy_6 iy_6 kc_7 kc_8 ahpσ_10 bhpσ_10 dhpσ_10 c_11 chpσ_10 ggy_15 iy_15 ggy_17 iy_17 kc_18 ahpσ_20 bhpσ_20 dhpσ_20 c_21 chpσ_20 if_22 c_23 hm78 gc_27_x_24 if_76; omega) | omega) (by rw [q_lnk (v := 654) hI (q_tk (k' := 35) hI ha rfl (Nat.succ_ne_zero _)) rfl (by decide)]; omega) (show 1 < 9 by decide) (q_inU rfl) dX12_tries_99 (fun H locs σ_77 hσ_77 hI => ?_)
                replace hF := q_letX hF hσ_77
                have fr_σ_77 := fr_σ_25.si hσ_77 (q_tk (k' := 35) hI ha rfl (Nat.succ_ne_zero _)) rfl
                have mcσ_77 := m_wo hσ_77 (m_ne (q_tk (k' := 35) hI ha rfl (Nat.succ_ne_zero _)) (q_tk (f := 20) (k' := 34) hI ha rfl (by decide)) (by decide))
                have fxσ_77 : m_c X σ_77 a = m_c X σ a := (funext mcσ_77).trans fxσ_25
                have moσ_77 := m_ofw hσ_77 (rfl : x_24.toInt = _) (by first | (clear hn hh ahpσ_4 bhpσ_4 dhpσ_4 c_5 chpσ_4 ggy_6 iy_6 kc_7 kc_8 ahpσ_10 bhpσ_10 dhpσ_10 c_11 chpσ_10 ggy_15 iy_15 ggy_17 iy_17 kc_18 ahpσ_20 bhpσ_20 dhpσ_20 c_21 chpσ_20 if_22 c_23 hm78 gc_27_x_24 if_76; omega) | omega)
                have kvσ_77 := if_76
                have klσ_77x := klσ_25
                obtain ⟨z_78, ez_78⟩ : ∃ y : Int32, y = x_24 + 1 := ⟨_, rfl⟩
                replace hF := q_letX hF ez_78
                refine lv_iinc (v := z_78) (lv' := [(5, .int z_78), (0, .ref a), (1, .int v1), (2, .int v2), (3, .int v3), (4, .int v4)]) hx hb dX12_tries_100 hl (k := 5) rfl (by rw [ez_78]; rfl) (by decide) rfl (fun ls hl => ?_)
                have iz_78 : z_78.toInt = x_24.toInt + 1 := q_inc ez_78 (by first | (clear hn hh ahpσ_4 bhpσ_4 dhpσ_4 c_5 chpσ_4 ggy_6 iy_6 kc_7 kc_8 ahpσ_10 bhpσ_10 dhpσ_10 c_11 chpσ_10 ggy_15 iy_15 ggy_17 iy_17 kc_18 ahpσ_20 bhpσ_20 dhpσ_20 c_21 chpσ_20 if_22 c_23 hm78 gc_27_x_24 if_76; omega) | omega)
                refine lv_goto (tgt := 78) hx hb dX12_tries_103 (by decide) ?_
                exact ih78 z_78 σ_77 _ _ ls (by first | (clear hn hh ahpσ_4 bhpσ_4 dhpσ_4 c_5 chpσ_4 ggy_6 iy_6 kc_7 kc_8 ahpσ_10 bhpσ_10 dhpσ_10 c_11 chpσ_10 ggy_15 iy_15 ggy_17 iy_17 kc_18 ahpσ_20 bhpσ_20 dhpσ_20 c_21 chpσ_20 if_22 c_23 gc_27_x_24 if_76; omega) | omega) (by first | (clear hn hh ahpσ_4 bhpσ_4 dhpσ_4 c_5 chpσ_4 ggy_6 iy_6 kc_7 kc_8 ahpσ_10 bhpσ_10 dhpσ_10 c_11 chpσ_10 ggy_15 iy_15 ggy_17 iy_17 kc_18 ahpσ_20 bhpσ_20 dhpσ_20 c_21 chpσ_20 if_22 c_23 hm78 gc_27_x_24 if_76; omega) | omega) (fun j h0 h1 => by rw [moσ_77 j h0]; split; (rename_i q; rw [q]; exact kvσ_77); exact klσ_77x j h0 (by first | (clear hn hh ahpσ_4 bhpσ_4 dhpσ_4 c_5 chpσ_4 ggy_6 iy_6 kc_7 kc_8 ahpσ_10 bhpσ_10 dhpσ_10 c_11 chpσ_10 ggy_15 iy_15 ggy_17 iy_17 kc_18 ahpσ_20 bhpσ_20 dhpσ_20 c_21 chpσ_20 if_22 c_23 hm78 hge78 gc_27_x_24 c_27 if_76; omega) | omega)) fr_σ_77 fxσ_77 hF hI (lv_sub hl [1, 2, 3, 4, 5, 0] rfl)
          have kc_79 : (0 : Int32).toInt = 0 := zt_0
          exact L_78_26 ((2147483647 - (0 : Int32).toInt).toNat + 1) 0 σ_2 _ _ ls (Nat.lt_succ_self _) (by decide) (fun j h0 h1 => by have q : (0 : Int32).toInt = 0 := rfl; omega) fr_σ_2 fxσ_2 hF hI (lv_sub hl [1, 2, 3, 4, 5, 0] rfl)
        · skip
          replace hF := q_ifp hF c_23
          refine lv_aload_n hx hb dX12_tries_68 rfl (lv_at hl 0 rfl) ?_
          refine lv_bipush (v := 8) hx hb dX12_tries_69 zkb_8 ?_
          have kc_80 : (8 : Int32).toInt = 8 := zt_8
          refine q_ci (q_rV11_1 (rest := []) E (hml.trans hl.1.symm) hI (c_X12_no l X σ_2 a (8 : Int32) ha) kv_X12_74 ha ⟨Nat.le_of_ble_eq_true rfl, Nat.le_of_ble_eq_true rfl⟩ (Nat.le_of_ble_eq_true rfl) dX12_tries_71) hI (Nat.le_of_ble_eq_true rfl) (fun r_81 σ_82 H locs hpσ_82 hkσ_82 hI => ?_)
          have ahpσ_82 := hpσ_82.1
          have bhpσ_82 := hpσ_82.2.1
          have chpσ_82 := hpσ_82.2.2.1
          have dhpσ_82 := hpσ_82.2.2.2
          clear hpσ_82
          have fr_σ_82 := fr_σ_2.call dhpσ_82 rfl rfl
          replace hF := q_biX hF chpσ_82
          have mcσ_82 := m_cK hkσ_82 hI.1 ha (by decide)
          have fxσ_82 : m_c X σ_82 a = m_c X σ a := (funext mcσ_82).trans fxσ_2
          exact q_retz E hr hlk hI ⟨by omega, by omega⟩ ⟨⟨by omega, by omega⟩, fxσ_82, (hF.trans hout), fr_σ_82⟩ dX12_tries_74
      · skip
        replace hF := q_ifp hF c_21
        replace chpσ_20 := q_ifNo chpσ_20 c_21
        refine lv_aload_n hx hb dX12_tries_51 rfl (lv_at hl 0 rfl) ?_
        refine lv_iconst (v := 5) hx hb dX12_tries_52 zki_5 ?_
        have kc_83 : (5 : Int32).toInt = 5 := zt_5
        refine q_ci (q_rV11_1 (rest := []) E (hml.trans hl.1.symm) hI (c_X12_no l X σ_2 a (5 : Int32) ha) kv_X12_74 ha ⟨Nat.le_of_ble_eq_true rfl, Nat.le_of_ble_eq_true rfl⟩ (Nat.le_of_ble_eq_true rfl) dX12_tries_53) hI (Nat.le_of_ble_eq_true rfl) (fun r_84 σ_85 H locs hpσ_85 hkσ_85 hI => ?_)
        have ahpσ_85 := hpσ_85.1
        have bhpσ_85 := hpσ_85.2.1
        have chpσ_85 := hpσ_85.2.2.1
        have dhpσ_85 := hpσ_85.2.2.2
        clear hpσ_85
        have fr_σ_85 := fr_σ_2.call dhpσ_85 rfl rfl
        replace hF := q_biX hF chpσ_85
        have mcσ_85 := m_cK hkσ_85 hI.1 ha (by decide)
        have fxσ_85 : m_c X σ_85 a = m_c X σ a := (funext mcσ_85).trans fxσ_2
        exact q_retz E hr hlk hI ⟨by omega, by omega⟩ ⟨⟨by omega, by omega⟩, fxσ_85, (hF.trans hout), fr_σ_85⟩ dX12_tries_56
  · skip
    replace hF := q_ifp hF c_5
    replace chpσ_4 := q_ifNo chpσ_4 c_5
    refine lv_aload_n hx hb dX12_tries_18 rfl (lv_at hl 0 rfl) ?_
    refine lv_iconst (v := 2) hx hb dX12_tries_19 zki_2 ?_
    have kc_86 : (2 : Int32).toInt = 2 := zt_2
    refine q_ci (q_rV11_1 (rest := []) E (hml.trans hl.1.symm) hI (c_X12_no l X σ_2 a (2 : Int32) ha) kv_X12_74 ha ⟨Nat.le_of_ble_eq_true rfl, Nat.le_of_ble_eq_true rfl⟩ (Nat.le_of_ble_eq_true rfl) dX12_tries_20) hI (Nat.le_of_ble_eq_true rfl) (fun r_87 σ_88 H locs hpσ_88 hkσ_88 hI => ?_)
    have ahpσ_88 := hpσ_88.1
    have bhpσ_88 := hpσ_88.2.1
    have chpσ_88 := hpσ_88.2.2.1
    have dhpσ_88 := hpσ_88.2.2.2
    clear hpσ_88
    have fr_σ_88 := fr_σ_2.call dhpσ_88 rfl rfl
    replace hF := q_biX hF chpσ_88
    have mcσ_88 := m_cK hkσ_88 hI.1 ha (by decide)
    have fxσ_88 : m_c X σ_88 a = m_c X σ a := (funext mcσ_88).trans fxσ_2
    exact q_retz E hr hlk hI ⟨by omega, by omega⟩ ⟨⟨by omega, by omega⟩, fxσ_88, (hF.trans hout), fr_σ_88⟩ dX12_tries_23

set_option maxRecDepth 100000 in
set_option maxHeartbeats 4000000 in
theorem c_X12_wins (l : Launch) (X : XW) (σ : ST) (a : Nat) (v1 : Int32) (v2 : Int32) (v3 : Int32) (n : Int) (ha : q_kd X a = 12) (hG : m_G (m_c X σ a)) (hW : m_W (m_c X σ a) n) (hn : 0 ≤ n ∧ n ≤ 199000) : Met l yX12_wins (q_ws yX12_wins cX12_wins 4 (some .boolean)) (q_rm 70 1639) (q_P X σ [.ref a, .int v1, .int v2, .int v3]) (q_Qi X 1 σ (fun (r : Int32) (σ' : ST) => (0 ≤ r.toInt ∧ r.toInt ≤ 1) ∧ (m_c X σ' a = m_c X σ a) ∧ (r, σ') = F_X12_wins X σ a v1 v2 v3 ∧ q_ow [(12, 0), (12, 1), (12, 38), (12, 39), (12, 40), (12, 41), (12, 42), (12, 43), (12, 44), (12, 45), (34, 99), (35, 99), (39, 99)] [(12, 2), (12, 3)] X σ σ')) 0 0 (q_reg X) := by
  refine q_met 1 (by first | exact rfl | decide +kernel) rfl (Nat.le_of_ble_eq_true rfl) (fun p e s m below meth c E hml hr hlk hI ls hl => ?_)
  have hx := E.1
  have hb := E.2.1
  have hl : lv_has ls 4 [(0, .ref a), (1, .int v1), (2, .int v2), (3, .int v3)] := hl
  have fr_σ : q_ow [(12, 0), (12, 1), (12, 38), (12, 39), (12, 40), (12, 41), (12, 42), (12, 43), (12, 44), (12, 45), (34, 99), (35, 99), (39, 99)] [(12, 2), (12, 3)] X σ σ := q_ow.rf
  obtain ⟨out, hout⟩ : ∃ o, o = F_X12_wins X σ a v1 v2 v3 := ⟨_, rfl⟩
  have hF := hout.symm
  unfold F_X12_wins at hF
  refine lv_aload_n hx hb dX12_wins_0 rfl (lv_at hl 0 rfl) ?_
  refine lv_iload_n hx hb dX12_wins_1 rfl (lv_at hl 1 rfl) ?_
  refine lv_iload_n hx hb dX12_wins_2 rfl (lv_at hl 2 rfl) ?_
  refine lv_iload_n hx hb dX12_wins_3 rfl (lv_at hl 3 rfl) ?_
  refine lv_iconst (v := 1) hx hb dX12_wins_4 zki_1 ?_
  have kc_1 : (1 : Int32).toInt = 1 := zt_1
  refine q_ci (q_rV11_4 (rest := []) E (hml.trans hl.1.symm) hI (c_X12_tries l X σ a v1 v2 v3 (1 : Int32) n ha hG hW hn) kv_X12_451 ha ⟨Nat.le_of_ble_eq_true rfl, Nat.le_of_ble_eq_true rfl⟩ (Nat.le_of_ble_eq_true rfl) dX12_wins_5) hI (Nat.le_of_ble_eq_true rfl) (fun r_2 σ_3 H locs hpσ_3 hkσ_3 hI => ?_)
  have ahpσ_3 := hpσ_3.1
  have bhpσ_3 := hpσ_3.2.1
  have chpσ_3 := hpσ_3.2.2.1
  have dhpσ_3 := hpσ_3.2.2.2
  clear hpσ_3
  have fr_σ_3 := fr_σ.call dhpσ_3 rfl rfl
  replace hF := q_biX hF chpσ_3
  have tqσ_3 := bhpσ_3
  exact q_retz E hr hlk hI ⟨by omega, by omega⟩ ⟨⟨by omega, by omega⟩, tqσ_3, (hF.trans hout), fr_σ_3⟩ dX12_wins_8

set_option maxRecDepth 100000 in
set_option maxHeartbeats 4000000 in
theorem c_X12_left (l : Launch) (X : XW) (σ : ST) (a : Nat) (v1 : Int32) (v2 : Int32) (v3 : Int32) (n : Int) (ha : q_kd X a = 12) (hG : m_G (m_c X σ a)) (hW : m_W (m_c X σ a) n) (hn : 0 ≤ n ∧ n ≤ 199000) : Met l yX12_left (q_ws yX12_left cX12_left 4 (some .boolean)) (q_rm 70 1639) (q_P X σ [.ref a, .int v1, .int v2, .int v3]) (q_Qi X 1 σ (fun (r : Int32) (σ' : ST) => (0 ≤ r.toInt ∧ r.toInt ≤ 1) ∧ (m_c X σ' a = m_c X σ a) ∧ (r, σ') = F_X12_left X σ a v1 v2 v3 ∧ q_ow [(12, 0), (12, 1), (12, 38), (12, 39), (12, 40), (12, 41), (12, 42), (12, 43), (12, 44), (12, 45), (34, 99), (35, 99), (39, 99)] [(12, 2), (12, 3)] X σ σ')) 0 0 (q_reg X) := by
  refine q_met 1 (by first | exact rfl | decide +kernel) rfl (Nat.le_of_ble_eq_true rfl) (fun p e s m below meth c E hml hr hlk hI ls hl => ?_)
  have hx := E.1
  have hb := E.2.1
  have hl : lv_has ls 4 [(0, .ref a), (1, .int v1), (2, .int v2), (3, .int v3)] := hl
  have fr_σ : q_ow [(12, 0), (12, 1), (12, 38), (12, 39), (12, 40), (12, 41), (12, 42), (12, 43), (12, 44), (12, 45), (34, 99), (35, 99), (39, 99)] [(12, 2), (12, 3)] X σ σ := q_ow.rf
  obtain ⟨out, hout⟩ : ∃ o, o = F_X12_left X σ a v1 v2 v3 := ⟨_, rfl⟩
  have hF := hout.symm
  unfold F_X12_left at hF
  refine lv_aload_n hx hb dX12_left_0 rfl (lv_at hl 0 rfl) ?_
  refine lv_iload_n hx hb dX12_left_1 rfl (lv_at hl 1 rfl) ?_
  refine lv_iload_n hx hb dX12_left_2 rfl (lv_at hl 2 rfl) ?_
  refine lv_iload_n hx hb dX12_left_3 rfl (lv_at hl 3 rfl) ?_
  refine lv_iconst (v := 0) hx hb dX12_left_4 zki_0 ?_
  have kc_1 : (0 : Int32).toInt = 0 := zt_0
  refine q_ci (q_rV11_4 (rest := []) E (hml.trans hl.1.symm) hI (c_X12_tries l X σ a v1 v2 v3 (0 : Int32) n ha hG hW hn) kv_X12_451 ha ⟨Nat.le_of_ble_eq_true rfl, Nat.le_of_ble_eq_true rfl⟩ (Nat.le_of_ble_eq_true rfl) dX12_left_5) hI (Nat.le_of_ble_eq_true rfl) (fun r_2 σ_3 H locs hpσ_3 hkσ_3 hI => ?_)
  have ahpσ_3 := hpσ_3.1
  have bhpσ_3 := hpσ_3.2.1
  have chpσ_3 := hpσ_3.2.2.1
  have dhpσ_3 := hpσ_3.2.2.2
  clear hpσ_3
  have fr_σ_3 := fr_σ.call dhpσ_3 rfl rfl
  replace hF := q_biX hF chpσ_3
  have tqσ_3 := bhpσ_3
  exact q_retz E hr hlk hI ⟨by omega, by omega⟩ ⟨⟨by omega, by omega⟩, tqσ_3, (hF.trans hout), fr_σ_3⟩ dX12_left_8

set_option maxRecDepth 100000 in
set_option maxHeartbeats 4000000 in
theorem c_X12_mark (l : Launch) (X : XW) (σ : ST) (a : Nat) (n : Int) (ha : q_kd X a = 12) (hM : m_M (m_c X σ a) (σ.1 a 24).toInt n) : Met l yX12_mark (q_ws yX12_mark cX12_mark 1 (some .int)) (q_rm 1 23) (q_P X σ [.ref a]) (q_Qi X 0 σ (fun (r : Int32) (σ' : ST) => (q_KS (fun b g => b = a ∧ g = 24) 1 X σ σ') ∧ (m_M (m_c X σ' a) (σ'.1 a 24).toInt n) ∧ ((σ.1 a 24).toInt < 3 → (σ'.1 a 24).toInt = (σ.1 a 24).toInt + 1 ∧ r.toInt = (σ.1 a 24).toInt + 1) ∧ ((σ.1 a 24).toInt = 3 → (σ'.1 a 24).toInt = 3 ∧ r.toInt = -1) ∧ (r, σ') = F_X12_mark X σ a ∧ q_ow [(12, 0), (12, 1), (12, 24), (34, 99)] [(37, 99)] X σ σ')) 0 0 (q_reg X) := by
  refine q_met 0 (by first | exact rfl | decide +kernel) rfl (Nat.le_of_ble_eq_true rfl) (fun p e s m below meth c E hml hr hlk hI ls hl => ?_)
  have hx := E.1
  have hb := E.2.1
  have hl : lv_has ls 1 [(0, .ref a)] := hl
  have ks_σ : q_KS (fun b g => b = a ∧ g = 24) 1 X σ σ := q_KS.rf
  have fxσ : m_c X σ a = m_c X σ a := rfl
  have fr_σ : q_ow [(12, 0), (12, 1), (12, 24), (34, 99)] [(37, 99)] X σ σ := q_ow.rf
  have b24 := q_bd (f := 24) (lo := 0) (hi := 3) hI ha rfl
  obtain ⟨out, hout⟩ : ∃ o, o = F_X12_mark X σ a := ⟨_, rfl⟩
  have hF := hout.symm
  unfold F_X12_mark at hF
  refine lv_aload_n hx hb dX12_mark_0 rfl (lv_at hl 0 rfl) ?_
  refine lv_iconst (v := 0) hx hb dX12_mark_1 zki_0 ?_
  refine ps_X12_59_12 E hI ha (by decide) dX12_mark_2 (fun H locs σ_1 hσ_1 hI => ?_)
  replace hF := q_letX hF hσ_1
  have fr_σ_1 := fr_σ.si hσ_1 ha rfl
  have ks_σ_1 : q_KS (fun b g => b = a ∧ g = 24) 1 X σ σ_1 := ks_σ.si hσ_1 ha (show 1 < 9 by decide)
  have mv24_σ_1 : (σ_1.1 a 24).toInt = (σ.1 a 24).toInt := congrArg Int32.toInt (q_rdn hσ_1 (Or.inr (by decide)))
  have mcσ_1 := m_wo hσ_1 (m_ne ha (q_tk (f := 20) (k' := 34) hI ha rfl (by decide)) (by decide))
  have fxσ_1 : m_c X σ_1 a = m_c X σ a := (funext mcσ_1).trans fxσ
  refine lv_aload_n hx hb dX12_mark_5 rfl (lv_at hl 0 rfl) ?_
  refine lv_iconst (v := 0) hx hb dX12_mark_6 zki_0 ?_
  refine ps_X12_62_12 E hI ha (by decide) dX12_mark_7 (fun H locs σ_2 hσ_2 hI => ?_)
  replace hF := q_letX hF hσ_2
  have fr_σ_2 := fr_σ_1.si hσ_2 ha rfl
  have ks_σ_2 : q_KS (fun b g => b = a ∧ g = 24) 1 X σ σ_2 := ks_σ_1.si hσ_2 ha (show 1 < 9 by decide)
  have mv24_σ_2 : (σ_2.1 a 24).toInt = (σ_1.1 a 24).toInt := congrArg Int32.toInt (q_rdn hσ_2 (Or.inr (by decide)))
  have mcσ_2 := m_wo hσ_2 (m_ne ha (q_tk (f := 20) (k' := 34) hI ha rfl (by decide)) (by decide))
  have fxσ_2 : m_c X σ_2 a = m_c X σ a := (funext mcσ_2).trans fxσ_1
  refine lv_aload_n hx hb dX12_mark_10 rfl (lv_at hl 0 rfl) ?_
  refine gs_X12_455_12 E hI ha dX12_mark_11 ?_
  refine lv_topi (fun f_3 ef_3 => ?_)
  replace hF := q_letX hF ef_3
  have if_3 : f_3.toInt = (σ_2.1 a 24).toInt := congrArg Int32.toInt ef_3
  have bf_3 : 0 ≤ f_3.toInt ∧ f_3.toInt ≤ 3 := by rw [ef_3]; exact q_bd hI ha rfl
  refine lv_iconst (v := 3) hx hb dX12_mark_14 zki_3 ?_
  refine q_icmp_ne (A := f_3.toInt) (B := 3) E rfl (by decide) (tgt := 25) dX12_mark_15 (by decide) (fun c_4 => ?_) (fun c_4 => ?_)
  · skip
    replace hF := q_ifn hF c_4
    refine lv_aload_n hx hb dX12_mark_25 rfl (lv_at hl 0 rfl) ?_
    refine lv_dup hx hb dX12_mark_26 rfl ?_
    refine gs_X12_455_12 E hI ha dX12_mark_27 ?_
    refine lv_topi (fun f_5 ef_5 => ?_)
    replace hF := q_letX hF ef_5
    have if_5 : f_5.toInt = (σ_2.1 a 24).toInt := congrArg Int32.toInt ef_5
    have bf_5 : 0 ≤ f_5.toInt ∧ f_5.toInt ≤ 3 := by rw [ef_5]; exact q_bd hI ha rfl
    refine lv_iconst (v := 1) hx hb dX12_mark_30 zki_1 ?_
    refine lv_iadd hx hb dX12_mark_31 ?_
    refine lv_topi (fun z_6 ez_6 => ?_)
    replace hF := q_letX hF ez_6
    have iz_6 := q_addI (A := f_5.toInt) (B := 1) ez_6 rfl (by decide) (by first | (clear bf_3 c_4 bf_5; omega) | omega) (by first | (clear bf_3 c_4 bf_5; omega) | omega)
    refine ps_X12_455_12 E hI ha (by decide) (by first | (clear bf_3 c_4 bf_5; omega) | omega) (by first | (clear bf_3 bf_5; omega) | omega) dX12_mark_32 (fun H locs σ_7 hσ_7 hI => ?_)
    replace hF := q_letX hF hσ_7
    have fr_σ_7 := fr_σ_2.si hσ_7 ha rfl
    have ks_σ_7 : q_KS (fun b g => b = a ∧ g = 24) 1 X σ σ_7 := ks_σ_2.siS hσ_7 ⟨rfl, rfl⟩
    have mv24_σ_7 : (σ_7.1 a 24).toInt = z_6.toInt := congrArg Int32.toInt (q_rd hσ_7)
    have mcσ_7 := m_wo hσ_7 (m_ne ha (q_tk (f := 20) (k' := 34) hI ha rfl (by decide)) (by decide))
    have fxσ_7 : m_c X σ_7 a = m_c X σ a := (funext mcσ_7).trans fxσ_2
    refine lv_aload_n hx hb dX12_mark_35 rfl (lv_at hl 0 rfl) ?_
    refine lv_iconst (v := 0) hx hb dX12_mark_36 zki_0 ?_
    refine lv_aload_n hx hb dX12_mark_37 rfl (lv_at hl 0 rfl) ?_
    refine gs_X12_455_12 E hI ha dX12_mark_38 ?_
    refine lv_topi (fun f_8 ef_8 => ?_)
    replace hF := q_letX hF ef_8
    have if_8 : f_8.toInt = (σ_7.1 a 24).toInt := congrArg Int32.toInt ef_8
    have bf_8 : 0 ≤ f_8.toInt ∧ f_8.toInt ≤ 3 := by rw [ef_8]; exact q_bd hI ha rfl
    have kc_9 : (0 : Int32).toInt = 0 := zt_0
    refine q_cv (q_rV11_2 (rest := []) E (hml.trans hl.1.symm) hI (c_X12_copy l X σ_7 a (0 : Int32) f_8 ha (by first | (clear b24 mv24_σ_1 mv24_σ_2 if_3 bf_3 c_4 if_5 bf_5 iz_6 mv24_σ_7 if_8 bf_8; omega) | omega) (by omega) (by first | (clear bf_3 c_4 bf_5; omega) | omega)) kv_X12_261 ha ⟨Nat.le_of_ble_eq_true rfl, Nat.le_of_ble_eq_true rfl⟩ (Nat.le_of_ble_eq_true rfl) dX12_mark_41) hI (Nat.le_of_ble_eq_true rfl) (fun σ_11 H locs hpσ_11 hkσ_11 hI => ?_)
    have ahpσ_11 := hpσ_11.1
    have bhpσ_11 := hpσ_11.2.1
    have chpσ_11 := hpσ_11.2.2
    clear hpσ_11
    have fr_σ_11 := fr_σ_7.call chpσ_11 rfl rfl
    replace hF := q_letX hF bhpσ_11
    have mv24_σ_11 : (σ_11.1 a 24).toInt = (σ_7.1 a 24).toInt := congrArg Int32.toInt (hkσ_11 a 24 (by rw [ha]; decide))
    have ks_σ_11 : q_KS (fun b g => b = a ∧ g = 24) 1 X σ σ_11 := ks_σ_7.K hkσ_11 (by decide)
    have mmσ_11 : m_M (m_c X σ_11 a) ((σ.1 a 24).toInt + 1) n := m_M.mark (w := (0 : Int32).toInt) (z := f_8.toInt) hM (by first | (clear bf_3 c_4 bf_5 kc_9 ahpσ_11 bhpσ_11 chpσ_11; omega) | omega) (by decide) (by first | (clear b24 bf_3 c_4 bf_5 bf_8 kc_9 ahpσ_11 bhpσ_11 chpσ_11 mv24_σ_11; omega) | omega) (fun j hj => (by have q := ahpσ_11 j hj; rw [fxσ_7] at q; exact q))
    refine lv_aload_n hx hb dX12_mark_44 rfl (lv_at hl 0 rfl) ?_
    refine gs_X12_455_12 E hI ha dX12_mark_45 ?_
    refine lv_topi (fun f_12 ef_12 => ?_)
    replace hF := q_letX hF ef_12
    have if_12 : f_12.toInt = (σ_11.1 a 24).toInt := congrArg Int32.toInt ef_12
    have bf_12 : 0 ≤ f_12.toInt ∧ f_12.toInt ≤ 3 := by rw [ef_12]; exact q_bd hI ha rfl
    exact q_reti E hr hlk hI ⟨ks_σ_11, (by first | (have q : (σ_11.1 a 24).toInt = (σ.1 a 24).toInt := (by omega); rw [fxσ_11, q]; exact hM) | (have q : (σ_11.1 a 24).toInt = (σ.1 a 24).toInt + 1 := (by first | (clear b24 bf_3 c_4 bf_5 bf_8 kc_9 ahpσ_11 bhpσ_11 chpσ_11 if_12 bf_12; omega) | omega); rw [q]; exact mmσ_11)), (by first | (clear b24 bf_3 c_4 bf_5 bf_8 kc_9 ahpσ_11 bhpσ_11 chpσ_11 bf_12; omega) | omega), (by first | (clear bf_3 c_4 bf_5 kc_9 ahpσ_11 bhpσ_11 chpσ_11 bf_12; omega) | omega), (hF.trans hout), fr_σ_11⟩ dX12_mark_48
  · skip
    replace hF := q_ifp hF c_4
    refine lv_aload_n hx hb dX12_mark_18 rfl (lv_at hl 0 rfl) ?_
    refine lv_bipush (v := 7) hx hb dX12_mark_19 zkb_7 ?_
    have kc_13 : (7 : Int32).toInt = 7 := zt_7
    refine q_ci (q_rV11_1 (rest := []) E (hml.trans hl.1.symm) hI (c_X12_refuse l X σ_2 a (7 : Int32) ha) kv_X12_284 ha ⟨Nat.le_of_ble_eq_true rfl, Nat.le_of_ble_eq_true rfl⟩ (Nat.le_of_ble_eq_true rfl) dX12_mark_21) hI (Nat.le_of_ble_eq_true rfl) (fun r_14 σ_15 H locs hpσ_15 hkσ_15 hI => ?_)
    have ahpσ_15 := hpσ_15.1
    have bhpσ_15 := hpσ_15.2.1
    have chpσ_15 := hpσ_15.2.2
    clear hpσ_15
    have fr_σ_15 := fr_σ_2.call chpσ_15 rfl rfl
    replace hF := q_biX hF bhpσ_15
    have mv24_σ_15 : (σ_15.1 a 24).toInt = (σ_2.1 a 24).toInt := congrArg Int32.toInt ((q_K.le hkσ_15 (by decide) : q_K 8 X σ_2 σ_15) a 24 (by rw [ha]; decide))
    have mcσ_15 := m_cK hkσ_15 hI.1 ha (by decide)
    have fxσ_15 : m_c X σ_15 a = m_c X σ a := (funext mcσ_15).trans fxσ_2
    have ks_σ_15 : q_KS (fun b g => b = a ∧ g = 24) 1 X σ σ_15 := ks_σ_2.K hkσ_15 (by decide)
    exact q_reti E hr hlk hI ⟨ks_σ_15, (by first | (have q : (σ_15.1 a 24).toInt = (σ.1 a 24).toInt := (by first | (clear b24 bf_3 kc_13 ahpσ_15 bhpσ_15 chpσ_15; omega) | omega); rw [fxσ_15, q]; exact hM) | (have q : (σ_15.1 a 24).toInt = (σ.1 a 24).toInt + 1 := (by omega); rw [q]; exact mmσ_15)), (by first | (clear b24 bf_3 kc_13 ahpσ_15 bhpσ_15 chpσ_15 mv24_σ_15; omega) | omega), (by first | (clear b24 mv24_σ_1 mv24_σ_2 bf_3 kc_13 bhpσ_15 chpσ_15; omega) | omega), (hF.trans hout), fr_σ_15⟩ dX12_mark_24

set_option maxRecDepth 100000 in
set_option maxHeartbeats 4000000 in
theorem c_X12_back (l : Launch) (X : XW) (σ : ST) (a : Nat) (n : Int) (ha : q_kd X a = 12) (hM : m_M (m_c X σ a) (σ.1 a 24).toInt n) : Met l yX12_back (q_ws yX12_back cX12_back 1 (some .int)) (q_rm 1 23) (q_P X σ [.ref a]) (q_Qi X 0 σ (fun (r : Int32) (σ' : ST) => (q_KS (fun b g => b = a ∧ g = 24) 1 X σ σ') ∧ (m_M (m_c X σ' a) (σ'.1 a 24).toInt n) ∧ (0 < (σ.1 a 24).toInt → (σ'.1 a 24).toInt = (σ.1 a 24).toInt - 1 ∧ r.toInt = (σ.1 a 24).toInt - 1) ∧ ((σ.1 a 24).toInt = 0 → (σ'.1 a 24).toInt = 0 ∧ r.toInt = -1) ∧ (r, σ') = F_X12_back X σ a ∧ q_ow [(12, 0), (12, 1), (12, 24), (34, 99)] [(37, 99)] X σ σ')) 0 0 (q_reg X) := by
  refine q_met 0 (by first | exact rfl | decide +kernel) rfl (Nat.le_of_ble_eq_true rfl) (fun p e s m below meth c E hml hr hlk hI ls hl => ?_)
  have hx := E.1
  have hb := E.2.1
  have hl : lv_has ls 1 [(0, .ref a)] := hl
  have ks_σ : q_KS (fun b g => b = a ∧ g = 24) 1 X σ σ := q_KS.rf
  have fxσ : m_c X σ a = m_c X σ a := rfl
  have fr_σ : q_ow [(12, 0), (12, 1), (12, 24), (34, 99)] [(37, 99)] X σ σ := q_ow.rf
  have b24 := q_bd (f := 24) (lo := 0) (hi := 3) hI ha rfl
  obtain ⟨out, hout⟩ : ∃ o, o = F_X12_back X σ a := ⟨_, rfl⟩
  have hF := hout.symm
  unfold F_X12_back at hF
  refine lv_aload_n hx hb dX12_back_0 rfl (lv_at hl 0 rfl) ?_
  refine lv_iconst (v := 0) hx hb dX12_back_1 zki_0 ?_
  refine ps_X12_59_12 E hI ha (by decide) dX12_back_2 (fun H locs σ_1 hσ_1 hI => ?_)
  replace hF := q_letX hF hσ_1
  have fr_σ_1 := fr_σ.si hσ_1 ha rfl
  have ks_σ_1 : q_KS (fun b g => b = a ∧ g = 24) 1 X σ σ_1 := ks_σ.si hσ_1 ha (show 1 < 9 by decide)
  have mv24_σ_1 : (σ_1.1 a 24).toInt = (σ.1 a 24).toInt := congrArg Int32.toInt (q_rdn hσ_1 (Or.inr (by decide)))
  have mcσ_1 := m_wo hσ_1 (m_ne ha (q_tk (f := 20) (k' := 34) hI ha rfl (by decide)) (by decide))
  have fxσ_1 : m_c X σ_1 a = m_c X σ a := (funext mcσ_1).trans fxσ
  refine lv_aload_n hx hb dX12_back_5 rfl (lv_at hl 0 rfl) ?_
  refine lv_iconst (v := 0) hx hb dX12_back_6 zki_0 ?_
  refine ps_X12_62_12 E hI ha (by decide) dX12_back_7 (fun H locs σ_2 hσ_2 hI => ?_)
  replace hF := q_letX hF hσ_2
  have fr_σ_2 := fr_σ_1.si hσ_2 ha rfl
  have ks_σ_2 : q_KS (fun b g => b = a ∧ g = 24) 1 X σ σ_2 := ks_σ_1.si hσ_2 ha (show 1 < 9 by decide)
  have mv24_σ_2 : (σ_2.1 a 24).toInt = (σ_1.1 a 24).toInt := congrArg Int32.toInt (q_rdn hσ_2 (Or.inr (by decide)))
  have mcσ_2 := m_wo hσ_2 (m_ne ha (q_tk (f := 20) (k' := 34) hI ha rfl (by decide)) (by decide))
  have fxσ_2 : m_c X σ_2 a = m_c X σ a := (funext mcσ_2).trans fxσ_1
  refine lv_aload_n hx hb dX12_back_10 rfl (lv_at hl 0 rfl) ?_
  refine gs_X12_455_12 E hI ha dX12_back_11 ?_
  refine lv_topi (fun f_3 ef_3 => ?_)
  replace hF := q_letX hF ef_3
  have if_3 : f_3.toInt = (σ_2.1 a 24).toInt := congrArg Int32.toInt ef_3
  have bf_3 : 0 ≤ f_3.toInt ∧ f_3.toInt ≤ 3 := by rw [ef_3]; exact q_bd hI ha rfl
  refine q_if_ne (A := f_3.toInt) E rfl (tgt := 24) dX12_back_14 (by decide) (fun c_4 => ?_) (fun c_4 => ?_)
  · skip
    replace hF := q_ifn hF c_4
    refine lv_aload_n hx hb dX12_back_24 rfl (lv_at hl 0 rfl) ?_
    refine lv_aload_n hx hb dX12_back_25 rfl (lv_at hl 0 rfl) ?_
    refine gs_X12_455_12 E hI ha dX12_back_26 ?_
    refine lv_topi (fun f_5 ef_5 => ?_)
    replace hF := q_letX hF ef_5
    have if_5 : f_5.toInt = (σ_2.1 a 24).toInt := congrArg Int32.toInt ef_5
    have bf_5 : 0 ≤ f_5.toInt ∧ f_5.toInt ≤ 3 := by rw [ef_5]; exact q_bd hI ha rfl
    refine lv_iconst (v := 0) hx hb dX12_back_29 zki_0 ?_
    have kc_6 : (0 : Int32).toInt = 0 := zt_0
    refine q_cv (q_rV11_2 (rest := []) E (hml.trans hl.1.symm) hI (c_X12_copy l X σ_2 a f_5 (0 : Int32) ha (by first | (clear bf_3 c_4 bf_5 kc_6; omega) | omega) (by first | (clear b24 mv24_σ_1 mv24_σ_2 if_3 bf_3 c_4 if_5 bf_5; omega) | omega) (by first | (clear b24 mv24_σ_1 mv24_σ_2 bf_3 bf_5; omega) | omega)) kv_X12_261 ha ⟨Nat.le_of_ble_eq_true rfl, Nat.le_of_ble_eq_true rfl⟩ (Nat.le_of_ble_eq_true rfl) dX12_back_30) hI (Nat.le_of_ble_eq_true rfl) (fun σ_8 H locs hpσ_8 hkσ_8 hI => ?_)
    have ahpσ_8 := hpσ_8.1
    have bhpσ_8 := hpσ_8.2.1
    have chpσ_8 := hpσ_8.2.2
    clear hpσ_8
    have fr_σ_8 := fr_σ_2.call chpσ_8 rfl rfl
    replace hF := q_letX hF bhpσ_8
    have mv24_σ_8 : (σ_8.1 a 24).toInt = (σ_2.1 a 24).toInt := congrArg Int32.toInt (hkσ_8 a 24 (by rw [ha]; decide))
    have ks_σ_8 : q_KS (fun b g => b = a ∧ g = 24) 1 X σ σ_8 := ks_σ_2.K hkσ_8 (by decide)
    have mmσ_8 : m_M (m_c X σ_8 a) ((σ.1 a 24).toInt - 1) n := m_M.back (w := f_5.toInt) (z := (0 : Int32).toInt) hM (by first | (clear bf_3 bf_5 kc_6 ahpσ_8 bhpσ_8 chpσ_8; omega) | omega) (by first | (clear b24 bf_3 c_4 bf_5 kc_6 ahpσ_8 bhpσ_8 chpσ_8 mv24_σ_8; omega) | omega) (by decide) (fun j hj => (by have q := ahpσ_8 j hj; rw [fxσ_2] at q; exact q))
    refine lv_aload_n hx hb dX12_back_33 rfl (lv_at hl 0 rfl) ?_
    refine lv_dup hx hb dX12_back_34 rfl ?_
    refine gs_X12_455_12 E hI ha dX12_back_35 ?_
    refine lv_topi (fun f_9 ef_9 => ?_)
    replace hF := q_letX hF ef_9
    have if_9 : f_9.toInt = (σ_8.1 a 24).toInt := congrArg Int32.toInt ef_9
    have bf_9 : 0 ≤ f_9.toInt ∧ f_9.toInt ≤ 3 := by rw [ef_9]; exact q_bd hI ha rfl
    refine lv_iconst (v := 1) hx hb dX12_back_38 zki_1 ?_
    refine lv_isub hx hb dX12_back_39 ?_
    refine lv_topi (fun z_10 ez_10 => ?_)
    replace hF := q_letX hF ez_10
    have iz_10 := q_subI (A := f_9.toInt) (B := 1) ez_10 rfl (by decide) (by first | (clear bf_3 c_4 bf_5 kc_6 ahpσ_8 bhpσ_8 chpσ_8 bf_9; omega) | omega) (by first | (clear bf_3 c_4 bf_5 kc_6 ahpσ_8 bhpσ_8 chpσ_8 bf_9; omega) | omega)
    refine ps_X12_455_12 E hI ha (by decide) (by first | (clear bf_3 bf_5 kc_6 ahpσ_8 bhpσ_8 chpσ_8 bf_9; omega) | omega) (by first | (clear bf_3 c_4 bf_5 kc_6 ahpσ_8 bhpσ_8 chpσ_8 bf_9; omega) | omega) dX12_back_40 (fun H locs σ_11 hσ_11 hI => ?_)
    replace hF := q_letX hF hσ_11
    have fr_σ_11 := fr_σ_8.si hσ_11 ha rfl
    have ks_σ_11 : q_KS (fun b g => b = a ∧ g = 24) 1 X σ σ_11 := ks_σ_8.siS hσ_11 ⟨rfl, rfl⟩
    have mv24_σ_11 : (σ_11.1 a 24).toInt = z_10.toInt := congrArg Int32.toInt (q_rd hσ_11)
    have mcσ_11 := m_wo hσ_11 (m_ne ha (q_tk (f := 20) (k' := 34) hI ha rfl (by decide)) (by decide))
    have fyσ_11 : m_c X σ_11 a = m_c X σ_8 a := funext mcσ_11
    have mnσ_11 := mmσ_8
    rw [← fyσ_11] at mnσ_11
    refine lv_aload_n hx hb dX12_back_43 rfl (lv_at hl 0 rfl) ?_
    refine gs_X12_455_12 E hI ha dX12_back_44 ?_
    refine lv_topi (fun f_12 ef_12 => ?_)
    replace hF := q_letX hF ef_12
    have if_12 : f_12.toInt = (σ_11.1 a 24).toInt := congrArg Int32.toInt ef_12
    have bf_12 : 0 ≤ f_12.toInt ∧ f_12.toInt ≤ 3 := by rw [ef_12]; exact q_bd hI ha rfl
    exact q_reti E hr hlk hI ⟨ks_σ_11, (by first | (have q : (σ_11.1 a 24).toInt = (σ.1 a 24).toInt := (by omega); rw [fxσ_11, q]; exact hM) | (have q : (σ_11.1 a 24).toInt = (σ.1 a 24).toInt - 1 := (by first | (clear b24 bf_3 c_4 bf_5 kc_6 ahpσ_8 bhpσ_8 chpσ_8 bf_9 if_12 bf_12; omega) | omega); rw [q]; exact mnσ_11)), (by first | (clear b24 bf_3 c_4 bf_5 kc_6 ahpσ_8 bhpσ_8 chpσ_8 bf_9 bf_12; omega) | omega), (by first | (clear bf_3 c_4 bf_5 kc_6 ahpσ_8 bhpσ_8 chpσ_8 bf_9; omega) | omega), (hF.trans hout), fr_σ_11⟩ dX12_back_47
  · skip
    replace hF := q_ifp hF c_4
    refine lv_aload_n hx hb dX12_back_17 rfl (lv_at hl 0 rfl) ?_
    refine lv_bipush (v := 8) hx hb dX12_back_18 zkb_8 ?_
    have kc_13 : (8 : Int32).toInt = 8 := zt_8
    refine q_ci (q_rV11_1 (rest := []) E (hml.trans hl.1.symm) hI (c_X12_refuse l X σ_2 a (8 : Int32) ha) kv_X12_284 ha ⟨Nat.le_of_ble_eq_true rfl, Nat.le_of_ble_eq_true rfl⟩ (Nat.le_of_ble_eq_true rfl) dX12_back_20) hI (Nat.le_of_ble_eq_true rfl) (fun r_14 σ_15 H locs hpσ_15 hkσ_15 hI => ?_)
    have ahpσ_15 := hpσ_15.1
    have bhpσ_15 := hpσ_15.2.1
    have chpσ_15 := hpσ_15.2.2
    clear hpσ_15
    have fr_σ_15 := fr_σ_2.call chpσ_15 rfl rfl
    replace hF := q_biX hF bhpσ_15
    have mv24_σ_15 : (σ_15.1 a 24).toInt = (σ_2.1 a 24).toInt := congrArg Int32.toInt ((q_K.le hkσ_15 (by decide) : q_K 8 X σ_2 σ_15) a 24 (by rw [ha]; decide))
    have mcσ_15 := m_cK hkσ_15 hI.1 ha (by decide)
    have fxσ_15 : m_c X σ_15 a = m_c X σ a := (funext mcσ_15).trans fxσ_2
    have ks_σ_15 : q_KS (fun b g => b = a ∧ g = 24) 1 X σ σ_15 := ks_σ_2.K hkσ_15 (by decide)
    exact q_reti E hr hlk hI ⟨ks_σ_15, (by first | (have q : (σ_15.1 a 24).toInt = (σ.1 a 24).toInt := (by first | (clear b24 bf_3 kc_13 ahpσ_15 bhpσ_15 chpσ_15; omega) | omega); rw [fxσ_15, q]; exact hM) | (have q : (σ_15.1 a 24).toInt = (σ.1 a 24).toInt - 1 := (by omega); rw [q]; exact mnσ_15)), (by first | (clear b24 bf_3 kc_13 ahpσ_15 bhpσ_15 chpσ_15 mv24_σ_15; omega) | omega), (by first | (clear b24 mv24_σ_1 mv24_σ_2 bf_3 kc_13 bhpσ_15 chpσ_15; omega) | omega), (hF.trans hout), fr_σ_15⟩ dX12_back_23
end
/-! FROM 48a.ar.lean.txt -/
section
/-! ARITHMETIC of the exact answers -/
def ar_w (n : Int) : Int := Int.bmod n (2 ^ 32)
def ar_v (n : Int) : Int := Int.bmod n (2 ^ 64)
theorem ar_wr {n : Int} (h1 : -2147483648 ≤ n) (h2 : n ≤ 2147483647) : ar_w n = n := Int.bmod_eq_of_le (by omega) (by omega)
theorem ar_vr {n : Int} (h1 : -9223372036854775808 ≤ n) (h2 : n ≤ 9223372036854775807) : ar_v n = n := Int.bmod_eq_of_le (by omega) (by omega)
theorem ar_add (x y : Int32) : (x + y).toInt = ar_w (x.toInt + y.toInt) := Int32.toInt_add x y
theorem ar_sub (x y : Int32) : (x - y).toInt = ar_w (x.toInt - y.toInt) := Int32.toInt_sub x y
theorem ar_mul (x y : Int32) : (x * y).toInt = ar_w (x.toInt * y.toInt) := Int32.toInt_mul x y
theorem ar_neg (x : Int32) : (-x).toInt = ar_w (-x.toInt) := Int32.toInt_neg x
theorem ar_addl (x y : Int64) : (x + y).toInt = ar_v (x.toInt + y.toInt) := Int64.toInt_add x y
theorem ar_subl (x y : Int64) : (x - y).toInt = ar_v (x.toInt - y.toInt) := Int64.toInt_sub x y
theorem ar_mull (x y : Int64) : (x * y).toInt = ar_v (x.toInt * y.toInt) := Int64.toInt_mul x y
theorem ar_i2l (x : Int32) : x.toInt64.toInt = x.toInt := Int32.toInt_toInt64 x
theorem ar_cl (x : Int32) : x.toNatClampNeg = x.toInt.toNat := rfl
theorem ar_bd (x : Int32) : -2147483648 ≤ x.toInt ∧ x.toInt ≤ 2147483647 := q_rng x
theorem ar_m1 : (-1 : Int32).toInt = -1 := rfl
end
/-! FROM 48b.view.lean.txt -/
section
/-! THE CLASS'S GAMES AS ROWS OF NUMBERS -/
/-- a label for each object: 8192 for each game, 16 for each step of the way -/
def y_lc (L f : Nat) : Nat := if L = 1 ∧ f = 8 then 8193 else if L = 1 ∧ f = 9 then 16385 else if L = 26 then 8192 * (f + 3) + 1 else if L = 28 ∧ f = 8 then 49153 else L + 15 * (L % 8192) + f
def y_rl (k f : Nat) : Nat := match k with
  | 1 => match f with | 8 => 10 | 10 => 10 | _ => 0
  | 2 => match f with | 0 => 60 | 1 => 60 | 2 => 6 | 3 => 6 | 4 => 6 | 5 => 6 | 6 => 6 | _ => 0
  | 3 => match f with | 2 => 80 | 3 => 80 | 4 => 80 | 5 => 320 | _ => 0
  | 4 => match f with | 9 => 3 | _ => 0
  | 6 => match f with | 5 => 10 | 6 => 48 | 7 => 6 | _ => 0
  | 7 => match f with | 7 => 60 | _ => 0
  | 8 => match f with | 3 => 60 | 4 => 60 | 5 => 60 | 6 => 60 | 7 => 60 | _ => 0
  | 9 => match f with | 11 => 6 | _ => 0
  | _ => 0
/-- the objects and rows of a game: 0 game, 1 rules, 2 pile, 3 script, 4 dealt, 5 names, 6 nameLength, 7 held, 8 laid, 9 cards, 10 lying, 11 doubting, 12 shown, 13 untrue, 14 layer, 15 kindSaid, 16 size, 17 card, 18 action, 19 mate, 20 who, 21 comparison, 22 number, 23 wants, 24 rest -/
def y_gA (X : XW) (g id : Nat) : Nat := match id with
  | 0 => g
  | 1 => q_rf X g 0
  | 2 => q_rf X g 2
  | 3 => q_rf X g 3
  | 4 => q_rf X (q_rf X (q_rf X g 0) 5) 0
  | 5 => q_rf X (q_rf X (q_rf X g 0) 6) 0
  | 6 => q_rf X (q_rf X (q_rf X g 0) 7) 0
  | 7 => q_rf X (q_rf X (q_rf X g 1) 0) 0
  | 8 => q_rf X (q_rf X (q_rf X g 1) 1) 0
  | 9 => q_rf X (q_rf X (q_rf X g 1) 2) 0
  | 10 => q_rf X (q_rf X (q_rf X g 1) 3) 0
  | 11 => q_rf X (q_rf X (q_rf X g 1) 4) 0
  | 12 => q_rf X (q_rf X (q_rf X g 1) 5) 0
  | 13 => q_rf X (q_rf X (q_rf X g 1) 6) 0
  | 14 => q_rf X (q_rf X (q_rf X g 2) 2) 0
  | 15 => q_rf X (q_rf X (q_rf X g 2) 3) 0
  | 16 => q_rf X (q_rf X (q_rf X g 2) 4) 0
  | 17 => q_rf X (q_rf X (q_rf X g 2) 5) 0
  | 18 => q_rf X (q_rf X (q_rf X g 3) 3) 0
  | 19 => q_rf X (q_rf X (q_rf X g 3) 4) 0
  | 20 => q_rf X (q_rf X (q_rf X g 3) 5) 0
  | 21 => q_rf X (q_rf X (q_rf X g 3) 6) 0
  | 22 => q_rf X (q_rf X (q_rf X g 3) 7) 0
  | 23 => q_rf X (q_rf X g 8) 0
  | 24 => q_rf X (q_rf X g 10) 0
  | _ => q_rf X g 0
def y_co (id : Nat) : Nat := match id with | 0 => 1 | 1 => 16 | 2 => 18 | 3 => 19 | 4 => 4176 | 5 => 4192 | 6 => 4208 | 7 => 4352 | 8 => 4368 | 9 => 4384 | 10 => 4400 | 11 => 4416 | 12 => 4432 | 13 => 4448 | 14 => 4640 | 15 => 4656 | 16 => 4672 | 17 => 4688 | 18 => 4912 | 19 => 4928 | 20 => 4944 | 21 => 4960 | 22 => 4976 | 23 => 384 | 24 => 416 | _ => 0
def y_ki (id : Nat) : Nat := match id with | 0 => 1 | 1 => 6 | 2 => 3 | 3 => 8 | _ => 20
def y_gn (id : Nat) : Nat := match id with | 0 => 0 | 1 => 0 | 2 => 0 | 3 => 0 | 4 => 10 | 5 => 48 | 6 => 6 | 7 => 60 | 8 => 60 | 9 => 6 | 10 => 6 | 11 => 6 | 12 => 6 | 13 => 6 | 14 => 80 | 15 => 80 | 16 => 80 | 17 => 320 | 18 => 60 | 19 => 60 | 20 => 60 | 21 => 60 | 22 => 60 | 23 => 10 | 24 => 10 | _ => 0
def y_S (X : XW) (lb : Nat → Nat) : Prop := q_T X ∧ (∀ a f, q_rk (q_kd X a) f ≠ 0 → lb (q_rf X a f) = y_lc (lb a) f) ∧ ∀ a f, q_rk (q_kd X a) f = 5 → q_ln X (q_rf X (q_rf X a f) 0) = y_rl (q_kd X a) f
/-- g is the root of game o -/
def y_G (X : XW) (lb : Nat → Nat) (g o : Nat) : Prop := q_kd X g = 1 ∧ lb g = 8192 * o + 1 ∧ 1 ≤ o
theorem y_lcI {L o c f c' : Nat} (h : L = 8192 * o + c) (ho : 1 ≤ o) (hc : (decide (c < 8192) && (c + 15 * c + f == c')) = true) : y_lc L f = 8192 * o + c' := by
  have h1 : c < 8192 ∧ c + 15 * c + f = c' := by simpa using hc
  unfold y_lc
  rw [if_neg (by omega), if_neg (by omega), if_neg (by omega), if_neg (by omega)]
  omega
set_option maxHeartbeats 4000000 in
theorem y_gf {X : XW} {lb : Nat → Nat} {g o : Nat} (S : y_S X lb) (G : y_G X lb g o) : ∀ id, id < 25 → lb (y_gA X g id) = 8192 * o + y_co id ∧ q_kd X (y_gA X g id) = y_ki id ∧ (4 ≤ id → q_ln X (y_gA X g id) = y_gn id) := by
  obtain ⟨T, L, N⟩ := S
  obtain ⟨gk, gl, go⟩ := G
  have k_ : q_kd X g = 1 := gk
  have l_ : lb g = 8192 * o + 1 := gl
  have k_0 : q_kd X (q_rf X g 0) = 6 := (T.1 (g) 0 (by rw [k_]; decide)).trans (by rw [k_]; rfl)
  have l_0 : lb (q_rf X g 0) = 8192 * o + 16 := (L (g) 0 (by rw [k_]; decide)).trans (y_lcI l_ go (by decide))
  have k_1 : q_kd X (q_rf X g 1) = 2 := (T.1 (g) 1 (by rw [k_]; decide)).trans (by rw [k_]; rfl)
  have l_1 : lb (q_rf X g 1) = 8192 * o + 17 := (L (g) 1 (by rw [k_]; decide)).trans (y_lcI l_ go (by decide))
  have k_2 : q_kd X (q_rf X g 2) = 3 := (T.1 (g) 2 (by rw [k_]; decide)).trans (by rw [k_]; rfl)
  have l_2 : lb (q_rf X g 2) = 8192 * o + 18 := (L (g) 2 (by rw [k_]; decide)).trans (y_lcI l_ go (by decide))
  have k_3 : q_kd X (q_rf X g 3) = 8 := (T.1 (g) 3 (by rw [k_]; decide)).trans (by rw [k_]; rfl)
  have l_3 : lb (q_rf X g 3) = 8192 * o + 19 := (L (g) 3 (by rw [k_]; decide)).trans (y_lcI l_ go (by decide))
  have k_8 : q_kd X (q_rf X g 8) = 5 := (T.1 (g) 8 (by rw [k_]; decide)).trans (by rw [k_]; rfl)
  have l_8 : lb (q_rf X g 8) = 8192 * o + 24 := (L (g) 8 (by rw [k_]; decide)).trans (y_lcI l_ go (by decide))
  have k_10 : q_kd X (q_rf X g 10) = 5 := (T.1 (g) 10 (by rw [k_]; decide)).trans (by rw [k_]; rfl)
  have l_10 : lb (q_rf X g 10) = 8192 * o + 26 := (L (g) 10 (by rw [k_]; decide)).trans (y_lcI l_ go (by decide))
  have k_0_5 : q_kd X (q_rf X (q_rf X g 0) 5) = 5 := (T.1 (q_rf X g 0) 5 (by rw [k_0]; decide)).trans (by rw [k_0]; rfl)
  have l_0_5 : lb (q_rf X (q_rf X g 0) 5) = 8192 * o + 261 := (L (q_rf X g 0) 5 (by rw [k_0]; decide)).trans (y_lcI l_0 go (by decide))
  have k_0_6 : q_kd X (q_rf X (q_rf X g 0) 6) = 5 := (T.1 (q_rf X g 0) 6 (by rw [k_0]; decide)).trans (by rw [k_0]; rfl)
  have l_0_6 : lb (q_rf X (q_rf X g 0) 6) = 8192 * o + 262 := (L (q_rf X g 0) 6 (by rw [k_0]; decide)).trans (y_lcI l_0 go (by decide))
  have k_0_7 : q_kd X (q_rf X (q_rf X g 0) 7) = 5 := (T.1 (q_rf X g 0) 7 (by rw [k_0]; decide)).trans (by rw [k_0]; rfl)
  have l_0_7 : lb (q_rf X (q_rf X g 0) 7) = 8192 * o + 263 := (L (q_rf X g 0) 7 (by rw [k_0]; decide)).trans (y_lcI l_0 go (by decide))
  have k_1_0 : q_kd X (q_rf X (q_rf X g 1) 0) = 5 := (T.1 (q_rf X g 1) 0 (by rw [k_1]; decide)).trans (by rw [k_1]; rfl)
  have l_1_0 : lb (q_rf X (q_rf X g 1) 0) = 8192 * o + 272 := (L (q_rf X g 1) 0 (by rw [k_1]; decide)).trans (y_lcI l_1 go (by decide))
  have k_1_1 : q_kd X (q_rf X (q_rf X g 1) 1) = 5 := (T.1 (q_rf X g 1) 1 (by rw [k_1]; decide)).trans (by rw [k_1]; rfl)
  have l_1_1 : lb (q_rf X (q_rf X g 1) 1) = 8192 * o + 273 := (L (q_rf X g 1) 1 (by rw [k_1]; decide)).trans (y_lcI l_1 go (by decide))
  have k_1_2 : q_kd X (q_rf X (q_rf X g 1) 2) = 5 := (T.1 (q_rf X g 1) 2 (by rw [k_1]; decide)).trans (by rw [k_1]; rfl)
  have l_1_2 : lb (q_rf X (q_rf X g 1) 2) = 8192 * o + 274 := (L (q_rf X g 1) 2 (by rw [k_1]; decide)).trans (y_lcI l_1 go (by decide))
  have k_1_3 : q_kd X (q_rf X (q_rf X g 1) 3) = 5 := (T.1 (q_rf X g 1) 3 (by rw [k_1]; decide)).trans (by rw [k_1]; rfl)
  have l_1_3 : lb (q_rf X (q_rf X g 1) 3) = 8192 * o + 275 := (L (q_rf X g 1) 3 (by rw [k_1]; decide)).trans (y_lcI l_1 go (by decide))
  have k_1_4 : q_kd X (q_rf X (q_rf X g 1) 4) = 5 := (T.1 (q_rf X g 1) 4 (by rw [k_1]; decide)).trans (by rw [k_1]; rfl)
  have l_1_4 : lb (q_rf X (q_rf X g 1) 4) = 8192 * o + 276 := (L (q_rf X g 1) 4 (by rw [k_1]; decide)).trans (y_lcI l_1 go (by decide))
  have k_1_5 : q_kd X (q_rf X (q_rf X g 1) 5) = 5 := (T.1 (q_rf X g 1) 5 (by rw [k_1]; decide)).trans (by rw [k_1]; rfl)
  have l_1_5 : lb (q_rf X (q_rf X g 1) 5) = 8192 * o + 277 := (L (q_rf X g 1) 5 (by rw [k_1]; decide)).trans (y_lcI l_1 go (by decide))
  have k_1_6 : q_kd X (q_rf X (q_rf X g 1) 6) = 5 := (T.1 (q_rf X g 1) 6 (by rw [k_1]; decide)).trans (by rw [k_1]; rfl)
  have l_1_6 : lb (q_rf X (q_rf X g 1) 6) = 8192 * o + 278 := (L (q_rf X g 1) 6 (by rw [k_1]; decide)).trans (y_lcI l_1 go (by decide))
  have k_2_2 : q_kd X (q_rf X (q_rf X g 2) 2) = 5 := (T.1 (q_rf X g 2) 2 (by rw [k_2]; decide)).trans (by rw [k_2]; rfl)
  have l_2_2 : lb (q_rf X (q_rf X g 2) 2) = 8192 * o + 290 := (L (q_rf X g 2) 2 (by rw [k_2]; decide)).trans (y_lcI l_2 go (by decide))
  have k_2_3 : q_kd X (q_rf X (q_rf X g 2) 3) = 5 := (T.1 (q_rf X g 2) 3 (by rw [k_2]; decide)).trans (by rw [k_2]; rfl)
  have l_2_3 : lb (q_rf X (q_rf X g 2) 3) = 8192 * o + 291 := (L (q_rf X g 2) 3 (by rw [k_2]; decide)).trans (y_lcI l_2 go (by decide))
  have k_2_4 : q_kd X (q_rf X (q_rf X g 2) 4) = 5 := (T.1 (q_rf X g 2) 4 (by rw [k_2]; decide)).trans (by rw [k_2]; rfl)
  have l_2_4 : lb (q_rf X (q_rf X g 2) 4) = 8192 * o + 292 := (L (q_rf X g 2) 4 (by rw [k_2]; decide)).trans (y_lcI l_2 go (by decide))
  have k_2_5 : q_kd X (q_rf X (q_rf X g 2) 5) = 5 := (T.1 (q_rf X g 2) 5 (by rw [k_2]; decide)).trans (by rw [k_2]; rfl)
  have l_2_5 : lb (q_rf X (q_rf X g 2) 5) = 8192 * o + 293 := (L (q_rf X g 2) 5 (by rw [k_2]; decide)).trans (y_lcI l_2 go (by decide))
  have k_3_3 : q_kd X (q_rf X (q_rf X g 3) 3) = 5 := (T.1 (q_rf X g 3) 3 (by rw [k_3]; decide)).trans (by rw [k_3]; rfl)
  have l_3_3 : lb (q_rf X (q_rf X g 3) 3) = 8192 * o + 307 := (L (q_rf X g 3) 3 (by rw [k_3]; decide)).trans (y_lcI l_3 go (by decide))
  have k_3_4 : q_kd X (q_rf X (q_rf X g 3) 4) = 5 := (T.1 (q_rf X g 3) 4 (by rw [k_3]; decide)).trans (by rw [k_3]; rfl)
  have l_3_4 : lb (q_rf X (q_rf X g 3) 4) = 8192 * o + 308 := (L (q_rf X g 3) 4 (by rw [k_3]; decide)).trans (y_lcI l_3 go (by decide))
  have k_3_5 : q_kd X (q_rf X (q_rf X g 3) 5) = 5 := (T.1 (q_rf X g 3) 5 (by rw [k_3]; decide)).trans (by rw [k_3]; rfl)
  have l_3_5 : lb (q_rf X (q_rf X g 3) 5) = 8192 * o + 309 := (L (q_rf X g 3) 5 (by rw [k_3]; decide)).trans (y_lcI l_3 go (by decide))
  have k_3_6 : q_kd X (q_rf X (q_rf X g 3) 6) = 5 := (T.1 (q_rf X g 3) 6 (by rw [k_3]; decide)).trans (by rw [k_3]; rfl)
  have l_3_6 : lb (q_rf X (q_rf X g 3) 6) = 8192 * o + 310 := (L (q_rf X g 3) 6 (by rw [k_3]; decide)).trans (y_lcI l_3 go (by decide))
  have k_3_7 : q_kd X (q_rf X (q_rf X g 3) 7) = 5 := (T.1 (q_rf X g 3) 7 (by rw [k_3]; decide)).trans (by rw [k_3]; rfl)
  have l_3_7 : lb (q_rf X (q_rf X g 3) 7) = 8192 * o + 311 := (L (q_rf X g 3) 7 (by rw [k_3]; decide)).trans (y_lcI l_3 go (by decide))
  have k_8_0 : q_kd X (q_rf X (q_rf X g 8) 0) = 20 := (T.1 (q_rf X g 8) 0 (by rw [k_8]; decide)).trans (by rw [k_8]; rfl)
  have l_8_0 : lb (q_rf X (q_rf X g 8) 0) = 8192 * o + 384 := (L (q_rf X g 8) 0 (by rw [k_8]; decide)).trans (y_lcI l_8 go (by decide))
  have k_10_0 : q_kd X (q_rf X (q_rf X g 10) 0) = 20 := (T.1 (q_rf X g 10) 0 (by rw [k_10]; decide)).trans (by rw [k_10]; rfl)
  have l_10_0 : lb (q_rf X (q_rf X g 10) 0) = 8192 * o + 416 := (L (q_rf X g 10) 0 (by rw [k_10]; decide)).trans (y_lcI l_10 go (by decide))
  have k_0_5_0 : q_kd X (q_rf X (q_rf X (q_rf X g 0) 5) 0) = 20 := (T.1 (q_rf X (q_rf X g 0) 5) 0 (by rw [k_0_5]; decide)).trans (by rw [k_0_5]; rfl)
  have l_0_5_0 : lb (q_rf X (q_rf X (q_rf X g 0) 5) 0) = 8192 * o + 4176 := (L (q_rf X (q_rf X g 0) 5) 0 (by rw [k_0_5]; decide)).trans (y_lcI l_0_5 go (by decide))
  have k_0_6_0 : q_kd X (q_rf X (q_rf X (q_rf X g 0) 6) 0) = 20 := (T.1 (q_rf X (q_rf X g 0) 6) 0 (by rw [k_0_6]; decide)).trans (by rw [k_0_6]; rfl)
  have l_0_6_0 : lb (q_rf X (q_rf X (q_rf X g 0) 6) 0) = 8192 * o + 4192 := (L (q_rf X (q_rf X g 0) 6) 0 (by rw [k_0_6]; decide)).trans (y_lcI l_0_6 go (by decide))
  have k_0_7_0 : q_kd X (q_rf X (q_rf X (q_rf X g 0) 7) 0) = 20 := (T.1 (q_rf X (q_rf X g 0) 7) 0 (by rw [k_0_7]; decide)).trans (by rw [k_0_7]; rfl)
  have l_0_7_0 : lb (q_rf X (q_rf X (q_rf X g 0) 7) 0) = 8192 * o + 4208 := (L (q_rf X (q_rf X g 0) 7) 0 (by rw [k_0_7]; decide)).trans (y_lcI l_0_7 go (by decide))
  have k_1_0_0 : q_kd X (q_rf X (q_rf X (q_rf X g 1) 0) 0) = 20 := (T.1 (q_rf X (q_rf X g 1) 0) 0 (by rw [k_1_0]; decide)).trans (by rw [k_1_0]; rfl)
  have l_1_0_0 : lb (q_rf X (q_rf X (q_rf X g 1) 0) 0) = 8192 * o + 4352 := (L (q_rf X (q_rf X g 1) 0) 0 (by rw [k_1_0]; decide)).trans (y_lcI l_1_0 go (by decide))
  have k_1_1_0 : q_kd X (q_rf X (q_rf X (q_rf X g 1) 1) 0) = 20 := (T.1 (q_rf X (q_rf X g 1) 1) 0 (by rw [k_1_1]; decide)).trans (by rw [k_1_1]; rfl)
  have l_1_1_0 : lb (q_rf X (q_rf X (q_rf X g 1) 1) 0) = 8192 * o + 4368 := (L (q_rf X (q_rf X g 1) 1) 0 (by rw [k_1_1]; decide)).trans (y_lcI l_1_1 go (by decide))
  have k_1_2_0 : q_kd X (q_rf X (q_rf X (q_rf X g 1) 2) 0) = 20 := (T.1 (q_rf X (q_rf X g 1) 2) 0 (by rw [k_1_2]; decide)).trans (by rw [k_1_2]; rfl)
  have l_1_2_0 : lb (q_rf X (q_rf X (q_rf X g 1) 2) 0) = 8192 * o + 4384 := (L (q_rf X (q_rf X g 1) 2) 0 (by rw [k_1_2]; decide)).trans (y_lcI l_1_2 go (by decide))
  have k_1_3_0 : q_kd X (q_rf X (q_rf X (q_rf X g 1) 3) 0) = 20 := (T.1 (q_rf X (q_rf X g 1) 3) 0 (by rw [k_1_3]; decide)).trans (by rw [k_1_3]; rfl)
  have l_1_3_0 : lb (q_rf X (q_rf X (q_rf X g 1) 3) 0) = 8192 * o + 4400 := (L (q_rf X (q_rf X g 1) 3) 0 (by rw [k_1_3]; decide)).trans (y_lcI l_1_3 go (by decide))
  have k_1_4_0 : q_kd X (q_rf X (q_rf X (q_rf X g 1) 4) 0) = 20 := (T.1 (q_rf X (q_rf X g 1) 4) 0 (by rw [k_1_4]; decide)).trans (by rw [k_1_4]; rfl)
  have l_1_4_0 : lb (q_rf X (q_rf X (q_rf X g 1) 4) 0) = 8192 * o + 4416 := (L (q_rf X (q_rf X g 1) 4) 0 (by rw [k_1_4]; decide)).trans (y_lcI l_1_4 go (by decide))
  have k_1_5_0 : q_kd X (q_rf X (q_rf X (q_rf X g 1) 5) 0) = 20 := (T.1 (q_rf X (q_rf X g 1) 5) 0 (by rw [k_1_5]; decide)).trans (by rw [k_1_5]; rfl)
  have l_1_5_0 : lb (q_rf X (q_rf X (q_rf X g 1) 5) 0) = 8192 * o + 4432 := (L (q_rf X (q_rf X g 1) 5) 0 (by rw [k_1_5]; decide)).trans (y_lcI l_1_5 go (by decide))
  have k_1_6_0 : q_kd X (q_rf X (q_rf X (q_rf X g 1) 6) 0) = 20 := (T.1 (q_rf X (q_rf X g 1) 6) 0 (by rw [k_1_6]; decide)).trans (by rw [k_1_6]; rfl)
  have l_1_6_0 : lb (q_rf X (q_rf X (q_rf X g 1) 6) 0) = 8192 * o + 4448 := (L (q_rf X (q_rf X g 1) 6) 0 (by rw [k_1_6]; decide)).trans (y_lcI l_1_6 go (by decide))
  have k_2_2_0 : q_kd X (q_rf X (q_rf X (q_rf X g 2) 2) 0) = 20 := (T.1 (q_rf X (q_rf X g 2) 2) 0 (by rw [k_2_2]; decide)).trans (by rw [k_2_2]; rfl)
  have l_2_2_0 : lb (q_rf X (q_rf X (q_rf X g 2) 2) 0) = 8192 * o + 4640 := (L (q_rf X (q_rf X g 2) 2) 0 (by rw [k_2_2]; decide)).trans (y_lcI l_2_2 go (by decide))
  have k_2_3_0 : q_kd X (q_rf X (q_rf X (q_rf X g 2) 3) 0) = 20 := (T.1 (q_rf X (q_rf X g 2) 3) 0 (by rw [k_2_3]; decide)).trans (by rw [k_2_3]; rfl)
  have l_2_3_0 : lb (q_rf X (q_rf X (q_rf X g 2) 3) 0) = 8192 * o + 4656 := (L (q_rf X (q_rf X g 2) 3) 0 (by rw [k_2_3]; decide)).trans (y_lcI l_2_3 go (by decide))
  have k_2_4_0 : q_kd X (q_rf X (q_rf X (q_rf X g 2) 4) 0) = 20 := (T.1 (q_rf X (q_rf X g 2) 4) 0 (by rw [k_2_4]; decide)).trans (by rw [k_2_4]; rfl)
  have l_2_4_0 : lb (q_rf X (q_rf X (q_rf X g 2) 4) 0) = 8192 * o + 4672 := (L (q_rf X (q_rf X g 2) 4) 0 (by rw [k_2_4]; decide)).trans (y_lcI l_2_4 go (by decide))
  have k_2_5_0 : q_kd X (q_rf X (q_rf X (q_rf X g 2) 5) 0) = 20 := (T.1 (q_rf X (q_rf X g 2) 5) 0 (by rw [k_2_5]; decide)).trans (by rw [k_2_5]; rfl)
  have l_2_5_0 : lb (q_rf X (q_rf X (q_rf X g 2) 5) 0) = 8192 * o + 4688 := (L (q_rf X (q_rf X g 2) 5) 0 (by rw [k_2_5]; decide)).trans (y_lcI l_2_5 go (by decide))
  have k_3_3_0 : q_kd X (q_rf X (q_rf X (q_rf X g 3) 3) 0) = 20 := (T.1 (q_rf X (q_rf X g 3) 3) 0 (by rw [k_3_3]; decide)).trans (by rw [k_3_3]; rfl)
  have l_3_3_0 : lb (q_rf X (q_rf X (q_rf X g 3) 3) 0) = 8192 * o + 4912 := (L (q_rf X (q_rf X g 3) 3) 0 (by rw [k_3_3]; decide)).trans (y_lcI l_3_3 go (by decide))
  have k_3_4_0 : q_kd X (q_rf X (q_rf X (q_rf X g 3) 4) 0) = 20 := (T.1 (q_rf X (q_rf X g 3) 4) 0 (by rw [k_3_4]; decide)).trans (by rw [k_3_4]; rfl)
  have l_3_4_0 : lb (q_rf X (q_rf X (q_rf X g 3) 4) 0) = 8192 * o + 4928 := (L (q_rf X (q_rf X g 3) 4) 0 (by rw [k_3_4]; decide)).trans (y_lcI l_3_4 go (by decide))
  have k_3_5_0 : q_kd X (q_rf X (q_rf X (q_rf X g 3) 5) 0) = 20 := (T.1 (q_rf X (q_rf X g 3) 5) 0 (by rw [k_3_5]; decide)).trans (by rw [k_3_5]; rfl)
  have l_3_5_0 : lb (q_rf X (q_rf X (q_rf X g 3) 5) 0) = 8192 * o + 4944 := (L (q_rf X (q_rf X g 3) 5) 0 (by rw [k_3_5]; decide)).trans (y_lcI l_3_5 go (by decide))
  have k_3_6_0 : q_kd X (q_rf X (q_rf X (q_rf X g 3) 6) 0) = 20 := (T.1 (q_rf X (q_rf X g 3) 6) 0 (by rw [k_3_6]; decide)).trans (by rw [k_3_6]; rfl)
  have l_3_6_0 : lb (q_rf X (q_rf X (q_rf X g 3) 6) 0) = 8192 * o + 4960 := (L (q_rf X (q_rf X g 3) 6) 0 (by rw [k_3_6]; decide)).trans (y_lcI l_3_6 go (by decide))
  have k_3_7_0 : q_kd X (q_rf X (q_rf X (q_rf X g 3) 7) 0) = 20 := (T.1 (q_rf X (q_rf X g 3) 7) 0 (by rw [k_3_7]; decide)).trans (by rw [k_3_7]; rfl)
  have l_3_7_0 : lb (q_rf X (q_rf X (q_rf X g 3) 7) 0) = 8192 * o + 4976 := (L (q_rf X (q_rf X g 3) 7) 0 (by rw [k_3_7]; decide)).trans (y_lcI l_3_7 go (by decide))
  exact fun id h => match id, h with
    | 0, _ => ⟨l_, k_, fun h => absurd h (by decide)⟩
    | 1, _ => ⟨l_0, k_0, fun h => absurd h (by decide)⟩
    | 2, _ => ⟨l_2, k_2, fun h => absurd h (by decide)⟩
    | 3, _ => ⟨l_3, k_3, fun h => absurd h (by decide)⟩
    | 4, _ => ⟨l_0_5_0, k_0_5_0, fun _ => (N (q_rf X g 0) 5 (by rw [k_0]; decide)).trans (by rw [k_0]; rfl)⟩
    | 5, _ => ⟨l_0_6_0, k_0_6_0, fun _ => (N (q_rf X g 0) 6 (by rw [k_0]; decide)).trans (by rw [k_0]; rfl)⟩
    | 6, _ => ⟨l_0_7_0, k_0_7_0, fun _ => (N (q_rf X g 0) 7 (by rw [k_0]; decide)).trans (by rw [k_0]; rfl)⟩
    | 7, _ => ⟨l_1_0_0, k_1_0_0, fun _ => (N (q_rf X g 1) 0 (by rw [k_1]; decide)).trans (by rw [k_1]; rfl)⟩
    | 8, _ => ⟨l_1_1_0, k_1_1_0, fun _ => (N (q_rf X g 1) 1 (by rw [k_1]; decide)).trans (by rw [k_1]; rfl)⟩
    | 9, _ => ⟨l_1_2_0, k_1_2_0, fun _ => (N (q_rf X g 1) 2 (by rw [k_1]; decide)).trans (by rw [k_1]; rfl)⟩
    | 10, _ => ⟨l_1_3_0, k_1_3_0, fun _ => (N (q_rf X g 1) 3 (by rw [k_1]; decide)).trans (by rw [k_1]; rfl)⟩
    | 11, _ => ⟨l_1_4_0, k_1_4_0, fun _ => (N (q_rf X g 1) 4 (by rw [k_1]; decide)).trans (by rw [k_1]; rfl)⟩
    | 12, _ => ⟨l_1_5_0, k_1_5_0, fun _ => (N (q_rf X g 1) 5 (by rw [k_1]; decide)).trans (by rw [k_1]; rfl)⟩
    | 13, _ => ⟨l_1_6_0, k_1_6_0, fun _ => (N (q_rf X g 1) 6 (by rw [k_1]; decide)).trans (by rw [k_1]; rfl)⟩
    | 14, _ => ⟨l_2_2_0, k_2_2_0, fun _ => (N (q_rf X g 2) 2 (by rw [k_2]; decide)).trans (by rw [k_2]; rfl)⟩
    | 15, _ => ⟨l_2_3_0, k_2_3_0, fun _ => (N (q_rf X g 2) 3 (by rw [k_2]; decide)).trans (by rw [k_2]; rfl)⟩
    | 16, _ => ⟨l_2_4_0, k_2_4_0, fun _ => (N (q_rf X g 2) 4 (by rw [k_2]; decide)).trans (by rw [k_2]; rfl)⟩
    | 17, _ => ⟨l_2_5_0, k_2_5_0, fun _ => (N (q_rf X g 2) 5 (by rw [k_2]; decide)).trans (by rw [k_2]; rfl)⟩
    | 18, _ => ⟨l_3_3_0, k_3_3_0, fun _ => (N (q_rf X g 3) 3 (by rw [k_3]; decide)).trans (by rw [k_3]; rfl)⟩
    | 19, _ => ⟨l_3_4_0, k_3_4_0, fun _ => (N (q_rf X g 3) 4 (by rw [k_3]; decide)).trans (by rw [k_3]; rfl)⟩
    | 20, _ => ⟨l_3_5_0, k_3_5_0, fun _ => (N (q_rf X g 3) 5 (by rw [k_3]; decide)).trans (by rw [k_3]; rfl)⟩
    | 21, _ => ⟨l_3_6_0, k_3_6_0, fun _ => (N (q_rf X g 3) 6 (by rw [k_3]; decide)).trans (by rw [k_3]; rfl)⟩
    | 22, _ => ⟨l_3_7_0, k_3_7_0, fun _ => (N (q_rf X g 3) 7 (by rw [k_3]; decide)).trans (by rw [k_3]; rfl)⟩
    | 23, _ => ⟨l_8_0, k_8_0, fun _ => (N (g) 8 (by rw [k_]; decide)).trans (by rw [k_]; rfl)⟩
    | 24, _ => ⟨l_10_0, k_10_0, fun _ => (N (g) 10 (by rw [k_]; decide)).trans (by rw [k_]; rfl)⟩
    | (n + 25), h => absurd h (by omega)
end
/-! FROM 48c.rows.lean.txt -/
section
/-! a game's view: what its cells hold, place by place -/
def y_v (X : XW) (g : Nat) (σ : ST) : Nat → Int → Int := fun id i => if id < 25 ∧ 0 ≤ i then (σ.1 (y_gA X g id) i.toNat).toInt else 0
def y_up (V : Nat → Int → Int) (id : Nat) (i v : Int) : Nat → Int → Int := fun id' i' => if id' = id ∧ i' = i then v else V id' i'
def y_bl (V : Nat → Int → Int) (id : Nat) (n : Int) (f : Int → Int) : Nat → Int → Int := fun id' i' => if id' = id ∧ 0 ≤ i' ∧ i' < n then f i' else V id' i'
/-- from σ to τ nothing but the game's view has changed, to V -/
def y_W (X : XW) (lb : Nat → Nat) (g o : Nat) (σ τ : ST) (V : Nat → Int → Int) : Prop := (∀ b, lb b / 8192 ≠ o → ∀ f, τ.1 b f = σ.1 b f) ∧ τ.2 = σ.2 ∧ y_v X g τ = V
theorem y_co_inj : ∀ i, i < 25 → ∀ j, j < 25 → y_co i = y_co j → i = j := by decide
theorem y_co_lt : ∀ i, i < 25 → y_co i < 8192 := by decide
section Y
variable {X : XW} {lb : Nat → Nat} {g o : Nat} {σ τ : ST} {V : Nat → Int → Int}
theorem y_own (S : y_S X lb) (G : y_G X lb g o) {id : Nat} (h : id < 25) : lb (y_gA X g id) / 8192 = o := by
  have h1 := (y_gf S G id h).1
  have h2 := y_co_lt id h
  omega
theorem y_gA_inj (S : y_S X lb) (G : y_G X lb g o) {i j : Nat} (hi : i < 25) (hj : j < 25) (h : y_gA X g i = y_gA X g j) : i = j := by
  have h1 := (y_gf S G i hi).1
  have h2 := (y_gf S G j hj).1
  rw [h] at h1
  exact y_co_inj i hi j hj (by omega)
theorem y_gA_ne (S : y_S X lb) (G : y_G X lb g o) {id : Nat} (h : id < 25) {b : Nat} (hb : lb b / 8192 ≠ o) : b ≠ y_gA X g id := by
  rintro rfl
  exact hb (y_own S G h)
theorem y_len (S : y_S X lb) (a : Nat) : (q_len X a).toInt = (q_ln X a : Int) := by
  have h := S.1.2.2.1 a
  exact nI_toInt (by omega)
theorem y_ln (S : y_S X lb) (G : y_G X lb g o) {id : Nat} (h : 4 ≤ id ∧ id < 25) : q_ln X (y_gA X g id) = y_gn id := (y_gf S G id h.2).2.2 h.1
theorem y_v_rd {id : Nat} (h : id < 25) (x : Int32) (h0 : 0 ≤ x.toInt) : (σ.1 (y_gA X g id) x.toNatClampNeg).toInt = y_v X g σ id x.toInt := by
  unfold y_v
  rw [if_pos ⟨h, h0⟩]
  rfl
theorem y_v_rdn {id : Nat} (h : id < 25) (f : Nat) : (σ.1 (y_gA X g id) f).toInt = y_v X g σ id (f : Int) := by
  unfold y_v
  rw [if_pos ⟨h, Int.natCast_nonneg f⟩, Int.toNat_natCast]
theorem y_W.rf : y_W X lb g o σ σ (y_v X g σ) := ⟨fun _ _ _ => rfl, rfl, rfl⟩
theorem y_W.eq {V' : Nat → Int → Int} (w : y_W X lb g o σ τ V) (h : V = V') : y_W X lb g o σ τ V' := by
  subst h
  exact w
theorem y_W.tr {τ' : ST} {V' : Nat → Int → Int} (w : y_W X lb g o σ τ V) (w' : y_W X lb g o τ τ' V') : y_W X lb g o σ τ' V' := ⟨fun b hb f => (w'.1 b hb f).trans (w.1 b hb f), w'.2.1.trans w.2.1, w'.2.2⟩
theorem y_W.si (S : y_S X lb) (G : y_G X lb g o) (w : y_W X lb g o σ τ V) {id : Nat} (h : id < 25) (f : Nat) (v : Int32) : y_W X lb g o σ (q_si τ (y_gA X g id) f v) (y_up V id (f : Int) v.toInt) := by
  obtain ⟨w1, w2, w3⟩ := w
  refine ⟨fun b hb k => ?_, w2, ?_⟩
  · show (if b = y_gA X g id ∧ k = f then v else τ.1 b k) = _
    rw [if_neg (fun q => y_gA_ne S G h hb q.1)]
    exact w1 b hb k
  · subst w3
    funext j i
    show (if j < 25 ∧ 0 ≤ i then (if y_gA X g j = y_gA X g id ∧ i.toNat = f then v else τ.1 (y_gA X g j) i.toNat).toInt else 0) = if j = id ∧ i = (f : Int) then v.toInt else (if j < 25 ∧ 0 ≤ i then (τ.1 (y_gA X g j) i.toNat).toInt else 0)
    by_cases hj : j < 25 ∧ 0 ≤ i
    · rw [if_pos hj, if_pos hj]
      by_cases hq : j = id ∧ i = (f : Int)
      · obtain ⟨rfl, rfl⟩ := hq
        rw [if_pos ⟨rfl, Int.toNat_natCast f⟩, if_pos ⟨rfl, rfl⟩]
      · rw [if_neg hq, if_neg]
        rintro ⟨e1, e2⟩
        exact hq ⟨y_gA_inj S G hj.1 h e1, by omega⟩
    · rw [if_neg hj, if_neg hj]
      by_cases hq : j = id ∧ i = (f : Int)
      · obtain ⟨rfl, rfl⟩ := hq
        exact absurd ⟨h, Int.natCast_nonneg f⟩ hj
      · rw [if_neg hq]
theorem y_W.sx (S : y_S X lb) (G : y_G X lb g o) (w : y_W X lb g o σ τ V) {id : Nat} (h : id < 25) (x v : Int32) (h0 : 0 ≤ x.toInt) : y_W X lb g o σ (q_si τ (y_gA X g id) x.toNatClampNeg v) (y_up V id x.toInt v.toInt) := by
  have e : ((x.toNatClampNeg : Nat) : Int) = x.toInt := by rw [ar_cl]; omega
  have := w.si S G h x.toNatClampNeg v
  rw [e] at this
  exact this
/-- rows -/
theorem y_get (S : y_S X lb) (G : y_G X lb g o) (w : y_W X lb g o σ τ V) {id r : Nat} (h : 4 ≤ id ∧ id < 25) (hr : q_rf X r 0 = y_gA X g id) (x : Int32) : (F_X5_get X τ r x).toInt = if 0 ≤ x.toInt ∧ x.toInt < (y_gn id : Int) then V id x.toInt else 0 := by
  simp only [F_X5_get, ↓q_letE]
  rw [y_len S, hr, y_ln S G h]
  by_cases h0 : x.toInt < 0
  · rw [if_pos h0, if_neg (by omega)]
    rfl
  · rw [if_neg h0]
    by_cases h1 : x.toInt < (y_gn id : Int)
    · rw [if_pos h1, if_pos ⟨by omega, h1⟩, y_v_rd h.2 x (by omega), w.2.2]
    · rw [if_neg h1, if_neg (by omega)]
      rfl
theorem y_getI (S : y_S X lb) (G : y_G X lb g o) (w : y_W X lb g o σ τ V) {id r : Nat} (h : 4 ≤ id ∧ id < 25) (hr : q_rf X r 0 = y_gA X g id) {x : Int32} {i : Int} (hx : x.toInt = i) (h0 : 0 ≤ i) (h1 : i < (y_gn id : Int)) : (F_X5_get X τ r x).toInt = V id i := by
  subst hx
  rw [y_get S G w h hr, if_pos ⟨h0, h1⟩]
theorem y_W.set (S : y_S X lb) (G : y_G X lb g o) (w : y_W X lb g o σ τ V) {id r : Nat} (h : 4 ≤ id ∧ id < 25) (hr : q_rf X r 0 = y_gA X g id) (x v : Int32) (h0 : 0 ≤ x.toInt) (h1 : x.toInt < (y_gn id : Int)) : y_W X lb g o σ (F_X5_set X τ r x v) (y_up V id x.toInt v.toInt) := by
  simp only [F_X5_set, ↓q_letE]
  rw [y_len S, hr, y_ln S G h, if_neg (by omega), if_pos h1]
  exact w.sx S G h.2 x v h0
theorem y_W.add (S : y_S X lb) (G : y_G X lb g o) (w : y_W X lb g o σ τ V) {id r : Nat} (h : 4 ≤ id ∧ id < 25) (hr : q_rf X r 0 = y_gA X g id) (x v : Int32) (h0 : 0 ≤ x.toInt) (h1 : x.toInt < (y_gn id : Int)) : y_W X lb g o σ (F_X5_add X τ r x v) (y_up V id x.toInt (ar_w (V id x.toInt + v.toInt))) := by
  simp only [F_X5_add, ↓q_letE]
  rw [y_len S, hr, y_ln S G h, if_neg (by omega), if_pos h1]
  have e := w.sx S G h.2 x (τ.1 (y_gA X g id) x.toNatClampNeg + v) h0
  rw [ar_add, y_v_rd h.2 x h0, w.2.2] at e
  exact e
theorem y_bl0 {id : Nat} {f : Int → Int} : y_bl V id 0 f = V := by
  funext j i
  show (if j = id ∧ 0 ≤ i ∧ i < 0 then f i else V j i) = V j i
  rw [if_neg (by omega)]
theorem y_bl_s {id : Nat} {f : Int → Int} {n : Int} (h : 0 ≤ n) : y_up (y_bl V id n f) id n (f n) = y_bl V id (n + 1) f := by
  funext j i
  show (if j = id ∧ i = n then f n else if j = id ∧ 0 ≤ i ∧ i < n then f i else V j i) = if j = id ∧ 0 ≤ i ∧ i < n + 1 then f i else V j i
  by_cases q : j = id ∧ i = n
  · obtain ⟨rfl, rfl⟩ := q
    rw [if_pos ⟨rfl, rfl⟩, if_pos ⟨rfl, h, by omega⟩]
  · rw [if_neg q]
    by_cases q2 : j = id ∧ 0 ≤ i ∧ i < n
    · rw [if_pos q2, if_pos ⟨q2.1, q2.2.1, by omega⟩]
    · rw [if_neg q2, if_neg]
      rintro ⟨e1, e2, e3⟩
      exact q2 ⟨e1, e2, by have : i ≠ n := fun e => q ⟨e1, e⟩; omega⟩
theorem y_inc {x : Int32} (h : x.toInt < 2147483647) : (x + 1).toInt = x.toInt + 1 := q_inc rfl h
theorem y_clearL (S : y_S X lb) (G : y_G X lb g o) {id r : Nat} (h : 4 ≤ id ∧ id < 25) (hr : q_rf X r 0 = y_gA X g id) (k : Nat) : ∀ (x : Int32) (τ : ST), (2147483647 - x.toInt).toNat < k → 0 ≤ x.toInt → x.toInt ≤ (y_gn id : Int) → y_W X lb g o σ τ (y_bl V id x.toInt (fun _ => 0)) → y_W X lb g o σ (F_X5_clear_L2_1 X r k x τ) (y_bl V id (y_gn id : Int) (fun _ => 0)) := by
  induction k with
  | zero => intro x τ hm; exact absurd hm (Nat.not_lt_zero _)
  | succ k ih =>
    intro x τ hm h0 h1 w
    have hb := ar_bd x
    rw [F_X5_clear_L2_1_s]
    simp only [F_X5_clear_B2_1, ↓q_letE]
    rw [y_len S, hr, y_ln S G h]
    by_cases q : x.toInt < (y_gn id : Int)
    · rw [if_pos q]
      have hl : y_gn id ≤ 1000 := by
        have := S.1.2.2.1 (y_gA X g id)
        have z : ∀ i, i < 25 → y_gn i ≤ 1000 := by decide
        exact z id h.2
      have e : (x + 1).toInt = x.toInt + 1 := y_inc (by omega)
      refine ih (x + 1) _ (by omega) (by omega) (by omega) ?_
      rw [e]
      exact (w.sx S G h.2 x 0 h0).eq (y_bl_s h0)
    · rw [if_neg q]
      have e : x.toInt = (y_gn id : Int) := by omega
      rw [e] at w
      exact w
theorem y_W.clear (S : y_S X lb) (G : y_G X lb g o) (w : y_W X lb g o σ τ V) {id r : Nat} (h : 4 ≤ id ∧ id < 25) (hr : q_rf X r 0 = y_gA X g id) : y_W X lb g o σ (F_X5_clear X τ r) (y_bl V id (y_gn id : Int) (fun _ => 0)) := by
  unfold F_X5_clear
  refine y_clearL S G h hr _ 0 τ (by decide) (by decide) (Int.natCast_nonneg _) ?_
  exact w.eq y_bl0.symm
theorem y_copyL (S : y_S X lb) (G : y_G X lb g o) {id r r' : Nat} (h : 4 ≤ id ∧ id < 25) (hr : q_rf X r 0 = y_gA X g id) (hn : q_ln X (q_rf X r' 0) = y_gn id) (hb : q_rf X r' 0 ≠ y_gA X g id) (ρ : Nat → Int32) (k : Nat) : ∀ (x : Int32) (τ : ST), (2147483647 - x.toInt).toNat < k → 0 ≤ x.toInt → x.toInt ≤ (y_gn id : Int) → (∀ f, τ.1 (q_rf X r' 0) f = ρ f) → y_W X lb g o σ τ (y_bl V id x.toInt (fun i => (ρ i.toNat).toInt)) → y_W X lb g o σ (F_X5_copyFrom_L2_1 X r r' k x τ) (y_bl V id (y_gn id : Int) (fun i => (ρ i.toNat).toInt)) := by
  induction k with
  | zero => intro x τ hm; exact absurd hm (Nat.not_lt_zero _)
  | succ k ih =>
    intro x τ hm h0 h1 hρ w
    have hbd := ar_bd x
    rw [F_X5_copyFrom_L2_1_s]
    simp only [F_X5_copyFrom_B2_1, ↓q_letE]
    rw [y_len S, y_len S, hn, hr, y_ln S G h]
    by_cases q : x.toInt < (y_gn id : Int)
    · rw [if_pos q, if_pos q]
      have hl : y_gn id ≤ 1000 := by
        have z : ∀ i, i < 25 → y_gn i ≤ 1000 := by decide
        exact z id h.2
      have e : (x + 1).toInt = x.toInt + 1 := y_inc (by omega)
      refine ih (x + 1) _ (by omega) (by omega) (by omega) (fun f => ?_) ?_
      · rw [q_si_ne hb]
        exact hρ f
      · rw [e]
        have w2 := w.sx S G h.2 x (τ.1 (q_rf X r' 0) x.toNatClampNeg) h0
        rw [hρ] at w2 ⊢
        exact w2.eq (y_bl_s (f := fun i => (ρ i.toNat).toInt) h0)
    · rw [if_neg q]
      have e : x.toInt = (y_gn id : Int) := by omega
      rw [e] at w
      exact w
theorem y_W.copy (S : y_S X lb) (G : y_G X lb g o) (w : y_W X lb g o σ τ V) {id r r' : Nat} (h : 4 ≤ id ∧ id < 25) (hr : q_rf X r 0 = y_gA X g id) (hn : q_ln X (q_rf X r' 0) = y_gn id) (hb : q_rf X r' 0 ≠ y_gA X g id) : y_W X lb g o σ (F_X5_copyFrom X τ r r') (y_bl V id (y_gn id : Int) (fun i => (τ.1 (q_rf X r' 0) i.toNat).toInt)) := by
  unfold F_X5_copyFrom
  refine y_copyL S G h hr hn hb (fun f => τ.1 (q_rf X r' 0) f) _ 0 τ (by decide) (by decide) (Int.natCast_nonneg _) (fun _ => rfl) ?_
  exact w.eq y_bl0.symm
end Y
end
/-! FROM 48d.text.lean.txt -/
section
/-! TEXTS: tokens of a row of bytes B, the first n of them -/
def tx_D (B : Int → Int) (n p : Int) : Int := if 0 ≤ p ∧ p < n then B p else 0
def tx_run (P : Int → Prop) (n b e : Int) : Prop := b ≤ e ∧ (∀ j, b ≤ j → j < e → j < n ∧ P j) ∧ ¬ (e < n ∧ P e)
def tx_nv (B : Int → Int) (b : Int) : Nat → Int
  | 0 => 0
  | k + 1 => tx_nv B b k * 10 + B (b + (k : Int)) - 48
/-- a word's number, 5 bits a letter -/
def tx_wv (B : Int → Int) (b : Int) : Nat → Int
  | 0 => 0
  | k + 1 => tx_wv B b k * 32 + B (b + (k : Int)) - 96
def tx_bl (x : Int) : Prop := x = 10 ∨ x = 32
def tx_le (x : Int) : Prop := 97 ≤ x ∧ x ≤ 122
def tx_di (x : Int) : Prop := 48 ≤ x ∧ x ≤ 57
def tx_sg (x : Int) : Prop := x = 59 ∨ x = 60 ∨ x = 62 ∨ x = 61
/-- the token that begins at b -/
def tx_cls (B : Int → Int) (n b e ty val : Int) : Prop :=
  (n ≤ b ∧ ty = 0 ∧ e = b) ∨
   (b < n ∧ tx_le (B b) ∧ ty = 1 ∧ tx_run (fun j => tx_le (B j)) n b e) ∨
   (b < n ∧ tx_di (B b) ∧ tx_run (fun j => tx_di (B j)) n b e ∧ (4 < e - b ∧ ty = 4 ∨ e - b ≤ 4 ∧ ty = 2 ∧ val = tx_nv B b (e - b).toNat)) ∨
   (b < n ∧ ¬ tx_le (B b) ∧ ¬ tx_di (B b) ∧ e = b + 1 ∧ (tx_sg (B b) ∧ ty = 3 ∨ ¬ tx_sg (B b) ∧ ty = 4))
/-- the token behind place p -/
def tx_tok (B : Int → Int) (n p b e ty val : Int) : Prop := tx_run (fun j => tx_bl (B j)) n p b ∧ tx_cls B n b e ty val
theorem tx_run_u {P : Int → Prop} {n b e e' : Int} (h : tx_run P n b e) (h' : tx_run P n b e') : e = e' := by
  obtain ⟨h1, h2, h3⟩ := h
  obtain ⟨k1, k2, k3⟩ := h'
  rcases Int.lt_trichotomy e e' with q | q | q
  · exact absurd (k2 e h1 q) h3
  · exact q
  · exact absurd (h2 e' k1 q) k3
theorem tx_run_ne {P : Int → Prop} {n b e : Int} (h : tx_run P n b e) (hb : b < n ∧ P b) : b < e := by
  obtain ⟨h1, h2, h3⟩ := h
  rcases Int.lt_or_le b e with q | q
  · exact q
  · have : b = e := by omega
    subst this
    exact absurd hb h3
theorem tx_run_le {P : Int → Prop} {n b e : Int} (h : tx_run P n b e) (hb : b ≤ n) : e ≤ n := by
  rcases Int.lt_or_le n e with q | q
  · have := (h.2.1 n hb q).1
    omega
  · exact q
theorem tx_tok_b {B : Int → Int} {n p b e ty val : Int} (h : tx_tok B n p b e ty val) (hp : 0 ≤ p ∧ p ≤ n) : p ≤ b ∧ b ≤ n ∧ b ≤ e ∧ e ≤ n ∧ 0 ≤ ty ∧ ty ≤ 4 ∧ (ty ≠ 0 → b < e) ∧ (ty = 0 ↔ b = n) := by
  obtain ⟨h1, h2⟩ := h
  have a1 := h1.1
  have a2 := tx_run_le h1 hp.2
  rcases h2 with ⟨q1, q2, q3⟩ | ⟨q1, q2, q3, q4⟩ | ⟨q1, q2, q3, q4⟩ | ⟨q1, q2, q3, q4, q5⟩
  · omega
  · have b1 := tx_run_le q4 (by omega)
    have b2 := tx_run_ne q4 ⟨q1, q2⟩
    omega
  · have b1 := tx_run_le q3 (by omega)
    have b2 := tx_run_ne q3 ⟨q1, q2⟩
    omega
  · omega
/-- there is one token behind a place -/
theorem tx_tok_u {B : Int → Int} {n p b e ty val b' e' ty' val' : Int} (h : tx_tok B n p b e ty val) (h' : tx_tok B n p b' e' ty' val') : b' = b ∧ e' = e ∧ ty' = ty ∧ (ty = 2 → val' = val) := by
  obtain ⟨h1, h2⟩ := h
  obtain ⟨k1, k2⟩ := h'
  have e1 := tx_run_u k1 h1
  subst e1
  have nd : ∀ x, tx_le x → tx_di x → False := fun x a c => by unfold tx_le at a; unfold tx_di at c; omega
  rcases h2 with ⟨q1, q2, q3⟩ | ⟨q1, q2, q3, q4⟩ | ⟨q1, q2, q3, q4⟩ | ⟨q1, q2, q3, q4, q5⟩
  · rcases k2 with ⟨r1, r2, r3⟩ | ⟨r1, r2, r3, r4⟩ | ⟨r1, r2, r3, r4⟩ | ⟨r1, r2, r3, r4, r5⟩ <;> omega
  · rcases k2 with ⟨r1, r2, r3⟩ | ⟨r1, r2, r3, r4⟩ | ⟨r1, r2, r3, r4⟩ | ⟨r1, r2, r3, r4, r5⟩
    · omega
    · exact ⟨rfl, tx_run_u r4 q4, by omega, by omega⟩
    · exact (nd _ q2 r2).elim
    · exact absurd q2 r2
  · rcases k2 with ⟨r1, r2, r3⟩ | ⟨r1, r2, r3, r4⟩ | ⟨r1, r2, r3, r4⟩ | ⟨r1, r2, r3, r4, r5⟩
    · omega
    · exact (nd _ r2 q2).elim
    · have e2 := tx_run_u r3 q3
      subst e2
      rcases q4 with ⟨s1, s2⟩ | ⟨s1, s2, s3⟩
      · rcases r4 with ⟨t1, t2⟩ | ⟨t1, t2, t3⟩ <;> omega
      · rcases r4 with ⟨t1, t2⟩ | ⟨t1, t2, t3⟩
        · omega
        · exact ⟨rfl, rfl, by omega, fun _ => by rw [s3, t3]⟩
    · exact absurd q2 r3
  · rcases k2 with ⟨r1, r2, r3⟩ | ⟨r1, r2, r3, r4⟩ | ⟨r1, r2, r3, r4⟩ | ⟨r1, r2, r3, r4, r5⟩
    · omega
    · exact absurd r2 q2
    · exact absurd r2 q3
    · rcases q5 with ⟨s1, s2⟩ | ⟨s1, s2⟩
      · rcases r5 with ⟨t1, t2⟩ | ⟨t1, t2⟩
        · omega
        · exact absurd s1 t1
      · rcases r5 with ⟨t1, t2⟩ | ⟨t1, t2⟩
        · exact absurd t1 s1
        · omega
/-! cells kept but for those of S -/
def tk (S : Nat → Nat → Prop) (σ τ : ST) : Prop := (∀ b f, ¬ S b f → τ.1 b f = σ.1 b f) ∧ τ.2 = σ.2
theorem tk.rf {S : Nat → Nat → Prop} {σ : ST} : tk S σ σ := ⟨fun _ _ _ => rfl, rfl⟩
theorem tk.tr {S : Nat → Nat → Prop} {σ τ τ' : ST} (h : tk S σ τ) (h' : tk S τ τ') : tk S σ τ' := ⟨fun b f q => (h'.1 b f q).trans (h.1 b f q), h'.2.trans h.2⟩
theorem tk.mono {S S' : Nat → Nat → Prop} {σ τ : ST} (h : tk S σ τ) (hs : ∀ b f, S b f → S' b f) : tk S' σ τ := ⟨fun b f q => h.1 b f (fun z => q (hs b f z)), h.2⟩
theorem tk.si {S : Nat → Nat → Prop} {σ τ : ST} (h : tk S σ τ) {a f : Nat} (v : Int32) (hs : S a f) : tk S σ (q_si τ a f v) := by
  refine ⟨fun b g q => ?_, h.2⟩
  show (if b = a ∧ g = f then v else τ.1 b g) = _
  rw [if_neg]
  · exact h.1 b g q
  · rintro ⟨rfl, rfl⟩
    exact q hs
theorem si_eq (τ : ST) (a f : Nat) (v : Int32) : (q_si τ a f v).1 a f = v := by
  show (if a = a ∧ f = f then v else _) = v
  rw [if_pos ⟨rfl, rfl⟩]
theorem si_f {τ : ST} {a f : Nat} {v : Int32} {g : Nat} (h : g ≠ f) (b : Nat) : (q_si τ a f v).1 b g = τ.1 b g := by
  show (if b = a ∧ g = f then v else τ.1 b g) = _
  rw [if_neg (fun q => h q.2)]
end
/-! FROM 48e.reader.lean.txt -/
section
/-! THE CLASS'S READER -/
/-- a token's cells of the reader R -/
def tc_S (R : Nat) : Nat → Nat → Prop := fun b f => b = R ∧ 2 ≤ f ∧ f ≤ 5
/-- R reads the first n bytes B of the tape T -/
def tc_E (X : XW) (σ : ST) (R T : Nat) (n : Int) (B : Int → Int) : Prop := σ.2.2 R = T ∧ (σ.1 R 1).toInt = n ∧ (0 ≤ n ∧ n ≤ 900) ∧ T ≠ R ∧ q_ln X T = 900 ∧ ∀ p : Int, 0 ≤ p → p < n → (σ.1 T p.toNat).toInt = B p ∧ -128 ≤ B p ∧ B p ≤ 127
section TC
variable {X : XW} {σ τ : ST} {R T : Nat} {n : Int} {B : Int → Int}
theorem tc_E.k {S : Nat → Nat → Prop} (E : tc_E X σ R T n B) (h : tk S σ τ) (hs : ∀ b f, S b f → b ≠ T ∧ ¬ (b = R ∧ f = 1)) : tc_E X τ R T n B := by
  obtain ⟨E1, E2, E3, E4, E5, E6⟩ := E
  refine ⟨?_, ?_, E3, E4, E5, fun p p0 p1 => ?_⟩
  · rw [h.2]; exact E1
  · rw [h.1 R 1 (fun q => (hs _ _ q).2 ⟨rfl, rfl⟩)]; exact E2
  · rw [h.1 T p.toNat (fun q => (hs _ _ q).1 rfl)]; exact E6 p p0 p1
theorem tc_E.kS (E : tc_E X σ R T n B) (h : tk (tc_S R) σ τ) : tc_E X τ R T n B := E.k h (fun b f q => ⟨fun e => E.2.2.2.1 (e.symm.trans q.1), fun e => absurd q.2.1 (by rw [e.2]; decide)⟩)
theorem tc_len (h : q_ln X T = 900) : (q_len X T).toInt = 900 := by
  unfold q_len
  rw [h]
  rfl
theorem tc_sig (E : tc_E X σ R T n B) {b : Int} (hb : (σ.1 R 2).toInt = b) (h0 : 0 ≤ b ∧ b ≤ 900) {v : Int32} {i : Int} (hv : v.toInt = i) (hi : 0 ≤ i ∧ i ≤ 900) : (F_X3_signAt X σ R v).toInt = tx_D B n (b + i) := by
  obtain ⟨E1, E2, E3, E4, E5, E6⟩ := E
  subst hv
  have e : (σ.1 R 2 + v).toInt = b + v.toInt := by rw [ar_add, hb, ar_wr (by omega) (by omega)]
  simp only [F_X3_signAt, ↓q_letE]
  rw [e, if_neg (by omega), E1, E2]
  unfold tx_D
  by_cases q : b + v.toInt < n
  · rw [if_pos q, if_pos (by rw [tc_len E5]; omega), if_pos ⟨by omega, q⟩, ar_cl, e]
    exact (E6 _ (by omega) q).1
  · rw [if_neg q, if_neg (fun h => q h.2)]
    rfl
theorem tx_D_in {p : Int} (h0 : 0 ≤ p) (h : p < n) : tx_D B n p = B p := if_pos ⟨h0, h⟩
theorem tx_run_cons {P : Int → Prop} {b e : Int} (h : tx_run P n (b + 1) e) (q : b < n) (hp : P b) : tx_run P n b e := by
  obtain ⟨h1, h2, h3⟩ := h
  refine ⟨by omega, fun j a c => ?_, h3⟩
  by_cases hj : j = b
  · subst hj; exact ⟨q, hp⟩
  · exact h2 j (by omega) c
theorem tx_run_nil {P : Int → Prop} {b : Int} (h : ¬ (b < n ∧ P b)) : tx_run P n b b := ⟨Int.le_refl _, fun j a c => by omega, h⟩
theorem tc_eorL (E : tc_E X σ R T n B) (lo hi : Int32) (k : Nat) : ∀ x : Int32, (2147483647 - x.toInt).toNat < k → 0 ≤ x.toInt → x.toInt ≤ n → tx_run (fun j => lo.toInt ≤ B j ∧ B j ≤ hi.toInt) n x.toInt (F_X3_endOfRun_L5_1 X σ R lo hi k x).toInt := by
  obtain ⟨E1, E2, E3, E4, E5, E6⟩ := id E
  induction k with
  | zero => intro x hm; exact absurd hm (Nat.not_lt_zero _)
  | succ k ih =>
    intro x hm h0 h1
    rw [F_X3_endOfRun_L5_1_s]
    simp only [F_X3_endOfRun_B5_1, ↓q_letE]
    rw [E1, E2, tc_len E5]
    by_cases q : x.toInt < n
    · rw [if_pos q, if_pos (by omega), ar_cl, (E6 x.toInt h0 q).1]
      by_cases q1 : B x.toInt < lo.toInt
      · rw [if_pos q1]
        exact tx_run_nil (fun h => by have := h.2; omega)
      · rw [if_neg q1]
        by_cases q2 : hi.toInt < B x.toInt
        · rw [if_pos q2]
          exact tx_run_nil (fun h => by have := h.2; omega)
        · rw [if_neg q2]
          have e1 : (x + 1).toInt = x.toInt + 1 := y_inc (by omega)
          have z := ih (x + 1) (by omega) (by omega) (by omega)
          rw [e1] at z
          exact tx_run_cons z q ⟨by omega, by omega⟩
    · rw [if_neg q]
      exact tx_run_nil (fun h => q h.1)
theorem tc_eor (E : tc_E X σ R T n B) {b : Int} (hb : (σ.1 R 2).toInt = b) (h0 : 0 ≤ b ∧ b ≤ n) (lo hi : Int32) : tx_run (fun j => lo.toInt ≤ B j ∧ B j ≤ hi.toInt) n b (F_X3_endOfRun X σ R lo hi).toInt := by
  simp only [F_X3_endOfRun, ↓q_letE]
  obtain ⟨k, hk⟩ : ∃ k, k = (2147483647 - (σ.1 R 2).toInt).toNat + 1 := ⟨_, rfl⟩
  rw [← hk]
  have z := tc_eorL E lo hi k (σ.1 R 2) (by omega) (by omega) (by omega)
  rw [hb] at z
  exact z
theorem tc_adv8 (E : tc_E X σ R T n B) (k : Nat) : ∀ τ : ST, tk (tc_S R) σ τ → (2147483647 - (τ.1 R 2).toInt).toNat < k → 0 ≤ (τ.1 R 2).toInt → (τ.1 R 2).toInt ≤ n → ∃ τ' : ST, F_X3_advance_L8_1 X R k τ = F_X3_advance_J52_2 X τ' R ∧ tk (tc_S R) σ τ' ∧ tx_run (fun j => tx_bl (B j)) n (τ.1 R 2).toInt (τ'.1 R 2).toInt := by
  have E3 := E.2.2.1
  induction k with
  | zero => intro τ _ hm; exact absurd hm (Nat.not_lt_zero _)
  | succ k ih =>
    intro τ ht hm h0 h1
    have Eτ := E.kS ht
    obtain ⟨b, hb⟩ : ∃ b, (τ.1 R 2).toInt = b := ⟨_, rfl⟩
    rw [hb] at hm h0 h1 ⊢
    have sg := tc_sig Eτ hb ⟨h0, by omega⟩ (v := 0) (i := 0) rfl ⟨by decide, by decide⟩
    rw [Int.add_zero] at sg
    rw [F_X3_advance_L8_1_s]
    simp only [F_X3_advance_B8_1, ↓q_letE]
    rw [Eτ.2.1, sg, hb]
    by_cases q : b < n
    · rw [if_pos q, tx_D_in h0 q]
      have e1 : ((q_si τ R 2 (τ.1 R 2 + 1)).1 R 2).toInt = b + 1 := by rw [si_eq, y_inc (by omega), hb]
      have st : tx_bl (B b) → ∃ τ' : ST, F_X3_advance_L8_1 X R k (q_si τ R 2 (τ.1 R 2 + 1)) = F_X3_advance_J52_2 X τ' R ∧ tk (tc_S R) σ τ' ∧ tx_run (fun j => tx_bl (B j)) n b (τ'.1 R 2).toInt := by
        intro hbl
        obtain ⟨τ', a1, a2, a3⟩ := ih (q_si τ R 2 (τ.1 R 2 + 1)) (ht.si _ ⟨rfl, by decide, by decide⟩) (by rw [e1]; omega) (by rw [e1]; omega) (by rw [e1]; omega)
        rw [e1] at a3
        exact ⟨τ', a1, a2, tx_run_cons a3 q hbl⟩
      by_cases q1 : B b = 10
      · rw [if_pos q1]
        exact st (Or.inl q1)
      · rw [if_neg q1]
        by_cases q2 : B b = 32
        · rw [if_pos q2]
          exact st (Or.inr q2)
        · rw [if_neg q2]
          exact ⟨τ, rfl, ht, by rw [hb]; exact tx_run_nil (fun h => h.2.elim q1 q2)⟩
    · rw [if_neg q]
      exact ⟨τ, rfl, ht, by rw [hb]; exact tx_run_nil (fun h => q h.1)⟩
/-- the number's value, place by place -/
theorem tc_adv165 (E : tc_E X σ R T n B) {b e : Int} (hb0 : 0 ≤ b) (hbe : b ≤ e) (he : e ≤ n) (hd : ∀ j, b ≤ j → j < e → tx_di (B j)) (k : Nat) : ∀ (x : Int32) (τ : ST), (2147483647 - x.toInt).toNat < k → 0 ≤ x.toInt → x.toInt ≤ 4 → x.toInt ≤ e - b → tk (tc_S R) σ τ → (τ.1 R 2).toInt = b → (τ.1 R 3).toInt = e → (τ.1 R 5).toInt = tx_nv B b x.toInt.toNat → (0 ≤ tx_nv B b x.toInt.toNat ∧ tx_nv B b x.toInt.toNat < 10 ^ x.toInt.toNat) →
    ∃ τ' : ST, F_X3_advance_L165_4 X R k x τ = τ' ∧ tk (tc_S R) σ τ' ∧ (τ'.1 R 2).toInt = b ∧ (τ'.1 R 3).toInt = e ∧ τ'.1 R 4 = τ.1 R 4 ∧ (e - b ≤ 4 → (τ'.1 R 5).toInt = tx_nv B b (e - b).toNat) := by
  have E3 := E.2.2.1
  induction k with
  | zero => intro x τ hm; exact absurd hm (Nat.not_lt_zero _)
  | succ k ih =>
    intro x τ hm h0 h4 h5 ht hb he3 hv hvb
    have Eτ := E.kS ht
    have sz : (F_X3_size X τ R).toInt = e - b := by
      simp only [F_X3_size, ↓q_letE]
      rw [ar_sub, he3, hb, ar_wr (by omega) (by omega)]
    rw [F_X3_advance_L165_4_s]
    simp only [F_X3_advance_B165_4, ↓q_letE]
    rw [sz]
    by_cases q : x.toInt < 4
    · rw [if_pos q]
      by_cases q1 : x.toInt < e - b
      · rw [if_pos q1]
        have sg := tc_sig Eτ hb ⟨by omega, by omega⟩ (v := x) rfl ⟨h0, by omega⟩
        rw [tx_D_in (by omega) (by omega)] at sg
        have dg := hd (b + x.toInt) (by omega) (by omega)
        unfold tx_di at dg
        have p4 : (10 : Int) ^ x.toInt.toNat ≤ 1000 := by
          have : x.toInt.toNat = 0 ∨ x.toInt.toNat = 1 ∨ x.toInt.toNat = 2 ∨ x.toInt.toNat = 3 := by omega
          rcases this with q | q | q | q <;> rw [q] <;> decide
        have e10 : (10 : Int32).toInt = 10 := rfl
        have e48 : (48 : Int32).toInt = 48 := rfl
        have ev : (τ.1 R 5 * 10 + F_X3_signAt X τ R x - 48).toInt = tx_nv B b x.toInt.toNat * 10 + B (b + x.toInt) - 48 := by
          rw [ar_sub, ar_add, ar_mul, hv, sg, e10, e48, ar_wr (n := tx_nv B b x.toInt.toNat * 10) (by omega) (by omega), ar_wr (n := tx_nv B b x.toInt.toNat * 10 + B (b + x.toInt)) (by omega) (by omega), ar_wr (by omega) (by omega)]
        have e1 : (x + 1).toInt = x.toInt + 1 := y_inc (by omega)
        have e2 : (x.toInt + 1).toNat = x.toInt.toNat + 1 := by omega
        have e3 : ((x.toInt.toNat : Nat) : Int) = x.toInt := by omega
        have nv : tx_nv B b (x.toInt + 1).toNat = tx_nv B b x.toInt.toNat * 10 + B (b + x.toInt) - 48 := by
          rw [e2]
          show tx_nv B b x.toInt.toNat * 10 + B (b + ((x.toInt.toNat : Nat) : Int)) - 48 = _
          rw [e3]
        have pw : (10 : Int) ^ (x.toInt + 1).toNat = 10 ^ x.toInt.toNat * 10 := by rw [e2, Int.pow_succ]
        obtain ⟨τ', a1, a2, a3, a4, a5, a6⟩ := ih (x + 1) (q_si τ R 5 (τ.1 R 5 * 10 + F_X3_signAt X τ R x - 48)) (by omega) (by omega) (by omega) (by omega) (ht.si _ ⟨rfl, by decide, by decide⟩) (by rw [si_f (by decide)]; exact hb) (by rw [si_f (by decide)]; exact he3) (by rw [si_eq, ev, e1, nv]) (by rw [e1, nv, pw]; omega)
        exact ⟨τ', a1, a2, a3, a4, by rw [a5, si_f (by decide)], a6⟩
      · rw [if_neg q1]
        refine ⟨τ, rfl, ht, hb, he3, rfl, fun _ => ?_⟩
        have : x.toInt = e - b := by omega
        rw [hv, this]
    · rw [if_neg q]
      refine ⟨τ, rfl, ht, hb, he3, rfl, fun h => ?_⟩
      have : x.toInt = e - b := by omega
      rw [hv, this]
theorem tc_165 (k : Nat) : F_X3_advance_L165_7 X R k = F_X3_advance_L165_4 X R k := by
  induction k with
  | zero => rfl
  | succ k ih =>
    show F_X3_advance_B165_7 X R (F_X3_advance_L165_7 X R k) = F_X3_advance_B165_4 X R (F_X3_advance_L165_4 X R k)
    rw [ih]
    rfl
/-- what advance leaves, its blanks passed: the token's cells of R -/
def tc_Q (σ : ST) (R : Nat) (n : Int) (B : Int → Int) (b : Int) (τ' : ST) : Prop := tk (tc_S R) σ τ' ∧ (τ'.1 R 2).toInt = b ∧ tx_cls B n b (τ'.1 R 3).toInt (τ'.1 R 4).toInt (τ'.1 R 5).toInt
theorem tc_J117 (E : tc_E X σ R T n B) {ρ : ST} (ht : tk (tc_S R) σ ρ) {b : Int} (hb : (ρ.1 R 2).toInt = b) (h0 : 0 ≤ b) (q : b < n) {r : Int32} (hr : r.toInt = B b) (hl : ¬ tx_le (B b)) : tc_Q σ R n B b (F_X3_advance_J117_3 X r ρ R) := by
  have E3 := E.2.2.1
  have Eρ := E.kS ht
  have sgn : ∀ ty : Int32, ¬ tx_di (B b) → (tx_sg (B b) ∧ ty.toInt = 3 ∨ ¬ tx_sg (B b) ∧ ty.toInt = 4) → tc_Q σ R n B b (q_si (q_si ρ R 4 ty) R 3 ((q_si ρ R 4 ty).1 R 2 + 1)) := by
    intro ty hd hs
    have e2 : (q_si ρ R 4 ty).1 R 2 = ρ.1 R 2 := si_f (by decide) R
    have e1 : ((q_si ρ R 4 ty).1 R 2 + 1).toInt = b + 1 := by rw [e2, y_inc (by omega), hb]
    refine ⟨(ht.si _ ⟨rfl, by decide, by decide⟩).si _ ⟨rfl, by decide, by decide⟩, by rw [si_f (by decide), si_f (by decide)]; exact hb, Or.inr (Or.inr (Or.inr ⟨q, hl, hd, by rw [si_eq, e1], ?_⟩))⟩
    rw [si_f (by decide), si_eq]
    exact hs
  simp only [F_X3_advance_J117_3, ↓q_letE]
  rw [hr]
  unfold tx_le at hl
  by_cases c1 : B b < 48
  · rw [if_pos c1]
    repeat' split
    all_goals first
      | exact sgn 3 (by unfold tx_di; omega) (Or.inl ⟨by unfold tx_sg; omega, rfl⟩)
      | exact sgn 4 (by unfold tx_di; omega) (Or.inr ⟨by unfold tx_sg; omega, rfl⟩)
  · rw [if_neg c1]
    by_cases c2 : 57 < B b
    · rw [if_pos c2]
      repeat' split
      all_goals first
        | exact sgn 3 (by unfold tx_di; omega) (Or.inl ⟨by unfold tx_sg; omega, rfl⟩)
        | exact sgn 4 (by unfold tx_di; omega) (Or.inr ⟨by unfold tx_sg; omega, rfl⟩)
    · rw [if_neg c2]
      have hd : tx_di (B b) := ⟨by omega, by omega⟩
      have run := tc_eor Eρ hb ⟨h0, by omega⟩ 48 57
      have r48 : (48 : Int32).toInt = 48 := rfl
      have r57 : (57 : Int32).toInt = 57 := rfl
      rw [r48, r57] at run
      obtain ⟨w, hw⟩ : ∃ w, w = F_X3_endOfRun X ρ R 48 57 := ⟨_, rfl⟩
      rw [← hw] at run ⊢
      have hbe := run.1
      have hen := tx_run_le run (by omega)
      have t3 : tk (tc_S R) σ (q_si ρ R 3 w) := ht.si _ ⟨rfl, by decide, by decide⟩
      have b3 : ((q_si ρ R 3 w).1 R 2).toInt = b := by rw [si_f (by decide)]; exact hb
      have sz : (F_X3_size X (q_si ρ R 3 w) R).toInt = w.toInt - b := by
        simp only [F_X3_size, ↓q_letE]
        rw [ar_sub, b3, si_eq, ar_wr (by omega) (by omega)]
      rw [sz]
      have go : ∀ ty : Int32, (4 < w.toInt - b ∧ ty.toInt = 4 ∨ w.toInt - b ≤ 4 ∧ ty.toInt = 2) → tc_Q σ R n B b (F_X3_advance_L165_4 X R ((2147483647 - (0 : Int32).toInt).toNat + 1) 0 (q_si (q_si (q_si ρ R 3 w) R 4 ty) R 5 0)) := by
        intro ty hty
        obtain ⟨τ', a1, a2, a3, a4, a5, a6⟩ := tc_adv165 E h0 hbe hen (fun j j0 j1 => (run.2.1 j j0 j1).2) ((2147483647 - (0 : Int32).toInt).toNat + 1) 0 (q_si (q_si (q_si ρ R 3 w) R 4 ty) R 5 0) (by decide) (by decide) (by decide) (by show (0 : Int) ≤ _; omega) ((t3.si _ ⟨rfl, by decide, by decide⟩).si _ ⟨rfl, by decide, by decide⟩) (by rw [si_f (by decide), si_f (by decide)]; exact b3) (by rw [si_f (by decide), si_f (by decide), si_eq]) (by rw [si_eq]; rfl) (by show (0 : Int) ≤ 0 ∧ (0 : Int) < 10 ^ 0; decide)
        rw [a1]
        refine ⟨a2, a3, Or.inr (Or.inr (Or.inl ⟨q, hd, by rw [a4]; exact run, ?_⟩))⟩
        rw [a4, a5, si_f (by decide), si_eq]
        rcases hty with ⟨h1, h2⟩ | ⟨h1, h2⟩
        · exact Or.inl ⟨h1, h2⟩
        · exact Or.inr ⟨h1, h2, a6 h1⟩
      by_cases c3 : 4 < w.toInt - b
      · rw [if_pos c3, tc_165]
        exact go 4 (Or.inl ⟨c3, rfl⟩)
      · rw [if_neg c3]
        exact go 2 (Or.inr ⟨by omega, rfl⟩)
theorem tc_J52 (E : tc_E X σ R T n B) {τ : ST} (ht : tk (tc_S R) σ τ) {b : Int} (hb : (τ.1 R 2).toInt = b) (h0 : 0 ≤ b) (h1 : b ≤ n) : tc_Q σ R n B b (F_X3_advance_J52_2 X τ R) := by
  have E3 := E.2.2.1
  simp only [F_X3_advance_J52_2, ↓q_letE]
  obtain ⟨ρ, hρ⟩ : ∃ ρ, ρ = q_si τ R 3 (τ.1 R 2) := ⟨_, rfl⟩
  rw [← hρ]
  have ht2 : tk (tc_S R) σ ρ := by rw [hρ]; exact ht.si _ ⟨rfl, by decide, by decide⟩
  have hb2 : (ρ.1 R 2).toInt = b := by rw [hρ, si_f (by decide)]; exact hb
  have he2 : (ρ.1 R 3).toInt = b := by rw [hρ, si_eq]; exact hb
  have Eρ := E.kS ht2
  have sg := tc_sig Eρ hb2 ⟨h0, by omega⟩ (v := 0) (i := 0) rfl ⟨by decide, by decide⟩
  rw [Int.add_zero] at sg
  rw [Eρ.2.1, hb2, sg]
  by_cases q : b < n
  · rw [if_pos q]
    have sg2 := sg
    rw [tx_D_in h0 q] at sg2 ⊢
    by_cases q1 : B b < 97
    · rw [if_pos q1]
      exact tc_J117 E ht2 hb2 h0 q sg2 (fun h => by have := h.1; omega)
    · rw [if_neg q1]
      by_cases q2 : 122 < B b
      · rw [if_pos q2]
        exact tc_J117 E ht2 hb2 h0 q sg2 (fun h => by have := h.2; omega)
      · rw [if_neg q2]
        have t4 : tk (tc_S R) σ (q_si ρ R 4 1) := ht2.si _ ⟨rfl, by decide, by decide⟩
        have b4 : ((q_si ρ R 4 1).1 R 2).toInt = b := by rw [si_f (by decide)]; exact hb2
        have run := tc_eor (E.kS t4) b4 ⟨h0, h1⟩ 97 122
        have r97 : (97 : Int32).toInt = 97 := rfl
        have r122 : (122 : Int32).toInt = 122 := rfl
        rw [r97, r122] at run
        refine ⟨t4.si _ ⟨rfl, by decide, by decide⟩, by rw [si_f (by decide)]; exact b4, Or.inr (Or.inl ⟨q, ⟨by omega, by omega⟩, by rw [si_f (by decide), si_eq]; rfl, ?_⟩)⟩
        rw [si_eq]
        exact run
  · rw [if_neg q]
    exact ⟨ht2.si _ ⟨rfl, by decide, by decide⟩, by rw [si_f (by decide)]; exact hb2, Or.inl ⟨by omega, by rw [si_eq]; rfl, by rw [si_f (by decide)]; exact he2⟩⟩
/-- the class's advance -/
theorem tc_adv (E : tc_E X σ R T n B) {p : Int} (hp : (σ.1 R 3).toInt = p) (h0 : 0 ≤ p ∧ p ≤ n) : tk (tc_S R) σ (F_X3_advance X σ R) ∧ tx_tok B n p ((F_X3_advance X σ R).1 R 2).toInt ((F_X3_advance X σ R).1 R 3).toInt ((F_X3_advance X σ R).1 R 4).toInt ((F_X3_advance X σ R).1 R 5).toInt := by
  have E3 := E.2.2.1
  simp only [F_X3_advance, ↓q_letE]
  obtain ⟨τ, hτ⟩ : ∃ τ, τ = q_si σ R 2 (σ.1 R 3) := ⟨_, rfl⟩
  rw [← hτ]
  have ht : tk (tc_S R) σ τ := by rw [hτ]; exact tk.rf.si _ ⟨rfl, by decide, by decide⟩
  have hb : (τ.1 R 2).toInt = p := by rw [hτ, si_eq]; exact hp
  obtain ⟨k, hk⟩ : ∃ k, k = (2147483647 - (τ.1 R 2).toInt).toNat + 1 := ⟨_, rfl⟩
  rw [← hk]
  obtain ⟨τ', a1, a2, a3⟩ := tc_adv8 E k τ ht (by omega) (by omega) (by omega)
  rw [a1]
  rw [hb] at a3
  have hb2 : p ≤ (τ'.1 R 2).toInt := a3.1
  have hb3 : (τ'.1 R 2).toInt ≤ n := tx_run_le a3 h0.2
  obtain ⟨c1, c2, c3⟩ := tc_J52 E a2 rfl (by omega) hb3
  refine ⟨c1, ?_⟩
  rw [c2]
  exact ⟨a3, c3⟩
end TC
end
/-! FROM 48f.next.lean.txt -/
section
/-! THE REFERENCE'S SCANNER -/
def tkl (S L : Nat → Nat → Prop) (σ τ : ST) : Prop := (∀ b f, ¬ S b f → τ.1 b f = σ.1 b f) ∧ (∀ b f, ¬ L b f → τ.2.1 b f = σ.2.1 b f) ∧ τ.2.2 = σ.2.2
theorem tkl.rf {S L : Nat → Nat → Prop} {σ : ST} : tkl S L σ σ := ⟨fun _ _ _ => rfl, fun _ _ _ => rfl, rfl⟩
theorem tkl.tr {S L : Nat → Nat → Prop} {σ τ τ' : ST} (h : tkl S L σ τ) (h' : tkl S L τ τ') : tkl S L σ τ' := ⟨fun b f q => (h'.1 b f q).trans (h.1 b f q), fun b f q => (h'.2.1 b f q).trans (h.2.1 b f q), h'.2.2.trans h.2.2⟩
theorem tkl.mono {S L S' L' : Nat → Nat → Prop} {σ τ : ST} (h : tkl S L σ τ) (hs : ∀ b f, S b f → S' b f) (hl : ∀ b f, L b f → L' b f) : tkl S' L' σ τ := ⟨fun b f q => h.1 b f (fun z => q (hs b f z)), fun b f q => h.2.1 b f (fun z => q (hl b f z)), h.2.2⟩
theorem tkl.si {S L : Nat → Nat → Prop} {σ τ : ST} (h : tkl S L σ τ) {a f : Nat} (v : Int32) (hs : S a f) : tkl S L σ (q_si τ a f v) := by
  refine ⟨fun b g q => ?_, fun b g q => h.2.1 b g q, h.2.2⟩
  show (if b = a ∧ g = f then v else τ.1 b g) = _
  rw [if_neg]
  · exact h.1 b g q
  · rintro ⟨rfl, rfl⟩
    exact q hs
theorem tkl.sl {S L : Nat → Nat → Prop} {σ τ : ST} (h : tkl S L σ τ) {a f : Nat} (v : Int64) (hs : L a f) : tkl S L σ (q_sl τ a f v) := by
  refine ⟨fun b g q => h.1 b g q, fun b g q => ?_, h.2.2⟩
  show (if b = a ∧ g = f then v else τ.2.1 b g) = _
  rw [if_neg]
  · exact h.2.1 b g q
  · rintro ⟨rfl, rfl⟩
    exact q hs
theorem sl_eq (τ : ST) (a f : Nat) (v : Int64) : (q_sl τ a f v).2.1 a f = v := by
  show (if a = a ∧ f = f then v else _) = v
  rw [if_pos ⟨rfl, rfl⟩]
theorem sl_i (τ : ST) (a f : Nat) (v : Int64) (b g : Nat) : (q_sl τ a f v).1 b g = τ.1 b g := rfl
theorem si_l (τ : ST) (a f : Nat) (v : Int32) (b g : Nat) : (q_si τ a f v).2.1 b g = τ.2.1 b g := rfl
/-- a token's cells of the reference -/
def tn_S (a : Nat) : Nat → Nat → Prop := fun b f => b = a ∧ 14 ≤ f ∧ f ≤ 18
def tn_L (a : Nat) : Nat → Nat → Prop := fun b f => b = a ∧ f = 19
/-- the reference reads the first n bytes B of its tape -/
def tm_E (X : XW) (σ : ST) (a : Nat) (n : Int) (B : Int → Int) : Prop := (σ.1 a 9).toInt = n ∧ (0 ≤ n ∧ n ≤ 900) ∧ q_rf X a 7 ≠ a ∧ ∀ p : Int, 0 ≤ p → p < n → (σ.1 (q_rf X a 7) p.toNat).toInt = B p ∧ -128 ≤ B p ∧ B p ≤ 127
/-- what the token at b, to e, is: sign or word -/
def tm_ext (B : Int → Int) (b e ty num let_ word : Int) : Prop := (ty = 3 → num = B b) ∧ (ty = 1 → let_ = e - b ∧ (e - b ≤ 8 → word = tx_wv B b (e - b).toNat) ∧ (8 < e - b → word = -1))
section TM
variable {X : XW} {σ τ : ST} {a : Nat} {n : Int} {B : Int → Int}
theorem tm_E.k {S L : Nat → Nat → Prop} (E : tm_E X σ a n B) (h : tkl S L σ τ) (hs : ∀ b f, S b f → b ≠ q_rf X a 7 ∧ ¬ (b = a ∧ f = 9)) : tm_E X τ a n B := by
  obtain ⟨E1, E2, E3, E4⟩ := E
  refine ⟨?_, E2, E3, fun p p0 p1 => ?_⟩
  · rw [h.1 a 9 (fun q => (hs _ _ q).2 ⟨rfl, rfl⟩)]; exact E1
  · rw [h.1 (q_rf X a 7) p.toNat (fun q => (hs _ _ q).1 rfl)]; exact E4 p p0 p1
theorem tm_E.kS (E : tm_E X σ a n B) (h : tkl (tn_S a) (tn_L a) σ τ) : tm_E X τ a n B := E.k h (fun b f q => ⟨fun e => E.2.2.1 (e.symm.trans q.1), fun e => absurd q.2.1 (by rw [e.2]; decide)⟩)
theorem tm_look (E : tm_E X σ a n B) {v : Int32} {p : Int} (hv : v.toInt = p) (h0 : 0 ≤ p) : (F_X12_look2 X σ a v).toInt = if p < n then B p % 256 else 0 := by
  obtain ⟨E1, E2, E3, E4⟩ := E
  subst hv
  simp only [F_X12_look2, ↓q_letE]
  rw [E1]
  by_cases q : v.toInt < n
  · rw [if_pos q, if_pos q, Jvm.Kit.i32_mask (k := 8) _ 255 (by decide) (by decide), ar_cl, (E4 _ h0 q).1]
    rfl
  · rw [if_neg q, if_neg q]
    rfl
theorem tm_le {r : Int32} {x : Int} (hr : r.toInt = x % 256) (hb : -128 ≤ x ∧ x ≤ 127) : (F_X12_isLetter X σ r).toInt = if 97 ≤ x ∧ x ≤ 122 then 1 else 0 := by
  simp only [F_X12_isLetter]
  rw [hr]
  by_cases q : 97 ≤ x ∧ x ≤ 122
  · rw [if_pos q, if_neg (by omega), if_neg (by omega)]
    rfl
  · rw [if_neg q]
    by_cases q1 : x % 256 < 97
    · rw [if_pos q1]; rfl
    · rw [if_neg q1, if_pos (by omega)]; rfl
theorem tm_di {r : Int32} {x : Int} (hr : r.toInt = x % 256) (hb : -128 ≤ x ∧ x ≤ 127) : (F_X12_isDigit X σ r).toInt = if 48 ≤ x ∧ x ≤ 57 then 1 else 0 := by
  simp only [F_X12_isDigit]
  rw [hr]
  by_cases q : 48 ≤ x ∧ x ≤ 57
  · rw [if_pos q, if_neg (by omega), if_neg (by omega)]
    rfl
  · rw [if_neg q]
    by_cases q1 : x % 256 < 48
    · rw [if_pos q1]; rfl
    · rw [if_neg q1, if_pos (by omega)]; rfl
theorem tm_adv8 (E : tm_E X σ a n B) (k : Nat) : ∀ τ : ST, tkl (tn_S a) (tn_L a) σ τ → (n - (τ.1 a 15).toInt).toNat < k → 0 ≤ (τ.1 a 15).toInt → (τ.1 a 15).toInt ≤ n → ∃ τ' : ST, F_X12_next_L8_1 X a k τ = F_X12_next_J58_2 X τ' a ∧ tkl (tn_S a) (tn_L a) σ τ' ∧ tx_run (fun j => tx_bl (B j)) n (τ.1 a 15).toInt (τ'.1 a 15).toInt := by
  have E3 := E.2.1
  induction k with
  | zero => intro τ _ hm; exact absurd hm (Nat.not_lt_zero _)
  | succ k ih =>
    intro τ ht hm h0 h1
    have Eτ := E.kS ht
    obtain ⟨b, hb⟩ : ∃ b, (τ.1 a 15).toInt = b := ⟨_, rfl⟩
    rw [hb] at hm h0 h1 ⊢
    have lk := tm_look Eτ hb h0
    rw [F_X12_next_L8_1_s]
    simp only [F_X12_next_B8_1, ↓q_letE]
    rw [Eτ.1, hb, lk]
    by_cases q : b < n
    · rw [if_pos q, if_pos q]
      have hB := (Eτ.2.2.2 b h0 q).2
      have e1 : ((q_si τ a 15 (τ.1 a 15 + 1)).1 a 15).toInt = b + 1 := by rw [si_eq, y_inc (by omega), hb]
      have st : tx_bl (B b) → ∃ τ' : ST, F_X12_next_L8_1 X a k (q_si τ a 15 (τ.1 a 15 + 1)) = F_X12_next_J58_2 X τ' a ∧ tkl (tn_S a) (tn_L a) σ τ' ∧ tx_run (fun j => tx_bl (B j)) n b (τ'.1 a 15).toInt := by
        intro hbl
        have zz := ih (q_si τ a 15 (τ.1 a 15 + 1)) (ht.si _ ⟨rfl, by decide, by decide⟩) (by rw [e1]; omega) (by rw [e1]; omega) (by rw [e1]; omega)
        obtain ⟨τ', a1, a2, a3⟩ := zz
        rw [e1] at a3
        exact ⟨τ', a1, a2, tx_run_cons a3 q hbl⟩
      by_cases q1 : B b % 256 = 10
      · rw [if_pos q1]
        exact st (Or.inl (by omega))
      · rw [if_neg q1]
        by_cases q2 : B b % 256 = 32
        · rw [if_pos q2]
          exact st (Or.inr (by omega))
        · rw [if_neg q2]
          exact ⟨τ, rfl, ht, by rw [hb]; exact tx_run_nil (fun h => by have z := h.2; unfold tx_bl at z; omega)⟩
    · rw [if_neg q]
      exact ⟨τ, rfl, ht, by rw [hb]; exact tx_run_nil (fun h => q h.1)⟩
theorem tx_wv_b {b : Int} {m : Nat} (h : ∀ j : Int, b ≤ j → j < b + (m : Int) → tx_le (B j)) : 0 ≤ tx_wv B b m ∧ tx_wv B b m < 32 ^ m := by
  induction m with
  | zero => exact ⟨Int.le_refl 0, (by decide : (0 : Int) < 32 ^ 0)⟩
  | succ m ih =>
    have a1 := ih (fun j a c => h j a (by omega))
    have a2 := h (b + (m : Int)) (by omega) (by omega)
    unfold tx_le at a2
    have p : (32 : Int) ^ (m + 1) = 32 ^ m * 32 := Int.pow_succ 32 m
    show 0 ≤ tx_wv B b m * 32 + B (b + (m : Int)) - 96 ∧ tx_wv B b m * 32 + B (b + (m : Int)) - 96 < 32 ^ (m + 1)
    omega
theorem tm_109 (E : tm_E X σ a n B) {b : Int} (hb0 : 0 ≤ b) (k : Nat) : ∀ (τ : ST) (x : Int), (τ.1 a 16).toInt = x → (n - x).toNat < k → b ≤ x → x ≤ n → tkl (tn_S a) (tn_L a) σ τ → (τ.1 a 15).toInt = b → (∀ j, b ≤ j → j < x → tx_le (B j)) → (x - b ≤ 8 → (τ.2.1 a 19).toInt = tx_wv B b (x - b).toNat) → (8 < x - b → (τ.2.1 a 19).toInt = -1) →
    ∃ τ' : ST, F_X12_next_L109_5 X a k τ = τ' ∧ tkl (tn_S a) (tn_L a) σ τ' ∧ (τ'.1 a 15).toInt = b ∧ tx_run (fun j => tx_le (B j)) n x (τ'.1 a 16).toInt ∧ τ'.1 a 14 = τ.1 a 14 ∧ (τ'.1 a 18).toInt = (τ'.1 a 16).toInt - b ∧ ((τ'.1 a 16).toInt - b ≤ 8 → (τ'.2.1 a 19).toInt = tx_wv B b ((τ'.1 a 16).toInt - b).toNat) ∧ (8 < (τ'.1 a 16).toInt - b → (τ'.2.1 a 19).toInt = -1) := by
  have E3 := E.2.1
  induction k with
  | zero => intro τ x _ hm; exact absurd hm (Nat.not_lt_zero _)
  | succ k ih =>
    intro τ x hx hm h0 h1 ht hb hl hw1 hw2
    have Eτ := E.kS ht
    have lk := tm_look Eτ hx (by omega)
    rw [F_X12_next_L109_5_s]
    simp only [F_X12_next_B109_5, ↓q_letE]
    have fin : ¬ (x < n ∧ tx_le (B x)) → ∃ τ' : ST, F_X12_next_E182_6 X τ a = τ' ∧ tkl (tn_S a) (tn_L a) σ τ' ∧ (τ'.1 a 15).toInt = b ∧ tx_run (fun j => tx_le (B j)) n x (τ'.1 a 16).toInt ∧ τ'.1 a 14 = τ.1 a 14 ∧ (τ'.1 a 18).toInt = (τ'.1 a 16).toInt - b ∧ ((τ'.1 a 16).toInt - b ≤ 8 → (τ'.2.1 a 19).toInt = tx_wv B b ((τ'.1 a 16).toInt - b).toNat) ∧ (8 < (τ'.1 a 16).toInt - b → (τ'.2.1 a 19).toInt = -1) := by
      intro hn
      simp only [F_X12_next_E182_6, ↓q_letE]
      have e16 : ((q_si τ a 18 (τ.1 a 16 - τ.1 a 15)).1 a 16).toInt = x := by rw [si_f (by decide)]; exact hx
      refine ⟨_, rfl, ht.si _ ⟨rfl, by decide, by decide⟩, by rw [si_f (by decide)]; exact hb, ?_, si_f (by decide) a, ?_, ?_, ?_⟩
      · rw [e16]; exact tx_run_nil hn
      · rw [e16, si_eq, ar_sub, hx, hb, ar_wr (by omega) (by omega)]
      · rw [e16]; exact hw1
      · rw [e16]; exact hw2
    by_cases q : x < n
    · rw [if_pos q] at lk
      have hB := (Eτ.2.2.2 x (by omega) q).2
      have il := tm_le (X := X) (σ := τ) lk hB
      by_cases ql : tx_le (B x)
      · rw [if_pos (show 97 ≤ B x ∧ B x ≤ 122 from ql)] at il
        rw [il, if_neg (by decide)]
        clear fin
        have sz : (τ.1 a 16 - τ.1 a 15).toInt = x - b := by rw [ar_sub, hx, hb, ar_wr (by omega) (by omega)]
        rw [sz]
        have hl2 : ∀ j, b ≤ j → j < x + 1 → tx_le (B j) := fun j j0 j1 => by
          by_cases hj : j = x
          · subst hj; exact ql
          · exact hl j j0 (by omega)
        have e1 : (τ.1 a 16 + 1).toInt = x + 1 := by rw [y_inc (by omega), hx]
        have en : (x + 1 - b).toNat = (x - b).toNat + 1 := by omega
        have ec : (((x - b).toNat : Nat) : Int) = x - b := by omega
        have ep : b + (x - b) = x := by omega
        by_cases q8 : x - b < 8
        · rw [if_pos q8]
          have w1 := hw1 (by omega)
          have wb := tx_wv_b (B := B) (b := b) (m := (x - b).toNat) (fun j j0 j1 => hl j j0 (by omega))
          have pb : (32 : Int) ^ (x - b).toNat ≤ 32 ^ 7 := by
            have : (x - b).toNat = 0 ∨ (x - b).toNat = 1 ∨ (x - b).toNat = 2 ∨ (x - b).toNat = 3 ∨ (x - b).toNat = 4 ∨ (x - b).toNat = 5 ∨ (x - b).toNat = 6 ∨ (x - b).toNat = 7 := by omega
            rcases this with q | q | q | q | q | q | q | q <;> rw [q] <;> decide
          have p7 : (32 : Int) ^ 7 = 34359738368 := by decide
          have ql2 := ql
          unfold tx_le at ql2
          have r32 : (32 : Int64).toInt = 32 := rfl
          have r96 : (96 : Int64).toInt = 96 := rfl
          have nv : tx_wv B b (x + 1 - b).toNat = tx_wv B b (x - b).toNat * 32 + B x - 96 := by
            rw [en]
            show tx_wv B b (x - b).toNat * 32 + B (b + (((x - b).toNat : Nat) : Int)) - 96 = _
            rw [ec, ep]
          have ev : (τ.2.1 a 19 * 32 + (F_X12_look2 X τ a (τ.1 a 16)).toInt64 - 96).toInt = tx_wv B b (x + 1 - b).toNat := by
            rw [nv, ar_subl, ar_addl, ar_mull, w1, ar_i2l, lk, r32, r96, ar_vr (n := tx_wv B b (x - b).toNat * 32) (by omega) (by omega), ar_vr (n := tx_wv B b (x - b).toNat * 32 + B x % 256) (by omega) (by omega), ar_vr (by omega) (by omega)]
            omega
          have zz := ih (q_si (q_sl τ a 19 (τ.2.1 a 19 * 32 + (F_X12_look2 X τ a (τ.1 a 16)).toInt64 - 96)) a 16 (τ.1 a 16 + 1)) (x + 1) (by rw [si_eq]; exact e1) (by omega) (by omega) (by omega) ((ht.sl _ ⟨rfl, rfl⟩).si _ ⟨rfl, by decide, by decide⟩) (by rw [si_f (by decide)]; exact hb) hl2 (fun _ => by rw [si_l, sl_eq]; exact ev) (fun h => absurd h (by omega))
          obtain ⟨τ', a1, a2, a3, a4, a5, a6, a7, a8⟩ := zz
          exact ⟨τ', a1, a2, a3, tx_run_cons a4 q ql, by rw [a5, si_f (by decide)]; rfl, a6, a7, a8⟩
        · rw [if_neg q8]
          have zz := ih (q_si (q_sl τ a 19 (-1)) a 16 (τ.1 a 16 + 1)) (x + 1) (by rw [si_eq]; exact e1) (by omega) (by omega) (by omega) ((ht.sl _ ⟨rfl, rfl⟩).si _ ⟨rfl, by decide, by decide⟩) (by rw [si_f (by decide)]; exact hb) hl2 (fun h => absurd h (by omega)) (fun _ => by rw [si_l, sl_eq]; rfl)
          obtain ⟨τ', a1, a2, a3, a4, a5, a6, a7, a8⟩ := zz
          exact ⟨τ', a1, a2, a3, tx_run_cons a4 q ql, by rw [a5, si_f (by decide)]; rfl, a6, a7, a8⟩
      · rw [if_neg (show ¬ (97 ≤ B x ∧ B x ≤ 122) from ql)] at il
        rw [il, if_pos rfl]
        exact fin (fun h => ql h.2)
    · rw [if_neg q] at lk
      have il : (F_X12_isLetter X τ (F_X12_look2 X τ a (τ.1 a 16))).toInt = 0 := by
        simp only [F_X12_isLetter]
        rw [lk]
        rfl
      rw [il, if_pos rfl]
      exact fin (fun h => q h.1)
theorem tm_210 (E : tm_E X σ a n B) {b : Int} (hb0 : 0 ≤ b) (hbn : b < n) (hbd : tx_di (B b)) (k : Nat) : ∀ (τ : ST) (x : Int), (τ.1 a 16).toInt = x → (n - x).toNat < k → b ≤ x → x ≤ n → tkl (tn_S a) (tn_L a) σ τ → (τ.1 a 15).toInt = b → (∀ j, b ≤ j → j < x → tx_di (B j)) → (x - b ≤ 4 → (τ.1 a 17).toInt = tx_nv B b (x - b).toNat) → (0 ≤ tx_nv B b (x - b).toNat ∧ (x - b ≤ 4 → tx_nv B b (x - b).toNat < 10 ^ (x - b).toNat)) →
    ∃ τ' : ST, F_X12_next_L210_3 X a k τ = τ' ∧ tkl (tn_S a) (tn_L a) σ τ' ∧ (τ'.1 a 15).toInt = b ∧ tx_run (fun j => tx_di (B j)) n x (τ'.1 a 16).toInt ∧ (4 < (τ'.1 a 16).toInt - b ∧ (τ'.1 a 14).toInt = 4 ∨ (τ'.1 a 16).toInt - b ≤ 4 ∧ (τ'.1 a 14).toInt = 2 ∧ (τ'.1 a 17).toInt = tx_nv B b ((τ'.1 a 16).toInt - b).toNat) := by
  have E3 := E.2.1
  induction k with
  | zero => intro τ x _ hm; exact absurd hm (Nat.not_lt_zero _)
  | succ k ih =>
    intro τ x hx hm h0 h1 ht hb hl hw1 hwb
    have Eτ := E.kS ht
    have lk := tm_look Eτ hx (by omega)
    have sz : (τ.1 a 16 - τ.1 a 15).toInt = x - b := by rw [ar_sub, hx, hb, ar_wr (by omega) (by omega)]
    rw [F_X12_next_L210_3_s]
    simp only [F_X12_next_B210_3, ↓q_letE]
    rw [sz]
    have fin : ¬ (x < n ∧ tx_di (B x)) → ∃ τ' : ST, F_X12_next_E273_4 X τ a = τ' ∧ tkl (tn_S a) (tn_L a) σ τ' ∧ (τ'.1 a 15).toInt = b ∧ tx_run (fun j => tx_di (B j)) n x (τ'.1 a 16).toInt ∧ (4 < (τ'.1 a 16).toInt - b ∧ (τ'.1 a 14).toInt = 4 ∨ (τ'.1 a 16).toInt - b ≤ 4 ∧ (τ'.1 a 14).toInt = 2 ∧ (τ'.1 a 17).toInt = tx_nv B b ((τ'.1 a 16).toInt - b).toNat) := by
      intro hn
      simp only [F_X12_next_E273_4, ↓q_letE]
      rw [sz]
      have e16 : ∀ v : Int32, ((q_si τ a 14 v).1 a 16).toInt = x := fun v => by rw [si_f (by decide)]; exact hx
      by_cases q4 : 4 < x - b
      · rw [if_pos q4]
        refine ⟨_, rfl, ht.si _ ⟨rfl, by decide, by decide⟩, by rw [si_f (by decide)]; exact hb, ?_, Or.inl ?_⟩
        · rw [e16]; exact tx_run_nil hn
        · rw [e16, si_eq]; exact ⟨q4, rfl⟩
      · rw [if_neg q4]
        refine ⟨_, rfl, ht.si _ ⟨rfl, by decide, by decide⟩, by rw [si_f (by decide)]; exact hb, ?_, Or.inr ?_⟩
        · rw [e16]; exact tx_run_nil hn
        · rw [e16, si_eq, si_f (by decide)]; exact ⟨by omega, rfl, hw1 (by omega)⟩
    by_cases q : x < n
    · rw [if_pos q] at lk
      have hB := (Eτ.2.2.2 x (by omega) q).2
      have il := tm_di (X := X) (σ := τ) lk hB
      by_cases ql : tx_di (B x)
      · rw [if_pos (show 48 ≤ B x ∧ B x ≤ 57 from ql)] at il
        rw [il, if_neg (by decide)]
        clear fin
        have hl2 : ∀ j, b ≤ j → j < x + 1 → tx_di (B j) := fun j j0 j1 => by
          by_cases hj : j = x
          · subst hj; exact ql
          · exact hl j j0 (by omega)
        have e1 : (τ.1 a 16 + 1).toInt = x + 1 := by rw [y_inc (by omega), hx]
        have en : (x + 1 - b).toNat = (x - b).toNat + 1 := by omega
        have ec : (((x - b).toNat : Nat) : Int) = x - b := by omega
        have ep : b + (x - b) = x := by omega
        have nv : tx_nv B b (x + 1 - b).toNat = tx_nv B b (x - b).toNat * 10 + B x - 48 := by
          rw [en]
          show tx_nv B b (x - b).toNat * 10 + B (b + (((x - b).toNat : Nat) : Int)) - 48 = _
          rw [ec, ep]
        have ql2 := ql
        unfold tx_di at ql2
        by_cases q8 : x - b < 4
        · rw [if_pos q8]
          have w1 := hw1 (by omega)
          have wb := hwb.2 (by omega)
          have w0 := hwb.1
          have pb : (10 : Int) ^ (x - b).toNat ≤ 1000 := by
            have : (x - b).toNat = 0 ∨ (x - b).toNat = 1 ∨ (x - b).toNat = 2 ∨ (x - b).toNat = 3 := by omega
            rcases this with q | q | q | q <;> rw [q] <;> decide
          have pw : (10 : Int) ^ (x + 1 - b).toNat = 10 ^ (x - b).toNat * 10 := by rw [en, Int.pow_succ]
          have r10 : (10 : Int32).toInt = 10 := rfl
          have r48 : (48 : Int32).toInt = 48 := rfl
          have ev : (10 * τ.1 a 17 + F_X12_look2 X τ a (τ.1 a 16) - 48).toInt = tx_nv B b (x + 1 - b).toNat := by
            rw [nv, ar_sub, ar_add, ar_mul, w1, lk, r10, r48, ar_wr (n := 10 * tx_nv B b (x - b).toNat) (by omega) (by omega), ar_wr (n := 10 * tx_nv B b (x - b).toNat + B x % 256) (by omega) (by omega), ar_wr (by omega) (by omega)]
            omega
          have zz := ih (q_si (q_si τ a 17 (10 * τ.1 a 17 + F_X12_look2 X τ a (τ.1 a 16) - 48)) a 16 ((q_si τ a 17 (10 * τ.1 a 17 + F_X12_look2 X τ a (τ.1 a 16) - 48)).1 a 16 + 1)) (x + 1) (by rw [si_eq, si_f (by decide)]; exact e1) (by omega) (by omega) (by omega) ((ht.si _ ⟨rfl, by decide, by decide⟩).si _ ⟨rfl, by decide, by decide⟩) (by rw [si_f (by decide), si_f (by decide)]; exact hb) hl2 (fun _ => by rw [si_f (by decide), si_eq]; exact ev) ⟨by rw [nv]; omega, fun _ => by rw [nv, pw]; omega⟩
          obtain ⟨τ', a1, a2, a3, a4, a5⟩ := zz
          exact ⟨τ', a1, a2, a3, tx_run_cons a4 q ql, a5⟩
        · rw [if_neg q8]
          have zz := ih (q_si τ a 16 (τ.1 a 16 + 1)) (x + 1) (by rw [si_eq]; exact e1) (by omega) (by omega) (by omega) (ht.si _ ⟨rfl, by decide, by decide⟩) (by rw [si_f (by decide)]; exact hb) hl2 (fun h => absurd h (by omega)) ⟨by rw [nv]; have := hwb.1; omega, fun h => absurd h (by omega)⟩
          obtain ⟨τ', a1, a2, a3, a4, a5⟩ := zz
          exact ⟨τ', a1, a2, a3, tx_run_cons a4 q ql, a5⟩
      · rw [if_neg (show ¬ (48 ≤ B x ∧ B x ≤ 57) from ql)] at il
        rw [il, if_pos rfl]
        exact fin (fun h => ql h.2)
    · rw [if_neg q] at lk
      have il : (F_X12_isDigit X τ (F_X12_look2 X τ a (τ.1 a 16))).toInt = 0 := by
        simp only [F_X12_isDigit]
        rw [lk]
        rfl
      rw [il, if_pos rfl]
      exact fin (fun h => q h.1)
theorem tm_J58 (E : tm_E X σ a n B) {τ : ST} (ht : tkl (tn_S a) (tn_L a) σ τ) {b : Int} (hb : (τ.1 a 15).toInt = b) (h0 : 0 ≤ b) (h1 : b ≤ n) : tkl (tn_S a) (tn_L a) σ (F_X12_next_J58_2 X τ a) ∧ ((F_X12_next_J58_2 X τ a).1 a 15).toInt = b ∧ tx_cls B n b ((F_X12_next_J58_2 X τ a).1 a 16).toInt ((F_X12_next_J58_2 X τ a).1 a 14).toInt ((F_X12_next_J58_2 X τ a).1 a 17).toInt ∧ tm_ext B b ((F_X12_next_J58_2 X τ a).1 a 16).toInt ((F_X12_next_J58_2 X τ a).1 a 14).toInt ((F_X12_next_J58_2 X τ a).1 a 17).toInt ((F_X12_next_J58_2 X τ a).1 a 18).toInt ((F_X12_next_J58_2 X τ a).2.1 a 19).toInt := by
  have E3 := E.2.1
  simp only [F_X12_next_J58_2, ↓q_letE]
  obtain ⟨ρ, hρ⟩ : ∃ ρ, ρ = q_si τ a 16 (τ.1 a 15) := ⟨_, rfl⟩
  rw [← hρ]
  have ht2 : tkl (tn_S a) (tn_L a) σ ρ := by rw [hρ]; exact ht.si _ ⟨rfl, by decide, by decide⟩
  have hb2 : (ρ.1 a 15).toInt = b := by rw [hρ, si_f (by decide)]; exact hb
  have he2 : (ρ.1 a 16).toInt = b := by rw [hρ, si_eq]; exact hb
  have Eρ := E.kS ht2
  have lk := tm_look Eρ hb2 h0
  rw [Eρ.1, hb2]
  by_cases q : b < n
  · rw [if_pos q]
    rw [if_pos q] at lk
    have hB := (Eρ.2.2.2 b h0 q).2
    have il := tm_le (X := X) (σ := ρ) lk hB
    have id_ := tm_di (X := X) (σ := ρ) lk hB
    by_cases ql : tx_le (B b)
    · rw [if_pos (show 97 ≤ B b ∧ B b ≤ 122 from ql)] at il
      rw [il, if_neg (by decide)]
      obtain ⟨τ', a1, a2, a3, a4, a5, a6, a7, a8⟩ := tm_109 E h0 ((((q_sl (q_si ρ a 14 1) a 19 0).1 a 9).toInt - ((q_sl (q_si ρ a 14 1) a 19 0).1 a 16).toInt).toNat + 1) (q_sl (q_si ρ a 14 1) a 19 0) b (by rw [sl_i, si_f (by decide)]; exact he2) (by rw [sl_i, sl_i, si_f (by decide), si_f (by decide), Eρ.1, he2]; omega) (Int.le_refl _) h1 ((ht2.si _ ⟨rfl, by decide, by decide⟩).sl _ ⟨rfl, rfl⟩) (by rw [sl_i, si_f (by decide)]; exact hb2) (fun j j0 j1 => by omega) (fun _ => by rw [sl_eq, Int.sub_self]; rfl) (fun h => absurd h (by omega))
      rw [a1]
      have ty : (τ'.1 a 14).toInt = 1 := by rw [a5, sl_i, si_eq]; rfl
      exact ⟨a2, a3, Or.inr (Or.inl ⟨q, ql, ty, a4⟩), ⟨fun h => absurd h (by omega), fun _ => ⟨a6, a7, a8⟩⟩⟩
    · rw [if_neg (show ¬ (97 ≤ B b ∧ B b ≤ 122) from ql)] at il
      rw [il, if_pos rfl]
      by_cases qd : tx_di (B b)
      · rw [if_pos (show 48 ≤ B b ∧ B b ≤ 57 from qd)] at id_
        rw [id_, if_neg (by decide)]
        obtain ⟨τ', a1, a2, a3, a4, a5⟩ := tm_210 E h0 q qd ((((q_si ρ a 17 0).1 a 9).toInt - ((q_si ρ a 17 0).1 a 16).toInt).toNat + 1) (q_si ρ a 17 0) b (by rw [si_f (by decide)]; exact he2) (by rw [si_f (by decide), si_f (by decide), Eρ.1, he2]; omega) (Int.le_refl _) h1 (ht2.si _ ⟨rfl, by decide, by decide⟩) (by rw [si_f (by decide)]; exact hb2) (fun j j0 j1 => by omega) (fun _ => by rw [si_eq, Int.sub_self]; rfl) (by rw [Int.sub_self]; exact ⟨Int.le_refl 0, fun _ => (by decide : (0 : Int) < 10 ^ 0)⟩)
        rw [a1]
        refine ⟨a2, a3, Or.inr (Or.inr (Or.inl ⟨q, qd, a4, a5⟩)), ⟨fun h => ?_, fun h => ?_⟩⟩
        · rcases a5 with ⟨_, z⟩ | ⟨_, z, _⟩ <;> omega
        · rcases a5 with ⟨_, z⟩ | ⟨_, z, _⟩ <;> omega
      · rw [if_neg (show ¬ (48 ≤ B b ∧ B b ≤ 57) from qd)] at id_
        rw [id_, if_pos rfl]
        obtain ⟨r, hr⟩ : ∃ r, r = F_X12_look2 X ρ a (ρ.1 a 15) := ⟨_, rfl⟩
        rw [← hr] at lk ⊢
        have e1 : (ρ.1 a 15 + 1).toInt = b + 1 := by rw [y_inc (by omega), hb2]
        have fin : ∀ ty : Int32, (tx_sg (B b) ∧ ty.toInt = 3 ∨ ¬ tx_sg (B b) ∧ ty.toInt = 4) → tkl (tn_S a) (tn_L a) σ (q_si (q_si (q_si ρ a 16 (ρ.1 a 15 + 1)) a 17 r) a 14 ty) ∧ ((q_si (q_si (q_si ρ a 16 (ρ.1 a 15 + 1)) a 17 r) a 14 ty).1 a 15).toInt = b ∧ tx_cls B n b ((q_si (q_si (q_si ρ a 16 (ρ.1 a 15 + 1)) a 17 r) a 14 ty).1 a 16).toInt ((q_si (q_si (q_si ρ a 16 (ρ.1 a 15 + 1)) a 17 r) a 14 ty).1 a 14).toInt ((q_si (q_si (q_si ρ a 16 (ρ.1 a 15 + 1)) a 17 r) a 14 ty).1 a 17).toInt ∧ tm_ext B b ((q_si (q_si (q_si ρ a 16 (ρ.1 a 15 + 1)) a 17 r) a 14 ty).1 a 16).toInt ((q_si (q_si (q_si ρ a 16 (ρ.1 a 15 + 1)) a 17 r) a 14 ty).1 a 14).toInt ((q_si (q_si (q_si ρ a 16 (ρ.1 a 15 + 1)) a 17 r) a 14 ty).1 a 17).toInt ((q_si (q_si (q_si ρ a 16 (ρ.1 a 15 + 1)) a 17 r) a 14 ty).1 a 18).toInt ((q_si (q_si (q_si ρ a 16 (ρ.1 a 15 + 1)) a 17 r) a 14 ty).2.1 a 19).toInt := by
          intro ty hs
          have f16 : (q_si (q_si (q_si ρ a 16 (ρ.1 a 15 + 1)) a 17 r) a 14 ty).1 a 16 = ρ.1 a 15 + 1 := by rw [si_f (by decide), si_f (by decide), si_eq]
          have f17 : (q_si (q_si (q_si ρ a 16 (ρ.1 a 15 + 1)) a 17 r) a 14 ty).1 a 17 = r := by rw [si_f (by decide), si_eq]
          have f14 : (q_si (q_si (q_si ρ a 16 (ρ.1 a 15 + 1)) a 17 r) a 14 ty).1 a 14 = ty := si_eq _ _ _ _
          have f15 : (q_si (q_si (q_si ρ a 16 (ρ.1 a 15 + 1)) a 17 r) a 14 ty).1 a 15 = ρ.1 a 15 := by rw [si_f (by decide), si_f (by decide), si_f (by decide)]
          rw [f16, f17, f14, f15, e1]
          refine ⟨((ht2.si _ ⟨rfl, by decide, by decide⟩).si _ ⟨rfl, by decide, by decide⟩).si _ ⟨rfl, by decide, by decide⟩, hb2, Or.inr (Or.inr (Or.inr ⟨q, ql, qd, rfl, hs⟩)), fun h => ?_, fun h => ?_⟩
          · rcases hs with ⟨h1, _⟩ | ⟨_, h2⟩
            · unfold tx_sg at h1; omega
            · omega
          · rcases hs with ⟨_, h2⟩ | ⟨_, h2⟩ <;> omega
        have sb : (F_X12_isSignByte X (q_si (q_si ρ a 16 (ρ.1 a 15 + 1)) a 17 r) a r).toInt = if B b = 59 ∨ B b = 60 ∨ B b = 62 ∨ B b = 61 then 1 else 0 := by
          simp only [F_X12_isSignByte]
          rw [lk]
          repeat' split
          all_goals first | rfl | omega
        rw [sb]
        by_cases qs : tx_sg (B b)
        · rw [if_pos (show B b = 59 ∨ B b = 60 ∨ B b = 62 ∨ B b = 61 from qs), if_neg (by decide)]
          exact fin 3 (Or.inl ⟨qs, rfl⟩)
        · rw [if_neg (show ¬ (B b = 59 ∨ B b = 60 ∨ B b = 62 ∨ B b = 61) from qs), if_pos rfl]
          exact fin 4 (Or.inr ⟨qs, rfl⟩)
  · rw [if_neg q]
    refine ⟨ht2.si _ ⟨rfl, by decide, by decide⟩, by rw [si_f (by decide)]; exact hb2, Or.inl ⟨by omega, by rw [si_eq]; rfl, by rw [si_f (by decide)]; exact he2⟩, fun h => ?_, fun h => ?_⟩
    · rw [si_eq] at h; exact absurd h (by decide)
    · rw [si_eq] at h; exact absurd h (by decide)
/-- the reference's next -/
theorem tm_next (E : tm_E X σ a n B) {p : Int} (hp : (σ.1 a 16).toInt = p) (h0 : 0 ≤ p ∧ p ≤ n) : tkl (tn_S a) (tn_L a) σ (F_X12_next X σ a) ∧ tx_tok B n p ((F_X12_next X σ a).1 a 15).toInt ((F_X12_next X σ a).1 a 16).toInt ((F_X12_next X σ a).1 a 14).toInt ((F_X12_next X σ a).1 a 17).toInt ∧ tm_ext B ((F_X12_next X σ a).1 a 15).toInt ((F_X12_next X σ a).1 a 16).toInt ((F_X12_next X σ a).1 a 14).toInt ((F_X12_next X σ a).1 a 17).toInt ((F_X12_next X σ a).1 a 18).toInt ((F_X12_next X σ a).2.1 a 19).toInt := by
  have E3 := E.2.1
  simp only [F_X12_next, ↓q_letE]
  obtain ⟨τ, hτ⟩ : ∃ τ, τ = q_si σ a 15 (σ.1 a 16) := ⟨_, rfl⟩
  rw [← hτ]
  have ht : tkl (tn_S a) (tn_L a) σ τ := by rw [hτ]; exact tkl.rf.si _ ⟨rfl, by decide, by decide⟩
  have hb : (τ.1 a 15).toInt = p := by rw [hτ, si_eq]; exact hp
  have h9 := (E.kS ht).1
  obtain ⟨k, hk⟩ : ∃ k, k = ((τ.1 a 9).toInt - (τ.1 a 15).toInt).toNat + 1 := ⟨_, rfl⟩
  rw [← hk]
  obtain ⟨τ', a1, a2, a3⟩ := tm_adv8 E k τ ht (by rw [hk, h9]; omega) (by omega) (by omega)
  rw [a1]
  rw [hb] at a3
  have hb2 : p ≤ (τ'.1 a 15).toInt := a3.1
  have hb3 : (τ'.1 a 15).toInt ≤ n := tx_run_le a3 h0.2
  obtain ⟨c1, c2, c3, c4⟩ := tm_J58 E a2 rfl (by omega) hb3
  refine ⟨c1, ?_⟩
  rw [c2]
  exact ⟨⟨a3, c3⟩, c4⟩
end TM
end
/-! FROM 48g.words.lean.txt -/
section
/-! WORDS -/
/-- the letters of the String constant r -/
def y_ch (r : Nat) (i : Int) : Int := ((q_sbyt.getD r []).getD i.toNat 0).toInt
/-- the number of the String constant r -/
def y_cw (r : Nat) : Int := match r with | 0 => 11843731 | 1 => 164968 | 2 => 12343 | 3 => 688 | 4 => 147182 | 5 => 624037 | 6 => 441972 | 7 => 549512370 | 9 => 402611 | 10 => 150637203 | 11 => 263620 | 12 => 486 | 13 => 5572 | 14 => 677454 | 15 => 643568 | 16 => 409072 | 17 => 762030 | 18 => 3197075 | 19 => 267312 | 20 => 20201198 | 21 => 24046 | _ => -2
theorem tj_asc : ∀ l ∈ q_sbyt, ∀ c ∈ l, 32 ≤ c.toInt ∧ c.toInt ≤ 122 := by decide +kernel
theorem tj_ch_b (r : Nat) (i : Int) : 0 ≤ y_ch r i ∧ y_ch r i ≤ 122 := by
  unfold y_ch
  by_cases h : r < q_sbyt.length
  · have e : q_sbyt.getD r [] = q_sbyt[r] := by simp [List.getD, h]
    rw [e]
    by_cases h2 : i.toNat < (q_sbyt[r]).length
    · have e2 : (q_sbyt[r]).getD i.toNat 0 = (q_sbyt[r])[i.toNat] := by simp [List.getD, h2]
      rw [e2]
      have := tj_asc _ (List.getElem_mem h) _ (List.getElem_mem h2)
      omega
    · have e2 : (q_sbyt[r]).getD i.toNat 0 = 0 := by simp [List.getD, List.getElem?_eq_none (Nat.le_of_not_lt h2)]
      rw [e2]
      decide
  · have e : q_sbyt.getD r [] = [] := by simp [List.getD, List.getElem?_eq_none (Nat.le_of_not_lt h)]
    rw [e]
    show 0 ≤ (0 : Int32).toInt ∧ (0 : Int32).toInt ≤ 122
    decide
theorem tj_len {X : XW} {σ : ST} (r : Nat) : (F_J0_length_8abf5 X σ r).toInt = ((q_slen.getD r 0 : Nat) : Int) := by
  simp only [F_J0_length_8abf5, F_J0_coder_7d493, ↓q_letE]
  rw [if_neg (by decide)]
  have e : (Int32.ofNat (q_slen.getD r 0)) >>> ((0 : Int32) &&& 31) = Int32.ofNat (q_slen.getD r 0) := sb_shr0 _
  rw [e]
  exact nI_toInt (q_slen_lt r)
theorem tj_chr {X : XW} {σ : ST} (r : Nat) {v : Int32} {i : Int} (hv : v.toInt = i) : (F_J0_charAt_5068e X σ r v).toInt = y_ch r i := by
  subst hv
  have hb := tj_ch_b r v.toInt
  have il : (F_J0_isLatin1_aae02 X σ r).toInt = 1 := by
    simp only [F_J0_isLatin1_aae02]
    rw [if_neg (by decide), if_pos (by decide)]
    rfl
  simp only [F_J0_charAt_5068e, F_J1_charAt_3b067, ↓q_letE]
  rw [il, if_neg (by decide), ar_cl]
  have e0 : ((q_sbyt.getD r []).getD v.toInt.toNat 0).toInt = y_ch r v.toInt := rfl
  have e1 : ((q_sbyt.getD r []).getD v.toInt.toNat 0 &&& 255).toInt = y_ch r v.toInt := by
    rw [Jvm.Kit.i32_mask (k := 8) _ 255 (by decide) (by decide), e0]
    have p : (2 : Int) ^ 8 = 256 := by decide
    rw [p]
    omega
  rw [lg_i2c_word (by rw [e1]; omega) (by rw [e1]; omega)]
  exact e1
theorem tx_wv_inj {B B' : Int → Int} {b b' : Int} {k : Nat} : ∀ {k' : Nat}, (∀ j : Int, b ≤ j → j < b + (k : Int) → tx_le (B j)) → (∀ j : Int, b' ≤ j → j < b' + (k' : Int) → tx_le (B' j)) → tx_wv B b k = tx_wv B' b' k' → k = k' ∧ ∀ i : Nat, i < k → B (b + (i : Int)) = B' (b' + (i : Int)) := by
  induction k with
  | zero =>
    intro k' h h' e
    cases k' with
    | zero => exact ⟨rfl, fun i hi => absurd hi (Nat.not_lt_zero _)⟩
    | succ m =>
      have a1 := (tx_wv_b (B := B') (b := b') (m := m) (fun j a c => h' j a (by omega))).1
      have a2 := h' (b' + (m : Int)) (by omega) (by omega)
      unfold tx_le at a2
      have e2 : (0 : Int) = tx_wv B' b' m * 32 + B' (b' + (m : Int)) - 96 := e
      omega
  | succ k ih =>
    intro k' h h' e
    have c2 := h (b + (k : Int)) (by omega) (by omega)
    unfold tx_le at c2
    have c1 := (tx_wv_b (B := B) (b := b) (m := k) (fun j a c => h j a (by omega))).1
    cases k' with
    | zero =>
      have e2 : tx_wv B b k * 32 + B (b + (k : Int)) - 96 = (0 : Int) := e
      omega
    | succ m =>
      have a1 := (tx_wv_b (B := B') (b := b') (m := m) (fun j a c => h' j a (by omega))).1
      have a2 := h' (b' + (m : Int)) (by omega) (by omega)
      unfold tx_le at a2
      have e2 : tx_wv B b k * 32 + B (b + (k : Int)) - 96 = tx_wv B' b' m * 32 + B' (b' + (m : Int)) - 96 := e
      have e3 : tx_wv B b k = tx_wv B' b' m := by omega
      have e4 : B (b + (k : Int)) = B' (b' + (m : Int)) := by omega
      obtain ⟨i1, i2⟩ := ih (fun j a c => h j a (by omega)) (fun j a c => h' j a (by omega)) e3
      subst i1
      refine ⟨rfl, fun i hi => ?_⟩
      by_cases q : i = k
      · subst q; exact e4
      · exact i2 i (by omega)
theorem tx_wv_ext {B B' : Int → Int} {b b' : Int} {k : Nat} (h : ∀ i : Nat, i < k → B (b + (i : Int)) = B' (b' + (i : Int))) : tx_wv B b k = tx_wv B' b' k := by
  induction k with
  | zero => rfl
  | succ k ih =>
    show tx_wv B b k * 32 + B (b + (k : Int)) - 96 = tx_wv B' b' k * 32 + B' (b' + (k : Int)) - 96
    rw [ih (fun i hi => h i (by omega)), h k (by omega)]
/-- the token from b to e is the word r -/
def y_wd (B : Int → Int) (b e : Int) (r : Nat) : Prop := e - b = ((q_slen.getD r 0 : Nat) : Int) ∧ ∀ i : Nat, i < q_slen.getD r 0 → B (b + (i : Int)) = y_ch r (i : Int)
/-- r is a word of letters, eight at the most, and its number is y_cw r -/
def y_isw (r : Nat) : Prop := r < 22 ∧ r ≠ 8
theorem y_isw_le : ∀ r, y_isw r → q_slen.getD r 0 ≤ 6 ∧ (∀ i, i < q_slen.getD r 0 → 97 ≤ ((q_sbyt.getD r []).getD i 0).toInt ∧ ((q_sbyt.getD r []).getD i 0).toInt ≤ 122) := by
  have h : ∀ r, r < 22 → r ≠ 8 → q_slen.getD r 0 ≤ 6 ∧ (∀ i, i < q_slen.getD r 0 → 97 ≤ ((q_sbyt.getD r []).getD i 0).toInt ∧ ((q_sbyt.getD r []).getD i 0).toInt ≤ 122) := by decide +kernel
  exact fun r hr => h r hr.1 hr.2
theorem y_cw_wv : ∀ r, r < 22 → r ≠ 8 → tx_wv (y_ch r) 0 (q_slen.getD r 0) = y_cw r := by decide +kernel
theorem y_ch_le {r : Nat} (hr : y_isw r) (j : Int) (h0 : 0 ≤ j) (h1 : j < ((q_slen.getD r 0 : Nat) : Int)) : tx_le (y_ch r j) := (y_isw_le r hr).2 j.toNat (by omega)
/-- by its number -/
theorem y_wd_iff {B : Int → Int} {b e : Int} {r : Nat} (hr : y_isw r) (hbe : b ≤ e) (hl : ∀ j, b ≤ j → j < e → tx_le (B j)) {word : Int} (h8 : e - b ≤ 8 → word = tx_wv B b (e - b).toNat) (h9 : 8 < e - b → word = -1) : y_wd B b e r ↔ word = y_cw r := by
  have ln := (y_isw_le r hr).1
  have cw := y_cw_wv r hr.1 hr.2
  constructor
  · rintro ⟨h1, h2⟩
    rw [h8 (by omega), ← cw, h1, Int.toNat_natCast]
    exact tx_wv_ext (fun i hi => by rw [Int.zero_add]; exact h2 i hi)
  · intro h
    by_cases q : e - b ≤ 8
    · rw [h8 q, ← cw] at h
      have z := tx_wv_inj (B := B) (B' := y_ch r) (b := b) (b' := 0) (k := (e - b).toNat) (k' := q_slen.getD r 0) (fun j a c => hl j a (by omega)) (fun j a c => y_ch_le hr j a (by omega)) h
      refine ⟨by omega, fun i hi => ?_⟩
      have := z.2 i (by omega)
      rw [Int.zero_add] at this
      exact this
    · rw [h9 (by omega)] at h
      have p : 0 ≤ y_cw r := by rw [← cw]; exact (tx_wv_b (fun j a c => y_ch_le hr j a (by omega))).1
      omega

section WD
variable {X : XW} {σ τ : ST} {R T a : Nat} {n : Int} {B : Int → Int}
theorem tc_isWordL (E : tc_E X σ R T n B) {b e : Int} (hb : (σ.1 R 2).toInt = b) (h0 : 0 ≤ b) (hen : e ≤ n) {r : Nat} (hr : r < 22) (hlen : e - b = ((q_slen.getD r 0 : Nat) : Int)) (k : Nat) : ∀ x : Int32, (2147483647 - x.toInt).toNat < k → 0 ≤ x.toInt → x.toInt ≤ e - b → ((F_X3_isWord_L23_1 X σ r R k x).toInt = 1 ∨ (F_X3_isWord_L23_1 X σ r R k x).toInt = 0) ∧ ((F_X3_isWord_L23_1 X σ r R k x).toInt = 1 ↔ ∀ i : Nat, x.toInt ≤ (i : Int) → i < q_slen.getD r 0 → B (b + (i : Int)) = y_ch r (i : Int)) := by
  have E3 := E.2.2.1
  induction k with
  | zero => intro x hm; exact absurd hm (Nat.not_lt_zero _)
  | succ k ih =>
    intro x hm x0 x1
    rw [F_X3_isWord_L23_1_s]
    simp only [F_X3_isWord_B23_1, ↓q_letE]
    rw [tj_len, tj_chr r (v := x) rfl]
    by_cases q : x.toInt < ((q_slen.getD r 0 : Nat) : Int)
    · rw [if_pos q, tc_sig E hb ⟨h0, by omega⟩ (v := x) rfl ⟨x0, by omega⟩, tx_D_in (by omega) (by omega)]
      have ex : ((x.toInt.toNat : Nat) : Int) = x.toInt := by omega
      by_cases q1 : y_ch r x.toInt = B (b + x.toInt)
      · rw [if_pos q1]
        have e1 : (x + 1).toInt = x.toInt + 1 := y_inc (by omega)
        obtain ⟨i1, i2⟩ := ih (x + 1) (by omega) (by omega) (by omega)
        refine ⟨i1, ?_⟩
        rw [i2, e1]
        constructor
        · intro h i a c
          by_cases hi : (i : Int) = x.toInt
          · rw [hi]; exact q1.symm
          · exact h i (by omega) c
        · intro h i a c
          exact h i (by omega) c
      · rw [if_neg q1]
        refine ⟨Or.inr rfl, ⟨fun h => absurd h (by decide), fun h => absurd ?_ q1⟩⟩
        have := h x.toInt.toNat (by omega) (by omega)
        rw [ex] at this
        exact this.symm
    · rw [if_neg q]
      exact ⟨Or.inl rfl, ⟨fun _ i a c => by omega, fun _ => rfl⟩⟩
theorem tc_isWord (E : tc_E X σ R T n B) {b e : Int} (hb : (σ.1 R 2).toInt = b) (he : (σ.1 R 3).toInt = e) (h0 : 0 ≤ b) (hbe : b ≤ e) (hen : e ≤ n) {r : Nat} (hr : r < 22) : ((F_X3_isWord X σ R r).toInt = 1 ∨ (F_X3_isWord X σ R r).toInt = 0) ∧ ((F_X3_isWord X σ R r).toInt = 1 ↔ ((σ.1 R 4).toInt = 1 ∧ y_wd B b e r)) := by
  have E3 := E.2.2.1
  have sz : (F_X3_size X σ R).toInt = e - b := by
    simp only [F_X3_size, ↓q_letE]
    rw [ar_sub, he, hb, ar_wr (by omega) (by omega)]
  simp only [F_X3_isWord, ↓q_letE]
  rw [sz, tj_len]
  by_cases q : (σ.1 R 4).toInt = 1
  · rw [if_pos q]
    by_cases q1 : e - b = ((q_slen.getD r 0 : Nat) : Int)
    · rw [if_pos q1]
      obtain ⟨z1, z2⟩ := tc_isWordL E hb h0 hen hr q1 ((2147483647 - (0 : Int32).toInt).toNat + 1) 0 (by decide) (by decide) (by show (0 : Int) ≤ _; omega)
      refine ⟨z1, ?_⟩
      rw [z2]
      constructor
      · intro h
        exact ⟨q, q1, fun i hi => h i (Int.natCast_nonneg i) hi⟩
      · rintro ⟨_, _, h⟩ i _ hi
        exact h i hi
    · rw [if_neg q1]
      exact ⟨Or.inr rfl, ⟨fun h => absurd h (by decide), fun h => absurd h.2.1 q1⟩⟩
  · rw [if_neg q]
    exact ⟨Or.inr rfl, ⟨fun h => absurd h (by decide), fun h => absurd h.1 q⟩⟩
theorem tm_isWord (w : Int64) : (F_X12_isWord X σ a w).toInt = if (σ.1 a 14).toInt = 1 ∧ (σ.2.1 a 19).toInt = w.toInt then 1 else 0 := by
  simp only [F_X12_isWord, ↓q_letE]
  by_cases q : (σ.1 a 14).toInt = 1
  · rw [if_pos q]
    have hc := lg_cmp_eq (σ.2.1 a 19) w
    by_cases q1 : (σ.2.1 a 19).toInt = w.toInt
    · have e : σ.2.1 a 19 = w := Int64.toInt_inj.mp q1
      rw [hc.mpr e, if_pos (by decide), if_pos ⟨q, q1⟩]
      rfl
    · have e : ¬ (lg_cmp (σ.2.1 a 19) w).toInt = 0 := fun h => q1 (congrArg Int64.toInt (hc.mp (q_eqI.mpr h)))
      rw [if_neg e, if_neg (fun h => q1 h.2)]
      rfl
  · rw [if_neg q, if_neg (fun h => q h.1)]
    rfl

theorem sp_kinds : (F_X12_spelled X σ (107 : Int32) (105 : Int32) (110 : Int32) (100 : Int32) (115 : Int32) (0 : Int32)).toInt = 11843731 := by
  simp only [F_X12_spelled, ↓q_letE]
  decide +kernel
theorem sp_each : (F_X12_spelled X σ (101 : Int32) (97 : Int32) (99 : Int32) (104 : Int32) (0 : Int32) (0 : Int32)).toInt = 164968 := by
  simp only [F_X12_spelled, ↓q_letE]
  decide +kernel
theorem sp_law : (F_X12_spelled X σ (108 : Int32) (97 : Int32) (119 : Int32) (0 : Int32) (0 : Int32) (0 : Int32)).toInt = 12343 := by
  simp only [F_X12_spelled, ↓q_letE]
  decide +kernel
theorem sp_up : (F_X12_spelled X σ (117 : Int32) (112 : Int32) (0 : Int32) (0 : Int32) (0 : Int32) (0 : Int32)).toInt = 688 := by
  simp only [F_X12_spelled, ↓q_letE]
  decide +kernel
theorem sp_down : (F_X12_spelled X σ (100 : Int32) (111 : Int32) (119 : Int32) (110 : Int32) (0 : Int32) (0 : Int32)).toInt = 147182 := by
  simp only [F_X12_spelled, ↓q_letE]
  decide +kernel
theorem sp_same : (F_X12_spelled X σ (115 : Int32) (97 : Int32) (109 : Int32) (101 : Int32) (0 : Int32) (0 : Int32)).toInt = 624037 := by
  simp only [F_X12_spelled, ↓q_letE]
  decide +kernel
theorem sp_most : (F_X12_spelled X σ (109 : Int32) (111 : Int32) (115 : Int32) (116 : Int32) (0 : Int32) (0 : Int32)).toInt = 441972 := by
  simp only [F_X12_spelled, ↓q_letE]
  decide +kernel
theorem sp_player : (F_X12_spelled X σ (112 : Int32) (108 : Int32) (97 : Int32) (121 : Int32) (101 : Int32) (114 : Int32)).toInt = 549512370 := by
  simp only [F_X12_spelled, ↓q_letE]
  decide +kernel
theorem sp_lies : (F_X12_spelled X σ (108 : Int32) (105 : Int32) (101 : Int32) (115 : Int32) (0 : Int32) (0 : Int32)).toInt = 402611 := by
  simp only [F_X12_spelled, ↓q_letE]
  decide +kernel
theorem sp_doubts : (F_X12_spelled X σ (100 : Int32) (111 : Int32) (117 : Int32) (98 : Int32) (116 : Int32) (115 : Int32)).toInt = 150637203 := by
  simp only [F_X12_spelled, ↓q_letE]
  decide +kernel
theorem sp_hand : (F_X12_spelled X σ (104 : Int32) (97 : Int32) (110 : Int32) (100 : Int32) (0 : Int32) (0 : Int32)).toInt = 263620 := by
  simp only [F_X12_spelled, ↓q_letE]
  decide +kernel
theorem sp_of : (F_X12_spelled X σ (111 : Int32) (102 : Int32) (0 : Int32) (0 : Int32) (0 : Int32) (0 : Int32)).toInt = 486 := by
  simp only [F_X12_spelled, ↓q_letE]
  decide +kernel
theorem sp_end : (F_X12_spelled X σ (101 : Int32) (110 : Int32) (100 : Int32) (0 : Int32) (0 : Int32) (0 : Int32)).toInt = 5572 := by
  simp only [F_X12_spelled, ↓q_letE]
  decide +kernel
theorem sp_turn : (F_X12_spelled X σ (116 : Int32) (117 : Int32) (114 : Int32) (110 : Int32) (0 : Int32) (0 : Int32)).toInt = 677454 := by
  simp only [F_X12_spelled, ↓q_letE]
  decide +kernel
theorem sp_stop : (F_X12_spelled X σ (115 : Int32) (116 : Int32) (111 : Int32) (112 : Int32) (0 : Int32) (0 : Int32)).toInt = 643568 := by
  simp only [F_X12_spelled, ↓q_letE]
  decide +kernel
theorem sp_loop : (F_X12_spelled X σ (108 : Int32) (111 : Int32) (111 : Int32) (112 : Int32) (0 : Int32) (0 : Int32)).toInt = 409072 := by
  simp only [F_X12_spelled, ↓q_letE]
  decide +kernel
theorem sp_when : (F_X12_spelled X σ (119 : Int32) (104 : Int32) (101 : Int32) (110 : Int32) (0 : Int32) (0 : Int32)).toInt = 762030 := by
  simp only [F_X12_spelled, ↓q_letE]
  decide +kernel
theorem sp_cards : (F_X12_spelled X σ (99 : Int32) (97 : Int32) (114 : Int32) (100 : Int32) (115 : Int32) (0 : Int32)).toInt = 3197075 := by
  simp only [F_X12_spelled, ↓q_letE]
  decide +kernel
theorem sp_heap : (F_X12_spelled X σ (104 : Int32) (101 : Int32) (97 : Int32) (112 : Int32) (0 : Int32) (0 : Int32)).toInt = 267312 := by
  simp only [F_X12_spelled, ↓q_letE]
  decide +kernel
theorem sp_shown : (F_X12_spelled X σ (115 : Int32) (104 : Int32) (111 : Int32) (119 : Int32) (110 : Int32) (0 : Int32)).toInt = 20201198 := by
  simp only [F_X12_spelled, ↓q_letE]
  decide +kernel
theorem sp_won : (F_X12_spelled X σ (119 : Int32) (111 : Int32) (110 : Int32) (0 : Int32) (0 : Int32) (0 : Int32)).toInt = 24046 := by
  simp only [F_X12_spelled, ↓q_letE]
  decide +kernel
theorem tm_isKinds : (F_X12_isKinds X σ a).toInt = if (σ.1 a 14).toInt = 1 ∧ (σ.2.1 a 19).toInt = 11843731 then 1 else 0 := by
  simp only [F_X12_isKinds, ↓q_letE]
  rw [tm_isWord, sp_kinds]
theorem tm_isEach : (F_X12_isEach X σ a).toInt = if (σ.1 a 14).toInt = 1 ∧ (σ.2.1 a 19).toInt = 164968 then 1 else 0 := by
  simp only [F_X12_isEach, ↓q_letE]
  rw [tm_isWord, sp_each]
theorem tm_isLaw : (F_X12_isLaw X σ a).toInt = if (σ.1 a 14).toInt = 1 ∧ (σ.2.1 a 19).toInt = 12343 then 1 else 0 := by
  simp only [F_X12_isLaw, ↓q_letE]
  rw [tm_isWord, sp_law]
theorem tm_isMost : (F_X12_isMost X σ a).toInt = if (σ.1 a 14).toInt = 1 ∧ (σ.2.1 a 19).toInt = 441972 then 1 else 0 := by
  simp only [F_X12_isMost, ↓q_letE]
  rw [tm_isWord, sp_most]
theorem tm_isPlayer : (F_X12_isPlayer X σ a).toInt = if (σ.1 a 14).toInt = 1 ∧ (σ.2.1 a 19).toInt = 549512370 then 1 else 0 := by
  simp only [F_X12_isPlayer, ↓q_letE]
  rw [tm_isWord, sp_player]
theorem tm_isLies : (F_X12_isLies X σ a).toInt = if (σ.1 a 14).toInt = 1 ∧ (σ.2.1 a 19).toInt = 402611 then 1 else 0 := by
  simp only [F_X12_isLies, ↓q_letE]
  rw [tm_isWord, sp_lies]
theorem tm_isDoubts : (F_X12_isDoubts X σ a).toInt = if (σ.1 a 14).toInt = 1 ∧ (σ.2.1 a 19).toInt = 150637203 then 1 else 0 := by
  simp only [F_X12_isDoubts, ↓q_letE]
  rw [tm_isWord, sp_doubts]
theorem tm_isHand : (F_X12_isHand X σ a).toInt = if (σ.1 a 14).toInt = 1 ∧ (σ.2.1 a 19).toInt = 263620 then 1 else 0 := by
  simp only [F_X12_isHand, ↓q_letE]
  rw [tm_isWord, sp_hand]
theorem tm_isOf : (F_X12_isOf X σ a).toInt = if (σ.1 a 14).toInt = 1 ∧ (σ.2.1 a 19).toInt = 486 then 1 else 0 := by
  simp only [F_X12_isOf, ↓q_letE]
  rw [tm_isWord, sp_of]
theorem tm_isEnd : (F_X12_isEnd X σ a).toInt = if (σ.1 a 14).toInt = 1 ∧ (σ.2.1 a 19).toInt = 5572 then 1 else 0 := by
  simp only [F_X12_isEnd, ↓q_letE]
  rw [tm_isWord, sp_end]
theorem tm_if1 {P : Prop} {i : Decidable P} : ((if P then (1 : Int) else 0) = 0) ↔ ¬ P := by
  constructor
  · intro h q; rw [if_pos q] at h; exact absurd h (by decide)
  · intro q; rw [if_neg q]
theorem tm_lawWord : (F_X12_lawWord X σ a).toInt = if (σ.1 a 14).toInt = 1 ∧ (σ.2.1 a 19).toInt = 688 then 0 else if (σ.1 a 14).toInt = 1 ∧ (σ.2.1 a 19).toInt = 147182 then 1 else if (σ.1 a 14).toInt = 1 ∧ (σ.2.1 a 19).toInt = 624037 then 2 else -1 := by
  simp only [F_X12_lawWord, ↓q_letE]
  rw [tm_isWord, tm_isWord, tm_isWord, sp_up, sp_down, sp_same]
  simp only [tm_if1]
  repeat' split
  all_goals first | rfl | (exfalso; omega)
theorem tm_stepWord : (F_X12_stepWord X σ a).toInt = if (σ.1 a 14).toInt = 1 ∧ (σ.2.1 a 19).toInt = 677454 then 0 else if (σ.1 a 14).toInt = 1 ∧ (σ.2.1 a 19).toInt = 402611 then 1 else if (σ.1 a 14).toInt = 1 ∧ (σ.2.1 a 19).toInt = 150637203 then 2 else if (σ.1 a 14).toInt = 1 ∧ (σ.2.1 a 19).toInt = 762030 then 3 else if (σ.1 a 14).toInt = 1 ∧ (σ.2.1 a 19).toInt = 409072 then 4 else if (σ.1 a 14).toInt = 1 ∧ (σ.2.1 a 19).toInt = 643568 then 5 else -1 := by
  simp only [F_X12_stepWord, ↓q_letE]
  rw [tm_isWord, tm_isLies, tm_isDoubts, tm_isWord, tm_isWord, tm_isWord, sp_turn, sp_when, sp_loop, sp_stop]
  simp only [tm_if1]
  repeat' split
  all_goals first | rfl | (exfalso; omega)
theorem tm_testWord : (F_X12_testWord X σ a).toInt = if (σ.1 a 14).toInt = 1 ∧ (σ.2.1 a 19).toInt = 3197075 then 0 else if (σ.1 a 14).toInt = 1 ∧ (σ.2.1 a 19).toInt = 267312 then 1 else if (σ.1 a 14).toInt = 1 ∧ (σ.2.1 a 19).toInt = 20201198 then 2 else if (σ.1 a 14).toInt = 1 ∧ (σ.2.1 a 19).toInt = 24046 then 3 else -1 := by
  simp only [F_X12_testWord, ↓q_letE]
  rw [tm_isWord, tm_isWord, tm_isWord, tm_isWord, sp_cards, sp_heap, sp_shown, sp_won]
  simp only [tm_if1]
  repeat' split
  all_goals first | rfl | (exfalso; omega)
/-- the numbers of the words that are no names -/
def y_res : List Int := [11843731, 164968, 12343, 441972, 549512370, 402611, 150637203, 263620, 486, 688, 147182, 624037, 677454, 762030, 3197075, 267312, 24046, 20201198, 409072, 5572, 643568]
theorem tm_isKept (h1 : (σ.1 a 14).toInt = 1) : (F_X12_isKept X σ a).toInt = if (σ.2.1 a 19).toInt ∈ y_res then 1 else 0 := by
  obtain ⟨w, hw⟩ : ∃ w, (σ.2.1 a 19).toInt = w := ⟨_, rfl⟩
  simp only [F_X12_isKept, ↓q_letE]
  rw [tm_isKinds, tm_isEach, tm_isLaw, tm_isMost, tm_isPlayer, tm_isHand, tm_isOf, tm_lawWord, tm_stepWord, tm_testWord, tm_isEnd]
  simp only [tm_if1, hw, h1, true_and]
  by_cases m : w ∈ y_res
  · rw [if_pos m]
    simp only [y_res, List.mem_cons, List.not_mem_nil, or_false] at m
    rcases m with rfl | rfl | rfl | rfl | rfl | rfl | rfl | rfl | rfl | rfl | rfl | rfl | rfl | rfl | rfl | rfl | rfl | rfl | rfl | rfl | rfl <;> rfl
  · rw [if_neg m]
    simp only [y_res, List.mem_cons, List.not_mem_nil, or_false, not_or] at m
    obtain ⟨m0, m1, m2, m3, m4, m5, m6, m7, m8, m9, m10, m11, m12, m13, m14, m15, m16, m17, m18, m19, m20⟩ := m
    simp only [*, if_false, not_false_eq_true, if_true]
    rfl
end WD
end
/-! FROM 48h.lock.lean.txt -/
section
/-! THE TWO READERS, STEP BY STEP -/
/-- the reader's cells: token, fault, place -/
def tc_S2 (R : Nat) : Nat → Nat → Prop := fun b f => b = R ∧ 2 ≤ f ∧ f ≤ 7
def tn_S2 (a : Nat) : Nat → Nat → Prop := fun b f => b = a ∧ 12 ≤ f ∧ f ≤ 18
/-- both stand at the same token -/
def tl_K (σ : ST) (R : Nat) (τ : ST) (a : Nat) (B : Int → Int) (n : Int) : Prop :=
  (σ.1 R 2).toInt = (τ.1 a 15).toInt ∧ (σ.1 R 3).toInt = (τ.1 a 16).toInt ∧ (σ.1 R 4).toInt = (τ.1 a 14).toInt ∧ ((τ.1 a 14).toInt = 2 → (σ.1 R 5).toInt = (τ.1 a 17).toInt) ∧
  tx_cls B n (τ.1 a 15).toInt (τ.1 a 16).toInt (τ.1 a 14).toInt (τ.1 a 17).toInt ∧ tm_ext B (τ.1 a 15).toInt (τ.1 a 16).toInt (τ.1 a 14).toInt (τ.1 a 17).toInt (τ.1 a 18).toInt (τ.2.1 a 19).toInt ∧ 0 ≤ (τ.1 a 15).toInt ∧ (τ.1 a 15).toInt ≤ n ∧ (σ.1 R 6).toInt = 0 ∧ (σ.1 R 7).toInt = -1
/-- both have the same fault -/
def tl_F (σ : ST) (R : Nat) (τ : ST) (a : Nat) : Prop := (σ.1 R 6).toInt = (τ.1 a 12).toInt ∧ 0 < (τ.1 a 12).toInt ∧ (σ.1 R 7).toInt = (τ.1 a 13).toInt
theorem tx_cls_b {B : Int → Int} {n b e ty val : Int} (h : tx_cls B n b e ty val) (hb : b ≤ n) : b ≤ e ∧ e ≤ n ∧ 0 ≤ ty ∧ ty ≤ 4 ∧ (ty ≠ 0 → b < e) ∧ (ty = 0 ↔ b = n) := by
  rcases h with ⟨q1, q2, q3⟩ | ⟨q1, q2, q3, q4⟩ | ⟨q1, q2, q3, q4⟩ | ⟨q1, q2, q3, q4, q5⟩
  · omega
  · have b1 := tx_run_le q4 (by omega)
    have b2 := tx_run_ne q4 ⟨q1, q2⟩
    omega
  · have b1 := tx_run_le q3 (by omega)
    have b2 := tx_run_ne q3 ⟨q1, q2⟩
    omega
  · omega
section TL
variable {X : XW} {σ τ : ST} {R T a : Nat} {n : Int} {B : Int → Int}
theorem tc_E.k2 {σ' : ST} (E : tc_E X σ R T n B) (h : tk (tc_S2 R) σ σ') : tc_E X σ' R T n B := E.k h (fun b f q => ⟨fun e => E.2.2.2.1 (e.symm.trans q.1), fun e => absurd q.2.1 (by rw [e.2]; decide)⟩)
theorem tm_E.k2 {τ' : ST} (E : tm_E X τ a n B) (h : tkl (tn_S2 a) (tn_L a) τ τ') : tm_E X τ' a n B := E.k h (fun b f q => ⟨fun e => E.2.2.1 (e.symm.trans q.1), fun e => absurd q.2.1 (by rw [e.2]; decide)⟩)
theorem tc_S_S2 {R : Nat} : ∀ b f, tc_S R b f → tc_S2 R b f := fun _ _ h => ⟨h.1, h.2.1, by have := h.2.2; omega⟩
theorem tn_S_S2 {a : Nat} : ∀ b f, tn_S a b f → tn_S2 a b f := fun _ _ h => ⟨h.1, by have := h.2.1; omega, h.2.2⟩
/-- where both ends are the same, both go on to the same token -/
theorem tl_adv (E : tc_E X σ R T n B) (M : tm_E X τ a n B) {p : Int} (hc : (σ.1 R 3).toInt = p) (hm : (τ.1 a 16).toInt = p) (h0 : 0 ≤ p ∧ p ≤ n) (h6 : (σ.1 R 6).toInt = 0) (h7 : (σ.1 R 7).toInt = -1) :
    tk (tc_S R) σ (F_X3_advance X σ R) ∧ tkl (tn_S a) (tn_L a) τ (F_X12_next X τ a) ∧ tl_K (F_X3_advance X σ R) R (F_X12_next X τ a) a B n ∧ p ≤ ((F_X12_next X τ a).1 a 15).toInt := by
  obtain ⟨c1, c2⟩ := tc_adv E hc h0
  obtain ⟨m1, m2, m3⟩ := tm_next M hm h0
  obtain ⟨u1, u2, u3, u4⟩ := tx_tok_u m2 c2
  have bb := tx_tok_b m2 h0
  have c6 : ((F_X3_advance X σ R).1 R 6).toInt = 0 := by rw [c1.1 R 6 (fun q => absurd q.2.2 (by decide))]; exact h6
  have c7 : ((F_X3_advance X σ R).1 R 7).toInt = -1 := by rw [c1.1 R 7 (fun q => absurd q.2.2 (by decide))]; exact h7
  exact ⟨c1, m1, ⟨u1, u2, u3, fun h => u4 h, m2.2, m3, by omega, by omega, c6, c7⟩, bb.1⟩
theorem tl_K.b (K : tl_K σ R τ a B n) : (τ.1 a 15).toInt ≤ (τ.1 a 16).toInt ∧ (τ.1 a 16).toInt ≤ n ∧ 0 ≤ (τ.1 a 14).toInt ∧ (τ.1 a 14).toInt ≤ 4 ∧ ((τ.1 a 14).toInt ≠ 0 → (τ.1 a 15).toInt < (τ.1 a 16).toInt) ∧ ((τ.1 a 14).toInt = 0 ↔ (τ.1 a 15).toInt = n) := by
  obtain ⟨k1, k2, k3, k4, k5, k6, k7, k8⟩ := K
  exact tx_cls_b k5 k8.1
theorem tl_adv2 (E : tc_E X σ R T n B) (M : tm_E X τ a n B) (K : tl_K σ R τ a B n) : tk (tc_S R) σ (F_X3_advance X σ R) ∧ tkl (tn_S a) (tn_L a) τ (F_X12_next X τ a) ∧ tl_K (F_X3_advance X σ R) R (F_X12_next X τ a) a B n ∧ (τ.1 a 16).toInt ≤ ((F_X12_next X τ a).1 a 15).toInt := by
  have b := K.b
  have k7 := K.2.2.2.2.2.2
  exact tl_adv E M K.2.1 rfl ⟨by omega, by omega⟩ k7.2.2.1 k7.2.2.2
theorem tl_le (K : tl_K σ R τ a B n) (h : (τ.1 a 14).toInt = 1) : (∀ j, (τ.1 a 15).toInt ≤ j → j < (τ.1 a 16).toInt → tx_le (B j)) := by
  rcases K.2.2.2.2.1 with ⟨q1, q2, q3⟩ | ⟨q1, q2, q3, q4⟩ | ⟨q1, q2, q3, q4⟩ | ⟨q1, q2, q3, q4, q5⟩
  · omega
  · exact fun j a c => (q4.2.1 j a c).2
  · rcases q4 with ⟨_, z⟩ | ⟨_, z, _⟩ <;> omega
  · rcases q5 with ⟨_, z⟩ | ⟨_, z⟩ <;> omega
/-- a word of the text -/
theorem tl_isWord (E : tc_E X σ R T n B) (K : tl_K σ R τ a B n) {r : Nat} (hr : y_isw r) : (F_X3_isWord X σ R r).toInt = if (τ.1 a 14).toInt = 1 ∧ (τ.2.1 a 19).toInt = y_cw r then 1 else 0 := by
  have b := K.b
  obtain ⟨k1, k2, k3, k4, k5, k6, k7, k8⟩ := id K
  obtain ⟨w1, w2⟩ := tc_isWord E k1 k2 k7 b.1 b.2.1 hr.1
  rw [k3] at w2
  by_cases q : (τ.1 a 14).toInt = 1
  · have x := k6.2 q
    have y := y_wd_iff hr b.1 (tl_le K q) x.2.1 x.2.2
    by_cases q2 : (τ.2.1 a 19).toInt = y_cw r
    · rw [if_pos ⟨q, q2⟩]
      exact w2.mpr ⟨q, y.mpr q2⟩
    · rw [if_neg (fun h => q2 h.2)]
      rcases w1 with w1 | w1
      · exact absurd (y.mp (w2.mp w1).2) q2
      · exact w1
  · rw [if_neg (fun h => q h.1)]
    rcases w1 with w1 | w1
    · exact absurd (w2.mp w1).1 q
    · exact w1
/-- the class's fault -/
theorem tc_fails (k : Int32) : ∃ σ' : ST, F_X3_fails X σ R k = (0, σ') ∧ tk (tc_S2 R) σ σ' ∧ (σ'.1 R 6).toInt = (if (σ.1 R 4).toInt = 4 then 1 else k.toInt) ∧ σ'.1 R 7 = σ.1 R 2 := by
  simp only [F_X3_fails, ↓q_letE]
  by_cases q : (σ.1 R 4).toInt = 4
  · rw [if_pos q, if_pos q]
    exact ⟨_, rfl, (tk.rf.si _ ⟨rfl, by decide, by decide⟩).si _ ⟨rfl, by decide, by decide⟩, by rw [si_f (by decide), si_eq]; rfl, by rw [si_eq, si_f (by decide)]⟩
  · rw [if_neg q, if_neg q]
    exact ⟨_, rfl, (tk.rf.si _ ⟨rfl, by decide, by decide⟩).si _ ⟨rfl, by decide, by decide⟩, by rw [si_f (by decide), si_eq], by rw [si_eq, si_f (by decide)]⟩
/-- the reference's fault -/
theorem tm_fail (h : (τ.1 a 12).toInt = 0) (k w : Int32) : tkl (tn_S2 a) (tn_L a) τ (F_X12_fail X τ a k w) ∧ ((F_X12_fail X τ a k w).1 a 12).toInt = k.toInt ∧ ((F_X12_fail X τ a k w).1 a 13).toInt = w.toInt := by
  simp only [F_X12_fail, ↓q_letE]
  rw [if_neg (by omega)]
  exact ⟨(tkl.rf.si _ ⟨rfl, by decide, by decide⟩).si _ ⟨rfl, by decide, by decide⟩, by rw [si_f (by decide), si_eq], by rw [si_eq]⟩
theorem tm_wrong (h : (τ.1 a 12).toInt = 0) : tkl (tn_S2 a) (tn_L a) τ (F_X12_wrong X τ a) ∧ ((F_X12_wrong X τ a).1 a 12).toInt = (if (τ.1 a 14).toInt = 4 then 1 else 2) ∧ ((F_X12_wrong X τ a).1 a 13).toInt = (τ.1 a 15).toInt := by
  simp only [F_X12_wrong, ↓q_letE]
  by_cases q : (τ.1 a 14).toInt = 4
  · rw [if_pos q, if_pos q]
    exact tm_fail h 1 _
  · rw [if_neg q, if_neg q]
    exact tm_fail h 2 _
theorem tm_must2 (h : 0 < (τ.1 a 12).toInt) (v : Int32) : F_X12_must X τ a v = τ := by
  simp only [F_X12_must, ↓q_letE]
  rw [if_pos h]
theorem tm_count2 (h : 0 < (τ.1 a 12).toInt) (v w : Int32) : F_X12_count X τ a v w = (0, τ) := by
  simp only [F_X12_count, F_X12_count_J19_1, ↓q_letE]
  have h0 : ¬ (τ.1 a 12).toInt = 0 := by omega
  rw [if_neg h0, if_neg h0, if_pos h]
/-- both fail at the same token -/
theorem tl_wrong (K : tl_K σ R τ a B n) (h : (τ.1 a 12).toInt = 0) : ∃ σ' : ST, F_X3_fails X σ R 2 = (0, σ') ∧ tk (tc_S2 R) σ σ' ∧ tkl (tn_S2 a) (tn_L a) τ (F_X12_wrong X τ a) ∧ tl_F σ' R (F_X12_wrong X τ a) a := by
  obtain ⟨k1, k2, k3, -⟩ := id K
  obtain ⟨σ', a1, a2, a3, a4⟩ := tc_fails (X := X) (σ := σ) (R := R) 2
  obtain ⟨m1, m2, m3⟩ := tm_wrong (X := X) h
  have e2 : (2 : Int32).toInt = 2 := rfl
  refine ⟨σ', a1, a2, m1, ?_, ?_, ?_⟩
  · rw [a3, m2, k3, e2]
  · rw [m2]; split <;> decide
  · rw [a4, m3, k1]
/-- both fail with a fault of their own, at a token that is one -/
theorem tl_fail (K : tl_K σ R τ a B n) (h : (τ.1 a 12).toInt = 0) (h4 : (τ.1 a 14).toInt ≠ 4) {k : Int32} (hk : 0 < k.toInt) {w : Int32} (hw : w.toInt = (τ.1 a 15).toInt) : ∃ σ' : ST, F_X3_fails X σ R k = (0, σ') ∧ tk (tc_S2 R) σ σ' ∧ tkl (tn_S2 a) (tn_L a) τ (F_X12_fail X τ a k w) ∧ tl_F σ' R (F_X12_fail X τ a k w) a := by
  obtain ⟨k1, k2, k3, -⟩ := id K
  obtain ⟨σ', a1, a2, a3, a4⟩ := tc_fails (X := X) (σ := σ) (R := R) k
  obtain ⟨m1, m2, m3⟩ := tm_fail (X := X) h k w
  refine ⟨σ', a1, a2, m1, ?_, ?_, ?_⟩
  · rw [a3, m2, k3, if_neg h4]
  · rw [m2]; exact hk
  · rw [a4, m3, k1, hw]
/-- what comes of a step: both went on, or both failed -/
def tl_O (X : XW) (σ : ST) (R : Nat) (τ : ST) (a : Nat) (B : Int → Int) (n : Int) (ok : Prop) (σ' τ' : ST) : Prop :=
  tk (tc_S2 R) σ σ' ∧ tkl (tn_S2 a) (tn_L a) τ τ' ∧ (ok ∧ tl_K σ' R τ' a B n ∧ (τ'.1 a 12).toInt = 0 ∧ (τ.1 a 16).toInt ≤ (τ'.1 a 15).toInt ∨ ¬ ok ∧ tl_F σ' R τ' a)
theorem tk.S2 {σ σ' : ST} {R : Nat} (h : tk (tc_S R) σ σ') : tk (tc_S2 R) σ σ' := h.mono tc_S_S2
theorem tkl.S2 {τ τ' : ST} {a : Nat} (h : tkl (tn_S a) (tn_L a) τ τ') : tkl (tn_S2 a) (tn_L a) τ τ' := h.mono tn_S_S2 (fun _ _ h => h)
theorem tn_12 {τ τ' : ST} (h : tkl (tn_S a) (tn_L a) τ τ') : τ'.1 a 12 = τ.1 a 12 := h.1 a 12 (fun q => absurd q.2.1 (by decide))
/-- a word that must stand there -/
theorem tl_passWord (E : tc_E X σ R T n B) (M : tm_E X τ a n B) (K : tl_K σ R τ a B n) (h : (τ.1 a 12).toInt = 0) {r : Nat} (hr : y_isw r) {v : Int32} (hv : v.toInt = if (τ.1 a 14).toInt = 1 ∧ (τ.2.1 a 19).toInt = y_cw r then 1 else 0) :
    ∃ (z : Int32) (σ' : ST), F_X3_passWord X σ R r = (z, σ') ∧ (z.toInt = 0 ∨ z.toInt = 1) ∧ tl_O X σ R τ a B n (z.toInt = 1) σ' (F_X12_must X τ a v) := by
  have w := tl_isWord E K hr
  simp only [F_X3_passWord, F_X12_must, ↓q_letE, ↓q_biE]
  rw [w, hv, h, if_neg (by decide : ¬ (0 : Int) < 0)]
  by_cases q : (τ.1 a 14).toInt = 1 ∧ (τ.2.1 a 19).toInt = y_cw r
  · rw [if_pos q, if_neg (by decide), if_neg (by decide)]
    obtain ⟨c1, c2, c3, c4⟩ := tl_adv2 E M K
    exact ⟨1, _, rfl, Or.inr rfl, c1.S2, c2.S2, Or.inl ⟨rfl, c3, by rw [tn_12 c2]; exact h, c4⟩⟩
  · rw [if_neg q, if_pos rfl, if_pos rfl]
    obtain ⟨σ', a1, a2, a3, a4⟩ := tl_wrong (X := X) K h
    rw [a1]
    exact ⟨0, σ', rfl, Or.inl rfl, a2, a3, Or.inr ⟨by decide, a4⟩⟩
/-- a semicolon that must stand there -/
theorem tl_passSemi (E : tc_E X σ R T n B) (M : tm_E X τ a n B) (K : tl_K σ R τ a B n) (h : (τ.1 a 12).toInt = 0) :
    ∃ (z : Int32) (σ' : ST), F_X3_passSemicolon X σ R = (z, σ') ∧ (z.toInt = 0 ∨ z.toInt = 1) ∧ tl_O X σ R τ a B n (z.toInt = 1) σ' (F_X12_must X τ a (F_X12_isSign X τ a 59)) := by
  have b := K.b
  obtain ⟨k1, k2, k3, k4, k5, k6, k7, k8⟩ := id K
  have e59 : (59 : Int32).toInt = 59 := rfl
  have E3 := E.2.2.1
  simp only [F_X3_passSemicolon, F_X12_must, F_X12_isSign, ↓q_letE, ↓q_biE]
  rw [k3, h, if_neg (by decide : ¬ (0 : Int) < 0), e59]
  obtain ⟨σ', a1, a2, a3, a4⟩ := tl_wrong (X := X) K h
  by_cases q : (τ.1 a 14).toInt = 3
  · rw [if_pos q, if_pos q]
    have sg := tc_sig E k1 ⟨k7, by omega⟩ (v := 0) (i := 0) rfl ⟨by decide, by decide⟩
    rw [Int.add_zero, tx_D_in k7 (by omega)] at sg
    rw [sg, k6.1 q]
    by_cases q2 : B (τ.1 a 15).toInt = 59
    · rw [if_pos q2, if_pos q2, if_neg (by decide)]
      obtain ⟨c1, c2, c3, c4⟩ := tl_adv2 E M K
      exact ⟨1, _, rfl, Or.inr rfl, c1.S2, c2.S2, Or.inl ⟨rfl, c3, by rw [tn_12 c2]; exact h, c4⟩⟩
    · rw [if_neg q2, if_neg q2, if_pos (by decide), a1]
      exact ⟨0, σ', rfl, Or.inl rfl, a2, a3, Or.inr ⟨by decide, a4⟩⟩
  · rw [if_neg q, if_neg q, if_pos (by decide), a1]
    exact ⟨0, σ', rfl, Or.inl rfl, a2, a3, Or.inr ⟨by decide, a4⟩⟩
/-- a number that must stand there -/
theorem tm_isIn (x y z : Int64) : (F_X12_isIn X τ x y z).toInt = if y.toInt ≤ x.toInt ∧ x.toInt ≤ z.toInt then 1 else 0 := by
  have h1 := lg_cmp_lt x y
  have h2 := lg_cmp_gt x z
  rw [Int32.lt_iff_toInt_lt, Int64.lt_iff_toInt_lt] at h1 h2
  have z0 : (0 : Int32).toInt = 0 := rfl
  rw [z0] at h1 h2
  simp only [F_X12_isIn, ↓q_letE]
  by_cases q1 : x.toInt < y.toInt
  · rw [if_pos (h1.mpr q1), if_neg (by omega)]
    rfl
  · rw [if_neg (fun h => q1 (h1.mp h))]
    by_cases q2 : z.toInt < x.toInt
    · rw [if_pos (h2.mpr q2), if_neg (by omega)]
      rfl
    · rw [if_neg (fun h => q2 (h2.mp h)), if_pos (by omega)]
      rfl
/-- what the class does with a number: it stands there and is passed or not -/
theorem tl_mustNum (E : tc_E X σ R T n B) (M : tm_E X τ a n B) (K : tl_K σ R τ a B n) (h : (τ.1 a 12).toInt = 0) (lo hi : Int32) :
    ((τ.1 a 14).toInt = 2 ∧ lo.toInt ≤ (τ.1 a 17).toInt ∧ (τ.1 a 17).toInt ≤ hi.toInt ∧ F_X3_mustBeNumber X σ R lo hi = (1, σ) ∧ F_X12_count X τ a lo hi = (τ.1 a 17, F_X12_next X τ a)) ∨
    (∃ (σ' : ST) (v : Int32) (τ' : ST), F_X3_mustBeNumber X σ R lo hi = (0, σ') ∧ F_X12_count X τ a lo hi = (0, τ') ∧ tk (tc_S2 R) σ σ' ∧ tkl (tn_S2 a) (tn_L a) τ τ' ∧ tl_F σ' R τ' a) := by
  obtain ⟨k1, k2, k3, k4, k5, k6, k7, k8⟩ := id K
  simp only [F_X3_mustBeNumber, F_X12_count, F_X12_count_J19_1, ↓q_letE, ↓q_biE]
  by_cases q : (τ.1 a 14).toInt = 2
  · rw [k3, if_pos q, h, if_pos rfl, if_pos q, k4 q]
    simp only [h, if_true]
    rw [tm_isIn, ar_i2l, ar_i2l, ar_i2l]
    obtain ⟨σ', a1, a2, a3, a4⟩ := tl_fail (X := X) K h (by omega) (k := 4) (by decide) (w := τ.1 a 15) rfl
    have p4 : 0 < ((F_X12_fail X τ a 4 (τ.1 a 15)).1 a 12).toInt := a4.2.1
    have z0 : (0 : Int32).toInt = 0 := rfl
    by_cases q1 : (τ.1 a 17).toInt < lo.toInt
    · rw [if_pos q1, a1, if_neg (by omega : ¬ (lo.toInt ≤ (τ.1 a 17).toInt ∧ (τ.1 a 17).toInt ≤ hi.toInt)), if_pos rfl, if_pos p4]
      exact Or.inr ⟨σ', 0, _, by rw [z0, if_pos rfl], rfl, a2, a3, a4⟩
    · rw [if_neg q1]
      by_cases q2 : hi.toInt < (τ.1 a 17).toInt
      · rw [if_pos q2, a1, if_neg (by omega : ¬ (lo.toInt ≤ (τ.1 a 17).toInt ∧ (τ.1 a 17).toInt ≤ hi.toInt)), if_pos rfl, if_pos p4]
        exact Or.inr ⟨σ', 0, _, by rw [z0, if_pos rfl], rfl, a2, a3, a4⟩
      · rw [if_neg q2, if_pos (by omega : lo.toInt ≤ (τ.1 a 17).toInt ∧ (τ.1 a 17).toInt ≤ hi.toInt), if_neg (by decide), if_neg (by decide)]
        exact Or.inl ⟨q, by omega, by omega, rfl, rfl⟩
  · obtain ⟨σ', a1, a2, a3, a4⟩ := tl_wrong (X := X) K h
    have p4 : 0 < ((F_X12_wrong X τ a).1 a 12).toInt := a4.2.1
    rw [k3, if_neg q, h, if_pos rfl, if_neg q, a1, if_neg (by omega), if_pos p4]
    exact Or.inr ⟨σ', 0, _, rfl, rfl, a2, a3, a4⟩
theorem tl_passNum (E : tc_E X σ R T n B) (M : tm_E X τ a n B) (K : tl_K σ R τ a B n) (h : (τ.1 a 12).toInt = 0) (lo hi : Int32) (hlo : 0 ≤ lo.toInt) :
    ∃ (z w : Int32) (σ' τ' : ST), F_X3_passNumber X σ R lo hi = (z, σ') ∧ F_X12_count X τ a lo hi = (w, τ') ∧ tl_O X σ R τ a B n (z.toInt ≠ -1) σ' τ' ∧ (z.toInt ≠ -1 → z.toInt = w.toInt ∧ lo.toInt ≤ w.toInt ∧ w.toInt ≤ hi.toInt) ∧ (z.toInt = -1 → w.toInt = 0) := by
  obtain ⟨k1, k2, k3, k4, k5, k6, k7, k8⟩ := id K
  rcases tl_mustNum E M K h lo hi with ⟨m1, m2, m3, m4, m5⟩ | ⟨σ', v, τ', m1, m2, m3, m4, m5⟩
  · obtain ⟨c1, c2, c3, c4⟩ := tl_adv2 E M K
    have e : F_X3_passNumber X σ R lo hi = (σ.1 R 5, F_X3_advance X σ R) := by
      simp only [F_X3_passNumber, ↓q_letE, ↓q_biE]
      rw [m4]
      rfl
    have e5 := k4 m1
    exact ⟨_, _, _, _, e, m5, ⟨c1.S2, c2.S2, Or.inl ⟨by omega, c3, by rw [tn_12 c2]; exact h, c4⟩⟩, fun _ => ⟨e5, m2, m3⟩, fun q => by omega⟩
  · have e : F_X3_passNumber X σ R lo hi = (-1, σ') := by
      simp only [F_X3_passNumber, ↓q_letE, ↓q_biE]
      rw [m1]
      rfl
    exact ⟨_, _, _, _, e, m2, ⟨m3, m4, Or.inr ⟨by decide, m5⟩⟩, fun q => absurd rfl q, fun _ => rfl⟩
end TL
end
/-! FROM 48i.names.lean.txt -/
section
/-! NAMES: what is reserved, who is named -/
def y_chs (r : Nat) : List Int := (q_sbyt.getD r []).map Int32.toInt
def y_wl : List Nat := [0, 1, 2, 6, 7, 9, 10, 11, 12, 3, 4, 5, 14, 17, 18, 19, 21, 20, 16, 13, 15]
def y_flat : List Nat → List Int
  | [] => []
  | r :: rs => y_chs r ++ 32 :: y_flat rs
theorem y_rs : y_chs 8 = y_flat y_wl := by decide +kernel
theorem y_wl_w : ∀ r ∈ y_wl, r < 22 ∧ r ≠ 8 := by decide
theorem y_wl_res : y_res = y_wl.map y_cw := by decide +kernel
theorem y_chs_ne : ∀ r ∈ y_wl, ∀ c ∈ y_chs r, c ≠ 32 := by decide +kernel
theorem y_chs_len : ∀ r ∈ y_wl, (y_chs r).length = q_slen.getD r 0 := by decide +kernel
theorem y_chs8 : (y_chs 8).length = 105 := by decide +kernel
theorem y_slen8 : q_slen.getD 8 0 = 105 := by decide +kernel
/-- the class's automaton -/
def y_au (s : Int → Int) (sz : Int) : List Int → Int → Bool
  | [], _ => false
  | c :: cs, al => if c = 32 then (if al = sz then true else y_au s sz cs 0) else if al < 0 then y_au s sz cs al else if c = s al then y_au s sz cs (al + 1) else y_au s sz cs (-1)
def y_mt (s : Int → Int) (sz : Int) : List Int → Int → Bool
  | [], al => decide (al = sz)
  | c :: cs, al => decide (c = s al) && y_mt s sz cs (al + 1)
theorem y_au_neg {s : Int → Int} {sz : Int} (hz : 0 ≤ sz) (w rest : List Int) (hw : ∀ c ∈ w, c ≠ 32) (al : Int) (h : al < 0) : y_au s sz (w ++ 32 :: rest) al = y_au s sz rest 0 := by
  induction w with
  | nil =>
    show (if (32 : Int) = 32 then (if al = sz then true else y_au s sz rest 0) else _) = _
    rw [if_pos rfl, if_neg (by omega)]
  | cons c cs ih =>
    show (if c = 32 then _ else if al < 0 then y_au s sz (cs ++ 32 :: rest) al else _) = _
    rw [if_neg (hw c List.mem_cons_self), if_pos h]
    exact ih (fun d hd => hw d (List.mem_cons_of_mem _ hd))
theorem y_au_word {s : Int → Int} {sz : Int} (hz : 0 ≤ sz) (w rest : List Int) (hw : ∀ c ∈ w, c ≠ 32) : ∀ al : Int, 0 ≤ al → y_au s sz (w ++ 32 :: rest) al = (y_mt s sz w al || y_au s sz rest 0) := by
  induction w with
  | nil =>
    intro al h
    show (if (32 : Int) = 32 then (if al = sz then true else y_au s sz rest 0) else _) = (decide (al = sz) || y_au s sz rest 0)
    rw [if_pos rfl]
    by_cases q : al = sz
    · rw [if_pos q, decide_eq_true q]; rfl
    · rw [if_neg q, decide_eq_false q]; rfl
  | cons c cs ih =>
    intro al h
    show (if c = 32 then _ else if al < 0 then _ else if c = s al then y_au s sz (cs ++ 32 :: rest) (al + 1) else y_au s sz (cs ++ 32 :: rest) (-1)) = (decide (c = s al) && y_mt s sz cs (al + 1) || y_au s sz rest 0)
    have hcs : ∀ d ∈ cs, d ≠ 32 := fun d hd => hw d (List.mem_cons_of_mem _ hd)
    rw [if_neg (hw c List.mem_cons_self), if_neg (by omega)]
    by_cases q : c = s al
    · rw [if_pos q, decide_eq_true q, ih hcs (al + 1) (by omega)]; rfl
    · rw [if_neg q, decide_eq_false q, y_au_neg hz cs rest hcs (-1) (by decide)]; rfl
theorem y_au_all {s : Int → Int} {sz : Int} (hz : 0 ≤ sz) (ws : List Nat) (h : ∀ r ∈ ws, ∀ c ∈ y_chs r, c ≠ 32) : y_au s sz (y_flat ws) 0 = ws.any (fun r => y_mt s sz (y_chs r) 0) := by
  induction ws with
  | nil => rfl
  | cons r rs ih =>
    show y_au s sz (y_chs r ++ 32 :: y_flat rs) 0 = (y_mt s sz (y_chs r) 0 || rs.any (fun r => y_mt s sz (y_chs r) 0))
    rw [y_au_word hz (y_chs r) (y_flat rs) (h r List.mem_cons_self) 0 (Int.le_refl 0), ih (fun q hq => h q (List.mem_cons_of_mem _ hq))]
theorem y_mt_iff {s : Int → Int} {sz : Int} (w : List Int) : ∀ al : Int, y_mt s sz w al = true ↔ (al + (w.length : Int) = sz ∧ ∀ i : Nat, i < w.length → s (al + (i : Int)) = w.getD i 0) := by
  induction w with
  | nil =>
    intro al
    show decide (al = sz) = true ↔ _
    rw [decide_eq_true_iff]
    constructor
    · intro h
      exact ⟨by show al + ((0 : Nat) : Int) = sz; omega, fun i hi => absurd hi (Nat.not_lt_zero _)⟩
    · rintro ⟨h, _⟩
      have h2 : al + ((0 : Nat) : Int) = sz := h
      omega
  | cons c cs ih =>
    intro al
    show (decide (c = s al) && y_mt s sz cs (al + 1)) = true ↔ _
    rw [Bool.and_eq_true, decide_eq_true_iff, ih]
    have hl : ((c :: cs).length : Int) = (cs.length : Int) + 1 := by
      show ((cs.length + 1 : Nat) : Int) = _
      omega
    rw [hl]
    constructor
    · rintro ⟨h1, h2, h3⟩
      refine ⟨by omega, fun i hi => ?_⟩
      cases i with
      | zero => show s (al + ((0 : Nat) : Int)) = c; rw [h1]; congr 1; omega
      | succ i =>
        have := h3 i (Nat.lt_of_succ_lt_succ hi)
        show s (al + ((i + 1 : Nat) : Int)) = cs.getD i 0
        rw [← this]
        congr 1
        omega
    · rintro ⟨h1, h2⟩
      refine ⟨?_, by omega, fun i hi => ?_⟩
      · have := h2 0 (Nat.succ_pos _)
        have e : s (al + ((0 : Nat) : Int)) = c := this
        rw [← e]
        congr 1
        omega
      · have := h2 (i + 1) (Nat.succ_lt_succ hi)
        have e : s (al + ((i + 1 : Nat) : Int)) = cs.getD i 0 := this
        rw [← e]
        congr 1
        omega
theorem y_chs_get (r i : Nat) : (y_chs r).getD i 0 = y_ch r (i : Int) := by
  unfold y_chs y_ch
  generalize q_sbyt.getD r [] = l
  rw [Int.toNat_natCast, List.getD_eq_getElem?_getD, List.getD_eq_getElem?_getD, List.getElem?_map]
  cases l[i]? with
  | none => rfl
  | some c => rfl
section NM
variable {X : XW} {σ τ : ST} {R T a : Nat} {n : Int} {B : Int → Int}
theorem tc_resL (E : tc_E X σ R T n B) {b sz : Int} (hb : (σ.1 R 2).toInt = b) (h0 : 0 ≤ b ∧ b ≤ 900) (hsz : (F_X3_size X σ R).toInt = sz) (k : Nat) : ∀ (x1 x2 : Int32) (i : Nat), x2.toInt = (i : Int) → (2147483647 - x2.toInt).toNat < k → i ≤ 105 → -1 ≤ x1.toInt → x1.toInt ≤ (i : Int) → (F_X3_isReserved_L4_1 X σ R k x1 x2).toInt = if y_au (fun j => tx_D B n (b + j)) sz ((y_chs 8).drop i) x1.toInt = true then 1 else 0 := by
  induction k with
  | zero => intro x1 x2 i _ hm; exact absurd hm (Nat.not_lt_zero _)
  | succ k ih =>
    intro x1 x2 i hi hm hi2 h1 h2
    rw [F_X3_isReserved_L4_1_s]
    simp only [F_X3_isReserved_B4_1, ↓q_letE]
    rw [tj_len, y_slen8, tj_chr 8 hi, hsz, hi]
    by_cases q : (i : Int) < ((105 : Nat) : Int)
    · have hil : i < (y_chs 8).length := by rw [y_chs8]; omega
      have e1 : (x2 + 1).toInt = ((i + 1 : Nat) : Int) := by rw [y_inc (by omega), hi]; omega
      have dr : (y_chs 8).drop i = y_ch 8 (i : Int) :: (y_chs 8).drop (i + 1) := by
        rw [List.drop_eq_getElem_cons hil]
        congr 1
        rw [← y_chs_get]
        simp [List.getD, hil]
      rw [if_pos q, dr]
      have au : ∀ c cs al, y_au (fun j => tx_D B n (b + j)) sz (c :: cs) al = if c = 32 then (if al = sz then true else y_au (fun j => tx_D B n (b + j)) sz cs 0) else if al < 0 then y_au (fun j => tx_D B n (b + j)) sz cs al else if c = tx_D B n (b + al) then y_au (fun j => tx_D B n (b + j)) sz cs (al + 1) else y_au (fun j => tx_D B n (b + j)) sz cs (-1) := fun _ _ _ => rfl
      rw [au]
      by_cases q1 : y_ch 8 (i : Int) = 32
      · rw [if_pos q1, if_pos q1]
        by_cases q2 : x1.toInt = sz
        · rw [if_pos q2, if_pos q2, if_pos rfl]; rfl
        · rw [if_neg q2, if_neg q2]
          exact ih 0 (x2 + 1) (i + 1) e1 (by omega) (by omega) (by decide) (by show (0 : Int) ≤ _; omega)
      · rw [if_neg q1, if_neg q1]
        by_cases q2 : x1.toInt < 0
        · rw [if_pos q2, if_pos q2]
          exact ih x1 (x2 + 1) (i + 1) e1 (by omega) (by omega) h1 (by omega)
        · rw [if_neg q2, if_neg q2, tc_sig E hb h0 (v := x1) rfl ⟨by omega, by omega⟩]
          by_cases q3 : y_ch 8 (i : Int) = tx_D B n (b + x1.toInt)
          · rw [if_pos q3, if_pos q3]
            have e2 : (x1 + 1).toInt = x1.toInt + 1 := y_inc (by omega)
            have z := ih (x1 + 1) (x2 + 1) (i + 1) e1 (by omega) (by omega) (by omega) (by omega)
            rw [e2] at z
            exact z
          · rw [if_neg q3, if_neg q3]
            exact ih (-1) (x2 + 1) (i + 1) e1 (by omega) (by omega) (by decide) (by show (-1 : Int) ≤ _; omega)
    · rw [if_neg q]
      have e : i = 105 := by omega
      rw [e, List.drop_eq_nil_of_le (by rw [y_chs8]; exact Nat.le_refl _)]
      rfl
/-- the class's reserved words are the reference's -/
theorem tl_reserved (E : tc_E X σ R T n B) (K : tl_K σ R τ a B n) (h1 : (τ.1 a 14).toInt = 1) : (F_X3_isReserved X σ R).toInt = if (τ.2.1 a 19).toInt ∈ y_res then 1 else 0 := by
  have b := K.b
  obtain ⟨k1, k2, k3, k4, k5, k6, k7, k8⟩ := id K
  have E3 := E.2.2.1
  have x := k6.2 h1
  obtain ⟨sz, hsz0⟩ : ∃ sz, sz = (τ.1 a 16).toInt - (τ.1 a 15).toInt := ⟨_, rfl⟩
  have hsz : (F_X3_size X σ R).toInt = sz := by
    simp only [F_X3_size, ↓q_letE]
    rw [ar_sub, k2, k1, hsz0, ar_wr (by omega) (by omega)]
  have z := tc_resL E k1 ⟨k7, by omega⟩ hsz ((2147483647 - (0 : Int32).toInt).toNat + 1) 0 0 0 rfl (by decide) (by decide) (by decide) (by decide)
  unfold F_X3_isReserved
  rw [z]
  have ez : (0 : Int32).toInt = 0 := rfl
  rw [List.drop_zero, ez, y_rs, y_au_all (by omega) y_wl y_chs_ne]
  have key : (y_wl.any (fun r => y_mt (fun j => tx_D B n ((τ.1 a 15).toInt + j)) sz (y_chs r) 0) = true) ↔ (τ.2.1 a 19).toInt ∈ y_res := by
    rw [y_wl_res, List.any_eq_true, List.mem_map]
    constructor
    · rintro ⟨r, hr, hm⟩
      refine ⟨r, hr, ?_⟩
      obtain ⟨m1, m2⟩ := (y_mt_iff (y_chs r) 0).mp hm
      rw [y_chs_len r hr] at m1 m2
      refine ((y_wd_iff (y_wl_w r hr) b.1 (tl_le K h1) x.2.1 x.2.2).mp ⟨by omega, fun i hi => ?_⟩).symm
      have y := m2 i hi
      rw [Int.zero_add, y_chs_get, tx_D_in (by omega) (by omega)] at y
      exact y
    · rintro ⟨r, hr, hm⟩
      refine ⟨r, hr, ?_⟩
      obtain ⟨m1, m2⟩ := (y_wd_iff (y_wl_w r hr) b.1 (tl_le K h1) x.2.1 x.2.2).mpr hm.symm
      refine (y_mt_iff (y_chs r) 0).mpr ?_
      rw [y_chs_len r hr]
      refine ⟨by omega, fun i hi => ?_⟩
      have y := m2 i hi
      show tx_D B n ((τ.1 a 15).toInt + (0 + (i : Int))) = _
      rw [Int.zero_add, y_chs_get, tx_D_in (by omega) (by omega)]
      exact y
  by_cases q : (τ.2.1 a 19).toInt ∈ y_res
  · rw [if_pos q, if_pos (key.mpr q)]
  · rw [if_neg q, if_neg (fun h => q (key.mp h))]
/-- a name that must stand there -/
theorem tl_mustBeName (E : tc_E X σ R T n B) (M : tm_E X τ a n B) (K : tl_K σ R τ a B n) (h : (τ.1 a 12).toInt = 0) :
    ((F_X12_isName X τ a).toInt = 1 ∧ (τ.1 a 14).toInt = 1 ∧ (τ.1 a 16).toInt - (τ.1 a 15).toInt ≤ 8 ∧ F_X3_mustBeName X σ R = (1, σ)) ∨
    ((F_X12_isName X τ a).toInt = 0 ∧ ∃ σ' : ST, F_X3_mustBeName X σ R = (0, σ') ∧ tk (tc_S2 R) σ σ' ∧ tkl (tn_S2 a) (tn_L a) τ (F_X12_wrong X τ a) ∧ tl_F σ' R (F_X12_wrong X τ a) a) := by
  have b := K.b
  obtain ⟨k1, k2, k3, k4, k5, k6, k7, k8⟩ := id K
  have E3 := E.2.2.1
  obtain ⟨σ', a1, a2, a3, a4⟩ := tl_wrong (X := X) K h
  have hsz : (F_X3_size X σ R).toInt = (τ.1 a 16).toInt - (τ.1 a 15).toInt := by
    simp only [F_X3_size, ↓q_letE]
    rw [ar_sub, k2, k1, ar_wr (by omega) (by omega)]
  have z0 : (0 : Int32).toInt = 0 := rfl
  have z1 : (1 : Int32).toInt = 1 := rfl
  simp only [F_X12_isName, F_X3_mustBeName, ↓q_letE, ↓q_biE]
  rw [k3, hsz, a1]
  by_cases q : (τ.1 a 14).toInt = 1
  · have x := k6.2 q
    rw [if_pos q, if_pos q, x.1, tl_reserved E K q, tm_isKept q]
    by_cases q8 : 8 < (τ.1 a 16).toInt - (τ.1 a 15).toInt
    · rw [if_pos q8, if_pos q8, z0, if_pos rfl]
      exact Or.inr ⟨rfl, σ', rfl, a2, a3, a4⟩
    · rw [if_neg q8, if_neg q8]
      by_cases qr : (τ.2.1 a 19).toInt ∈ y_res
      · rw [if_pos qr, if_neg (by decide), if_neg (by decide), z0, if_pos rfl]
        exact Or.inr ⟨rfl, σ', rfl, a2, a3, a4⟩
      · rw [if_neg qr, if_pos rfl, if_pos rfl]
        exact Or.inl ⟨z1, q, by omega, rfl⟩
  · rw [if_neg q, if_neg q, z0, if_pos rfl]
    exact Or.inr ⟨rfl, σ', rfl, a2, a3, a4⟩
end NM
end
/-! FROM 48j.told.lean.txt -/
section
/-! WHO IS NAMED -/
theorem q_biP {α β : Type} (r : α) (s : ST) (k : α → ST → β) : q_bi (r, s) k = k r s := Eq.trans (Eq.refl (q_bi (r, s) k)) (Eq.refl (k r s))
/-- the names of the first P players of a game (its view V) and their numbers w from place q on -/
def y_nm (V : Nat → Int → Int) (w : Int → Int) (q P : Int) : Prop := ∀ p : Int, 0 ≤ p → p < P → (1 ≤ V 6 p ∧ V 6 p ≤ 8) ∧ (∀ i : Int, 0 ≤ i → i < V 6 p → tx_le (V 5 (8 * p + i))) ∧ w (q + p) = tx_wv (fun i => V 5 (8 * p + i)) 0 (V 6 p).toNat
/-- the first from x on, below P, of which Q -/
def y_fst (Q : Int → Prop) (P x r : Int) : Prop := (r = -1 ∧ ∀ j, x ≤ j → j < P → ¬ Q j) ∨ (x ≤ r ∧ r < P ∧ Q r ∧ ∀ j, x ≤ j → j < r → ¬ Q j)
theorem y_fst_u {Q : Int → Prop} {P x r r' : Int} (hx : 0 ≤ x) (h : y_fst Q P x r) (h' : y_fst Q P x r') : r = r' := by
  rcases h with ⟨h1, h2⟩ | ⟨h1, h2, h3, h4⟩
  · rcases h' with ⟨k1, k2⟩ | ⟨k1, k2, k3, k4⟩
    · omega
    · exact absurd k3 (h2 r' k1 k2)
  · rcases h' with ⟨k1, k2⟩ | ⟨k1, k2, k3, k4⟩
    · exact absurd h3 (k2 r h1 h2)
    · rcases Int.lt_trichotomy r r' with q | q | q
      · exact absurd h3 (k4 r h1 q)
      · exact q
      · exact absurd k3 (h4 r' k1 q)
def m_wd (X : XW) (σ : ST) (a : Nat) (j : Int) : Int := (σ.2.1 (q_rf X a 23) j.toNat).toInt
section NT
variable {X : XW} {lb : Nat → Nat} {g o : Nat} {σ τ σ0 : ST} {V : Nat → Int → Int} {R T a : Nat} {n : Int} {B : Int → Int}
theorem tc_namedL (S : y_S X lb) (G : y_G X lb g o) (w : y_W X lb g o σ0 σ V) (E : tc_E X σ R T n B) {b e : Int} (hb : (σ.1 R 2).toInt = b) (h0 : 0 ≤ b) (hbe : b ≤ e) (hen : e ≤ n) {u : Nat} (hu : u = q_rf X g 0) {x : Int32} {p : Int} (hx : x.toInt = p) (hp : 0 ≤ p ∧ p < 6) {r1 : Int32} (hr1 : r1.toInt = e - b) (he8 : e - b ≤ 8) (k : Nat) : ∀ y : Int32, (2147483647 - y.toInt).toNat < k → 0 ≤ y.toInt → y.toInt ≤ e - b → ((F_X6_isNamed_L22_1 X r1 x σ u R k y).toInt = 1 ∨ (F_X6_isNamed_L22_1 X r1 x σ u R k y).toInt = 0) ∧ ((F_X6_isNamed_L22_1 X r1 x σ u R k y).toInt = 1 ↔ ∀ i : Int, y.toInt ≤ i → i < e - b → V 5 (8 * p + i) = B (b + i)) := by
  have E3 := E.2.2.1
  subst hu
  induction k with
  | zero => intro y hm; exact absurd hm (Nat.not_lt_zero _)
  | succ k ih =>
    intro y hm y0 y1
    have e8 : (8 : Int32).toInt = 8 := rfl
    rw [F_X6_isNamed_L22_1_s]
    simp only [F_X6_isNamed_B22_1, ↓q_letE]
    rw [hr1]
    by_cases q : y.toInt < e - b
    · have ei : (x * 8 + y).toInt = 8 * p + y.toInt := by rw [ar_add, ar_mul, hx, e8, ar_wr (n := p * 8) (by omega) (by omega), ar_wr (by omega) (by omega)]; omega
      have gn : ((y_gn 5 : Nat) : Int) = 48 := rfl
      rw [if_pos q, y_getI S G w (id := 5) ⟨by decide, by decide⟩ rfl ei (by omega) (by rw [gn]; omega), tc_sig E hb ⟨h0, by omega⟩ (v := y) rfl ⟨y0, by omega⟩, tx_D_in (by omega) (by omega)]
      by_cases q1 : V 5 (8 * p + y.toInt) = B (b + y.toInt)
      · rw [if_pos q1]
        have e1 : (y + 1).toInt = y.toInt + 1 := y_inc (by omega)
        obtain ⟨i1, i2⟩ := ih (y + 1) (by omega) (by omega) (by omega)
        refine ⟨i1, ?_⟩
        rw [i2, e1]
        constructor
        · intro h i a1 a2
          by_cases hi : i = y.toInt
          · rw [hi]; exact q1
          · exact h i (by omega) a2
        · intro h i a1 a2
          exact h i (by omega) a2
      · rw [if_neg q1]
        exact ⟨Or.inr rfl, ⟨fun h => absurd h (by decide), fun h => absurd (h y.toInt (Int.le_refl _) q) q1⟩⟩
    · rw [if_neg q]
      exact ⟨Or.inl rfl, ⟨fun _ i a1 a2 => by omega, fun _ => rfl⟩⟩
/-- the player at p has the token's name: the class by its letters, the reference by its number -/
theorem tl_isNamed (S : y_S X lb) (G : y_G X lb g o) (w : y_W X lb g o σ0 σ V) (E : tc_E X σ R T n B) (K : tl_K σ R τ a B n) (h1 : (τ.1 a 14).toInt = 1) (h8 : (τ.1 a 16).toInt - (τ.1 a 15).toInt ≤ 8) {wd : Int → Int} {bs P : Int} (N : y_nm V wd bs P) {x : Int32} {p : Int} (hx : x.toInt = p) (hp : 0 ≤ p ∧ p < P) (hP : P ≤ 6) : (F_X6_isNamed X σ (q_rf X g 0) x R).toInt = if wd (bs + p) = (τ.2.1 a 19).toInt then 1 else 0 := by
  have b := K.b
  obtain ⟨k1, k2, k3, k4, k5, k6, k7, k8⟩ := id K
  have E3 := E.2.2.1
  obtain ⟨N1, N2, N3⟩ := N p hp.1 hp.2
  have xx := k6.2 h1
  have hsz : (F_X3_size X σ R).toInt = (τ.1 a 16).toInt - (τ.1 a 15).toInt := by
    simp only [F_X3_size, ↓q_letE]
    rw [ar_sub, k2, k1, ar_wr (by omega) (by omega)]
  have gl : (F_X5_get X σ (q_rf X (q_rf X g 0) 7) x).toInt = V 6 p := y_getI S G w (id := 6) ⟨by decide, by decide⟩ rfl hx hp.1 (by show p < ((6 : Nat) : Int); omega)
  have inj : V 6 p = (τ.1 a 16).toInt - (τ.1 a 15).toInt → ((∀ i : Int, (0 : Int32).toInt ≤ i → i < (τ.1 a 16).toInt - (τ.1 a 15).toInt → V 5 (8 * p + i) = B ((τ.1 a 15).toInt + i)) ↔ wd (bs + p) = (τ.2.1 a 19).toInt) := by
    intro hl
    have z0 : (0 : Int32).toInt = 0 := rfl
    rw [N3, xx.2.1 h8, ← hl, z0]
    constructor
    · intro h
      refine tx_wv_ext (fun i hi => ?_)
      show V 5 (8 * p + (0 + (i : Int))) = _
      rw [Int.zero_add]
      exact h (i : Int) (Int.natCast_nonneg i) (by omega)
    · intro h i a1 a2
      have z := tx_wv_inj (B := fun i => V 5 (8 * p + i)) (B' := B) (b := 0) (b' := (τ.1 a 15).toInt) (k := (V 6 p).toNat) (k' := (V 6 p).toNat) (fun j c1 c2 => N2 j c1 (by omega)) (fun j c1 c2 => tl_le K h1 j c1 (by omega)) h
      have y := z.2 i.toNat (by omega)
      have ec : ((i.toNat : Nat) : Int) = i := by omega
      rw [ec] at y
      have y2 : V 5 (8 * p + (0 + i)) = B ((τ.1 a 15).toInt + i) := y
      rw [Int.zero_add] at y2
      exact y2
  simp only [F_X6_isNamed, ↓q_letE]
  rw [gl, hsz]
  by_cases q : V 6 p = (τ.1 a 16).toInt - (τ.1 a 15).toInt
  · rw [if_pos q]
    obtain ⟨z1, z2⟩ := tc_namedL S G w E k1 k7 b.1 b.2.1 (u := q_rf X g 0) rfl hx ⟨hp.1, by omega⟩ (r1 := F_X5_get X σ (q_rf X (q_rf X g 0) 7) x) (gl.trans q) h8 ((2147483647 - (0 : Int32).toInt).toNat + 1) 0 (by decide) (by decide) (by show (0 : Int) ≤ _; omega)
    rw [inj q] at z2
    by_cases q2 : wd (bs + p) = (τ.2.1 a 19).toInt
    · rw [if_pos q2]; exact z2.mpr q2
    · rw [if_neg q2]
      rcases z1 with z1 | z1
      · exact absurd (z2.mp z1) q2
      · exact z1
  · rw [if_neg q, if_neg]
    · rfl
    · intro h
      rw [N3, xx.2.1 h8] at h
      have z := tx_wv_inj (B := fun i => V 5 (8 * p + i)) (B' := B) (b := 0) (b' := (τ.1 a 15).toInt) (k := (V 6 p).toNat) (k' := ((τ.1 a 16).toInt - (τ.1 a 15).toInt).toNat) (fun j c1 c2 => N2 j c1 (by omega)) (fun j c1 c2 => tl_le K h1 j c1 (by omega)) h
      have := z.1
      exact q (by omega)
theorem tc_playerNamedL {u : Nat} {P : Int} (hP : (σ.1 u 4).toInt = P) (hP6 : P ≤ 6) {Q : Int → Prop} (hQ : ∀ (x : Int32) (p : Int), x.toInt = p → 0 ≤ p → p < P → ((F_X6_isNamed X σ u x R).toInt = 0 ↔ ¬ Q p)) (k : Nat) : ∀ x : Int32, (2147483647 - x.toInt).toNat < k → 0 ≤ x.toInt → x.toInt ≤ 6 → y_fst Q P x.toInt (F_X6_playerNamed_L2_1 X σ u R k x).toInt := by
  induction k with
  | zero => intro x hm; exact absurd hm (Nat.not_lt_zero _)
  | succ k ih =>
    intro x hm x0 x6
    rw [F_X6_playerNamed_L2_1_s]
    simp only [F_X6_playerNamed_B2_1, ↓q_letE]
    rw [hP]
    by_cases q : x.toInt < P
    · rw [if_pos q]
      by_cases q1 : (F_X6_isNamed X σ u x R).toInt = 0
      · rw [if_pos q1]
        have e1 : (x + 1).toInt = x.toInt + 1 := y_inc (by omega)
        have z := ih (x + 1) (by omega) (by omega) (by omega)
        have nq := (hQ x x.toInt rfl x0 q).mp q1
        rw [e1] at z
        rcases z with ⟨z1, z2⟩ | ⟨z1, z2, z3, z4⟩
        · refine Or.inl ⟨z1, fun j a1 a2 => ?_⟩
          by_cases hj : j = x.toInt
          · rw [hj]; exact nq
          · exact z2 j (by omega) a2
        · refine Or.inr ⟨by omega, z2, z3, fun j a1 a2 => ?_⟩
          by_cases hj : j = x.toInt
          · rw [hj]; exact nq
          · exact z4 j (by omega) a2
      · rw [if_neg q1]
        refine Or.inr ⟨Int.le_refl _, q, ?_, fun j a1 a2 => by omega⟩
        by_cases hq : Q x.toInt
        · exact hq
        · exact absurd ((hQ x x.toInt rfl x0 q).mpr hq) q1
    · rw [if_neg q]
      exact Or.inl ⟨rfl, fun j a1 a2 => by omega⟩
theorem tm_namedL {v : Int32} {bl P : Int} (hv : v.toInt = bl) (hbl : 0 ≤ bl ∧ bl ≤ 4) (hP : m_c X τ a (930 * bl + 2) = P) (hP6 : P ≤ 6) (k : Nat) : ∀ x : Int32, (2147483647 - x.toInt).toNat < k → 0 ≤ x.toInt → x.toInt ≤ 6 → y_fst (fun p => m_wd X τ a (6 * bl + p) = (τ.2.1 a 19).toInt) P x.toInt (F_X12_named_L2_1 X v τ a k x).toInt := by
  induction k with
  | zero => intro x hm; exact absurd hm (Nat.not_lt_zero _)
  | succ k ih =>
    intro x hm x0 x6
    have e930 : (930 : Int32).toInt = 930 := rfl
    have e2 : (2 : Int32).toInt = 2 := rfl
    have e6 : (6 : Int32).toInt = 6 := rfl
    have ei : ((930 : Int32) * v + 2).toInt = 930 * bl + 2 := by rw [ar_add, ar_mul, hv, e930, e2, ar_wr (n := 930 * bl) (by omega) (by omega), ar_wr (by omega) (by omega)]
    rw [F_X12_named_L2_1_s]
    simp only [F_X12_named_B2_1, ↓q_letE]
    have rc : (τ.1 (q_rf X a 20) ((930 : Int32) * v + 2).toNatClampNeg).toInt = P := (m_rd (X := X) rfl ei).trans hP
    rw [rc]
    by_cases q : x.toInt < P
    · rw [if_pos q]
      have ej : ((6 : Int32) * v + x).toInt = 6 * bl + x.toInt := by rw [ar_add, ar_mul, hv, e6, ar_wr (n := 6 * bl) (by omega) (by omega), ar_wr (by omega) (by omega)]
      have rw_ : (τ.2.1 (q_rf X a 23) ((6 : Int32) * v + x).toNatClampNeg).toInt = m_wd X τ a (6 * bl + x.toInt) := by
        unfold m_wd
        rw [ar_cl, ej]
      have hc := lg_cmp_eq (τ.2.1 (q_rf X a 23) ((6 : Int32) * v + x).toNatClampNeg) (τ.2.1 a 19)
      by_cases q1 : m_wd X τ a (6 * bl + x.toInt) = (τ.2.1 a 19).toInt
      · have e : τ.2.1 (q_rf X a 23) ((6 : Int32) * v + x).toNatClampNeg = τ.2.1 a 19 := Int64.toInt_inj.mp (rw_.trans q1)
        rw [hc.mpr e, if_pos (by decide)]
        exact Or.inr ⟨Int.le_refl _, q, q1, fun j a1 a2 => by omega⟩
      · have e : ¬ (lg_cmp (τ.2.1 (q_rf X a 23) ((6 : Int32) * v + x).toNatClampNeg) (τ.2.1 a 19)).toInt = 0 := fun h => q1 (rw_.symm.trans (congrArg Int64.toInt (hc.mp (q_eqI.mpr h))))
        rw [if_neg e]
        have e1 : (x + 1).toInt = x.toInt + 1 := y_inc (by omega)
        have z := ih (x + 1) (by omega) (by omega) (by omega)
        rw [e1] at z
        rcases z with ⟨z1, z2⟩ | ⟨z1, z2, z3, z4⟩
        · refine Or.inl ⟨z1, fun j a1 a2 => ?_⟩
          by_cases hj : j = x.toInt
          · rw [hj]; exact q1
          · exact z2 j (by omega) a2
        · refine Or.inr ⟨by omega, z2, z3, fun j a1 a2 => ?_⟩
          by_cases hj : j = x.toInt
          · rw [hj]; exact q1
          · exact z4 j (by omega) a2
    · rw [if_neg q]
      exact Or.inl ⟨rfl, fun j a1 a2 => by omega⟩
/-- both find the same player -/
theorem tl_named (S : y_S X lb) (G : y_G X lb g o) (w : y_W X lb g o σ0 σ V) (E : tc_E X σ R T n B) (K : tl_K σ R τ a B n) (h1 : (τ.1 a 14).toInt = 1) (h8 : (τ.1 a 16).toInt - (τ.1 a 15).toInt ≤ 8) {v : Int32} {bl P : Int} (hv : v.toInt = bl) (hbl : 0 ≤ bl ∧ bl ≤ 4) (hP : m_c X τ a (930 * bl + 2) = P) (hP6 : 0 ≤ P ∧ P ≤ 6) (hV : V 1 4 = P) (N : y_nm V (m_wd X τ a) (6 * bl) P) :
    (F_X6_playerNamed X σ (q_rf X g 0) R).toInt = (F_X12_named X τ a v).toInt ∧ (((F_X12_named X τ a v).toInt = -1 ∧ ∀ p, 0 ≤ p → p < P → m_wd X τ a (6 * bl + p) ≠ (τ.2.1 a 19).toInt) ∨ (0 ≤ (F_X12_named X τ a v).toInt ∧ (F_X12_named X τ a v).toInt < P)) := by
  have z0 : (0 : Int32).toInt = 0 := rfl
  have m := tm_namedL (X := X) (τ := τ) (a := a) hv hbl hP hP6.2 ((2147483647 - (0 : Int32).toInt).toNat + 1) 0 (by decide) (by decide) (by decide)
  have hp : (σ.1 (q_rf X g 0) 4).toInt = P := by
    have := y_v_rdn (X := X) (g := g) (σ := σ) (id := 1) (by decide) 4
    rw [w.2.2] at this
    exact this.trans hV
  have c := tc_playerNamedL (X := X) (σ := σ) (R := R) (u := q_rf X g 0) hp hP6.2 (Q := fun p => m_wd X τ a (6 * bl + p) = (τ.2.1 a 19).toInt) (fun x p hx p0 p1 => by
    rw [tl_isNamed S G w E K h1 h8 N hx ⟨p0, p1⟩ hP6.2]
    by_cases q : m_wd X τ a (6 * bl + p) = (τ.2.1 a 19).toInt
    · rw [if_pos q]; exact ⟨fun h => absurd h (by decide), fun h => absurd q h⟩
    · rw [if_neg q]; exact ⟨fun _ => q, fun _ => rfl⟩) ((2147483647 - (0 : Int32).toInt).toNat + 1) 0 (by decide) (by decide) (by decide)
  unfold F_X6_playerNamed F_X12_named
  rw [z0] at m c
  refine ⟨y_fst_u (Int.le_refl 0) c m, ?_⟩
  rcases m with ⟨m1, m2⟩ | ⟨m1, m2, m3, m4⟩
  · exact Or.inl ⟨m1, m2⟩
  · exact Or.inr ⟨m1, m2⟩
/-- a player told ahead that must stand there -/
theorem tl_passPlayer (S : y_S X lb) (G : y_G X lb g o) (w : y_W X lb g o σ0 σ V) (E : tc_E X σ R T n B) (M : tm_E X τ a n B) (K : tl_K σ R τ a B n) (h : (τ.1 a 12).toInt = 0) {v : Int32} {bl P : Int} (hv : v.toInt = bl) (hbl : 0 ≤ bl ∧ bl ≤ 4) (hP : m_c X τ a (930 * bl + 2) = P) (hP6 : 0 ≤ P ∧ P ≤ 6) (hV : V 1 4 = P) (N : y_nm V (m_wd X τ a) (6 * bl) P) :
    ∃ (z y : Int32) (σ' τ' : ST), F_X3_passPlayer X σ R (q_rf X g 0) = (z, σ') ∧ F_X12_readTold X τ a v = (y, τ') ∧ tl_O X σ R τ a B n (z.toInt ≠ -1) σ' τ' ∧ (z.toInt ≠ -1 → z.toInt = y.toInt ∧ 0 ≤ y.toInt ∧ y.toInt < P) ∧ (z.toInt = -1 → 0 ≤ y.toInt ∧ y.toInt ≤ 5) := by
  have z0 : (0 : Int32).toInt = 0 := rfl
  have z1 : (1 : Int32).toInt = 1 := rfl
  have zm : ((-1) : Int32).toInt = -1 := rfl
  rcases tl_mustBeName E M K h with ⟨m1, m2, m3, m4⟩ | ⟨m1, σ', m2, m3, m4, m5⟩
  · obtain ⟨nm1, nm2⟩ := tl_named S G w E K m2 m3 hv hbl hP hP6 hV N
    simp only [F_X3_passPlayer, F_X12_readTold, F_X12_readTold_J18_1, ↓q_letE, ↓q_biE]
    have nz : ¬ ((1 : Int32), σ).1.toInt = 0 := fun q => absurd (show (1 : Int32).toInt = 0 from q) (by decide)
    rw [m4, m1, h, if_neg nz, if_pos rfl, if_pos rfl, if_pos rfl, if_neg (by decide : ¬ (1 : Int) = 0)]
    show ∃ (z y : Int32) (σ' τ' : ST), (if (F_X6_playerNamed X σ (q_rf X g 0) R).toInt = -1 then ((-1 : Int32), (F_X3_fails X σ R 3).2) else (F_X6_playerNamed X σ (q_rf X g 0) R, F_X3_advance X σ R)) = (z, σ') ∧ _
    rw [nm1]
    rcases nm2 with ⟨q1, q2⟩ | ⟨q1, q2⟩
    · rw [if_pos q1, if_pos (by omega : (F_X12_named X τ a v).toInt < 0)]
      obtain ⟨σ', a1, a2, a3, a4⟩ := tl_fail (X := X) K h (by omega) (k := 3) (by decide) (w := τ.1 a 15) rfl
      rw [a1, tm_must2 a4.2.1]
      refine ⟨-1, _, σ', _, rfl, rfl, ⟨a2, a3, Or.inr ⟨fun q => q rfl, a4⟩⟩, fun q => absurd rfl q, fun _ => ?_⟩
      unfold F_J9_max_7cf53
      rw [q1, z0, if_neg (by decide)]
      decide
    · rw [if_neg (by omega : ¬ (F_X12_named X τ a v).toInt = -1), if_neg (by omega : ¬ (F_X12_named X τ a v).toInt < 0)]
      obtain ⟨c1, c2, c3, c4⟩ := tl_adv2 E M K
      have e : F_X12_must X τ a 1 = F_X12_next X τ a := by
        simp only [F_X12_must, ↓q_letE]
        rw [h, if_neg (by decide), z1, if_neg (by decide)]
      have mx : (F_J9_max_7cf53 X (F_X12_next X τ a) 0 (F_X12_named X τ a v)).toInt = (F_X12_named X τ a v).toInt := by
        unfold F_J9_max_7cf53
        rw [z0]
        by_cases q : 0 < (F_X12_named X τ a v).toInt
        · rw [if_pos q]
        · rw [if_neg q, z0]; omega
      rw [e]
      refine ⟨_, _, _, _, rfl, rfl, ⟨c1.S2, c2.S2, Or.inl ⟨by omega, c3, by rw [tn_12 c2]; exact h, c4⟩⟩, fun _ => ?_, fun q => by omega⟩
      rw [mx]
      exact ⟨nm1, q1, q2⟩
  · have p := m5.2.1
    have np : ¬ ((F_X12_wrong X τ a).1 a 12).toInt = 0 := by omega
    simp only [F_X3_passPlayer, F_X12_readTold, F_X12_readTold_J18_1, ↓q_letE, ↓q_biE]
    rw [m2, m1, h, if_pos rfl, if_pos rfl, if_neg np, if_neg np, tm_must2 p, if_pos z0]
    refine ⟨-1, _, σ', _, rfl, rfl, ⟨m3, m4, Or.inr ⟨fun q => q rfl, m5⟩⟩, fun q => absurd rfl q, fun _ => ?_⟩
    unfold F_J9_max_7cf53
    decide
end NT
end
/-! FROM 48k.tab.lean.txt -/
section
/-! A TABLE BEING READ: the class's reader D with its game g, the reference's fifth block -/
def tb_T (X : XW) (D : Nat) : Nat := q_rf X (q_rf X D 11) 0
/-- where the reader and its parts lie -/
def tb_D (X : XW) (lb : Nat → Nat) (D T g : Nat) : Prop := q_kd X D = 9 ∧ g = q_rf X D 8 ∧ y_G X lb g 6 ∧ lb D / 8192 = 0 ∧ lb T / 8192 = 0 ∧ lb (tb_T X D) / 8192 = 0 ∧ q_kd X (tb_T X D) = 20 ∧ q_ln X (tb_T X D) = 6 ∧ q_kd X T = 22
/-- the class's side: text, game, hands told, law told, most told -/
def tb_S (X : XW) (D T g : Nat) (σ : ST) (n : Int) (B : Int → Int) (V : Nat → Int → Int) (r : Int → Int) (f9 f10 : Int) : Prop := tc_E X σ D T n B ∧ y_v X g σ = V ∧ (∀ p : Int, 0 ≤ p → p < 6 → (σ.1 (tb_T X D) p.toNat).toInt = r p) ∧ (σ.1 D 9).toInt = f9 ∧ (σ.1 D 10).toInt = f10
/-- the reference's side -/
def tb_M (X : XW) (a : Nat) (τ : ST) (n : Int) (B : Int → Int) (c w t : Int → Int) (f9 f10 : Int) : Prop := tm_E X τ a n B ∧ m_c X τ a = c ∧ m_wd X τ a = w ∧ (∀ j : Int, 0 ≤ j → j < 60 → (τ.1 (q_rf X a 22) j.toNat).toInt = t j) ∧ (τ.1 a 25).toInt = f9 ∧ (τ.1 a 26).toInt = f10 ∧ (τ.1 a 0).toInt = 0 ∧ (τ.1 a 8).toInt = 0
/-- what the class's reading leaves alone -/
def tb_F (X : XW) (lb : Nat → Nat) (D : Nat) (σ σ' : ST) : Prop := (∀ b, lb b / 8192 ≠ 6 → b ≠ D → b ≠ tb_T X D → ∀ f, σ'.1 b f = σ.1 b f) ∧ (∀ f, ¬ (2 ≤ f ∧ f ≤ 7) → f ≠ 9 → f ≠ 10 → σ'.1 D f = σ.1 D f) ∧ σ'.2 = σ.2
theorem tb_F.rf {X : XW} {lb : Nat → Nat} {D : Nat} {σ : ST} : tb_F X lb D σ σ := ⟨fun _ _ _ _ _ => rfl, fun _ _ _ _ => rfl, rfl⟩
theorem tb_F.tr {X : XW} {lb : Nat → Nat} {D : Nat} {σ σ1 σ2 : ST} (h : tb_F X lb D σ σ1) (k : tb_F X lb D σ1 σ2) : tb_F X lb D σ σ2 := ⟨fun b b1 b2 b3 f => (k.1 b b1 b2 b3 f).trans (h.1 b b1 b2 b3 f), fun f f1 f2 f3 => (k.2.1 f f1 f2 f3).trans (h.2.1 f f1 f2 f3), k.2.2.trans h.2.2⟩
/-- the relation of both -/
def tb_N (V : Nat → Int → Int) (c : Int → Int) : Prop :=
  (V 1 0 = c 3720 ∧ V 1 1 = c 3721 ∧ V 1 2 = c 3723 ∧ V 1 3 = c 3724 ∧ V 1 4 = c 3722) ∧
  (∀ k : Int, 0 ≤ k → k < 10 → V 4 k = m_sum c 3720 k) ∧
  (∀ j : Int, 0 ≤ j → j < 60 → V 7 j = c (3754 + j)) ∧
  (∀ p : Int, 0 ≤ p → p < 6 → V 9 p = m_S c (3754 + 10 * p) 10) ∧
  (∀ p : Int, 0 ≤ p → p < 6 → V 10 p = c (3730 + p) ∧ V 11 p = c (3736 + p))
/-- a new game's cells that stay as they are -/
def tb_Z (V : Nat → Int → Int) : Prop := (∀ i : Int, 0 ≤ i → i < 60 → V 8 i = 0) ∧ (∀ i : Int, 0 ≤ i → i < 6 → V 12 i = 0 ∧ V 13 i = 0) ∧ V 0 4 = 0 ∧ V 0 5 = 0 ∧ V 0 6 = -1 ∧ V 0 7 = 0 ∧ V 2 0 = 0 ∧ V 2 1 = 0 ∧ V 3 0 = 0 ∧ V 3 1 = 0 ∧ V 3 2 = 0
def tb_bits (t : Int → Int) (p : Int) : Int := t (10 * p) + 2 * t (10 * p + 1) + 4 * t (10 * p + 2) + 8 * t (10 * p + 3) + 16 * t (10 * p + 4) + 32 * t (10 * p + 5) + 64 * t (10 * p + 6) + 128 * t (10 * p + 7) + 256 * t (10 * p + 8) + 512 * t (10 * p + 9)
def tb_H (c r t : Int → Int) : Prop :=
  (∀ j : Int, 0 ≤ j → j < 60 → (t j = 0 ∨ t j = 1) ∧ (t j = 0 → c (3754 + j) = 0)) ∧ (∀ p : Int, 0 ≤ p → p < 6 → r p = tb_bits t p) ∧ (∀ j : Int, 0 ≤ j → j < 60 → 10 * c 3722 ≤ j → t j = 0)
def tb_R (V : Nat → Int → Int) (r c w t : Int → Int) : Prop := tb_N V c ∧ tb_Z V ∧ y_nm V w 24 (c 3722) ∧ tb_H c r t ∧ m_N c ∧ 2 ≤ c 3720 ∧ 1 ≤ c 3721 ∧ 1 ≤ c 3724
section TB
variable {X : XW} {lb : Nat → Nat} {D T g a : Nat} {σ τ σ' τ' : ST} {n : Int} {B : Int → Int} {V : Nat → Int → Int} {r c w t : Int → Int} {f9 f10 : Int}
theorem tb_D.o (Y : y_S X lb) (H : tb_D X lb D T g) {id : Nat} (h : id < 25) : D ≠ y_gA X g id ∧ tb_T X D ≠ y_gA X g id ∧ T ≠ y_gA X g id := by
  obtain ⟨h1, h2, h3, h4, h5, h6, h7, h8, h9⟩ := H
  exact ⟨y_gA_ne Y h3 h (by omega), y_gA_ne Y h3 h (by omega), y_gA_ne Y h3 h (by omega)⟩
theorem tb_v (Y : y_S X lb) (H : tb_D X lb D T g) (h : ∀ b, b ≠ D → b ≠ tb_T X D → ∀ f, σ'.1 b f = σ.1 b f) : y_v X g σ' = y_v X g σ := by
  funext id i
  unfold y_v
  by_cases q : id < 25 ∧ 0 ≤ i
  · have o := H.o Y q.1
    rw [if_pos q, if_pos q, h _ (Ne.symm o.1) (Ne.symm o.2.1)]
  · rw [if_neg q, if_neg q]
theorem tb_TD (H : tb_D X lb D T g) : tb_T X D ≠ D := by
  intro e
  have h1 := H.1
  have h7 := H.2.2.2.2.2.2.1
  rw [e, h1] at h7
  exact absurd h7 (by decide)
/-- a step of the reader -/
theorem tb_S.rd (Y : y_S X lb) (H : tb_D X lb D T g) (S : tb_S X D T g σ n B V r f9 f10) (h : tk (tc_S2 D) σ σ') : tb_S X D T g σ' n B V r f9 f10 ∧ tb_F X lb D σ σ' := by
  obtain ⟨s1, s2, s3, s4, s5⟩ := S
  have hD : ∀ b, b ≠ D → ∀ f, σ'.1 b f = σ.1 b f := fun b hb f => h.1 b f (fun q => hb q.1)
  refine ⟨⟨s1.k2 h, ?_, fun p p0 p1 => ?_, ?_, ?_⟩, fun b _ b2 _ f => hD b b2 f, fun f f1 _ _ => h.1 D f (fun q => f1 q.2), h.2⟩
  · rw [tb_v Y H (fun b b1 _ f => hD b b1 f)]; exact s2
  · rw [hD _ (tb_TD H)]; exact s3 p p0 p1
  · rw [h.1 D 9 (fun q => absurd q.2.2 (by decide))]; exact s4
  · rw [h.1 D 10 (fun q => absurd q.2.2 (by decide))]; exact s5
/-- a step of its game -/
theorem tb_S.gm (Y : y_S X lb) (H : tb_D X lb D T g) (S : tb_S X D T g σ n B V r f9 f10) {V' : Nat → Int → Int} (h : y_W X lb g 6 σ σ' V') : tb_S X D T g σ' n B V' r f9 f10 ∧ tb_F X lb D σ σ' := by
  obtain ⟨s1, s2, s3, s4, s5⟩ := S
  obtain ⟨h1, h2, h3, h4, h5, h6, h7, h8, h9⟩ := H
  have eD : ∀ f, σ'.1 D f = σ.1 D f := h.1 D (by omega)
  have eT : ∀ f, σ'.1 T f = σ.1 T f := h.1 T (by omega)
  have eA : ∀ f, σ'.1 (tb_T X D) f = σ.1 (tb_T X D) f := h.1 _ (by omega)
  obtain ⟨e1, e2, e3, e4, e5, e6⟩ := s1
  refine ⟨⟨⟨by rw [h.2.1]; exact e1, by rw [eD]; exact e2, e3, e4, e5, fun p p0 p1 => by rw [eT]; exact e6 p p0 p1⟩, h.2.2, fun p p0 p1 => by rw [eA]; exact s3 p p0 p1, by rw [eD]; exact s4, by rw [eD]; exact s5⟩, fun b b1 _ _ f => h.1 b b1 f, fun f _ _ _ => eD f, h.2.1⟩
/-- a flag -/
theorem tb_S.s9 (Y : y_S X lb) (H : tb_D X lb D T g) (S : tb_S X D T g σ n B V r f9 f10) (v : Int32) : tb_S X D T g (q_si σ D 9 v) n B V r v.toInt f10 ∧ tb_F X lb D σ (q_si σ D 9 v) := by
  obtain ⟨s1, s2, s3, s4, s5⟩ := S
  have k : tk (fun b f => b = D ∧ f = 9) σ (q_si σ D 9 v) := tk.rf.si _ ⟨rfl, rfl⟩
  have hD : ∀ b, b ≠ D → ∀ f, (q_si σ D 9 v).1 b f = σ.1 b f := fun b hb f => k.1 b f (fun q => hb q.1)
  refine ⟨⟨s1.k k (fun b f q => ⟨fun e => s1.2.2.2.1 (e.symm.trans q.1), fun e => absurd q.2 (by rw [e.2]; decide)⟩), ?_, fun p p0 p1 => ?_, ?_, ?_⟩, fun b _ b2 _ f => hD b b2 f, fun f _ f2 _ => k.1 D f (fun q => f2 q.2), k.2⟩
  · rw [tb_v Y H (fun b b1 _ f => hD b b1 f)]; exact s2
  · rw [hD _ (tb_TD H)]; exact s3 p p0 p1
  · rw [si_eq]
  · rw [si_f (by decide)]; exact s5
theorem tb_S.s10 (Y : y_S X lb) (H : tb_D X lb D T g) (S : tb_S X D T g σ n B V r f9 f10) (v : Int32) : tb_S X D T g (q_si σ D 10 v) n B V r f9 v.toInt ∧ tb_F X lb D σ (q_si σ D 10 v) := by
  obtain ⟨s1, s2, s3, s4, s5⟩ := S
  have k : tk (fun b f => b = D ∧ f = 10) σ (q_si σ D 10 v) := tk.rf.si _ ⟨rfl, rfl⟩
  have hD : ∀ b, b ≠ D → ∀ f, (q_si σ D 10 v).1 b f = σ.1 b f := fun b hb f => k.1 b f (fun q => hb q.1)
  refine ⟨⟨s1.k k (fun b f q => ⟨fun e => s1.2.2.2.1 (e.symm.trans q.1), fun e => absurd q.2 (by rw [e.2]; decide)⟩), ?_, fun p p0 p1 => ?_, ?_, ?_⟩, fun b _ b2 _ f => hD b b2 f, fun f _ _ f3 => k.1 D f (fun q => f3 q.2), k.2⟩
  · rw [tb_v Y H (fun b b1 _ f => hD b b1 f)]; exact s2
  · rw [hD _ (tb_TD H)]; exact s3 p p0 p1
  · rw [si_f (by decide)]; exact s4
  · rw [si_eq]
/-- a hand told -/
theorem tb_S.told (Y : y_S X lb) (H : tb_D X lb D T g) (S : tb_S X D T g σ n B V r f9 f10) {x v : Int32} {p : Int} (hx : x.toInt = p) (hp : 0 ≤ p ∧ p < 6) {s : Int} (hs : ar_w (r p + v.toInt) = s) : tb_S X D T g (F_X5_add X σ (q_rf X D 11) x v) n B V (fun j => if j = p then s else r j) f9 f10 ∧ tb_F X lb D σ (F_X5_add X σ (q_rf X D 11) x v) := by
  obtain ⟨s1, s2, s3, s4, s5⟩ := S
  have e : F_X5_add X σ (q_rf X D 11) x v = q_si σ (tb_T X D) x.toNatClampNeg (σ.1 (tb_T X D) x.toNatClampNeg + v) := by
    simp only [F_X5_add, ↓q_letE]
    have hl : (q_len X (q_rf X (q_rf X D 11) 0)).toInt = 6 := by
      unfold q_len
      have : q_ln X (q_rf X (q_rf X D 11) 0) = 6 := H.2.2.2.2.2.2.2.1
      rw [this]
      rfl
    rw [hl, hx, if_neg (by omega), if_pos (by omega)]
    rfl
  have hv : (σ.1 (tb_T X D) x.toNatClampNeg + v).toInt = s := by
    rw [ar_add, ar_cl, hx, s3 p hp.1 hp.2]
    exact hs
  rw [e]
  obtain ⟨y, hy⟩ : ∃ y, y = σ.1 (tb_T X D) x.toNatClampNeg + v := ⟨_, rfl⟩
  rw [← hy] at hv ⊢
  have k : tk (fun b f => b = tb_T X D ∧ f = x.toNatClampNeg) σ (q_si σ (tb_T X D) x.toNatClampNeg y) := tk.rf.si _ ⟨rfl, rfl⟩
  have hA : ∀ b, b ≠ tb_T X D → ∀ f, (q_si σ (tb_T X D) x.toNatClampNeg y).1 b f = σ.1 b f := fun b hb f => k.1 b f (fun q => hb q.1)
  have hTT : T ≠ tb_T X D := by
    intro e
    have h7 := H.2.2.2.2.2.2.1
    have h9 := H.2.2.2.2.2.2.2.2
    rw [← e, h9] at h7
    exact absurd h7 (by decide)
  have hDA : D ≠ tb_T X D := Ne.symm (tb_TD H)
  refine ⟨⟨s1.k k (fun b f q => ⟨fun e => hTT (e.symm.trans q.1), fun e => hDA (e.1.symm.trans q.1)⟩), ?_, fun j j0 j1 => ?_, ?_, ?_⟩, fun b _ _ b3 f => hA b b3 f, fun f _ _ _ => hA D hDA f, k.2⟩
  · rw [tb_v Y H (fun b _ b2 f => hA b b2 f)]; exact s2
  · show (if tb_T X D = tb_T X D ∧ j.toNat = x.toNatClampNeg then y else σ.1 (tb_T X D) j.toNat).toInt = if j = p then s else r j
    by_cases q : j = p
    · rw [if_pos q, if_pos ⟨rfl, by rw [ar_cl, hx, q]⟩]; exact hv
    · rw [if_neg q, if_neg (fun z => q (by have := z.2; rw [ar_cl, hx] at this; omega))]; exact s3 j j0 j1
  · rw [hA D hDA]; exact s4
  · rw [hA D hDA]; exact s5
/-! the reference's steps -/
theorem tb_k (hT : q_T X) (ha : q_kd X a = 12) : q_kd X (q_rf X a 20) = 34 ∧ q_kd X (q_rf X a 22) = 36 ∧ q_kd X (q_rf X a 23) = 37 ∧ q_kd X (q_rf X a 7) = 33 :=
  ⟨(hT.1 a 20 (by rw [ha]; decide)).trans (by rw [ha]; rfl), (hT.1 a 22 (by rw [ha]; decide)).trans (by rw [ha]; rfl), (hT.1 a 23 (by rw [ha]; decide)).trans (by rw [ha]; rfl), (hT.1 a 7 (by rw [ha]; decide)).trans (by rw [ha]; rfl)⟩
theorem tb_M.rd (hT : q_T X) (ha : q_kd X a = 12) (M : tb_M X a τ n B c w t f9 f10) (h : tkl (tn_S2 a) (tn_L a) τ τ') : tb_M X a τ' n B c w t f9 f10 := by
  obtain ⟨m1, m2, m3, m4, m5, m6⟩ := M
  obtain ⟨k1, k2, k3, k4⟩ := tb_k hT ha
  refine ⟨m1.k2 h, ?_, ?_, fun j j0 j1 => ?_, ?_, ?_⟩
  · rw [← m2]; funext j
    exact congrArg Int32.toInt (h.1 _ _ (fun q => m_ne k1 ha (by decide) q.1))
  · rw [← m3]; funext j
    exact congrArg Int64.toInt (h.2.1 _ _ (fun q => m_ne k3 ha (by decide) q.1))
  · rw [h.1 _ _ (fun q => m_ne k2 ha (by decide) q.1)]; exact m4 j j0 j1
  · rw [h.1 a 25 (fun q => absurd q.2.2 (by decide))]; exact m5
  · rw [h.1 a 26 (fun q => absurd q.2.2 (by decide)), h.1 a 0 (fun q => absurd q.2.1 (by decide)), h.1 a 8 (fun q => absurd q.2.1 (by decide))]; exact m6
/-- the token's cells are the same -/
def tl_same (a : Nat) (τ τ' : ST) : Prop := (∀ f, 12 ≤ f → f ≤ 18 → τ'.1 a f = τ.1 a f) ∧ τ'.2.1 a 19 = τ.2.1 a 19
def tl_sameC (R : Nat) (σ σ' : ST) : Prop := ∀ f, 2 ≤ f → f ≤ 7 → σ'.1 R f = σ.1 R f
theorem tl_K.same {R : Nat} (K : tl_K σ R τ a B n) (hc : tl_sameC R σ σ') (hm : tl_same a τ τ') : tl_K σ' R τ' a B n := by
  unfold tl_K at K ⊢
  rw [hc 2 (by decide) (by decide), hc 3 (by decide) (by decide), hc 4 (by decide) (by decide), hc 5 (by decide) (by decide), hc 6 (by decide) (by decide), hc 7 (by decide) (by decide), hm.1 14 (by decide) (by decide), hm.1 15 (by decide) (by decide), hm.1 16 (by decide) (by decide), hm.1 17 (by decide) (by decide), hm.1 18 (by decide) (by decide), hm.2]
  exact K
theorem tl_same.rf : tl_same a τ τ := ⟨fun _ _ _ => rfl, rfl⟩
theorem tl_sameC.rf {R : Nat} : tl_sameC R σ σ := fun _ _ _ => rfl
theorem tl_sameC.W {o : Nat} {V' : Nat → Int → Int} {R : Nat} (h : y_W X lb g o σ σ' V') (hR : lb R / 8192 ≠ o) : tl_sameC R σ σ' := fun f _ _ => h.1 R hR f
/-- the table's cell at A becomes v -/
def m_up (c : Int → Int) (A v : Int) : Int → Int := fun j => if j = A then v else c j
theorem m_c_neg (X : XW) (σ : ST) (a : Nat) {j : Int} (h : j < 0) : m_c X σ a j = m_c X σ a 0 := by
  unfold m_c
  have e : j.toNat = (0 : Int).toNat := by show j.toNat = 0; omega
  rw [e]
theorem m_c_up (A : Int) (hA : 1 ≤ A) {i v : Int32} (h : i.toInt = A) : m_c X (q_si τ (q_rf X a 20) i.toNatClampNeg v) a = m_up (m_c X τ a) A v.toInt := by
  funext j
  by_cases q : 0 ≤ j
  · exact m_wr (X := X) (a := a) rfl h (by omega) j q
  · rw [m_c_neg _ _ _ (by omega), m_wr (X := X) (a := a) rfl h (by omega) 0 (Int.le_refl 0), if_neg (by omega)]
    unfold m_up
    rw [if_neg (by omega)]
    exact (m_c_neg X τ a (by omega)).symm
theorem tb_M.cw (hT : q_T X) (ha : q_kd X a = 12) (M : tb_M X a τ n B c w t f9 f10) {i v : Int32} {A : Int} (hi : i.toInt = A) (hA : 1 ≤ A) : tb_M X a (q_si τ (q_rf X a 20) i.toNatClampNeg v) n B (m_up c A v.toInt) w t f9 f10 ∧ tl_same a τ (q_si τ (q_rf X a 20) i.toNatClampNeg v) := by
  obtain ⟨m1, m2, m3, m4, m5, m6⟩ := M
  obtain ⟨k1, k2, k3, k4⟩ := tb_k hT ha
  have na : a ≠ q_rf X a 20 := Ne.symm (m_ne k1 ha (by decide))
  have k : tkl (fun b f => b = q_rf X a 20) (fun _ _ => False) τ (q_si τ (q_rf X a 20) i.toNatClampNeg v) := tkl.rf.si _ rfl
  refine ⟨⟨m1.k k (fun b f q => ⟨fun e => m_ne k1 k4 (by decide) (q.symm.trans e), fun e => na (e.1.symm.trans q)⟩), ?_, m3, fun j j0 j1 => ?_, ?_, ?_⟩, fun f _ _ => k.1 a f na, rfl⟩
  · rw [m_c_up A hA hi, m2]
  · rw [k.1 _ _ (m_ne k2 k1 (by decide))]; exact m4 j j0 j1
  · rw [k.1 a 25 na]; exact m5
  · rw [k.1 a 26 na, k.1 a 0 na, k.1 a 8 na]; exact m6
theorem tb_M.s9 (hT : q_T X) (ha : q_kd X a = 12) (M : tb_M X a τ n B c w t f9 f10) (v : Int32) : tb_M X a (q_si τ a 25 v) n B c w t v.toInt f10 ∧ tl_same a τ (q_si τ a 25 v) := by
  obtain ⟨m1, m2, m3, m4, m5, m6⟩ := M
  obtain ⟨k1, k2, k3, k4⟩ := tb_k hT ha
  have k : tkl (fun b f => b = a ∧ f = 25) (fun _ _ => False) τ (q_si τ a 25 v) := tkl.rf.si _ ⟨rfl, rfl⟩
  refine ⟨⟨m1.k k (fun b f q => ⟨fun e => m_ne k4 ha (by decide) (e.symm.trans q.1), fun e => absurd q.2 (by rw [e.2]; decide)⟩), ?_, m3, fun j j0 j1 => ?_, ?_, ?_⟩, fun f _ f2 => k.1 a f (fun q => by have := q.2; omega), rfl⟩
  · rw [← m2]; funext j
    exact congrArg Int32.toInt (k.1 _ _ (fun q => m_ne k1 ha (by decide) q.1))
  · rw [k.1 _ _ (fun q => m_ne k2 ha (by decide) q.1)]; exact m4 j j0 j1
  · rw [si_eq]
  · rw [si_f (by decide), si_f (by decide), si_f (by decide)]; exact m6
theorem tb_M.s10 (hT : q_T X) (ha : q_kd X a = 12) (M : tb_M X a τ n B c w t f9 f10) (v : Int32) : tb_M X a (q_si τ a 26 v) n B c w t f9 v.toInt ∧ tl_same a τ (q_si τ a 26 v) := by
  obtain ⟨m1, m2, m3, m4, m5, m6⟩ := M
  obtain ⟨k1, k2, k3, k4⟩ := tb_k hT ha
  have k : tkl (fun b f => b = a ∧ f = 26) (fun _ _ => False) τ (q_si τ a 26 v) := tkl.rf.si _ ⟨rfl, rfl⟩
  refine ⟨⟨m1.k k (fun b f q => ⟨fun e => m_ne k4 ha (by decide) (e.symm.trans q.1), fun e => absurd q.2 (by rw [e.2]; decide)⟩), ?_, m3, fun j j0 j1 => ?_, ?_, ?_⟩, fun f _ f2 => k.1 a f (fun q => by have := q.2; omega), rfl⟩
  · rw [← m2]; funext j
    exact congrArg Int32.toInt (k.1 _ _ (fun q => m_ne k1 ha (by decide) q.1))
  · rw [k.1 _ _ (fun q => m_ne k2 ha (by decide) q.1)]; exact m4 j j0 j1
  · rw [si_f (by decide)]; exact m5
  · exact ⟨by rw [si_eq], by rw [si_f (by decide)]; exact m6.2.1, by rw [si_f (by decide)]; exact m6.2.2⟩
theorem tb_M.told (hT : q_T X) (ha : q_kd X a = 12) (M : tb_M X a τ n B c w t f9 f10) {i v : Int32} {A : Int} (hi : i.toInt = A) (hA : 0 ≤ A ∧ A < 60) : tb_M X a (q_si τ (q_rf X a 22) i.toNatClampNeg v) n B c w (m_up t A v.toInt) f9 f10 ∧ tl_same a τ (q_si τ (q_rf X a 22) i.toNatClampNeg v) := by
  obtain ⟨m1, m2, m3, m4, m5, m6⟩ := M
  obtain ⟨k1, k2, k3, k4⟩ := tb_k hT ha
  have na : a ≠ q_rf X a 22 := Ne.symm (m_ne k2 ha (by decide))
  have k : tkl (fun b f => b = q_rf X a 22) (fun _ _ => False) τ (q_si τ (q_rf X a 22) i.toNatClampNeg v) := tkl.rf.si _ rfl
  refine ⟨⟨m1.k k (fun b f q => ⟨fun e => m_ne k2 k4 (by decide) (q.symm.trans e), fun e => na (e.1.symm.trans q)⟩), ?_, m3, fun j j0 j1 => ?_, ?_, ?_⟩, fun f _ _ => k.1 a f na, rfl⟩
  · rw [← m2]; funext j
    exact congrArg Int32.toInt (k.1 _ _ (m_ne k1 k2 (by decide)))
  · show (if q_rf X a 22 = q_rf X a 22 ∧ j.toNat = i.toNatClampNeg then v else τ.1 (q_rf X a 22) j.toNat).toInt = if j = A then v.toInt else t j
    by_cases q : j = A
    · rw [if_pos q, if_pos ⟨rfl, by rw [ar_cl, hi, q]⟩]
    · rw [if_neg q, if_neg (fun z => q (by have := z.2; rw [ar_cl, hi] at this; omega))]; exact m4 j j0 j1
  · rw [k.1 a 25 na]; exact m5
  · rw [k.1 a 26 na, k.1 a 0 na, k.1 a 8 na]; exact m6
theorem tb_M.word (hT : q_T X) (ha : q_kd X a = 12) (M : tb_M X a τ n B c w t f9 f10) {i : Int32} {v : Int64} {A : Int} (hi : i.toInt = A) (hA : 1 ≤ A) : tb_M X a (q_sl τ (q_rf X a 23) i.toNatClampNeg v) n B c (m_up w A v.toInt) t f9 f10 ∧ tl_same a τ (q_sl τ (q_rf X a 23) i.toNatClampNeg v) := by
  obtain ⟨m1, m2, m3, m4, m5, m6⟩ := M
  obtain ⟨k1, k2, k3, k4⟩ := tb_k hT ha
  have na : a ≠ q_rf X a 23 := Ne.symm (m_ne k3 ha (by decide))
  refine ⟨⟨m1, m2, ?_, m4, m5, m6⟩, fun f _ _ => rfl, q_sl_ne na 19⟩
  rw [← m3]
  funext j
  show (if q_rf X a 23 = q_rf X a 23 ∧ j.toNat = i.toNatClampNeg then v else τ.2.1 (q_rf X a 23) j.toNat).toInt = if j = A then v.toInt else (τ.2.1 (q_rf X a 23) j.toNat).toInt
  by_cases q : j = A
  · rw [if_pos q, if_pos ⟨rfl, by rw [ar_cl, hi, q]⟩]
  · rw [if_neg q]
    by_cases q2 : j.toNat = i.toNatClampNeg
    · rw [ar_cl, hi] at q2
      exact absurd (by omega : j = A) q
    · rw [if_neg (fun z => q2 z.2)]
end TB
end
/-! FROM 48l.parts.lean.txt -/
section
/-! THE PARTS OF A TABLE -/
theorem m_up_eq (c : Int → Int) (A v : Int) : m_up c A v A = v := if_pos rfl
theorem m_up_ne {c : Int → Int} {A v j : Int} (h : j ≠ A) : m_up c A v j = c j := if_neg h
theorem y_up_eq (V : Nat → Int → Int) (id : Nat) (i v : Int) : y_up V id i v id i = v := if_pos ⟨rfl, rfl⟩
theorem y_up_ne {V : Nat → Int → Int} {id id' : Nat} {i i' v : Int} (h : id' ≠ id ∨ i' ≠ i) : y_up V id i v id' i' = V id' i' := by
  refine if_neg ?_
  rintro ⟨h1, h2⟩
  rcases h with h | h
  · exact h h1
  · exact h h2
theorem m_up_e {c : Int → Int} {A v : Int} : ∀ j : Int, 0 ≤ j → m_up c A v j = if j = A then v else c j := fun _ _ => rfl
theorem m_sum_up {c : Int → Int} {A v k : Int} (hk : 0 ≤ k) (h : A < 3754) : m_sum (m_up c A v) 3720 k = m_sum c 3720 k := by
  unfold m_sum
  rw [m_up_ne (by omega), m_up_ne (by omega), m_up_ne (by omega), m_up_ne (by omega), m_up_ne (by omega), m_up_ne (by omega)]
theorem m_S_up {c : Int → Int} {A v b : Int} {n : Nat} (h : A < b) : m_S (m_up c A v) b n = m_S c b n := m_S_ext (fun j a _ => m_up_ne (by omega))
/-- a law, a most, a number of players: nothing else is changed -/
theorem tb_H.up {c r t : Int → Int} {A v : Int} (h : tb_H c r t) (hA : A < 3754) (hA2 : A = 3722 → c 3722 ≤ v) : tb_H (m_up c A v) r t := by
  obtain ⟨h1, h2, h3⟩ := h
  refine ⟨fun j a b => ⟨(h1 j a b).1, fun q => by rw [m_up_ne (by omega)]; exact (h1 j a b).2 q⟩, h2, fun j a b q => h3 j a b ?_⟩
  by_cases e : A = 3722
  · subst e
    rw [m_up_eq] at q
    have := hA2 rfl
    omega
  · rw [m_up_ne (fun z => e z.symm)] at q
    exact q
theorem tb_Z.up {V : Nat → Int → Int} {id : Nat} {i v : Int} (h : tb_Z V) (hid : id = 1 ∨ id = 4 ∨ id = 5 ∨ id = 6 ∨ id = 7 ∨ id = 9 ∨ id = 10 ∨ id = 11) : tb_Z (y_up V id i v) := by
  obtain ⟨h1, h2, h3⟩ := h
  refine ⟨fun j a b => by rw [y_up_ne (Or.inl (by omega))]; exact h1 j a b, fun j a b => by rw [y_up_ne (Or.inl (by omega)), y_up_ne (Or.inl (by omega))]; exact h2 j a b, ?_⟩
  rw [y_up_ne (Or.inl (by omega)), y_up_ne (Or.inl (by omega)), y_up_ne (Or.inl (by omega)), y_up_ne (Or.inl (by omega)), y_up_ne (Or.inl (by omega)), y_up_ne (Or.inl (by omega)), y_up_ne (Or.inl (by omega)), y_up_ne (Or.inl (by omega)), y_up_ne (Or.inl (by omega))]
  exact h3
theorem y_nm.up {V : Nat → Int → Int} {w : Int → Int} {q P : Int} {id : Nat} {i v : Int} (h : y_nm V w q P) (h5 : id ≠ 5) (h6 : id ≠ 6) : y_nm (y_up V id i v) w q P := by
  intro p p0 p1
  obtain ⟨a1, a2, a3⟩ := h p p0 p1
  have e6 : y_up V id i v 6 p = V 6 p := y_up_ne (Or.inl (Ne.symm h6))
  have e5 : (fun j => y_up V id i v 5 (8 * p + j)) = fun j => V 5 (8 * p + j) := by funext j; exact y_up_ne (Or.inl (Ne.symm h5))
  rw [e6]
  refine ⟨a1, fun j j0 j1 => ?_, ?_⟩
  · rw [y_up_ne (Or.inl (Ne.symm h5))]; exact a2 j j0 j1
  · rw [e5]; exact a3
theorem tb_R.law {V : Nat → Int → Int} {r c w t : Int → Int} {v : Int} (h : tb_R V r c w t) (hv : 0 ≤ v ∧ v ≤ 2) : tb_R (y_up V 1 2 v) r (m_up c 3723 v) w t := by
  obtain ⟨⟨⟨n1, n2, n3, n4, n5⟩, n6, n7, n8, n9⟩, z, nm, hh, mn, k1, k2, k3⟩ := h
  refine ⟨⟨⟨?_, ?_, ?_, ?_, ?_⟩, ?_, ?_, ?_, ?_⟩, z.up (Or.inl rfl), ?_, hh.up (by omega) (by omega), mn.wr m_up_e (by omega), ?_, ?_, ?_⟩
  · rw [y_up_ne (Or.inr (by decide)), m_up_ne (by decide)]; exact n1
  · rw [y_up_ne (Or.inr (by decide)), m_up_ne (by decide)]; exact n2
  · rw [y_up_eq, m_up_eq]
  · rw [y_up_ne (Or.inr (by decide)), m_up_ne (by decide)]; exact n4
  · rw [y_up_ne (Or.inr (by decide)), m_up_ne (by decide)]; exact n5
  · intro k a b; rw [y_up_ne (Or.inl (by decide)), m_sum_up a (by decide)]; exact n6 k a b
  · intro j a b; rw [y_up_ne (Or.inl (by decide)), m_up_ne (by omega)]; exact n7 j a b
  · intro p a b; rw [y_up_ne (Or.inl (by decide)), m_S_up (by omega)]; exact n8 p a b
  · intro p a b; rw [y_up_ne (Or.inl (by decide)), y_up_ne (Or.inl (by decide)), m_up_ne (by omega), m_up_ne (by omega)]; exact n9 p a b
  · rw [m_up_ne (by decide)]; exact nm.up (by decide) (by decide)
  · rw [m_up_ne (by decide)]; exact k1
  · rw [m_up_ne (by decide)]; exact k2
  · rw [m_up_ne (by decide)]; exact k3
theorem tb_R.most {V : Nat → Int → Int} {r c w t : Int → Int} {v : Int} (h : tb_R V r c w t) (hv : 1 ≤ v ∧ v ≤ 4) : tb_R (y_up V 1 3 v) r (m_up c 3724 v) w t := by
  obtain ⟨⟨⟨n1, n2, n3, n4, n5⟩, n6, n7, n8, n9⟩, z, nm, hh, mn, k1, k2, k3⟩ := h
  refine ⟨⟨⟨?_, ?_, ?_, ?_, ?_⟩, ?_, ?_, ?_, ?_⟩, z.up (Or.inl rfl), ?_, hh.up (by omega) (by omega), mn.wr m_up_e (by omega), ?_, ?_, ?_⟩
  · rw [y_up_ne (Or.inr (by decide)), m_up_ne (by decide)]; exact n1
  · rw [y_up_ne (Or.inr (by decide)), m_up_ne (by decide)]; exact n2
  · rw [y_up_ne (Or.inr (by decide)), m_up_ne (by decide)]; exact n3
  · rw [y_up_eq, m_up_eq]
  · rw [y_up_ne (Or.inr (by decide)), m_up_ne (by decide)]; exact n5
  · intro k a b; rw [y_up_ne (Or.inl (by decide)), m_sum_up a (by decide)]; exact n6 k a b
  · intro j a b; rw [y_up_ne (Or.inl (by decide)), m_up_ne (by omega)]; exact n7 j a b
  · intro p a b; rw [y_up_ne (Or.inl (by decide)), m_S_up (by omega)]; exact n8 p a b
  · intro p a b; rw [y_up_ne (Or.inl (by decide)), y_up_ne (Or.inl (by decide)), m_up_ne (by omega), m_up_ne (by omega)]; exact n9 p a b
  · rw [m_up_ne (by decide)]; exact nm.up (by decide) (by decide)
  · rw [m_up_ne (by decide)]; exact k1
  · rw [m_up_ne (by decide)]; exact k2
  · rw [m_up_eq]; exact hv.1
/-- both in the middle of a table -/
def tb_I (X : XW) (D T g a : Nat) (n : Int) (B : Int → Int) (σ τ : ST) (V : Nat → Int → Int) (r c w t : Int → Int) (f9 f10 : Int) : Prop := tb_S X D T g σ n B V r f9 f10 ∧ tb_M X a τ n B c w t f9 f10 ∧ tl_K σ D τ a B n ∧ (τ.1 a 12).toInt = 0 ∧ tb_R V r c w t
/-- what the reference's reading leaves alone -/
def tb_P (X : XW) (a : Nat) (τ τ' : ST) : Prop := (∀ j : Int, 0 ≤ j → j < 3720 → m_c X τ' a j = m_c X τ a j) ∧ (∀ j : Int, 0 ≤ j → j < 24 → m_wd X τ' a j = m_wd X τ a j) ∧ (τ'.1 a 0).toInt = (τ.1 a 0).toInt ∧ (τ'.1 a 8).toInt = (τ.1 a 8).toInt
/-- what comes of a part -/
def tb_O (X : XW) (lb : Nat → Nat) (D T g a : Nat) (n : Int) (B : Int → Int) (σ τ σ' τ' : ST) (z : Int32) : Prop :=
  tb_F X lb D σ σ' ∧ tb_P X a τ τ' ∧
  ((z.toInt = 1 ∧ ∃ (V : Nat → Int → Int) (r c w t : Int → Int) (f9 f10 : Int), tb_I X D T g a n B σ' τ' V r c w t f9 f10 ∧ (τ.1 a 15).toInt < (τ'.1 a 15).toInt) ∨ (z.toInt = 0 ∧ tl_F σ' D τ' a))
section TP
variable {X : XW} {lb : Nat → Nat} {D T g a : Nat} {σ τ σ' τ' σ1 τ1 : ST} {n : Int} {B : Int → Int} {V : Nat → Int → Int} {r c w t : Int → Int} {f9 f10 : Int}
theorem tb_P.rf : tb_P X a τ τ := ⟨fun _ _ _ => rfl, fun _ _ _ => rfl, rfl, rfl⟩
theorem tb_P.tr (h : tb_P X a τ τ1) (k : tb_P X a τ1 τ') : tb_P X a τ τ' := ⟨fun j a b => (k.1 j a b).trans (h.1 j a b), fun j a b => (k.2.1 j a b).trans (h.2.1 j a b), k.2.2.1.trans h.2.2.1, k.2.2.2.trans h.2.2.2⟩
theorem tb_P.mk {c' w' t' : Int → Int} {h9 h10 k9 k10 : Int} (M : tb_M X a τ n B c w t h9 h10) (M' : tb_M X a τ' n B c' w' t' k9 k10) (hc : ∀ j : Int, 0 ≤ j → j < 3720 → c' j = c j) (hw : ∀ j : Int, 0 ≤ j → j < 24 → w' j = w j) : tb_P X a τ τ' := ⟨fun j a b => by rw [M.2.1, M'.2.1]; exact hc j a b, fun j a b => by rw [M.2.2.1, M'.2.2.1]; exact hw j a b, M'.2.2.2.2.2.2.1.trans M.2.2.2.2.2.2.1.symm, M'.2.2.2.2.2.2.2.trans M.2.2.2.2.2.2.2.symm⟩
theorem tb_P.rd (hT : q_T X) (ha : q_kd X a = 12) (h : tkl (tn_S2 a) (tn_L a) τ τ') : tb_P X a τ τ' := by
  obtain ⟨k1, k2, k3, k4⟩ := tb_k hT ha
  exact ⟨fun j _ _ => congrArg Int32.toInt (h.1 _ _ (fun q => m_ne k1 ha (by decide) q.1)), fun j _ _ => congrArg Int64.toInt (h.2.1 _ _ (fun q => m_ne k3 ha (by decide) q.1)), congrArg Int32.toInt (h.1 a 0 (fun q => absurd q.2.1 (by decide))), congrArg Int32.toInt (h.1 a 8 (fun q => absurd q.2.1 (by decide)))⟩
theorem tm_must0 (h : (τ.1 a 12).toInt = 0) {v : Int32} (hv : v.toInt = 0) : F_X12_must X τ a v = F_X12_wrong X τ a := by
  simp only [F_X12_must, ↓q_letE]
  rw [h, if_neg (by decide), if_pos hv]
theorem tm_must1 (h : (τ.1 a 12).toInt = 0) {v : Int32} (hv : v.toInt ≠ 0) : F_X12_must X τ a v = F_X12_next X τ a := by
  simp only [F_X12_must, ↓q_letE]
  rw [h, if_neg (by decide), if_neg hv]
/-- a fault, and the reference goes no further -/
theorem tb_O.bad {z : Int32} (hf : tb_F X lb D σ σ') (hp : tb_P X a τ τ') (hz : z.toInt = 0) (h : tl_F σ' D τ' a) (v : Int32) : tb_O X lb D T g a n B σ τ σ' (F_X12_must X τ' a v) z := by
  rw [tm_must2 h.2.1]
  exact ⟨hf, hp, Or.inr ⟨hz, h⟩⟩
/-- the semicolon at a part's end -/
theorem tb_semi (Y : y_S X lb) (H : tb_D X lb D T g) (ha : q_kd X a = 12) (I : tb_I X D T g a n B σ' τ' V r c w t f9 f10) (hf : tb_F X lb D σ σ') (hp : tb_P X a τ τ') (hlt : (τ.1 a 15).toInt ≤ (τ'.1 a 15).toInt) (hlt2 : (τ.1 a 15).toInt < (τ'.1 a 16).toInt) :
    ∃ (z : Int32) (σ2 : ST), F_X3_passSemicolon X σ' D = (z, σ2) ∧ tb_O X lb D T g a n B σ τ σ2 (F_X12_must X τ' a (F_X12_isSign X τ' a 59)) z := by
  obtain ⟨S, M, K, h0, Rr⟩ := I
  obtain ⟨z, σ2, e, hz, o1, o2, o3⟩ := tl_passSemi S.1 M.1 K h0
  obtain ⟨S2, f2⟩ := S.rd Y H o1
  have M2 := M.rd Y.1 ha o2
  refine ⟨z, σ2, e, hf.tr f2, hp.tr (tb_P.rd Y.1 ha o2), ?_⟩
  rcases o3 with ⟨q1, q2, q3, q4⟩ | ⟨q1, q2⟩
  · exact Or.inl ⟨q1, V, r, c, w, t, f9, f10, ⟨S2, M2, q2, q3, Rr⟩, by omega⟩
  · refine Or.inr ⟨?_, q2⟩
    rcases hz with hz | hz
    · exact hz
    · exact absurd hz q1
theorem tl_sameC.s9 (v : Int32) : tl_sameC D σ (q_si σ D 9 v) := fun f _ h => si_f (by omega) D
theorem tl_sameC.s10 (v : Int32) : tl_sameC D σ (q_si σ D 10 v) := fun f _ h => si_f (by omega) D
theorem tb_readLaw (Y : y_S X lb) (H : tb_D X lb D T g) (ha : q_kd X a = 12) (I : tb_I X D T g a n B σ τ V r c w t f9 f10) (h1 : (τ.1 a 14).toInt = 1) :
    ∃ (z : Int32) (σ' : ST), F_X9_readLaw X σ D = (z, σ') ∧ tb_O X lb D T g a n B σ τ σ' (F_X12_must X (F_X12_readLaw X τ a) a (F_X12_isSign X (F_X12_readLaw X τ a) a 59)) z := by
  obtain ⟨S, M, K, h0, Rr⟩ := I
  have kb := K.b
  unfold F_X9_readLaw F_X12_readLaw
  rw [q_letE (σ.1 D 9), q_letE (τ.1 a 25), S.2.2.2.1, M.2.2.2.2.1]
  by_cases q9 : f9 = 0
  · rw [if_pos q9, if_pos q9, q_letE (τ.1 a 12), h0, if_neg (by decide : ¬ (0 : Int) < 0), q_letE (q_si σ D 9 1), q_letE (q_si τ a 25 1)]
    obtain ⟨S1, f1⟩ := S.s9 Y H 1
    obtain ⟨M1, sm1⟩ := M.s9 Y.1 ha 1
    have K1 := K.same (tl_sameC.s9 1) sm1
    have h01 : ((q_si τ a 25 1).1 a 12).toInt = 0 := by rw [sm1.1 12 (by decide) (by decide)]; exact h0
    have p1 : tb_P X a τ (q_si τ a 25 1) := tb_P.mk M M1 (fun _ _ _ => rfl) (fun _ _ _ => rfl)
    have e16 : (q_si τ a 25 1).1 a 16 = τ.1 a 16 := sm1.1 16 (by decide) (by decide)
    obtain ⟨σa, hσa⟩ : ∃ s, s = q_si σ D 9 1 := ⟨_, rfl⟩
    obtain ⟨τa, hτa⟩ : ∃ s, s = q_si τ a 25 1 := ⟨_, rfl⟩
    rw [← hσa] at S1 f1 K1 ⊢
    rw [← hτa] at M1 K1 h01 p1 e16 ⊢
    rw [q_letE (F_X3_advance X σa D), q_letE (F_X12_next X τa a)]
    obtain ⟨c1, m1, K2, g2⟩ := tl_adv2 S1.1 M1.1 K1
    obtain ⟨S2, f2⟩ := S1.rd Y H c1.S2
    have M2 := M1.rd Y.1 ha m1.S2
    have p2 := p1.tr (tb_P.rd Y.1 ha m1.S2)
    have h02 : ((F_X12_next X τa a).1 a 12).toInt = 0 := by rw [tn_12 m1]; exact h01
    obtain ⟨σb, hσb⟩ : ∃ s, s = F_X3_advance X σa D := ⟨_, rfl⟩
    obtain ⟨τb, hτb⟩ : ∃ s, s = F_X12_next X τa a := ⟨_, rfl⟩
    rw [← hσb] at S2 f2 K2 ⊢
    rw [← hτb] at M2 K2 g2 h02 p2 ⊢
    have lw := tm_lawWord (X := X) (σ := τb) (a := a)
    have c3 : y_cw 3 = 688 := rfl
    have c4 : y_cw 4 = 147182 := rfl
    have c5 : y_cw 5 = 624037 := rfl
    rw [← c3, ← c4, ← c5] at lw
    rw [q_letE (F_X3_isWord X σb D 3), q_letE (F_X12_lawWord X τb a), q_letE (F_J9_max_7cf53 X τb 0 (F_X12_lawWord X τb a))]
    -- what the reference has for the law
    have mk : ∀ v : Int, -1 ≤ v → v ≤ 2 → (F_X12_lawWord X τb a).toInt = v → ∃ τc : ST, q_let (q_si τb (q_rf X a 20) (3723 : Int32).toNatClampNeg (F_J9_max_7cf53 X τb 0 (F_X12_lawWord X τb a)) : ST) (fun σ_13 => q_let (F_X12_lawWord X σ_13 a : Int32) (fun r_14 => if r_14.toInt < 0 then q_let (F_X12_must X σ_13 a (0 : Int32) : ST) (fun σ_19 => σ_19) else q_let (F_X12_must X σ_13 a (1 : Int32) : ST) (fun σ_22 => σ_22))) = (if v < 0 then F_X12_wrong X τc a else F_X12_next X τc a) ∧ tb_M X a τc n B (m_up c 3723 (max 0 v)) w t 1 f10 ∧ tl_same a τb τc := by
      intro v v0 v1 hv
      have mx : (F_J9_max_7cf53 X τb 0 (F_X12_lawWord X τb a)).toInt = max 0 v := by
        unfold F_J9_max_7cf53
        have z0 : (0 : Int32).toInt = 0 := rfl
        rw [z0, hv]
        by_cases q : 0 < v
        · rw [if_pos q, hv]; omega
        · rw [if_neg q, z0]; omega
      obtain ⟨M3, sm3⟩ := M2.cw Y.1 ha (i := 3723) (v := F_J9_max_7cf53 X τb 0 (F_X12_lawWord X τb a)) (A := 3723) rfl (by decide)
      rw [mx] at M3
      refine ⟨_, ?_, M3, sm3⟩
      obtain ⟨τc, hτc⟩ : ∃ s, s = q_si τb (q_rf X a 20) (3723 : Int32).toNatClampNeg (F_J9_max_7cf53 X τb 0 (F_X12_lawWord X τb a)) := ⟨_, rfl⟩
      rw [← hτc] at sm3 ⊢
      rw [q_letE, q_letE, q_letE, q_letE]
      have e : (F_X12_lawWord X τc a).toInt = v := by
        rw [tm_lawWord, sm3.1 14 (by decide) (by decide), sm3.2, ← tm_lawWord (X := X)]
        exact hv
      have h03 : (τc.1 a 12).toInt = 0 := by rw [sm3.1 12 (by decide) (by decide)]; exact h02
      rw [e]
      by_cases q : v < 0
      · rw [if_pos q, if_pos q, tm_must0 h03 rfl]
      · rw [if_neg q, if_neg q, tm_must1 h03 (by decide)]
    have iw : ∀ rr : Nat, y_isw rr → (F_X3_isWord X σb D rr).toInt = if (τb.1 a 14).toInt = 1 ∧ (τb.2.1 a 19).toInt = y_cw rr then 1 else 0 := fun rr hr => tl_isWord S2.1 K2 hr
    -- the class goes on with the law v
    have go : ∀ (v : Int32) (vv : Int), v.toInt = vv → 0 ≤ vv → vv ≤ 2 → (F_X12_lawWord X τb a).toInt = vv →
        ∃ (z : Int32) (σ' : ST), q_let (q_si σb (q_rf X (q_rf X D 8) 0) 2 v : ST) (fun σ_18 => q_let (F_X3_advance X σ_18 D : ST) (fun σ_20 => q_bi (F_X3_passSemicolon X σ_20 D) (fun r_21 σ_22 => (r_21, σ_22)))) = (z, σ') ∧ ∃ τ' : ST, q_let (q_si τb (q_rf X a 20) (3723 : Int32).toNatClampNeg (F_J9_max_7cf53 X τb 0 (F_X12_lawWord X τb a)) : ST) (fun σ_13 => q_let (F_X12_lawWord X σ_13 a : Int32) (fun r_14 => if r_14.toInt < 0 then q_let (F_X12_must X σ_13 a (0 : Int32) : ST) (fun σ_19 => σ_19) else q_let (F_X12_must X σ_13 a (1 : Int32) : ST) (fun σ_22 => σ_22))) = τ' ∧ tb_O X lb D T g a n B σ τ σ' (F_X12_must X τ' a (F_X12_isSign X τ' a 59)) z := by
      intro v vv hv v0 v1 hl
      obtain ⟨τc, e1, M3, sm3⟩ := mk vv (by omega) v1 hl
      have em : max 0 vv = vv := by omega
      rw [em] at M3
      rw [if_neg (by omega)] at e1
      have W := (y_W.rf (X := X) (lb := lb) (g := g) (o := 6) (σ := σb)).si Y H.2.2.1 (id := 1) (by decide) 2 v
      rw [S2.2.1, hv] at W
      have hg : q_si σb (y_gA X g 1) 2 v = q_si σb (q_rf X (q_rf X D 8) 0) 2 v := by rw [H.2.1]; rfl
      rw [hg] at W
      obtain ⟨S3, f3⟩ := S2.gm Y H W
      have K3 := K2.same (tl_sameC.W W (by have := H.2.2.2.1; omega)) sm3
      have h03 : (τc.1 a 12).toInt = 0 := by rw [sm3.1 12 (by decide) (by decide)]; exact h02
      obtain ⟨c4, m4, K4, g4⟩ := tl_adv2 S3.1 M3.1 K3
      obtain ⟨S4, f4⟩ := S3.rd Y H c4.S2
      have M4 := M3.rd Y.1 ha m4.S2
      have h04 : ((F_X12_next X τc a).1 a 12).toInt = 0 := by rw [tn_12 m4]; exact h03
      have R4 : tb_R (y_up V 1 2 vv) r (m_up c 3723 vv) w t := Rr.law ⟨v0, v1⟩
      have pP : tb_P X a τ (F_X12_next X τc a) := p2.tr ((tb_P.mk M2 M3 (fun j a b => m_up_ne (by omega)) (fun _ _ _ => rfl)).tr (tb_P.rd Y.1 ha m4.S2))
      have k3b := K3.b
      have k4b := K4.b
      have s15 : τc.1 a 15 = τb.1 a 15 := sm3.1 15 (by decide) (by decide)
      obtain ⟨z, σ2, e2, o⟩ := tb_semi Y H ha (σ := σ) (τ := τ) ⟨S4, M4, K4, h04, R4⟩ (((f1.tr f2).tr f3).tr f4) pP (by rw [e16] at g2; rw [s15] at k3b; omega) (by rw [e16] at g2; rw [s15] at k3b; omega)
      refine ⟨z, σ2, ?_, _, e1, o⟩
      rw [q_letE, q_letE, q_biE, e2]
    rw [iw 3 ⟨by decide, by decide⟩]
    by_cases w3 : (τb.1 a 14).toInt = 1 ∧ (τb.2.1 a 19).toInt = y_cw 3
    · rw [if_pos w3, if_neg (by decide)]
      have l3 : (F_X12_lawWord X τb a).toInt = 0 := by rw [lw, if_pos w3]
      obtain ⟨z, σ', e1, τ', e2, o⟩ := go 0 0 rfl (by decide) (by decide) l3
      rw [e2]
      exact ⟨z, σ', e1, o⟩
    · rw [if_neg w3, if_pos rfl, q_letE (F_X3_isWord X σb D 4), iw 4 ⟨by decide, by decide⟩]
      by_cases w4 : (τb.1 a 14).toInt = 1 ∧ (τb.2.1 a 19).toInt = y_cw 4
      · rw [if_pos w4, if_neg (by decide)]
        have l3 : (F_X12_lawWord X τb a).toInt = 1 := by rw [lw, if_neg w3, if_pos w4]
        obtain ⟨z, σ', e1, τ', e2, o⟩ := go 1 1 rfl (by decide) (by decide) l3
        rw [e2]
        exact ⟨z, σ', e1, o⟩
      · rw [if_neg w4, if_pos rfl, q_letE (F_X3_isWord X σb D 5), iw 5 ⟨by decide, by decide⟩]
        by_cases w5 : (τb.1 a 14).toInt = 1 ∧ (τb.2.1 a 19).toInt = y_cw 5
        · rw [if_pos w5, if_neg (by decide)]
          have l3 : (F_X12_lawWord X τb a).toInt = 2 := by rw [lw, if_neg w3, if_neg w4, if_pos w5]
          obtain ⟨z, σ', e1, τ', e2, o⟩ := go 2 2 rfl (by decide) (by decide) l3
          rw [e2]
          exact ⟨z, σ', e1, o⟩
        · rw [if_neg w5, if_pos rfl]
          have l3 : (F_X12_lawWord X τb a).toInt = -1 := by rw [lw, if_neg w3, if_neg w4, if_neg w5]
          obtain ⟨τc, e1, M3, sm3⟩ := mk (-1) (by decide) (by decide) l3
          rw [if_pos (by decide)] at e1
          have K3 := K2.same tl_sameC.rf sm3
          have h03 : (τc.1 a 12).toInt = 0 := by rw [sm3.1 12 (by decide) (by decide)]; exact h02
          obtain ⟨σ', a1, a2, a3, a4⟩ := tl_wrong (X := X) K3 h03
          rw [e1, q_biE, a1]
          exact ⟨0, σ', rfl, tb_O.bad ((f1.tr f2).tr (S2.rd Y H a2).2) (p2.tr ((tb_P.mk M2 M3 (fun j a b => m_up_ne (by omega)) (fun _ _ _ => rfl)).tr (tb_P.rd Y.1 ha a3))) rfl a4 _⟩
  · rw [if_neg q9, if_neg q9, q_letE, q_letE, q_letE]
    obtain ⟨σ', a1, a2, a3, a4⟩ := tl_fail (X := X) K h0 (by omega) (k := 5) (by decide) (w := τ.1 a 15) rfl
    rw [if_pos a4.2.1, q_biE, a1]
    exact ⟨0, σ', rfl, tb_O.bad (S.rd Y H a2).2 (tb_P.rd Y.1 ha a3) rfl a4 _⟩
theorem tb_readMost (Y : y_S X lb) (H : tb_D X lb D T g) (ha : q_kd X a = 12) (I : tb_I X D T g a n B σ τ V r c w t f9 f10) (h1 : (τ.1 a 14).toInt = 1) :
    ∃ (z : Int32) (σ' : ST), F_X9_readMost X σ D = (z, σ') ∧ tb_O X lb D T g a n B σ τ σ' (F_X12_must X (F_X12_readMost X τ a) a (F_X12_isSign X (F_X12_readMost X τ a) a 59)) z := by
  obtain ⟨S, M, K, h0, Rr⟩ := I
  have kb := K.b
  unfold F_X9_readMost F_X12_readMost
  rw [q_letE (σ.1 D 10), q_letE (τ.1 a 26), S.2.2.2.2, M.2.2.2.2.2.1]
  by_cases q9 : f10 = 0
  · rw [if_pos q9, if_pos q9, q_letE (τ.1 a 12), h0, if_neg (by decide : ¬ (0 : Int) < 0), q_letE (q_si σ D 10 1), q_letE (q_si τ a 26 1)]
    obtain ⟨S1, f1⟩ := S.s10 Y H 1
    obtain ⟨M1, sm1⟩ := M.s10 Y.1 ha 1
    have K1 := K.same (tl_sameC.s10 1) sm1
    have h01 : ((q_si τ a 26 1).1 a 12).toInt = 0 := by rw [sm1.1 12 (by decide) (by decide)]; exact h0
    have p1 : tb_P X a τ (q_si τ a 26 1) := tb_P.mk M M1 (fun _ _ _ => rfl) (fun _ _ _ => rfl)
    have e16 : (q_si τ a 26 1).1 a 16 = τ.1 a 16 := sm1.1 16 (by decide) (by decide)
    obtain ⟨σa, hσa⟩ : ∃ s, s = q_si σ D 10 1 := ⟨_, rfl⟩
    obtain ⟨τa, hτa⟩ : ∃ s, s = q_si τ a 26 1 := ⟨_, rfl⟩
    rw [← hσa] at S1 f1 K1 ⊢
    rw [← hτa] at M1 K1 h01 p1 e16 ⊢
    rw [q_letE (F_X3_advance X σa D), q_letE (F_X12_next X τa a)]
    obtain ⟨c1, m1, K2, g2⟩ := tl_adv2 S1.1 M1.1 K1
    obtain ⟨S2, f2⟩ := S1.rd Y H c1.S2
    have M2 := M1.rd Y.1 ha m1.S2
    have p2 := p1.tr (tb_P.rd Y.1 ha m1.S2)
    have h02 : ((F_X12_next X τa a).1 a 12).toInt = 0 := by rw [tn_12 m1]; exact h01
    obtain ⟨σb, hσb⟩ : ∃ s, s = F_X3_advance X σa D := ⟨_, rfl⟩
    obtain ⟨τb, hτb⟩ : ∃ s, s = F_X12_next X τa a := ⟨_, rfl⟩
    rw [← hσb] at S2 f2 K2 ⊢
    rw [← hτb] at M2 K2 g2 h02 p2 ⊢
    obtain ⟨z, y, σc, τc, e1, e2, ⟨o1, o2, o3⟩, v1, v2⟩ := tl_passNum S2.1 M2.1 K2 h02 1 4 (by decide)
    obtain ⟨S3, f3⟩ := S2.rd Y H o1
    have M3 := M2.rd Y.1 ha o2
    have p3 := p2.tr (tb_P.rd Y.1 ha o2)
    rw [e1, e2, q_biP, q_biP, q_letE (q_si τc (q_rf X a 20) (3724 : Int32).toNatClampNeg y)]
    obtain ⟨M4, sm4⟩ := M3.cw Y.1 ha (i := 3724) (v := y) (A := 3724) rfl (by decide)
    have p4 : tb_P X a τ (q_si τc (q_rf X a 20) (3724 : Int32).toNatClampNeg y) := p3.tr (tb_P.mk M3 M4 (fun j a b => m_up_ne (by omega)) (fun _ _ _ => rfl))
    obtain ⟨τd, hτd⟩ : ∃ s, s = q_si τc (q_rf X a 20) (3724 : Int32).toNatClampNeg y := ⟨_, rfl⟩
    show ∃ (z' : Int32) (σ' : ST), (if z.toInt = -1 then ((0 : Int32), σc) else q_let (q_si σc (q_rf X (q_rf X D 8) 0) 3 z : ST) (fun σ_11 => q_bi (F_X3_passSemicolon X σ_11 D) (fun r_12 σ_13 => (r_12, σ_13)))) = (z', σ') ∧ tb_O X lb D T g a n B σ τ σ' (F_X12_must X (q_si τc (q_rf X a 20) (3724 : Int32).toNatClampNeg y) a (F_X12_isSign X (q_si τc (q_rf X a 20) (3724 : Int32).toNatClampNeg y) a 59)) z'
    rw [← hτd] at M4 sm4 p4 ⊢
    rcases o3 with ⟨q1, q2, q3, q4⟩ | ⟨q1, q2⟩
    · rw [if_neg q1, q_letE, q_biE]
      obtain ⟨w1, w2, w3⟩ := v1 q1
      have W := (y_W.rf (X := X) (lb := lb) (g := g) (o := 6) (σ := σc)).si Y H.2.2.1 (id := 1) (by decide) 3 z
      rw [S3.2.1] at W
      have hg : q_si σc (y_gA X g 1) 3 z = q_si σc (q_rf X (q_rf X D 8) 0) 3 z := by rw [H.2.1]; rfl
      rw [hg] at W
      obtain ⟨S4, f4⟩ := S3.gm Y H W
      have K4 := q2.same (tl_sameC.W W (by have := H.2.2.2.1; omega)) sm4
      have h04 : (τd.1 a 12).toInt = 0 := by rw [sm4.1 12 (by decide) (by decide)]; exact q3
      have e1_ : (1 : Int32).toInt = 1 := rfl
      have e4_ : (4 : Int32).toInt = 4 := rfl
      rw [e1_] at w2
      rw [e4_] at w3
      have R4 : tb_R (y_up V 1 ((3 : Nat) : Int) z.toInt) r (m_up c 3724 y.toInt) w t := by
        rw [w1]
        exact Rr.most ⟨w2, w3⟩
      have k2b := K2.b
      have k4b := K4.b
      have s15 : τd.1 a 15 = τc.1 a 15 := sm4.1 15 (by decide) (by decide)
      obtain ⟨z', σ2, e3, o⟩ := tb_semi Y H ha (σ := σ) (τ := τ) ⟨S4, M4, K4, h04, R4⟩ (((f1.tr f2).tr f3).tr f4) p4 (by rw [e16] at g2; rw [s15]; omega) (by rw [e16] at g2; rw [s15] at k4b; omega)
      rw [e3]
      exact ⟨z', σ2, rfl, o⟩
    · have qz : z.toInt = -1 := Classical.not_not.mp q1
      rw [if_pos qz]
      have F4 : tl_F σc D τd a := by
        obtain ⟨t1, t2, t3⟩ := q2
        refine ⟨?_, ?_, ?_⟩
        · rw [sm4.1 12 (by decide) (by decide)]; exact t1
        · rw [sm4.1 12 (by decide) (by decide)]; exact t2
        · rw [sm4.1 13 (by decide) (by decide)]; exact t3
      exact ⟨0, σc, rfl, tb_O.bad ((f1.tr f2).tr f3) p4 rfl F4 _⟩
  · rw [if_neg q9, if_neg q9, q_letE, q_letE, q_letE]
    obtain ⟨σ', a1, a2, a3, a4⟩ := tl_fail (X := X) K h0 (by omega) (k := 5) (by decide) (w := τ.1 a 15) rfl
    rw [if_pos a4.2.1, q_biE, a1]
    exact ⟨0, σ', rfl, tb_O.bad (S.rd Y H a2).2 (tb_P.rd Y.1 ha a3) rfl a4 _⟩
end TP
end
/-! FROM 48m.player.lean.txt -/
section
/-! A PLAYER TOLD -/
/-- letters f put from place b on, s of them -/
def y_ad (V : Nat → Int → Int) (id : Nat) (b s : Int) (f : Int → Int) : Nat → Int → Int := fun id' i => if id' = id ∧ b ≤ i ∧ i < b + s then f (i - b) else V id' i
theorem y_ad0 {V : Nat → Int → Int} {id : Nat} {b : Int} {f : Int → Int} : y_ad V id b 0 f = V := by
  funext j i
  show (if j = id ∧ b ≤ i ∧ i < b + 0 then f (i - b) else V j i) = V j i
  rw [if_neg (by omega)]
theorem y_ad_s {V : Nat → Int → Int} {id : Nat} {b s v : Int} {f : Int → Int} (h : 0 ≤ s) (hv : v = f s) : y_up (y_ad V id b s f) id (b + s) v = y_ad V id b (s + 1) f := by
  subst hv
  funext j i
  show (if j = id ∧ i = b + s then f s else if j = id ∧ b ≤ i ∧ i < b + s then f (i - b) else V j i) = if j = id ∧ b ≤ i ∧ i < b + (s + 1) then f (i - b) else V j i
  by_cases q : j = id ∧ i = b + s
  · obtain ⟨rfl, rfl⟩ := q
    rw [if_pos ⟨rfl, rfl⟩, if_pos ⟨rfl, by omega, by omega⟩]
    congr 1
    omega
  · rw [if_neg q]
    by_cases q2 : j = id ∧ b ≤ i ∧ i < b + s
    · rw [if_pos q2, if_pos ⟨q2.1, q2.2.1, by omega⟩]
    · rw [if_neg q2, if_neg]
      rintro ⟨e1, e2, e3⟩
      exact q2 ⟨e1, e2, by have : i ≠ b + s := fun e => q ⟨e1, e⟩; omega⟩
theorem y_ad_ne {V : Nat → Int → Int} {id id' : Nat} {b s i : Int} {f : Int → Int} (h : id' ≠ id) : y_ad V id b s f id' i = V id' i := by
  refine if_neg ?_
  rintro ⟨h1, _⟩
  exact h h1
theorem y_up_id (V : Nat → Int → Int) (id : Nat) (i : Int) : y_up V id i (V id i) = V := by
  funext j k
  show (if j = id ∧ k = i then V id i else V j k) = V j k
  by_cases q : j = id ∧ k = i
  · rw [if_pos q, q.1, q.2]
  · rw [if_neg q]
theorem m_up_id (c : Int → Int) (A : Int) : m_up c A (c A) = c := by
  funext j
  show (if j = A then c A else c j) = c j
  by_cases q : j = A
  · rw [if_pos q, q]
  · rw [if_neg q]
section TQ
variable {X : XW} {lb : Nat → Nat} {D T g a : Nat} {σ τ σ' τ' σ1 τ1 : ST} {n : Int} {B : Int → Int} {V : Nat → Int → Int} {r c w t : Int → Int} {f9 f10 : Int}
theorem tc_E.W {o : Nat} {V' : Nat → Int → Int} (E : tc_E X σ D T n B) (h : y_W X lb g o σ σ' V') (hD : lb D / 8192 ≠ o) (hT : lb T / 8192 ≠ o) : tc_E X σ' D T n B := by
  obtain ⟨e1, e2, e3, e4, e5, e6⟩ := E
  exact ⟨by rw [h.2.1]; exact e1, by rw [h.1 D hD]; exact e2, e3, e4, e5, fun p p0 p1 => by rw [h.1 T hT]; exact e6 p p0 p1⟩
theorem tc_addL (Y : y_S X lb) (H : tb_D X lb D T g) (E : tc_E X σ D T n B) {b e : Int} (hb : (σ.1 D 2).toInt = b) (he : (σ.1 D 3).toInt = e) (h0 : 0 ≤ b) (hbe : b ≤ e) (hen : e ≤ n) (h8 : e - b ≤ 8) {P : Int} (hP : 0 ≤ P ∧ P < 6) (k : Nat) : ∀ (x : Int32) (ρ : ST), (2147483647 - x.toInt).toNat < k → 0 ≤ x.toInt → x.toInt ≤ e - b → y_W X lb g 6 σ ρ (y_ad V 5 (8 * P) x.toInt (fun j => B (b + j))) → V 1 4 = P →
    ∃ ρ' : ST, F_X6_addPlayer_L21_1 X D (q_rf X g 0) k x ρ = F_X6_addPlayer_E56_2 X ρ' (q_rf X g 0) D ∧ y_W X lb g 6 σ ρ' (y_ad V 5 (8 * P) (e - b) (fun j => B (b + j))) := by
  have E3 := E.2.2.1
  have hD : lb D / 8192 ≠ 6 := by have := H.2.2.2.1; omega
  have hT : lb T / 8192 ≠ 6 := by have := H.2.2.2.2.1; omega
  induction k with
  | zero => intro x ρ hm; exact absurd hm (Nat.not_lt_zero _)
  | succ k ih =>
    intro x ρ hm x0 x1 W hV
    have Eρ := E.W W hD hT
    have b2 : (ρ.1 D 2).toInt = b := by rw [W.1 D hD]; exact hb
    have b3 : (ρ.1 D 3).toInt = e := by rw [W.1 D hD]; exact he
    have sz : (F_X3_size X ρ D).toInt = e - b := by
      simp only [F_X3_size, ↓q_letE]
      rw [ar_sub, b3, b2, ar_wr (by omega) (by omega)]
    have p4 : (ρ.1 (q_rf X g 0) 4).toInt = P := by
      have z := y_v_rdn (X := X) (g := g) (σ := ρ) (id := 1) (by decide) 4
      rw [W.2.2, y_ad_ne (by decide)] at z
      exact z.trans hV
    rw [F_X6_addPlayer_L21_1_s]
    simp only [F_X6_addPlayer_B21_1, ↓q_letE]
    rw [sz]
    by_cases q : x.toInt < e - b
    · rw [if_pos q]
      have e8 : (8 : Int32).toInt = 8 := rfl
      have ei : (ρ.1 (q_rf X g 0) 4 * 8 + x).toInt = 8 * P + x.toInt := by rw [ar_add, ar_mul, p4, e8, ar_wr (n := P * 8) (by omega) (by omega), ar_wr (by omega) (by omega)]; omega
      have sg := tc_sig Eρ b2 ⟨h0, by omega⟩ (v := x) rfl ⟨x0, by omega⟩
      rw [tx_D_in (by omega) (by omega)] at sg
      have gn : ((y_gn 5 : Nat) : Int) = 48 := rfl
      have W2 := W.set Y H.2.2.1 (id := 5) (r := q_rf X (q_rf X g 0) 6) ⟨by decide, by decide⟩ rfl (ρ.1 (q_rf X g 0) 4 * 8 + x) (F_X3_signAt X ρ D x) (by rw [ei]; omega) (by rw [ei, gn]; omega)
      rw [ei, sg] at W2
      have e1 : (x + 1).toInt = x.toInt + 1 := y_inc (by omega)
      have zz := ih (x + 1) _ (by omega) (by omega) (by omega) (by rw [e1]; exact W2.eq (y_ad_s x0 rfl)) hV
      exact zz
    · rw [if_neg q]
      have ex : x.toInt = e - b := by omega
      rw [ex] at W
      exact ⟨ρ, rfl, W⟩
theorem tc_addPlayer (Y : y_S X lb) (H : tb_D X lb D T g) (E : tc_E X σ D T n B) {b e : Int} (hb : (σ.1 D 2).toInt = b) (he : (σ.1 D 3).toInt = e) (h0 : 0 ≤ b) (hbe : b ≤ e) (hen : e ≤ n) (h8 : e - b ≤ 8) {P : Int} (hP : 0 ≤ P ∧ P < 6) (hv : y_v X g σ = V) (hV : V 1 4 = P) : y_W X lb g 6 σ (F_X6_addPlayer X σ (q_rf X g 0) D) (y_up (y_up (y_ad V 5 (8 * P) (e - b) (fun j => B (b + j))) 6 P (e - b)) 1 4 (P + 1)) := by
  have E3 := E.2.2.1
  have hD : lb D / 8192 ≠ 6 := by have := H.2.2.2.1; omega
  have hT : lb T / 8192 ≠ 6 := by have := H.2.2.2.2.1; omega
  have sz : (F_X3_size X σ D).toInt = e - b := by
    simp only [F_X3_size, ↓q_letE]
    rw [ar_sub, he, hb, ar_wr (by omega) (by omega)]
  have p4 : (σ.1 (q_rf X g 0) 4).toInt = P := by
    have z := y_v_rdn (X := X) (g := g) (σ := σ) (id := 1) (by decide) 4
    rw [hv] at z
    exact z.trans hV
  have W0 : y_W X lb g 6 σ σ (y_ad V 5 (8 * P) (0 : Int32).toInt (fun j => B (b + j))) := by
    have z0 : (0 : Int32).toInt = 0 := rfl
    rw [z0, y_ad0]
    exact y_W.rf.eq hv
  obtain ⟨ρ', a1, a2⟩ := tc_addL Y H E hb he h0 hbe hen h8 hP ((2147483647 - (0 : Int32).toInt).toNat + 1) 0 σ (by decide) (by decide) (by show (0 : Int) ≤ _; omega) W0 hV
  unfold F_X6_addPlayer
  rw [q_letE, p4, if_pos (by omega), q_letE, sz, if_neg (by omega), a1]
  have b2 : (ρ'.1 D 2).toInt = b := by rw [a2.1 D hD]; exact hb
  have b3 : (ρ'.1 D 3).toInt = e := by rw [a2.1 D hD]; exact he
  have sz2 : (F_X3_size X ρ' D).toInt = e - b := by
    simp only [F_X3_size, ↓q_letE]
    rw [ar_sub, b3, b2, ar_wr (by omega) (by omega)]
  have p5 : (ρ'.1 (q_rf X g 0) 4).toInt = P := by
    have z := y_v_rdn (X := X) (g := g) (σ := ρ') (id := 1) (by decide) 4
    rw [a2.2.2, y_ad_ne (by decide)] at z
    exact z.trans hV
  unfold F_X6_addPlayer_E56_2
  rw [q_letE, q_letE, q_letE, q_letE, q_letE, q_letE]
  have gn : ((y_gn 6 : Nat) : Int) = 6 := rfl
  have W3 := a2.set Y H.2.2.1 (id := 6) (r := q_rf X (q_rf X g 0) 7) ⟨by decide, by decide⟩ rfl (ρ'.1 (q_rf X g 0) 4) (F_X3_size X ρ' D) (by rw [p5]; omega) (by rw [p5, gn]; omega)
  rw [p5, sz2] at W3
  obtain ⟨ρ2, hρ2⟩ : ∃ s, s = F_X5_set X ρ' (q_rf X (q_rf X g 0) 7) (ρ'.1 (q_rf X g 0) 4) (F_X3_size X ρ' D) := ⟨_, rfl⟩
  rw [← hρ2] at W3 ⊢
  have p6 : (ρ2.1 (q_rf X g 0) 4).toInt = P := by
    have z := y_v_rdn (X := X) (g := g) (σ := ρ2) (id := 1) (by decide) 4
    rw [W3.2.2, y_up_ne (Or.inl (by decide)), y_ad_ne (by decide)] at z
    exact z.trans hV
  have W4 := W3.si Y H.2.2.1 (id := 1) (by decide) 4 (ρ2.1 (q_rf X g 0) 4 + 1)
  rw [y_inc (by omega), p6] at W4
  exact W4
/-- lies and doubts, if they are told -/
theorem tb_six (Y : y_S X lb) (H : tb_D X lb D T g) (ha : q_kd X a = 12) (S : tb_S X D T g σ n B V r f9 f10) (M : tb_M X a τ n B c w t f9 f10) (K : tl_K σ D τ a B n) (h0 : (τ.1 a 12).toInt = 0) {rr : Nat} (hrr : y_isw rr) {flag : Int32} (hfl : flag.toInt = if (τ.1 a 14).toInt = 1 ∧ (τ.2.1 a 19).toInt = y_cw rr then 1 else 0) {id row : Nat} (hid : id = 10 ∨ id = 11) (hrow : q_rf X row 0 = y_gA X g id) {pl : Int32} {P : Int} (hpl : pl.toInt = P) (hP : 0 ≤ P ∧ P < 6) {Ab : Int32} {A : Int} (hA : Ab.toInt = A) (hA2 : 3730 ≤ A ∧ A ≤ 3736) (hVc : V id P = c (A + P)) :
    ∃ (z : Int32) (σ' τ' : ST) (v u : Int), F_X9_readSixteenths X σ D rr row pl = (z, σ') ∧
      (∀ Kc : ST → ST, (if flag.toInt = 0 then Kc τ else q_let (F_X12_next X τ a : ST) (fun s1 => q_let (Ab + pl : Int32) (fun z1 => q_bi (F_X12_count X s1 a (0 : Int32) (16 : Int32)) (fun r1 s2 => q_let (q_si s2 (q_rf X a 20) z1.toNatClampNeg r1 : ST) (fun s3 => Kc s3))))) = Kc τ') ∧
      (z.toInt = 0 ∨ z.toInt = 1) ∧ tb_F X lb D σ σ' ∧ tb_S X D T g σ' n B (y_up V id P u) r f9 f10 ∧ tb_M X a τ' n B (m_up c (A + P) v) w t f9 f10 ∧
      ((z.toInt = 1 ∧ u = v ∧ tl_K σ' D τ' a B n ∧ (τ'.1 a 12).toInt = 0 ∧ (τ.1 a 15).toInt ≤ (τ'.1 a 15).toInt) ∨ (z.toInt = 0 ∧ tl_F σ' D τ' a)) := by
  have hDn : lb D / 8192 ≠ 6 := by have := H.2.2.2.1; omega
  unfold F_X9_readSixteenths
  rw [q_letE, tl_isWord S.1 K hrr, hfl]
  by_cases q : (τ.1 a 14).toInt = 1 ∧ (τ.2.1 a 19).toInt = y_cw rr
  · rw [if_pos q, if_neg (by decide), q_letE, q_biE]
    obtain ⟨c1, m1, K2, g2⟩ := tl_adv2 S.1 M.1 K
    obtain ⟨S2, f2⟩ := S.rd Y H c1.S2
    have M2 := M.rd Y.1 ha m1.S2
    have h02 : ((F_X12_next X τ a).1 a 12).toInt = 0 := by rw [tn_12 m1]; exact h0
    have kb := K.b
    obtain ⟨σb, hσb⟩ : ∃ s, s = F_X3_advance X σ D := ⟨_, rfl⟩
    obtain ⟨τb, hτb⟩ : ∃ s, s = F_X12_next X τ a := ⟨_, rfl⟩
    rw [← hσb] at S2 f2 K2 ⊢
    rw [← hτb] at M2 K2 g2 h02 ⊢
    obtain ⟨z, y, σc, τc, e1, e2, ⟨o1, o2, o3⟩, v1, v2⟩ := tl_passNum S2.1 M2.1 K2 h02 0 16 (by decide)
    obtain ⟨S3, f3⟩ := S2.rd Y H o1
    have M3 := M2.rd Y.1 ha o2
    have gn : ((y_gn id : Nat) : Int) = 6 := by rcases hid with h | h <;> rw [h] <;> rfl
    have W := (y_W.rf (X := X) (lb := lb) (g := g) (o := 6) (σ := σc)).set Y H.2.2.1 (id := id) (r := row) ⟨by omega, by omega⟩ hrow pl z (by omega) (by rw [gn]; omega)
    rw [S3.2.1, hpl] at W
    obtain ⟨S4, f4⟩ := S3.gm Y H W
    have ei : (Ab + pl).toInt = A + P := by rw [ar_add, hA, hpl, ar_wr (by omega) (by omega)]
    obtain ⟨M4, sm4⟩ := M3.cw Y.1 ha (i := Ab + pl) (v := y) ei (by omega)
    have e0_ : (0 : Int32).toInt = 0 := rfl
    have e16_ : (16 : Int32).toInt = 16 := rfl
    have sC : tl_sameC D σc (F_X5_set X σc row pl z) := tl_sameC.W W hDn
    rw [e1]
    refine ⟨(if z.toInt = -1 then 0 else 1), F_X5_set X σc row pl z, q_si τc (q_rf X a 20) (Ab + pl).toNatClampNeg y, y.toInt, z.toInt, ?_, fun Kc => ?_, ?_, (f2.tr f3).tr f4, S4, M4, ?_⟩
    · rw [q_letE]
      show (if z.toInt = -1 then ((0 : Int32), F_X5_set X σc row pl z) else ((1 : Int32), F_X5_set X σc row pl z)) = _
      split <;> rfl
    · rw [if_neg (by decide), q_letE, q_letE, e2, q_biP, q_letE]
    · split
      · exact Or.inl rfl
      · exact Or.inr rfl
    · rcases o3 with ⟨q1, q2, q3, q4⟩ | ⟨q1, q2⟩
      · rw [if_neg q1]
        refine Or.inl ⟨rfl, (v1 q1).1, q2.same sC sm4, ?_, ?_⟩
        · rw [sm4.1 12 (by decide) (by decide)]; exact q3
        · rw [sm4.1 15 (by decide) (by decide)]; have := K2.b; omega
      · have qz : z.toInt = -1 := Classical.not_not.mp q1
        rw [if_pos qz]
        obtain ⟨t1, t2, t3⟩ := q2
        refine Or.inr ⟨rfl, ?_, ?_, ?_⟩
        · rw [sm4.1 12 (by decide) (by decide), sC 6 (by decide) (by decide)]; exact t1
        · rw [sm4.1 12 (by decide) (by decide)]; exact t2
        · rw [sm4.1 13 (by decide) (by decide), sC 7 (by decide) (by decide)]; exact t3
  · rw [if_neg q, if_pos rfl]
    refine ⟨1, σ, τ, c (A + P), V id P, rfl, fun Kc => by rw [if_pos rfl], Or.inr rfl, tb_F.rf, by rw [y_up_id]; exact S, by rw [m_up_id]; exact M, Or.inl ⟨rfl, hVc, K, h0, Int.le_refl _⟩⟩
/-- a new player stands in the relation -/
theorem tb_R.player {b e P v1 v2 : Int} (h : tb_R V r c w t) (hP : c 3722 = P) (hP6 : 0 ≤ P ∧ P < 6) (hbe : b < e) (h8 : e - b ≤ 8) (hl : ∀ j, b ≤ j → j < e → tx_le (B j)) :
    tb_R (y_up (y_up (y_up (y_up (y_ad V 5 (8 * P) (e - b) (fun j => B (b + j))) 6 P (e - b)) 1 4 (P + 1)) 10 P v1) 11 P v2) r (m_up (m_up (m_up c (3730 + P) v1) (3736 + P) v2) 3722 (P + 1)) (m_up w (24 + P) (tx_wv B b (e - b).toNat)) t := by
  obtain ⟨⟨⟨n1, n2, n3, n4, n5⟩, n6, n7, n8, n9⟩, z, nm, hh, mn, k1, k2, k3⟩ := h
  have rd : ∀ (id : Nat) (i : Int), id ≠ 5 → (id = 6 → i ≠ P) → (id = 1 → i ≠ 4) → (id = 10 → i ≠ P) → (id = 11 → i ≠ P) → y_up (y_up (y_up (y_up (y_ad V 5 (8 * P) (e - b) (fun j => B (b + j))) 6 P (e - b)) 1 4 (P + 1)) 10 P v1) 11 P v2 id i = V id i := by
    intro id i h5 h6 h1 h10 h11
    rw [y_up_ne (by by_cases q : id = 11; exact Or.inr (h11 q); exact Or.inl q), y_up_ne (by by_cases q : id = 10; exact Or.inr (h10 q); exact Or.inl q), y_up_ne (by by_cases q : id = 1; exact Or.inr (h1 q); exact Or.inl q), y_up_ne (by by_cases q : id = 6; exact Or.inr (h6 q); exact Or.inl q), y_ad_ne h5]
  have rc : ∀ j : Int, j ≠ 3722 → j ≠ 3736 + P → j ≠ 3730 + P → m_up (m_up (m_up c (3730 + P) v1) (3736 + P) v2) 3722 (P + 1) j = c j := fun j a1 a2 a3 => by rw [m_up_ne a1, m_up_ne a2, m_up_ne a3]
  refine ⟨⟨⟨?_, ?_, ?_, ?_, ?_⟩, ?_, ?_, ?_, ?_⟩, ?_, ?_, ?_, ?_, ?_, ?_, ?_⟩
  · rw [rd 1 0 (by omega) (by omega) (by omega) (by omega) (by omega), rc _ (by decide) (by omega) (by omega)]; exact n1
  · rw [rd 1 1 (by omega) (by omega) (by omega) (by omega) (by omega), rc _ (by decide) (by omega) (by omega)]; exact n2
  · rw [rd 1 2 (by omega) (by omega) (by omega) (by omega) (by omega), rc _ (by decide) (by omega) (by omega)]; exact n3
  · rw [rd 1 3 (by omega) (by omega) (by omega) (by omega) (by omega), rc _ (by decide) (by omega) (by omega)]; exact n4
  · rw [y_up_ne (Or.inl (by decide)), y_up_ne (Or.inl (by decide)), y_up_eq, m_up_eq]
  · intro k a1 a2
    rw [rd 4 k (by omega) (by omega) (by omega) (by omega) (by omega), m_sum_up a1 (by decide), m_sum_up a1 (by omega), m_sum_up a1 (by omega)]
    exact n6 k a1 a2
  · intro j a1 a2
    rw [rd 7 j (by omega) (by omega) (by omega) (by omega) (by omega), rc _ (by omega) (by omega) (by omega)]
    exact n7 j a1 a2
  · intro p a1 a2
    rw [rd 9 p (by omega) (by omega) (by omega) (by omega) (by omega), m_S_up (by omega), m_S_up (by omega), m_S_up (by omega)]
    exact n8 p a1 a2
  · intro p a1 a2
    by_cases q : p = P
    · subst q
      rw [y_up_ne (Or.inl (by decide)), y_up_eq, y_up_eq, m_up_ne (by omega), m_up_ne (by omega), m_up_eq, m_up_ne (by omega), m_up_eq]
      exact ⟨rfl, rfl⟩
    · rw [rd 10 p (by omega) (by omega) (by omega) (fun _ => q) (by omega), rd 11 p (by omega) (by omega) (by omega) (by omega) (fun _ => q), rc _ (by omega) (by omega) (by omega), rc _ (by omega) (by omega) (by omega)]
      exact n9 p a1 a2
  · have ad : tb_Z (y_ad V 5 (8 * P) (e - b) (fun j => B (b + j))) := by
      obtain ⟨z1, z2, z3⟩ := z
      refine ⟨fun j a b => by rw [y_ad_ne (by decide)]; exact z1 j a b, fun j a b => by rw [y_ad_ne (by decide), y_ad_ne (by decide)]; exact z2 j a b, ?_⟩
      rw [y_ad_ne (by decide), y_ad_ne (by decide), y_ad_ne (by decide), y_ad_ne (by decide), y_ad_ne (by decide), y_ad_ne (by decide), y_ad_ne (by decide), y_ad_ne (by decide), y_ad_ne (by decide)]
      exact z3
    exact (((ad.up (by omega)).up (by omega)).up (by omega)).up (by omega)
  · rw [m_up_eq]
    intro p p0 p1
    have r5 : ∀ i : Int, y_up (y_up (y_up (y_up (y_ad V 5 (8 * P) (e - b) (fun j => B (b + j))) 6 P (e - b)) 1 4 (P + 1)) 10 P v1) 11 P v2 5 i = y_ad V 5 (8 * P) (e - b) (fun j => B (b + j)) 5 i := fun i => by rw [y_up_ne (Or.inl (by decide)), y_up_ne (Or.inl (by decide)), y_up_ne (Or.inl (by decide)), y_up_ne (Or.inl (by decide))]
    by_cases q : p = P
    · subst q
      have e6 : y_up (y_up (y_up (y_up (y_ad V 5 (8 * p) (e - b) (fun j => B (b + j))) 6 p (e - b)) 1 4 (p + 1)) 10 p v1) 11 p v2 6 p = e - b := by rw [y_up_ne (Or.inl (by decide)), y_up_ne (Or.inl (by decide)), y_up_ne (Or.inl (by decide)), y_up_eq]
      have e5 : ∀ i : Int, 0 ≤ i → i < e - b → y_up (y_up (y_up (y_up (y_ad V 5 (8 * p) (e - b) (fun j => B (b + j))) 6 p (e - b)) 1 4 (p + 1)) 10 p v1) 11 p v2 5 (8 * p + i) = B (b + i) := by
        intro i i0 i1
        rw [r5]
        show (if (5 : Nat) = 5 ∧ 8 * p ≤ 8 * p + i ∧ 8 * p + i < 8 * p + (e - b) then B (b + (8 * p + i - 8 * p)) else _) = _
        rw [if_pos ⟨rfl, by omega, by omega⟩]
        congr 1
        omega
      rw [e6, m_up_eq]
      refine ⟨⟨by omega, h8⟩, fun i i0 i1 => by rw [e5 i i0 i1]; exact hl _ (by omega) (by omega), ?_⟩
      refine tx_wv_ext (fun i hi => ?_)
      show B (b + (i : Int)) = _
      rw [Int.zero_add, e5 (i : Int) (Int.natCast_nonneg i) (by omega)]
    · obtain ⟨a1, a2, a3⟩ := nm p p0 (by omega)
      have e6 : y_up (y_up (y_up (y_up (y_ad V 5 (8 * P) (e - b) (fun j => B (b + j))) 6 P (e - b)) 1 4 (P + 1)) 10 P v1) 11 P v2 6 p = V 6 p := rd 6 p (by omega) (fun _ => q) (by omega) (by omega) (by omega)
      have e5 : ∀ i : Int, 0 ≤ i → i < V 6 p → y_up (y_up (y_up (y_up (y_ad V 5 (8 * P) (e - b) (fun j => B (b + j))) 6 P (e - b)) 1 4 (P + 1)) 10 P v1) 11 P v2 5 (8 * p + i) = V 5 (8 * p + i) := by
        intro i i0 i1
        rw [r5]
        show (if (5 : Nat) = 5 ∧ 8 * P ≤ 8 * p + i ∧ 8 * p + i < 8 * P + (e - b) then _ else V 5 (8 * p + i)) = _
        rw [if_neg (by omega)]
      rw [e6, m_up_ne (by omega)]
      refine ⟨a1, fun i i0 i1 => by rw [e5 i i0 i1]; exact a2 i i0 i1, ?_⟩
      rw [a3]
      refine tx_wv_ext (fun i hi => ?_)
      show V 5 (8 * p + (0 + (i : Int))) = _
      rw [Int.zero_add, e5 (i : Int) (Int.natCast_nonneg i) (by omega)]
  · exact ((hh.up (by omega) (fun q => by omega)).up (by omega) (fun q => by omega)).up (by decide) (fun _ => by rw [m_up_ne (by omega), m_up_ne (by omega)]; omega)
  · exact ((mn.wr m_up_e (by omega)).wr m_up_e (by omega)).wr m_up_e (by omega)
  · rw [rc _ (by decide) (by omega) (by omega)]; exact k1
  · rw [rc _ (by decide) (by omega) (by omega)]; exact k2
  · rw [rc _ (by decide) (by omega) (by omega)]; exact k3
end TQ
end
/-! FROM 48n.rdplayer.lean.txt -/
section
/-! A PLAYER READ -/
section TU
variable {X : XW} {lb : Nat → Nat} {D T g a : Nat} {σ τ σ' τ' σ1 τ1 : ST} {n : Int} {B : Int → Int} {V : Nat → Int → Int} {r c w t : Int → Int} {f9 f10 : Int}
theorem tb_R.b (h : tb_R V r c w t) : V 1 0 = c 3720 ∧ V 1 1 = c 3721 ∧ V 1 4 = c 3722 ∧ (2 ≤ c 3720 ∧ c 3720 ≤ 10) ∧ (1 ≤ c 3721 ∧ c 3721 ≤ 8) ∧ (0 ≤ c 3722 ∧ c 3722 ≤ 6) := by
  obtain ⟨⟨⟨n1, n2, n3, n4, n5⟩, n6⟩, z, nm, hh, mn, k1, k2, k3⟩ := h
  exact ⟨n1, n2, n5, ⟨k1, mn.1.2⟩, ⟨k2, mn.2.1.2⟩, mn.2.2.1⟩
/-- behind a fault the reference's player does nothing -/
theorem tm_J160a (h : 0 < (τ.1 a 12).toInt) : F_X12_readPlayer_J160_5 X a τ = τ := by
  unfold F_X12_readPlayer_J160_5
  rw [q_letE, if_neg (by omega)]
theorem tm_J125a (pl : Int32) (h : 0 < (τ.1 a 12).toInt) : F_X12_readPlayer_J125_4 X a pl τ = τ := by
  unfold F_X12_readPlayer_J125_4
  rw [q_letE, if_neg (by omega), tm_J160a h]
theorem tm_J72a (pl : Int32) (h : 0 < (τ.1 a 12).toInt) : F_X12_readPlayer_J72_3 X a pl τ = τ := by
  unfold F_X12_readPlayer_J72_3
  rw [q_letE, if_pos h]
theorem tm_J48a (pl : Int32) (h : 0 < (τ.1 a 12).toInt) : F_X12_readPlayer_J48_2 X a pl τ = τ := by
  unfold F_X12_readPlayer_J48_2
  rw [q_letE, if_neg (by omega), tm_J72a pl h]
theorem tm_J25a (pl : Int32) (h : 0 < (τ.1 a 12).toInt) : F_X12_readPlayer_J25_1 X a pl τ = τ := by
  unfold F_X12_readPlayer_J25_1
  rw [q_letE, if_pos h]
theorem tb_readPlayer (Y : y_S X lb) (H : tb_D X lb D T g) (ha : q_kd X a = 12) (I : tb_I X D T g a n B σ τ V r c w t f9 f10) (h1 : (τ.1 a 14).toInt = 1) :
    ∃ (z : Int32) (σ' : ST), F_X9_readPlayer X σ D = (z, σ') ∧ tb_O X lb D T g a n B σ τ σ' (F_X12_must X (F_X12_readPlayer X τ a) a (F_X12_isSign X (F_X12_readPlayer X τ a) a 59)) z := by
  obtain ⟨S, M, K, h0, Rr⟩ := I
  have kb := K.b
  have hDn : lb D / 8192 ≠ 6 := by have := H.2.2.2.1; omega
  obtain ⟨b0, b1, b4, b20, b21, b22⟩ := Rr.b
  obtain ⟨P, hP⟩ : ∃ P, P = c 3722 := ⟨_, rfl⟩
  rw [← hP] at b22
  have pc : (σ.1 (q_rf X g 0) 4).toInt = P := by
    have z := y_v_rdn (X := X) (g := g) (σ := σ) (id := 1) (by decide) 4
    rw [S.2.1] at z
    exact z.trans (b4.trans hP.symm)
  have pm : (τ.1 (q_rf X a 20) (3722 : Int32).toNatClampNeg).toInt = P := by
    have z := m_rd (X := X) (σ := τ) (a := a) (i := 3722) (A := 3722) rfl rfl
    rw [M.2.1] at z
    exact z.trans hP.symm
  have epl : τ.1 (q_rf X a 20) (3722 : Int32).toNatClampNeg = σ.1 (q_rf X g 0) 4 := Int32.toInt_inj.mp (pm.trans pc.symm)
  unfold F_X9_readPlayer F_X12_readPlayer
  rw [← H.2.1, q_letE (σ.1 (q_rf X g 0) 4), q_letE (τ.1 (q_rf X a 20) (3722 : Int32).toNatClampNeg), epl]
  obtain ⟨pl, hpl⟩ : ∃ s, s = σ.1 (q_rf X g 0) 4 := ⟨_, rfl⟩
  rw [← hpl] at pc ⊢
  by_cases q6 : P = 6
  · rw [q6] at pc
    rw [q_letE (τ.1 a 15)]
    have ng : ¬ pl.toInt < 6 := by omega
    rw [if_neg ng, if_pos pc, q_letE (F_X12_fail X τ a 6 (τ.1 a 15))]
    obtain ⟨σ', a1, a2, a3, a4⟩ := tl_fail (X := X) K h0 (by omega) (k := 6) (by decide) (w := τ.1 a 15) rfl
    rw [tm_J25a pl a4.2.1, a1]
    exact ⟨0, σ', rfl, tb_O.bad (S.rd Y H a2).2 (tb_P.rd Y.1 ha a3) rfl a4 _⟩
  · have lt : pl.toInt < 6 := by omega
    have ne : ¬ pl.toInt = 6 := by omega
    rw [if_pos lt, if_neg ne]
    unfold F_X12_readPlayer_J25_1
    rw [q_letE (τ.1 a 12), h0, if_neg (by decide : ¬ (0 : Int) < 0), q_letE (F_X3_advance X σ D), q_letE (F_X12_next X τ a), q_letE (F_X12_isName X (F_X12_next X τ a) a)]
    obtain ⟨c1, m1, K2, g2⟩ := tl_adv2 S.1 M.1 K
    obtain ⟨S2, f2⟩ := S.rd Y H c1.S2
    have M2 := M.rd Y.1 ha m1.S2
    have h02 : ((F_X12_next X τ a).1 a 12).toInt = 0 := by rw [tn_12 m1]; exact h0
    obtain ⟨σb, hσb⟩ : ∃ s, s = F_X3_advance X σ D := ⟨_, rfl⟩
    obtain ⟨τb, hτb⟩ : ∃ s, s = F_X12_next X τ a := ⟨_, rfl⟩
    rw [← hσb] at S2 f2 K2 ⊢
    rw [← hτb] at M2 K2 g2 h02 ⊢
    have k2b := K2.b
    rcases tl_mustBeName S2.1 M2.1 K2 h02 with ⟨m3, m4, m5, m6⟩ | ⟨m3, σ', m4, m5, m6, m7⟩
    · rw [m6, q_biP, if_neg (by decide : ¬ (1 : Int32).toInt = 0), m3, if_neg (by decide : ¬ (1 : Int) = 0)]
      unfold F_X12_readPlayer_J48_2
      rw [q_letE (τb.1 a 12), h02, if_pos (Eq.refl (0 : Int)), q_letE (F_X12_named X τb a 4), q_letE (F_X6_playerNamed X σb (q_rf X g 0) D)]
      have nmw : y_nm V (m_wd X τb a) (6 * 4) P := by
        rw [M2.2.2.1, hP]
        exact Rr.2.2.1
      obtain ⟨nm1, nm2⟩ := tl_named Y H.2.2.1 ((y_W.rf (lb := lb) (o := 6) (σ := σb)).eq S2.2.1) S2.1 K2 m4 m5 (v := 4) (bl := 4) rfl ⟨by decide, by decide⟩ (P := P) (by rw [M2.2.1, hP]; rfl) b22 (b4.trans hP.symm) nmw
      rw [nm1]
      rcases nm2 with ⟨q1, q2⟩ | ⟨q1, q2⟩
      · rw [if_pos q1, if_pos (by omega : (F_X12_named X τb a 4).toInt < 0)]
        unfold F_X12_readPlayer_J72_3
        rw [q_letE (τb.1 a 12), h02, if_neg (by decide : ¬ (0 : Int) < 0), q_letE (F_X6_addPlayer X σb (q_rf X g 0) D), q_letE ((24 : Int32) + pl), q_letE (τb.2.1 a 19), q_letE (q_sl τb (q_rf X a 23) ((24 : Int32) + pl).toNatClampNeg (τb.2.1 a 19))]
        have W := tc_addPlayer Y H S2.1 K2.1 K2.2.1 K2.2.2.2.2.2.2.1 k2b.1 k2b.2.1 m5 (P := P) ⟨b22.1, by omega⟩ S2.2.1 (b4.trans hP.symm)
        obtain ⟨S3, f3⟩ := S2.gm Y H W
        have i24 : ((24 : Int32) + pl).toInt = 24 + P := by
          have e24 : (24 : Int32).toInt = 24 := rfl
          rw [ar_add, e24, pc, ar_wr (by omega) (by omega)]
        obtain ⟨M3, sm3⟩ := M2.word Y.1 ha (i := (24 : Int32) + pl) (v := τb.2.1 a 19) (A := 24 + P) i24 (by omega)
        have K3 := K2.same (tl_sameC.W W hDn) sm3
        have wv : (τb.2.1 a 19).toInt = tx_wv B (τb.1 a 15).toInt ((τb.1 a 16).toInt - (τb.1 a 15).toInt).toNat := (K2.2.2.2.2.2.1.2 m4).2.1 m5
        have hl := tl_le K2 m4
        rw [wv] at M3
        have h03 : ((q_sl τb (q_rf X a 23) ((24 : Int32) + pl).toNatClampNeg (τb.2.1 a 19)).1 a 12).toInt = 0 := by rw [sm3.1 12 (by decide) (by decide)]; exact h02
        have e316 : (q_sl τb (q_rf X a 23) ((24 : Int32) + pl).toNatClampNeg (τb.2.1 a 19)).1 a 16 = τb.1 a 16 := sm3.1 16 (by decide) (by decide)
        obtain ⟨bb, hbb⟩ : ∃ s, s = (τb.1 a 15).toInt := ⟨_, rfl⟩
        obtain ⟨ee, hee⟩ : ∃ s, s = (τb.1 a 16).toInt := ⟨_, rfl⟩
        rw [← hbb, ← hee] at W S3 M3 hl k2b m5
        rw [← hbb] at g2
        obtain ⟨V1, hV1⟩ : ∃ v, v = y_up (y_up (y_ad V 5 (8 * P) (ee - bb) (fun j => B (bb + j))) 6 P (ee - bb)) 1 4 (P + 1) := ⟨_, rfl⟩
        have r1 : ∀ (id : Nat) (i : Int), id ≠ 5 → id ≠ 6 → id ≠ 1 → V1 id i = V id i := fun id i i5 i6 i1 => by
          rw [hV1, y_up_ne (Or.inl i1), y_up_ne (Or.inl i6), y_ad_ne i5]
        rw [← hV1] at W S3
        obtain ⟨σc, hσc⟩ : ∃ s, s = F_X6_addPlayer X σb (q_rf X g 0) D := ⟨_, rfl⟩
        obtain ⟨τc, hτc⟩ : ∃ s, s = q_sl τb (q_rf X a 23) ((24 : Int32) + pl).toNatClampNeg (τb.2.1 a 19) := ⟨_, rfl⟩
        rw [← hσc] at W S3 f3 K3 ⊢
        rw [← hτc] at M3 sm3 K3 h03 e316 ⊢
        have k3b := K3.b
        obtain ⟨c4, m4', K4, g4⟩ := tl_adv2 S3.1 M3.1 K3
        obtain ⟨S4, f4⟩ := S3.rd Y H c4.S2
        have M4 := M3.rd Y.1 ha m4'.S2
        have h04 : ((F_X12_next X τc a).1 a 12).toInt = 0 := by rw [tn_12 m4']; exact h03
        rw [q_letE (F_X3_advance X σc D), q_letE (F_X12_next X τc a)]
        obtain ⟨σd, hσd⟩ : ∃ s, s = F_X3_advance X σc D := ⟨_, rfl⟩
        obtain ⟨τd, hτd⟩ : ∃ s, s = F_X12_next X τc a := ⟨_, rfl⟩
        rw [← hσd] at S4 f4 K4 ⊢
        rw [← hτd] at M4 K4 g4 h04 ⊢
        rw [q_letE (F_X12_isLies X τd a)]
        have n9 := Rr.1.2.2.2.2 P b22.1 (by omega)
        have gP : 0 ≤ P ∧ P < 6 := ⟨b22.1, by omega⟩
        obtain ⟨z, σe, τe, v, u, e5, e6, hz, f5, S5, M5, o⟩ := tb_six Y H ha S4 M4 K4 h04 (rr := 9) ⟨by decide, by decide⟩ (flag := F_X12_isLies X τd a) tm_isLies (id := 10) (row := q_rf X (q_rf X g 1) 3) (Or.inl rfl) rfl (pl := pl) (P := P) pc gP (Ab := 3730) (A := 3730) rfl ⟨by decide, by decide⟩ (by rw [r1 10 P (by decide) (by decide) (by decide)]; exact n9.1)
        rw [e5, q_biP, e6 (F_X12_readPlayer_J125_4 X a pl)]
        rcases o with ⟨o1, o2, o3, o4, o5⟩ | ⟨o1, o2⟩
        · rw [if_neg (by omega : ¬ z.toInt = 0)]
          unfold F_X12_readPlayer_J125_4
          rw [q_letE (τe.1 a 12), o4, if_pos (Eq.refl (0 : Int)), q_letE (F_X12_isDoubts X τe a)]
          rw [o2] at S5
          obtain ⟨z2, σf, τf, v2, u2, e7, e8, hz2, f6, S6, M6, p⟩ := tb_six Y H ha S5 M5 o3 o4 (rr := 10) ⟨by decide, by decide⟩ (flag := F_X12_isDoubts X τe a) tm_isDoubts (id := 11) (row := q_rf X (q_rf X g 1) 4) (Or.inr rfl) rfl (pl := pl) (P := P) pc gP (Ab := 3736) (A := 3736) rfl ⟨by decide, by decide⟩ (by rw [y_up_ne (Or.inl (by decide)), m_up_ne (by omega), r1 11 P (by decide) (by decide) (by decide)]; exact n9.2)
          rw [e7, q_biP, e8 (F_X12_readPlayer_J160_5 X a)]
          rcases p with ⟨p1, p2, p3, p4, p5⟩ | ⟨p1, p2⟩
          · rw [if_neg (by omega : ¬ z2.toInt = 0)]
            unfold F_X12_readPlayer_J160_5
            rw [q_letE (τf.1 a 12), p4, if_pos (Eq.refl (0 : Int)), q_letE, q_letE, q_letE]
            rw [p2] at S6
            have hf : (τf.1 (q_rf X a 20) (3722 : Int32).toNatClampNeg).toInt = P := by
              have z := m_rd (X := X) (σ := τf) (a := a) (i := 3722) (A := 3722) rfl rfl
              rw [M6.2.1, m_up_ne (by omega), m_up_ne (by omega)] at z
              exact z.trans hP.symm
            have inc : (τf.1 (q_rf X a 20) (3722 : Int32).toNatClampNeg + 1).toInt = P + 1 := by
              rw [y_inc (by omega), hf]
            obtain ⟨M7, sm7⟩ := M6.cw Y.1 ha (i := 3722) (v := τf.1 (q_rf X a 20) (3722 : Int32).toNatClampNeg + 1) (A := 3722) rfl (by decide)
            rw [inc] at M7
            obtain ⟨τg, hτg⟩ : ∃ s, s = q_si τf (q_rf X a 20) (3722 : Int32).toNatClampNeg (τf.1 (q_rf X a 20) (3722 : Int32).toNatClampNeg + 1) := ⟨_, rfl⟩
            rw [← hτg] at M7 sm7 ⊢
            have K7 := p3.same tl_sameC.rf sm7
            have h07 : (τg.1 a 12).toInt = 0 := by rw [sm7.1 12 (by decide) (by decide)]; exact p4
            have R7 := Rr.player (b := bb) (e := ee) (v1 := v) (v2 := v2) hP.symm gP (by omega) m5 hl
            rw [← hV1] at R7
            have pP : tb_P X a τ τg := tb_P.mk M M7 (fun j a1 a2 => by rw [m_up_ne (by omega), m_up_ne (by omega), m_up_ne (by omega)]) (fun j a1 a2 => m_up_ne (by omega))
            have e715 : τg.1 a 15 = τf.1 a 15 := sm7.1 15 (by decide) (by decide)
            have k7b := K7.b
            obtain ⟨z3, σ2, e9, x1, x2, x3⟩ := tb_semi Y H ha (σ := σ) (τ := τ) ⟨S6, M7, K7, h07, R7⟩ ((((f2.tr f3).tr f4).tr f5).tr f6) pP (by rw [e715]; rw [e316] at g4; omega) (by rw [e715] at k7b; rw [e316] at g4; omega)
            rw [e9, q_biP]
            rcases x3 with ⟨y1, y2⟩ | ⟨y1, y2⟩
            · rw [if_neg (by omega)]
              exact ⟨1, σ2, rfl, x1, x2, Or.inl ⟨rfl, y2⟩⟩
            · rw [if_pos y1]
              exact ⟨0, σ2, rfl, x1, x2, Or.inr ⟨rfl, y2⟩⟩
          · rw [if_pos p1, tm_J160a p2.2.1]
            exact ⟨0, σf, rfl, tb_O.bad ((((f2.tr f3).tr f4).tr f5).tr f6) (tb_P.mk M M6 (fun j a1 a2 => by rw [m_up_ne (by omega), m_up_ne (by omega)]) (fun j a1 a2 => m_up_ne (by omega))) rfl p2 _⟩
        · rw [if_pos o1, tm_J125a pl o2.2.1]
          exact ⟨0, σe, rfl, tb_O.bad (((f2.tr f3).tr f4).tr f5) (tb_P.mk M M5 (fun j a1 a2 => m_up_ne (by omega)) (fun j a1 a2 => m_up_ne (by omega))) rfl o2 _⟩
      · rw [if_neg (by omega : ¬ (F_X12_named X τb a 4).toInt = -1), if_neg (by omega : ¬ (F_X12_named X τb a 4).toInt < 0), q_biE, q_letE, q_letE]
        obtain ⟨σ', a1, a2, a3, a4⟩ := tl_fail (X := X) K2 h02 (by omega) (k := 3) (by decide) (w := τb.1 a 15) rfl
        rw [tm_J72a pl a4.2.1, a1]
        exact ⟨0, σ', rfl, tb_O.bad (f2.tr (S2.rd Y H a2).2) ((tb_P.mk M M2 (fun _ _ _ => rfl) (fun _ _ _ => rfl)).tr (tb_P.rd Y.1 ha a3)) rfl a4 _⟩
    · rw [m4, q_biP, if_pos (by decide : (0 : Int32).toInt = 0), m3, if_pos (Eq.refl (0 : Int)), q_letE (F_X12_wrong X τb a), tm_J48a pl m7.2.1]
      exact ⟨0, σ', rfl, tb_O.bad (f2.tr (S2.rd Y H m5).2) ((tb_P.mk M M2 (fun _ _ _ => rfl) (fun _ _ _ => rfl)).tr (tb_P.rd Y.1 ha m6)) rfl m7 _⟩
end TU
end
/-! FROM 48o.hand.lean.txt -/
section
/-! A HAND TOLD: bits, sums, the relation -/
def tb_pw (k : Int) : Int := if k = 0 then 1 else if k = 1 then 2 else if k = 2 then 4 else if k = 3 then 8 else if k = 4 then 16 else if k = 5 then 32 else if k = 6 then 64 else if k = 7 then 128 else if k = 8 then 256 else 512
theorem tb_ten {k : Int} (hk : 0 ≤ k ∧ k < 10) : k = 0 ∨ k = 1 ∨ k = 2 ∨ k = 3 ∨ k = 4 ∨ k = 5 ∨ k = 6 ∨ k = 7 ∨ k = 8 ∨ k = 9 := by omega
theorem tb_pw_b {k : Int} (hk : 0 ≤ k ∧ k < 10) : 1 ≤ tb_pw k ∧ tb_pw k ≤ 512 := by
  rcases tb_ten hk with rfl | rfl | rfl | rfl | rfl | rfl | rfl | rfl | rfl | rfl <;> decide
theorem tb_shl {f : Int32} {k : Int} (hf : f.toInt = k) (hk : 0 ≤ k ∧ k < 10) : ((1 : Int32) <<< (f &&& 31)).toInt = tb_pw k := by
  rcases tb_ten hk with rfl | rfl | rfl | rfl | rfl | rfl | rfl | rfl | rfl | rfl
  · have e : f = 0 := Int32.toInt_inj.mp hf
    subst e
    rfl
  · have e : f = 1 := Int32.toInt_inj.mp hf
    subst e
    rfl
  · have e : f = 2 := Int32.toInt_inj.mp hf
    subst e
    rfl
  · have e : f = 3 := Int32.toInt_inj.mp hf
    subst e
    rfl
  · have e : f = 4 := Int32.toInt_inj.mp hf
    subst e
    rfl
  · have e : f = 5 := Int32.toInt_inj.mp hf
    subst e
    rfl
  · have e : f = 6 := Int32.toInt_inj.mp hf
    subst e
    rfl
  · have e : f = 7 := Int32.toInt_inj.mp hf
    subst e
    rfl
  · have e : f = 8 := Int32.toInt_inj.mp hf
    subst e
    rfl
  · have e : f = 9 := Int32.toInt_inj.mp hf
    subst e
    rfl
theorem tb_bit {x f : Int32} {t : Int → Int} {p k : Int} (hx : x.toInt = tb_bits t p) (hf : f.toInt = k) (hk : 0 ≤ k ∧ k < 10) (ht : ∀ i : Int, 0 ≤ i → i < 10 → t (10 * p + i) = 0 ∨ t (10 * p + i) = 1) : ((x >>> (f &&& 31)) &&& 1).toInt = t (10 * p + k) := by
  have b : ∀ i : Int, 0 ≤ i → i < 10 → 0 ≤ t (10 * p + i) ∧ t (10 * p + i) ≤ 1 := fun i i0 i1 => by rcases ht i i0 i1 with h | h <;> rw [h] <;> decide
  have b0 := b 0 (by decide) (by decide)
  rw [Int.add_zero] at b0
  have b1 := b 1 (by decide) (by decide)
  have b2 := b 2 (by decide) (by decide)
  have b3 := b 3 (by decide) (by decide)
  have b4 := b 4 (by decide) (by decide)
  have b5 := b 5 (by decide) (by decide)
  have b6 := b 6 (by decide) (by decide)
  have b7 := b 7 (by decide) (by decide)
  have b8 := b 8 (by decide) (by decide)
  have b9 := b 9 (by decide) (by decide)
  clear b ht
  unfold tb_bits at hx
  rcases tb_ten hk with rfl | rfl | rfl | rfl | rfl | rfl | rfl | rfl | rfl | rfl
  · have e : f = 0 := Int32.toInt_inj.mp hf
    subst e
    rw [Jvm.Kit.i32_mask (k := 1) _ 1 (by decide) (by decide), Jvm.Kit.i32_shr x _ (k := 0) (by decide), hx]
    have e1 : (2 : Int) ^ 1 = 2 := rfl
    have e2 : (2 : Int) ^ 0 = 1 := rfl
    rw [e1, e2]
    rw [Int.add_zero]
    omega
  · have e : f = 1 := Int32.toInt_inj.mp hf
    subst e
    rw [Jvm.Kit.i32_mask (k := 1) _ 1 (by decide) (by decide), Jvm.Kit.i32_shr x _ (k := 1) (by decide), hx]
    have e1 : (2 : Int) ^ 1 = 2 := rfl
    have e2 : (2 : Int) ^ 1 = 2 := rfl
    rw [e1]
    omega
  · have e : f = 2 := Int32.toInt_inj.mp hf
    subst e
    rw [Jvm.Kit.i32_mask (k := 1) _ 1 (by decide) (by decide), Jvm.Kit.i32_shr x _ (k := 2) (by decide), hx]
    have e1 : (2 : Int) ^ 1 = 2 := rfl
    have e2 : (2 : Int) ^ 2 = 4 := rfl
    rw [e1, e2]
    omega
  · have e : f = 3 := Int32.toInt_inj.mp hf
    subst e
    rw [Jvm.Kit.i32_mask (k := 1) _ 1 (by decide) (by decide), Jvm.Kit.i32_shr x _ (k := 3) (by decide), hx]
    have e1 : (2 : Int) ^ 1 = 2 := rfl
    have e2 : (2 : Int) ^ 3 = 8 := rfl
    rw [e1, e2]
    omega
  · have e : f = 4 := Int32.toInt_inj.mp hf
    subst e
    rw [Jvm.Kit.i32_mask (k := 1) _ 1 (by decide) (by decide), Jvm.Kit.i32_shr x _ (k := 4) (by decide), hx]
    have e1 : (2 : Int) ^ 1 = 2 := rfl
    have e2 : (2 : Int) ^ 4 = 16 := rfl
    rw [e1, e2]
    omega
  · have e : f = 5 := Int32.toInt_inj.mp hf
    subst e
    rw [Jvm.Kit.i32_mask (k := 1) _ 1 (by decide) (by decide), Jvm.Kit.i32_shr x _ (k := 5) (by decide), hx]
    have e1 : (2 : Int) ^ 1 = 2 := rfl
    have e2 : (2 : Int) ^ 5 = 32 := rfl
    rw [e1, e2]
    omega
  · have e : f = 6 := Int32.toInt_inj.mp hf
    subst e
    rw [Jvm.Kit.i32_mask (k := 1) _ 1 (by decide) (by decide), Jvm.Kit.i32_shr x _ (k := 6) (by decide), hx]
    have e1 : (2 : Int) ^ 1 = 2 := rfl
    have e2 : (2 : Int) ^ 6 = 64 := rfl
    rw [e1, e2]
    omega
  · have e : f = 7 := Int32.toInt_inj.mp hf
    subst e
    rw [Jvm.Kit.i32_mask (k := 1) _ 1 (by decide) (by decide), Jvm.Kit.i32_shr x _ (k := 7) (by decide), hx]
    have e1 : (2 : Int) ^ 1 = 2 := rfl
    have e2 : (2 : Int) ^ 7 = 128 := rfl
    rw [e1, e2]
    omega
  · have e : f = 8 := Int32.toInt_inj.mp hf
    subst e
    rw [Jvm.Kit.i32_mask (k := 1) _ 1 (by decide) (by decide), Jvm.Kit.i32_shr x _ (k := 8) (by decide), hx]
    have e1 : (2 : Int) ^ 1 = 2 := rfl
    have e2 : (2 : Int) ^ 8 = 256 := rfl
    rw [e1, e2]
    omega
  · have e : f = 9 := Int32.toInt_inj.mp hf
    subst e
    rw [Jvm.Kit.i32_mask (k := 1) _ 1 (by decide) (by decide), Jvm.Kit.i32_shr x _ (k := 9) (by decide), hx]
    have e1 : (2 : Int) ^ 1 = 2 := rfl
    have e2 : (2 : Int) ^ 9 = 512 := rfl
    rw [e1, e2]
    omega
theorem tb_bits_up {t : Int → Int} {p k : Int} (hk : 0 ≤ k ∧ k < 10) (ht : t (10 * p + k) = 0) : tb_bits (m_up t (10 * p + k) 1) p = tb_bits t p + tb_pw k := by
  have e : ∀ i : Int, m_up t (10 * p + k) 1 (10 * p + i) = if i = k then 1 else t (10 * p + i) := by
    intro i
    unfold m_up
    by_cases q : i = k
    · rw [if_pos q, if_pos (by omega)]
    · rw [if_neg q, if_neg (by omega)]
  have e0 := e 0
  rw [Int.add_zero] at e0
  unfold tb_bits tb_pw
  rw [e0, e 1, e 2, e 3, e 4, e 5, e 6, e 7, e 8, e 9]
  clear e e0
  rcases tb_ten hk with rfl | rfl | rfl | rfl | rfl | rfl | rfl | rfl | rfl | rfl
  · rw [Int.add_zero] at ht
    simp only [Int.reduceEq, ↓reduceIte]
    omega
  · simp only [Int.reduceEq, ↓reduceIte]
    omega
  · simp only [Int.reduceEq, ↓reduceIte]
    omega
  · simp only [Int.reduceEq, ↓reduceIte]
    omega
  · simp only [Int.reduceEq, ↓reduceIte]
    omega
  · simp only [Int.reduceEq, ↓reduceIte]
    omega
  · simp only [Int.reduceEq, ↓reduceIte]
    omega
  · simp only [Int.reduceEq, ↓reduceIte]
    omega
  · simp only [Int.reduceEq, ↓reduceIte]
    omega
  · simp only [Int.reduceEq, ↓reduceIte]
    omega
theorem tb_bits_ne {t : Int → Int} {p q k v : Int} (hk : 0 ≤ k ∧ k < 10) (h : q ≠ p) : tb_bits (m_up t (10 * p + k) v) q = tb_bits t q := by
  unfold tb_bits
  rw [m_up_ne (by omega), m_up_ne (by omega), m_up_ne (by omega), m_up_ne (by omega), m_up_ne (by omega), m_up_ne (by omega), m_up_ne (by omega), m_up_ne (by omega), m_up_ne (by omega), m_up_ne (by omega)]
theorem m_sum_e {c : Int → Int} {k : Int} : m_sum c 3720 k = c (3754 + 10 * 0 + k) + c (3754 + 10 * 1 + k) + c (3754 + 10 * 2 + k) + c (3754 + 10 * 3 + k) + c (3754 + 10 * 4 + k) + c (3754 + 10 * 5 + k) := rfl
theorem m_sum_ne {c : Int → Int} {p k k' v : Int} (hk : 0 ≤ k ∧ k < 10) (hk' : 0 ≤ k' ∧ k' < 10) (h : k' ≠ k) : m_sum (m_up c (3754 + (10 * p + k)) v) 3720 k' = m_sum c 3720 k' := by
  unfold m_sum
  rw [m_up_ne (by omega), m_up_ne (by omega), m_up_ne (by omega), m_up_ne (by omega), m_up_ne (by omega), m_up_ne (by omega)]
theorem m_sum_at {c : Int → Int} {p k v : Int} (hp : 0 ≤ p ∧ p < 6) (h0 : c (3754 + (10 * p + k)) = 0) : m_sum (m_up c (3754 + (10 * p + k)) v) 3720 k = m_sum c 3720 k + v := by
  have e : ∀ i : Int, m_up c (3754 + (10 * p + k)) v (3754 + 10 * i + k) = if i = p then v else c (3754 + 10 * i + k) := by
    intro i
    unfold m_up
    by_cases q : i = p
    · rw [if_pos q, if_pos (by omega)]
    · rw [if_neg q, if_neg (by omega)]
  rw [m_sum_e, m_sum_e, e 0, e 1, e 2, e 3, e 4, e 5]
  clear e
  have h0' : c (3754 + 10 * p + k) = 0 := by
    have z : 3754 + 10 * p + k = 3754 + (10 * p + k) := by omega
    rw [z]
    exact h0
  rcases (by omega : p = 0 ∨ p = 1 ∨ p = 2 ∨ p = 3 ∨ p = 4 ∨ p = 5) with rfl | rfl | rfl | rfl | rfl | rfl
  · simp only [Int.reduceEq, ↓reduceIte]
    omega
  · simp only [Int.reduceEq, ↓reduceIte]
    omega
  · simp only [Int.reduceEq, ↓reduceIte]
    omega
  · simp only [Int.reduceEq, ↓reduceIte]
    omega
  · simp only [Int.reduceEq, ↓reduceIte]
    omega
  · simp only [Int.reduceEq, ↓reduceIte]
    omega
theorem m_S_at {c : Int → Int} {b A v : Int} : ∀ N : Nat, b ≤ A → A < b + (N : Int) → m_S (m_up c A v) b N = m_S c b N + v - c A := by
  intro N
  induction N with
  | zero => intro h1 h2; omega
  | succ N ih =>
    intro h1 h2
    show m_S (m_up c A v) b N + m_up c A v (b + (N : Int)) = m_S c b N + c (b + (N : Int)) + v - c A
    by_cases q : A = b + (N : Int)
    · subst q
      rw [m_up_eq, m_S_ext (c := c) (fun j a1 a2 => m_up_ne (by omega))]
      omega
    · rw [m_up_ne (fun z => q z.symm), ih h1 (by omega)]
      omega
section TH
variable {X : XW} {lb : Nat → Nat} {D T g a : Nat} {σ τ σ' τ' σ1 τ1 : ST} {n : Int} {B : Int → Int} {V : Nat → Int → Int} {r c w t : Int → Int} {f9 f10 : Int}
theorem tb_R.hand {p k v s : Int} (h : tb_R V r c w t) (hp : 0 ≤ p ∧ p < c 3722) (hk : 0 ≤ k ∧ k < c 3720) (hv : 0 ≤ v) (ht : t (10 * p + k) = 0) (hs : m_sum c 3720 k + v ≤ c 3721) (es : s = r p + tb_pw k) :
    tb_R (y_up (y_up (y_up V 4 k (V 4 k + v)) 7 (10 * p + k) (V 7 (10 * p + k) + v)) 9 p (V 9 p + v)) (fun j => if j = p then s else r j) (m_up c (3754 + (10 * p + k)) v) w (m_up t (10 * p + k) 1) := by
  obtain ⟨⟨⟨n1, n2, n3, n4, n5⟩, n6, n7, n8, n9⟩, z, nm, ⟨h1, h2, h3⟩, mn, k1, k2, k3⟩ := h
  have hP : c 3722 ≤ 6 := mn.2.2.1.2
  have hK : c 3720 ≤ 10 := mn.1.2
  have hE : c 3721 ≤ 8 := mn.2.1.2
  have hk10 : 0 ≤ k ∧ k < 10 := by omega
  have c0 : c (3754 + (10 * p + k)) = 0 := (h1 (10 * p + k) (by omega) (by omega)).2 ht
  have rd : ∀ (id : Nat) (i : Int), id ≠ 4 → id ≠ 7 → id ≠ 9 → y_up (y_up (y_up V 4 k (V 4 k + v)) 7 (10 * p + k) (V 7 (10 * p + k) + v)) 9 p (V 9 p + v) id i = V id i := fun id i i4 i7 i9 => by
    rw [y_up_ne (Or.inl i9), y_up_ne (Or.inl i7), y_up_ne (Or.inl i4)]
  have rc : ∀ j : Int, j < 3754 → m_up c (3754 + (10 * p + k)) v j = c j := fun j hj => m_up_ne (by omega)
  refine ⟨⟨⟨?_, ?_, ?_, ?_, ?_⟩, ?_, ?_, ?_, ?_⟩, ?_, ?_, ⟨?_, ?_, ?_⟩, ?_, ?_, ?_, ?_⟩
  · rw [rd 1 0 (by decide) (by decide) (by decide), rc _ (by decide)]; exact n1
  · rw [rd 1 1 (by decide) (by decide) (by decide), rc _ (by decide)]; exact n2
  · rw [rd 1 2 (by decide) (by decide) (by decide), rc _ (by decide)]; exact n3
  · rw [rd 1 3 (by decide) (by decide) (by decide), rc _ (by decide)]; exact n4
  · rw [rd 1 4 (by decide) (by decide) (by decide), rc _ (by decide)]; exact n5
  · intro k' a1 a2
    rw [y_up_ne (Or.inl (by decide)), y_up_ne (Or.inl (by decide))]
    by_cases q : k' = k
    · subst q
      rw [y_up_eq, m_sum_at ⟨hp.1, by omega⟩ c0, n6 k' a1 a2]
    · rw [y_up_ne (Or.inr q), m_sum_ne hk10 ⟨a1, a2⟩ q]
      exact n6 k' a1 a2
  · intro j a1 a2
    rw [y_up_ne (Or.inl (by decide))]
    by_cases q : j = 10 * p + k
    · subst q
      rw [y_up_eq, m_up_eq, n7 _ a1 a2, c0, Int.zero_add]
    · rw [y_up_ne (Or.inr q), y_up_ne (Or.inl (by decide)), m_up_ne (by omega)]
      exact n7 j a1 a2
  · intro q a1 a2
    by_cases e : q = p
    · subst e
      rw [y_up_eq, n8 q a1 a2, m_S_at 10 (by omega) (by show _ < _ + ((10 : Nat) : Int); omega), c0, Int.sub_zero]
    · rw [y_up_ne (Or.inr e), y_up_ne (Or.inl (by decide)), y_up_ne (Or.inl (by decide)), m_S_ext (fun j b1 b2 => m_up_ne (by have : ((10 : Nat) : Int) = 10 := rfl; omega))]
      exact n8 q a1 a2
  · intro q a1 a2
    rw [rd 10 q (by decide) (by decide) (by decide), rd 11 q (by decide) (by decide) (by decide), rc _ (by omega), rc _ (by omega)]
    exact n9 q a1 a2
  · exact ((z.up (by omega)).up (by omega)).up (by omega)
  · rw [rc _ (by decide)]
    exact ((nm.up (by decide) (by decide)).up (by decide) (by decide)).up (by decide) (by decide)
  · intro j a1 a2
    by_cases q : j = 10 * p + k
    · subst q
      rw [m_up_eq]
      exact ⟨Or.inr rfl, fun e => absurd e (by decide)⟩
    · rw [m_up_ne q, m_up_ne (by omega)]
      exact h1 j a1 a2
  · intro q a1 a2
    show (if q = p then s else r q) = _
    by_cases e : q = p
    · subst e
      rw [if_pos rfl, tb_bits_up hk10 ht, es, h2 q a1 a2]
    · rw [if_neg e, tb_bits_ne hk10 e]
      exact h2 q a1 a2
  · intro j a1 a2 a3
    rw [rc _ (by decide)] at a3
    rw [m_up_ne (by omega)]
    exact h3 j a1 a2 a3
  · exact mn.hand ⟨hp.1, by omega⟩ hk10 hk.2 m_up_e hv (by omega)
  · rw [rc _ (by decide)]; exact k1
  · rw [rc _ (by decide)]; exact k2
  · rw [rc _ (by decide)]; exact k3
theorem tb_S.get (H : tb_D X lb D T g) (S : tb_S X D T g σ n B V r f9 f10) {x : Int32} {p : Int} (hx : x.toInt = p) (hp : 0 ≤ p ∧ p < 6) : (F_X5_get X σ (q_rf X D 11) x).toInt = r p := by
  have hl : (q_len X (q_rf X (q_rf X D 11) 0)).toInt = 6 := by
    unfold q_len
    have : q_ln X (q_rf X (q_rf X D 11) 0) = 6 := H.2.2.2.2.2.2.2.1
    rw [this]
    rfl
  simp only [F_X5_get, ↓q_letE]
  rw [hl, hx, if_neg (by omega), if_pos (by omega), ar_cl, hx]
  exact S.2.2.1 p hp.1 hp.2
/-- how many of a kind have been told -/
theorem tm_toldOf (e : m_c X τ a = c) (mn : m_N c) {v : Int32} {k : Int} (hv : v.toInt = k) (hk : 0 ≤ k ∧ k < 10) : (F_X12_toldOf X τ a v).toInt = m_sum c 3720 k := by
  have hs := mn.2.2.2.2.2.2.2.2.1 k hk.1 hk.2
  rw [m_sum_e] at hs ⊢
  have hc := mn.2.2.2.2.2.2.2.1
  have d0 := hc (3754 + 10 * 0 + k) (by omega) (by omega)
  have d1 := hc (3754 + 10 * 1 + k) (by omega) (by omega)
  have d2 := hc (3754 + 10 * 2 + k) (by omega) (by omega)
  have d3 := hc (3754 + 10 * 3 + k) (by omega) (by omega)
  have d4 := hc (3754 + 10 * 4 + k) (by omega) (by omega)
  have d5 := hc (3754 + 10 * 5 + k) (by omega) (by omega)
  have st : ∀ (f : Nat) (x y : Int32) (j s : Int), y.toInt = j → 0 ≤ j → j < 6 → x.toInt = s → 0 ≤ s → s ≤ 100 → 0 ≤ c (3754 + 10 * j + k) → c (3754 + 10 * j + k) ≤ 8 → ∃ x' y' : Int32, F_X12_toldOf_L4_1 X v τ a (f + 1) x y = F_X12_toldOf_L4_1 X v τ a f x' y' ∧ x'.toInt = s + c (3754 + 10 * j + k) ∧ y'.toInt = j + 1 := by
    intro f x y j s hy j0 j1 hx s0 s1 c0 c1
    have ei : ((3754 : Int32) + (10 : Int32) * y + v).toInt = 3754 + 10 * j + k := by
      have e1 : (3754 : Int32).toInt = 3754 := rfl
      have e10 : (10 : Int32).toInt = 10 := rfl
      rw [ar_add, ar_add, ar_mul, e1, e10, hy, hv, ar_wr (n := 10 * j) (by omega) (by omega), ar_wr (n := 3754 + 10 * j) (by omega) (by omega), ar_wr (by omega) (by omega)]
    have ec : (τ.1 (q_rf X a 20) ((3754 : Int32) + (10 : Int32) * y + v).toNatClampNeg).toInt = c (3754 + 10 * j + k) := by
      have z := m_rd (X := X) (σ := τ) (a := a) rfl ei
      rw [e] at z
      exact z
    refine ⟨x + τ.1 (q_rf X a 20) ((3754 : Int32) + (10 : Int32) * y + v).toNatClampNeg, y + 1, ?_, ?_, ?_⟩
    · rw [F_X12_toldOf_L4_1_s]
      unfold F_X12_toldOf_B4_1
      rw [hy, if_pos j1, q_letE, q_letE, q_letE, q_letE, q_letE, q_letE]
    · rw [ar_add, hx, ec, ar_wr (by omega) (by omega)]
    · rw [y_inc (by omega), hy]
  have z0 : (0 : Int32).toInt = 0 := rfl
  unfold F_X12_toldOf
  obtain ⟨f, hf⟩ : ∃ f, (2147483647 - (0 : Int32).toInt).toNat + 1 = f + 1 + 1 + 1 + 1 + 1 + 1 + 1 := ⟨(2147483647 - (0 : Int32).toInt).toNat + 1 - 7, by rw [z0]; omega⟩
  rw [hf]
  obtain ⟨x1, y1, e1, hx1, hy1⟩ := st (f + 1 + 1 + 1 + 1 + 1 + 1) 0 0 0 0 z0 (by decide) (by decide) z0 (by decide) (by decide) d0 (by omega)
  obtain ⟨x2, y2, e2, hx2, hy2⟩ := st (f + 1 + 1 + 1 + 1 + 1) x1 y1 1 _ hy1 (by decide) (by decide) hx1 (by omega) (by omega) d1 (by omega)
  obtain ⟨x3, y3, e3, hx3, hy3⟩ := st (f + 1 + 1 + 1 + 1) x2 y2 2 _ hy2 (by decide) (by decide) hx2 (by omega) (by omega) d2 (by omega)
  obtain ⟨x4, y4, e4, hx4, hy4⟩ := st (f + 1 + 1 + 1) x3 y3 3 _ hy3 (by decide) (by decide) hx3 (by omega) (by omega) d3 (by omega)
  obtain ⟨x5, y5, e5, hx5, hy5⟩ := st (f + 1 + 1) x4 y4 4 _ hy4 (by decide) (by decide) hx4 (by omega) (by omega) d4 (by omega)
  obtain ⟨x6, y6, e6, hx6, hy6⟩ := st (f + 1) x5 y5 5 _ hy5 (by decide) (by decide) hx5 (by omega) (by omega) d5 (by omega)
  rw [e1, e2, e3, e4, e5, e6, F_X12_toldOf_L4_1_s]
  unfold F_X12_toldOf_B4_1
  rw [hy6, if_neg (by decide), hx6]
  omega
end TH
end
/-! FROM 48p.rdhand.lean.txt -/
section
/-! A HAND READ -/
/-- the reference's hand, stretch by stretch -/
noncomputable def tm_h3 (X : XW) (a : Nat) (r_4 r_8 f_14 r_18 : Int32) (σ_19 : ST) : ST :=
  q_let ((10 : Int32) * r_4 : Int32) (fun z_20 => q_let (z_20 + r_18 : Int32) (fun z_21 => q_let (σ_19.1 a 12 : Int32) (fun f_22 => if f_22.toInt = 0 then q_let (σ_19.1 (q_rf X a 22) z_21.toNatClampNeg : Int32) (fun f_29 => if f_29.toInt = 1 then q_let (F_X12_fail X σ_19 a (5 : Int32) f_14 : ST) (fun σ_33 => q_let (σ_33.1 a 12 : Int32) (fun f_34 => if 0 < f_34.toInt then σ_33 else q_let (q_si σ_33 (q_rf X a 22) z_21.toNatClampNeg (1 : Int32) : ST) (fun σ_36 => q_let ((3754 : Int32) + z_21 : Int32) (fun z_37 => q_let (q_si σ_36 (q_rf X a 20) z_37.toNatClampNeg r_8 : ST) (fun σ_38 => σ_38))))) else q_let (F_X12_toldOf X σ_19 a r_18 : Int32) (fun r_39 => q_let (r_39 + r_8 : Int32) (fun z_41 => q_let (σ_19.1 (q_rf X a 20) (3721 : Int32).toNatClampNeg : Int32) (fun f_42 => if f_42.toInt < z_41.toInt then q_let (F_X12_fail X σ_19 a (5 : Int32) f_14 : ST) (fun σ_51 => q_let (σ_51.1 a 12 : Int32) (fun f_52 => if 0 < f_52.toInt then σ_51 else q_let (q_si σ_51 (q_rf X a 22) z_21.toNatClampNeg (1 : Int32) : ST) (fun σ_54 => q_let ((3754 : Int32) + z_21 : Int32) (fun z_55 => q_let (q_si σ_54 (q_rf X a 20) z_55.toNatClampNeg r_8 : ST) (fun σ_56 => σ_56))))) else q_let (σ_19.1 a 12 : Int32) (fun f_44 => if 0 < f_44.toInt then σ_19 else q_let (q_si σ_19 (q_rf X a 22) z_21.toNatClampNeg (1 : Int32) : ST) (fun σ_46 => q_let ((3754 : Int32) + z_21 : Int32) (fun z_47 => q_let (q_si σ_46 (q_rf X a 20) z_47.toNatClampNeg r_8 : ST) (fun σ_48 => σ_48)))))))) else q_let (σ_19.1 a 12 : Int32) (fun f_24 => if 0 < f_24.toInt then σ_19 else q_let (q_si σ_19 (q_rf X a 22) z_21.toNatClampNeg (1 : Int32) : ST) (fun σ_26 => q_let ((3754 : Int32) + z_21 : Int32) (fun z_27 => q_let (q_si σ_26 (q_rf X a 20) z_27.toNatClampNeg r_8 : ST) (fun σ_28 => σ_28)))))))
noncomputable def tm_h2 (X : XW) (a : Nat) (r_4 r_8 : Int32) (σ_9 : ST) : ST :=
  q_let (F_X12_isOf X σ_9 a : Int32) (fun r_10 => q_let (F_X12_must X σ_9 a r_10 : ST) (fun σ_13 => q_let (σ_13.1 a 15 : Int32) (fun f_14 => q_let (σ_13.1 (q_rf X a 20) (3720 : Int32).toNatClampNeg : Int32) (fun f_15 => q_let (f_15 - (1 : Int32) : Int32) (fun z_16 => q_bi (F_X12_count X σ_13 a (0 : Int32) z_16) (fun r_18 σ_19 => tm_h3 X a r_4 r_8 f_14 r_18 σ_19))))))
noncomputable def tm_h1 (X : XW) (a : Nat) (r_4 : Int32) (σ_5 : ST) : ST :=
  q_bi (F_X12_count X σ_5 a (0 : Int32) (8 : Int32)) (fun r_8 σ_9 => tm_h2 X a r_4 r_8 σ_9)
theorem tm_hE (X : XW) (τ : ST) (a : Nat) : F_X12_readHand X τ a = q_let (F_X12_next X τ a : ST) (fun σ_2 => q_bi (F_X12_readTold X σ_2 a (4 : Int32)) (fun r_4 σ_5 => tm_h1 X a r_4 σ_5)) := rfl
section TI
variable {X : XW} {lb : Nat → Nat} {D T g a : Nat} {σ τ σ' τ' σ1 τ1 : ST} {n : Int} {B : Int → Int} {V : Nat → Int → Int} {r c w t : Int → Int} {f9 f10 : Int}
theorem tm_h3a (h : 0 < (τ.1 a 12).toInt) (y r8 f14 k : Int32) : tm_h3 X a y r8 f14 k τ = τ := by
  unfold tm_h3
  rw [q_letE, q_letE, q_letE, if_neg (by omega), q_letE, if_pos h]
theorem tm_h2a (h : 0 < (τ.1 a 12).toInt) (y r8 : Int32) : tm_h2 X a y r8 τ = τ := by
  unfold tm_h2
  rw [q_letE, q_letE, tm_must2 h, q_letE, q_letE, q_letE, tm_count2 h, q_biP, tm_h3a h]
theorem tm_h1a (h : 0 < (τ.1 a 12).toInt) (y : Int32) : tm_h1 X a y τ = τ := by
  unfold tm_h1
  rw [tm_count2 h, q_biP, tm_h2a h]
/-- a fault at a token that the reference has passed already -/
theorem tl_fail3 {R : Nat} (K : tl_K σ R τ a B n) (h4 : (τ.1 a 14).toInt ≠ 4) (h : (τ'.1 a 12).toInt = 0) {k : Int32} (hk : 0 < k.toInt) {w : Int32} (hw : w.toInt = (τ.1 a 15).toInt) : ∃ σ' : ST, F_X3_fails X σ R k = (0, σ') ∧ tk (tc_S2 R) σ σ' ∧ tkl (tn_S2 a) (tn_L a) τ' (F_X12_fail X τ' a k w) ∧ tl_F σ' R (F_X12_fail X τ' a k w) a := by
  obtain ⟨k1, k2, k3, -⟩ := id K
  obtain ⟨σ', a1, a2, a3, a4⟩ := tc_fails (X := X) (σ := σ) (R := R) k
  obtain ⟨b1, b2, b3⟩ := tm_fail (X := X) h k w
  have q : ¬ (σ.1 R 4).toInt = 4 := by rw [k3]; exact h4
  rw [if_neg q] at a3
  exact ⟨σ', a1, a2, b1, by rw [a3, b2], by rw [b2]; exact hk, by rw [a4, b3, k1, hw]⟩
theorem tb_addE (H : tb_D X lb D T g) {x v : Int32} {p : Int} (hx : x.toInt = p) (hp : 0 ≤ p ∧ p < 6) : F_X5_add X σ (q_rf X D 11) x v = q_si σ (tb_T X D) x.toNatClampNeg (σ.1 (tb_T X D) x.toNatClampNeg + v) := by
  simp only [F_X5_add, ↓q_letE]
  have hl : (q_len X (q_rf X (q_rf X D 11) 0)).toInt = 6 := by
    unfold q_len
    have : q_ln X (q_rf X (q_rf X D 11) 0) = 6 := H.2.2.2.2.2.2.2.1
    rw [this]
    rfl
  rw [hl, hx, if_neg (by omega), if_pos (by omega)]
  rfl
theorem m_cell {k p : Int} (mn : m_N c) (hp : 0 ≤ p ∧ p < 6) (hk : 0 ≤ k ∧ k < 10) : 0 ≤ c (3754 + 10 * p + k) ∧ c (3754 + 10 * p + k) ≤ 8 := by
  have hs := mn.2.2.2.2.2.2.2.2.1 k hk.1 hk.2
  rw [m_sum_e] at hs
  have hc := mn.2.2.2.2.2.2.2.1
  have d0 := hc (3754 + 10 * 0 + k) (by omega) (by omega)
  have d1 := hc (3754 + 10 * 1 + k) (by omega) (by omega)
  have d2 := hc (3754 + 10 * 2 + k) (by omega) (by omega)
  have d3 := hc (3754 + 10 * 3 + k) (by omega) (by omega)
  have d4 := hc (3754 + 10 * 4 + k) (by omega) (by omega)
  have d5 := hc (3754 + 10 * 5 + k) (by omega) (by omega)
  clear hc mn
  rcases (by omega : p = 0 ∨ p = 1 ∨ p = 2 ∨ p = 3 ∨ p = 4 ∨ p = 5) with rfl | rfl | rfl | rfl | rfl | rfl <;> omega
theorem m_S_b {b : Int} : ∀ N : Nat, (∀ j : Int, b ≤ j → j < b + (N : Int) → 0 ≤ c j ∧ c j ≤ 8) → 0 ≤ m_S c b N ∧ m_S c b N ≤ 8 * (N : Int) := by
  intro N
  induction N with
  | zero => intro _; exact ⟨Int.le_refl _, Int.le_refl _⟩
  | succ N ih =>
    intro h
    have i := ih (fun j a1 a2 => h j a1 (by omega))
    have d := h (b + (N : Int)) (by omega) (by omega)
    show 0 ≤ m_S c b N + c (b + (N : Int)) ∧ m_S c b N + c (b + (N : Int)) ≤ _
    omega
theorem tb_bits_b {p : Int} (ht : ∀ i : Int, 0 ≤ i → i < 10 → t (10 * p + i) = 0 ∨ t (10 * p + i) = 1) : 0 ≤ tb_bits t p ∧ tb_bits t p ≤ 1023 := by
  have b : ∀ i : Int, 0 ≤ i → i < 10 → 0 ≤ t (10 * p + i) ∧ t (10 * p + i) ≤ 1 := fun i i0 i1 => by rcases ht i i0 i1 with h | h <;> rw [h] <;> decide
  have b0 := b 0 (by decide) (by decide)
  rw [Int.add_zero] at b0
  have b1 := b 1 (by decide) (by decide)
  have b2 := b 2 (by decide) (by decide)
  have b3 := b 3 (by decide) (by decide)
  have b4 := b 4 (by decide) (by decide)
  have b5 := b 5 (by decide) (by decide)
  have b6 := b 6 (by decide) (by decide)
  have b7 := b 7 (by decide) (by decide)
  have b8 := b 8 (by decide) (by decide)
  have b9 := b 9 (by decide) (by decide)
  clear b ht
  unfold tb_bits
  omega
/-- the class's table and hands take the cards told -/
theorem tb_deal (Y : y_S X lb) (G : y_G X lb g 6) (W : y_W X lb g 6 σ1 σ V) {z f v : Int32} {p k : Int} (hz : z.toInt = p) (hf : f.toInt = k) (hp : 0 ≤ p ∧ p < 6) (hk : 0 ≤ k ∧ k < 10) (hv : 0 ≤ v.toInt ∧ v.toInt ≤ 8) (b4 : 0 ≤ V 4 k ∧ V 4 k ≤ 100) (b7 : 0 ≤ V 7 (10 * p + k) ∧ V 7 (10 * p + k) ≤ 100) (b9 : 0 ≤ V 9 p ∧ V 9 p ≤ 100) :
    y_W X lb g 6 σ1 (F_X1_deal X (F_X5_add X σ (q_rf X (q_rf X g 0) 5) f v) (q_rf X g 1) z f v) (y_up (y_up (y_up V 4 k (V 4 k + v.toInt)) 7 (10 * p + k) (V 7 (10 * p + k) + v.toInt)) 9 p (V 9 p + v.toInt)) := by
  have e10 : (10 : Int32).toInt = 10 := rfl
  have gn4 : ((y_gn 4 : Nat) : Int) = 10 := rfl
  have gn7 : ((y_gn 7 : Nat) : Int) = 60 := rfl
  have gn9 : ((y_gn 9 : Nat) : Int) = 6 := rfl
  have W1 := W.add Y G (id := 4) (r := q_rf X (q_rf X g 0) 5) ⟨by decide, by decide⟩ rfl f v (by omega) (by rw [gn4]; omega)
  rw [hf, ar_wr (by omega) (by omega)] at W1
  obtain ⟨σ2, hσ2⟩ : ∃ s, s = F_X5_add X σ (q_rf X (q_rf X g 0) 5) f v := ⟨_, rfl⟩
  rw [← hσ2] at W1 ⊢
  have ei : (z * 10 + f).toInt = 10 * p + k := by
    rw [ar_add, ar_mul, hz, hf, e10, ar_wr (n := p * 10) (by omega) (by omega), ar_wr (by omega) (by omega)]
    omega
  have W2 := W1.add Y G (id := 7) (r := q_rf X (q_rf X g 1) 0) ⟨by decide, by decide⟩ rfl (z * 10 + f) v (by omega) (by rw [gn7]; omega)
  rw [ei, y_up_ne (Or.inl (by decide)), ar_wr (by omega) (by omega)] at W2
  unfold F_X1_deal
  rw [q_letE, q_letE, q_letE, q_letE]
  obtain ⟨σ3, hσ3⟩ : ∃ s, s = F_X5_add X σ2 (q_rf X (q_rf X g 1) 0) (z * 10 + f) v := ⟨_, rfl⟩
  rw [← hσ3] at W2 ⊢
  have W3 := W2.add Y G (id := 9) (r := q_rf X (q_rf X g 1) 2) ⟨by decide, by decide⟩ rfl z v (by omega) (by rw [gn9]; omega)
  rw [hz, y_up_ne (Or.inl (by decide)), y_up_ne (Or.inl (by decide)), ar_wr (by omega) (by omega)] at W3
  exact W3
set_option maxHeartbeats 1000000 in
theorem tb_readHand (Y : y_S X lb) (H : tb_D X lb D T g) (ha : q_kd X a = 12) (I : tb_I X D T g a n B σ τ V r c w t f9 f10) (h1 : (τ.1 a 14).toInt = 1) :
    ∃ (z : Int32) (σ' : ST), F_X9_readHand X σ D = (z, σ') ∧ tb_O X lb D T g a n B σ τ σ' (F_X12_must X (F_X12_readHand X τ a) a (F_X12_isSign X (F_X12_readHand X τ a) a 59)) z := by
  obtain ⟨S, M, K, h0, Rr⟩ := I
  have kb := K.b
  have hDn : lb D / 8192 ≠ 6 := by have := H.2.2.2.1; omega
  obtain ⟨b0, b1, b4, b20, b21, b22⟩ := Rr.b
  obtain ⟨t1, t2, t3⟩ := Rr.2.2.2.1
  have mn := Rr.2.2.2.2.1
  unfold F_X9_readHand
  rw [tm_hE, ← H.2.1, q_letE, q_letE]
  obtain ⟨c1, m1, K2, g2⟩ := tl_adv2 S.1 M.1 K
  obtain ⟨S2, f2⟩ := S.rd Y H c1.S2
  have M2 := M.rd Y.1 ha m1.S2
  have h02 : ((F_X12_next X τ a).1 a 12).toInt = 0 := by rw [tn_12 m1]; exact h0
  obtain ⟨σb, hσb⟩ : ∃ s, s = F_X3_advance X σ D := ⟨_, rfl⟩
  obtain ⟨τb, hτb⟩ : ∃ s, s = F_X12_next X τ a := ⟨_, rfl⟩
  rw [← hσb] at S2 f2 K2 ⊢
  rw [← hτb] at M2 K2 g2 h02 ⊢
  have k2b := K2.b
  have nmw : y_nm V (m_wd X τb a) (6 * 4) (c 3722) := by
    rw [M2.2.2.1]
    exact Rr.2.2.1
  obtain ⟨z, y, σc, τc, e1, e2, ⟨o1, o2, o3⟩, v1, v2⟩ := tl_passPlayer Y H.2.2.1 ((y_W.rf (lb := lb) (o := 6) (σ := σb)).eq S2.2.1) S2.1 M2.1 K2 h02 (v := 4) (bl := 4) rfl ⟨by decide, by decide⟩ (P := c 3722) (by rw [M2.2.1]; rfl) b22 b4 nmw
  obtain ⟨S3, f3⟩ := S2.rd Y H o1
  have M3 := M2.rd Y.1 ha o2
  rw [e1, q_biP z σc, e2, q_biP y τc]
  rcases o3 with ⟨q1, K3, h03, g3⟩ | ⟨q1, q2⟩
  · obtain ⟨ev, y0, yP⟩ := v1 q1
    have ezy : z = y := Int32.toInt_inj.mp ev
    rw [if_neg q1, ← ezy]
    rw [← ev] at y0 yP
    clear v1 v2
    have k3b := K3.b
    unfold tm_h1
    obtain ⟨z2, w2, σd, τd, e3, e4, ⟨o4, o5, o6⟩, v3, v4⟩ := tl_passNum S3.1 M3.1 K3 h03 0 8 (by decide)
    obtain ⟨S4, f4⟩ := S3.rd Y H o4
    have M4 := M3.rd Y.1 ha o5
    rw [e3, q_biP z2 σd, e4, q_biP w2 τd]
    rcases o6 with ⟨q3, K4, h04, g4⟩ | ⟨q3, q4⟩
    · obtain ⟨ev2, z20, z28⟩ := v3 q3
      have ez2 : z2 = w2 := Int32.toInt_inj.mp ev2
      rw [if_neg q3, ← ez2]
      have z20' : 0 ≤ z2.toInt := by rw [ev2]; exact z20
      have z28' : z2.toInt ≤ 8 := by rw [ev2]; exact z28
      clear v3 v4
      have k4b := K4.b
      unfold tm_h2
      rw [q_letE (F_X12_isOf X τd a)]
      obtain ⟨z3, σe, e5, hz3, ⟨o7, o8, o9⟩⟩ := tl_passWord S4.1 M4.1 K4 h04 (r := 12) ⟨by decide, by decide⟩ (v := F_X12_isOf X τd a) tm_isOf
      obtain ⟨S5, f5⟩ := S4.rd Y H o7
      have M5 := M4.rd Y.1 ha o8
      rw [e5, q_biP z3 σe, q_letE (F_X12_must X τd a (F_X12_isOf X τd a))]
      obtain ⟨τe, hτe⟩ : ∃ s, s = F_X12_must X τd a (F_X12_isOf X τd a) := ⟨_, rfl⟩
      rw [← hτe] at M5 o9 ⊢
      rcases o9 with ⟨q5, K5, h05, g5⟩ | ⟨q5, q6⟩
      · rw [if_neg (by omega : ¬ z3.toInt = 0)]
        have k5b := K5.b
        have pc : (σe.1 (q_rf X g 0) 0).toInt = c 3720 := by
          have zz := y_v_rdn (X := X) (g := g) (σ := σe) (id := 1) (by decide) 0
          rw [S5.2.1] at zz
          exact zz.trans b0
        have pm : (τe.1 (q_rf X a 20) (3720 : Int32).toNatClampNeg).toInt = c 3720 := by
          have zz := m_rd (X := X) (σ := τe) (a := a) (i := 3720) (A := 3720) rfl rfl
          rw [M5.2.1] at zz
          exact zz
        have epk : τe.1 (q_rf X a 20) (3720 : Int32).toNatClampNeg = σe.1 (q_rf X g 0) 0 := Int32.toInt_inj.mp (pm.trans pc.symm)
        rw [q_letE (τe.1 a 15), q_letE (τe.1 (q_rf X a 20) (3720 : Int32).toNatClampNeg), epk, q_letE (σe.1 (q_rf X g 0) 0), q_letE (σe.1 (q_rf X g 0) 0 - 1), q_letE (σe.1 (q_rf X g 0) 0 - 1)]
        have hhi : (σe.1 (q_rf X g 0) 0 - 1).toInt = c 3720 - 1 := by
          have one : (1 : Int32).toInt = 1 := rfl
          rw [ar_sub, pc, one, ar_wr (by omega) (by omega)]
        obtain ⟨hi, ehi⟩ : ∃ s, s = σe.1 (q_rf X g 0) 0 - 1 := ⟨_, rfl⟩
        rw [← ehi] at hhi ⊢
        rcases tl_mustNum S5.1 M5.1 K5 h05 0 hi with ⟨x1, x2, x3, e6, e7⟩ | ⟨σ', v, τ', e6, e7, x1, x2, x3⟩
        · rw [e6, q_biP 1 σe, e7, q_biP (τe.1 a 17) (F_X12_next X τe a), if_neg (by decide : ¬ (1 : Int32).toInt = 0)]
          have fk0 := K5.2.2.2.1 x1
          have efk : τe.1 a 17 = σe.1 D 5 := Int32.toInt_inj.mp fk0.symm
          obtain ⟨k, hk⟩ : ∃ s, s = (τe.1 a 17).toInt := ⟨_, rfl⟩
          rw [← hk] at fk0 x2 x3
          have kr : 0 ≤ k ∧ k < 10 := ⟨x2, by omega⟩
          rw [efk, q_letE (σe.1 D 5)]
          obtain ⟨f, hf⟩ : ∃ s, s = σe.1 D 5 := ⟨_, rfl⟩
          rw [← hf] at fk0 ⊢
          have pr : 0 ≤ z.toInt ∧ z.toInt < 6 := ⟨y0, by omega⟩
          have gz := tb_S.get H S5 (x := z) (p := z.toInt) rfl pr
          have tt : ∀ i : Int, 0 ≤ i → i < 10 → t (10 * z.toInt + i) = 0 ∨ t (10 * z.toInt + i) = 1 := fun i i0 i1 => (t1 (10 * z.toInt + i) (by omega) (by omega)).1
          have rb := tb_bits_b tt
          have rp := t2 z.toInt pr.1 pr.2
          have bit := tb_bit (f := f) (gz.trans rp) fk0 kr tt
          rw [q_letE (F_X5_get X σe (q_rf X D 11) z), q_letE, q_letE, bit]
          obtain ⟨c6, m6, K6, g6⟩ := tl_adv2 S5.1 M5.1 K5
          have M6 := M5.rd Y.1 ha m6.S2
          have h06 : ((F_X12_next X τe a).1 a 12).toInt = 0 := by rw [tn_12 m6]; exact h05
          obtain ⟨τf, hτf⟩ : ∃ s, s = F_X12_next X τe a := ⟨_, rfl⟩
          rw [← hτf] at M6 K6 g6 h06 m6 ⊢
          have i21 : ((10 : Int32) * z + f).toInt = 10 * z.toInt + k := by
            have e10 : (10 : Int32).toInt = 10 := rfl
            rw [ar_add, ar_mul, fk0, e10, ar_wr (n := 10 * z.toInt) (by omega) (by omega), ar_wr (by omega) (by omega)]
          have tv : (τf.1 (q_rf X a 22) ((10 : Int32) * z + f).toNatClampNeg).toInt = t (10 * z.toInt + k) := by
            rw [ar_cl, i21]
            exact M6.2.2.2.1 _ (by omega) (by omega)
          have h15 : (τe.1 a 14).toInt ≠ 4 := by omega
          have bad := tl_fail3 (X := X) (τ' := τf) K5 h15 h06 (k := 5) (by decide) (w := τe.1 a 15) rfl
          have pf : tb_P X a τ τf := tb_P.mk M M6 (fun _ _ _ => rfl) (fun _ _ _ => rfl)
          have ff := ((f2.tr f3).tr f4).tr f5
          unfold tm_h3
          rw [q_letE ((10 : Int32) * z), q_letE ((10 : Int32) * z + f), q_letE (τf.1 a 12), h06, if_pos (Eq.refl (0 : Int)), q_letE (τf.1 (q_rf X a 22) ((10 : Int32) * z + f).toNatClampNeg), tv]
          by_cases qt : t (10 * z.toInt + k) = 0
          · rw [if_pos qt, if_neg (by omega : ¬ t (10 * z.toInt + k) = 1)]
            unfold F_X9_readHand_J92_1
            rw [← H.2.1, if_pos (by decide : (0 : Int32).toInt = 0)]
            have n4 : V 4 k = m_sum c 3720 k := Rr.1.2.1 k kr.1 kr.2
            have ms := mn.2.2.2.2.2.2.2.2.1 k kr.1 kr.2
            have ms0 : 0 ≤ m_sum c 3720 k := by
              rw [m_sum_e]
              have d0 := (m_cell (p := 0) mn ⟨by decide, by decide⟩ kr).1
              have d1 := (m_cell (p := 1) mn ⟨by decide, by decide⟩ kr).1
              have d2 := (m_cell (p := 2) mn ⟨by decide, by decide⟩ kr).1
              have d3 := (m_cell (p := 3) mn ⟨by decide, by decide⟩ kr).1
              have d4 := (m_cell (p := 4) mn ⟨by decide, by decide⟩ kr).1
              have d5 := (m_cell (p := 5) mn ⟨by decide, by decide⟩ kr).1
              omega
            have gn4 : ((y_gn 4 : Nat) : Int) = 10 := rfl
            have gd : (F_X5_get X σe (q_rf X (q_rf X g 0) 5) f).toInt = m_sum c 3720 k := (y_getI Y H.2.2.1 ((y_W.rf (lb := lb) (o := 6) (σ := σe)).eq S5.2.1) (id := 4) ⟨by decide, by decide⟩ rfl fk0 kr.1 (by rw [gn4]; exact kr.2)).trans n4
            have gt := tm_toldOf (X := X) M6.2.1 mn (v := f) fk0 kr
            have sc : (F_X5_get X σe (q_rf X (q_rf X g 0) 5) f + z2).toInt = m_sum c 3720 k + z2.toInt := by rw [ar_add, gd, ar_wr (by omega) (by omega)]
            have sm : (F_X12_toldOf X τf a f + z2).toInt = m_sum c 3720 k + z2.toInt := by rw [ar_add, gt, ar_wr (by omega) (by omega)]
            have pe1 : (σe.1 (q_rf X g 0) 1).toInt = c 3721 := by
              have zz := y_v_rdn (X := X) (g := g) (σ := σe) (id := 1) (by decide) 1
              rw [S5.2.1] at zz
              exact zz.trans b1
            have pe2 : (τf.1 (q_rf X a 20) (3721 : Int32).toNatClampNeg).toInt = c 3721 := by
              have zz := m_rd (X := X) (σ := τf) (a := a) (i := 3721) (A := 3721) rfl rfl
              rw [M6.2.1] at zz
              exact zz
            rw [q_letE (F_X5_get X σe (q_rf X (q_rf X g 0) 5) f), q_letE (F_X5_get X σe (q_rf X (q_rf X g 0) 5) f + z2), q_letE (σe.1 (q_rf X g 0) 1), q_letE (F_X12_toldOf X τf a f), q_letE (F_X12_toldOf X τf a f + z2), q_letE (τf.1 (q_rf X a 20) (3721 : Int32).toNatClampNeg), sc, pe1, sm, pe2]
            by_cases qs : c 3721 < m_sum c 3720 k + z2.toInt
            · obtain ⟨σ', a1, a2, a3, a4⟩ := bad
              rw [if_pos qs, if_pos qs, a1, q_biP, q_letE (F_X12_fail X τf a 5 (τe.1 a 15)), q_letE ((F_X12_fail X τf a 5 (τe.1 a 15)).1 a 12), if_pos a4.2.1]
              exact ⟨0, σ', rfl, tb_O.bad (ff.tr (S5.rd Y H a2).2) (pf.tr (tb_P.rd Y.1 ha a3)) rfl a4 _⟩
            · clear bad
              have i37 : ((3754 : Int32) + ((10 : Int32) * z + f)).toInt = 3754 + (10 * z.toInt + k) := by
                have e3 : (3754 : Int32).toInt = 3754 := rfl
                rw [ar_add, i21, e3, ar_wr (by omega) (by omega)]
              rw [if_neg qs, if_neg qs, q_letE (τf.1 a 12), h06, if_neg (by decide : ¬ (0 : Int) < 0), q_letE (q_si τf (q_rf X a 22) ((10 : Int32) * z + f).toNatClampNeg 1), q_letE ((3754 : Int32) + ((10 : Int32) * z + f)), q_letE (q_si (q_si τf (q_rf X a 22) ((10 : Int32) * z + f).toNatClampNeg 1) (q_rf X a 20) ((3754 : Int32) + ((10 : Int32) * z + f)).toNatClampNeg z2)]
              obtain ⟨M7, sm7⟩ := M6.told Y.1 ha (i := (10 : Int32) * z + f) (v := 1) i21 ⟨by omega, by omega⟩
              have one : (1 : Int32).toInt = 1 := rfl
              rw [one] at M7
              obtain ⟨τg, hτg⟩ : ∃ s, s = q_si τf (q_rf X a 22) ((10 : Int32) * z + f).toNatClampNeg 1 := ⟨_, rfl⟩
              rw [← hτg] at M7 sm7 ⊢
              obtain ⟨M8, sm8⟩ := M7.cw Y.1 ha (i := (3754 : Int32) + ((10 : Int32) * z + f)) (v := z2) i37 (by omega)
              obtain ⟨τh, hτh⟩ : ∃ s, s = q_si τg (q_rf X a 20) ((3754 : Int32) + ((10 : Int32) * z + f)).toNatClampNeg z2 := ⟨_, rfl⟩
              rw [← hτh] at M8 sm8 ⊢
              -- the class
              have pw := tb_pw_b kr
              obtain ⟨S6, f6⟩ := S5.told Y H (x := z) (v := (1 : Int32) <<< (f &&& 31)) (p := z.toInt) rfl pr (s := r z.toInt + tb_pw k) (by rw [tb_shl fk0 kr, ar_wr (by omega) (by omega)])
              have sC6 : tl_sameC D σe (F_X5_add X σe (q_rf X D 11) z ((1 : Int32) <<< (f &&& 31))) := fun j _ _ => by
                rw [tb_addE H (p := z.toInt) rfl pr]
                exact q_si_ne (Ne.symm (tb_TD H)) j
              rw [q_letE ((1 : Int32) <<< (f &&& 31)), q_letE (F_X5_add X σe (q_rf X D 11) z ((1 : Int32) <<< (f &&& 31)))]
              obtain ⟨σg, hσg⟩ : ∃ s, s = F_X5_add X σe (q_rf X D 11) z ((1 : Int32) <<< (f &&& 31)) := ⟨_, rfl⟩
              rw [← hσg] at S6 f6 sC6 ⊢
              have n7 : V 7 (10 * z.toInt + k) = c (3754 + (10 * z.toInt + k)) := Rr.1.2.2.1 _ (by omega) (by omega)
              have c0 : c (3754 + (10 * z.toInt + k)) = 0 := (t1 _ (by omega) (by omega)).2 qt
              have n9 : V 9 z.toInt = m_S c (3754 + 10 * z.toInt) 10 := Rr.1.2.2.2.1 z.toInt pr.1 pr.2
              have ten : ((10 : Nat) : Int) = 10 := rfl
              have b9 := m_S_b (c := c) (b := 3754 + 10 * z.toInt) 10 (fun j a1 a2 => by
                rw [ten] at a2
                have := m_cell (p := z.toInt) (k := j - (3754 + 10 * z.toInt)) mn pr ⟨by omega, by omega⟩
                have ej : 3754 + 10 * z.toInt + (j - (3754 + 10 * z.toInt)) = j := by omega
                rw [ej] at this
                exact this)
              rw [ten, ← n9] at b9
              have W := tb_deal Y H.2.2.1 ((y_W.rf (lb := lb) (o := 6) (σ := σg)).eq S6.2.1) (z := z) (f := f) (v := z2) (p := z.toInt) (k := k) rfl fk0 pr kr ⟨z20', z28'⟩ ⟨by omega, by omega⟩ ⟨by omega, by omega⟩ ⟨by omega, by omega⟩
              obtain ⟨S7, f7⟩ := S6.gm Y H W
              rw [q_letE (F_X5_add X σg (q_rf X (q_rf X g 0) 5) f z2), q_letE (F_X1_deal X (F_X5_add X σg (q_rf X (q_rf X g 0) 5) f z2) (q_rf X g 1) z f z2)]
              have sC7 := tl_sameC.W W hDn
              obtain ⟨σh, hσh⟩ : ∃ s, s = F_X1_deal X (F_X5_add X σg (q_rf X (q_rf X g 0) 5) f z2) (q_rf X g 1) z f z2 := ⟨_, rfl⟩
              rw [← hσh] at S7 f7 sC7 ⊢
              have K7 : tl_K σh D τe a B n := (K5.same sC6 tl_same.rf).same sC7 tl_same.rf
              obtain ⟨c9, m9, K9, g9⟩ := tl_adv2 S7.1 M5.1 K7
              rw [← hτf] at K9 m9 g9
              obtain ⟨S9, f9'⟩ := S7.rd Y H c9.S2
              rw [q_letE (F_X3_advance X σh D)]
              obtain ⟨σi, hσi⟩ : ∃ s, s = F_X3_advance X σh D := ⟨_, rfl⟩
              rw [← hσi] at S9 f9' K9 ⊢
              have K10 : tl_K σi D τh a B n := (K9.same tl_sameC.rf sm7).same tl_sameC.rf sm8
              have h010 : (τh.1 a 12).toInt = 0 := by rw [sm8.1 12 (by decide) (by decide), sm7.1 12 (by decide) (by decide)]; exact h06
              have R10 := Rr.hand (p := z.toInt) (k := k) (v := z2.toInt) (s := r z.toInt + tb_pw k) ⟨pr.1, yP⟩ ⟨kr.1, by omega⟩ z20' qt (by omega) rfl
              have pP : tb_P X a τ τh := tb_P.mk M M8 (fun j a1 a2 => m_up_ne (by omega)) (fun _ _ _ => rfl)
              have e15 : τh.1 a 15 = τf.1 a 15 := (sm8.1 15 (by decide) (by decide)).trans (sm7.1 15 (by decide) (by decide))
              have k10b := K10.b
              have k6b := K6.b
              obtain ⟨z', σ2, e9, o⟩ := tb_semi Y H ha (σ := σ) (τ := τ) ⟨S9, M8, K10, h010, R10⟩ (((ff.tr f6).tr f7).tr f9') pP (by rw [e15]; omega) (by rw [e15] at k10b; omega)
              rw [e9, q_biP z' σ2]
              exact ⟨z', σ2, rfl, o⟩
          · have qt1 : t (10 * z.toInt + k) = 1 := (tt k kr.1 kr.2).resolve_left qt
            obtain ⟨σ', a1, a2, a3, a4⟩ := bad
            rw [if_neg qt, if_pos qt1]
            unfold F_X9_readHand_J92_1
            rw [if_neg (by decide : ¬ (1 : Int32).toInt = 0), a1, q_biP, q_letE (F_X12_fail X τf a 5 (τe.1 a 15)), q_letE ((F_X12_fail X τf a 5 (τe.1 a 15)).1 a 12), if_pos a4.2.1]
            exact ⟨0, σ', rfl, tb_O.bad (ff.tr (S5.rd Y H a2).2) (pf.tr (tb_P.rd Y.1 ha a3)) rfl a4 _⟩
        · rw [e6, q_biP 0 σ', e7, q_biP 0 τ', if_pos (by decide : (0 : Int32).toInt = 0), tm_h3a x3.2.1]
          exact ⟨0, σ', rfl, tb_O.bad ((((f2.tr f3).tr f4).tr f5).tr (S5.rd Y H x1).2) ((tb_P.mk M M5 (fun _ _ _ => rfl) (fun _ _ _ => rfl)).tr (tb_P.rd Y.1 ha x2)) rfl x3 _⟩
      · have hz30 : z3.toInt = 0 := by
          rcases hz3 with h | h
          · exact h
          · exact absurd h q5
        rw [if_pos hz30, q_letE, q_letE, q_letE, tm_count2 q6.2.1, q_biP, tm_h3a q6.2.1]
        exact ⟨0, σe, rfl, tb_O.bad (((f2.tr f3).tr f4).tr f5) (tb_P.mk M M5 (fun _ _ _ => rfl) (fun _ _ _ => rfl)) rfl q6 _⟩
    · have qz : z2.toInt = -1 := Classical.not_not.mp q3
      rw [if_pos qz, tm_h2a q4.2.1]
      exact ⟨0, σd, rfl, tb_O.bad ((f2.tr f3).tr f4) (tb_P.mk M M4 (fun _ _ _ => rfl) (fun _ _ _ => rfl)) rfl q4 _⟩
  · have qz : z.toInt = -1 := Classical.not_not.mp q1
    rw [if_pos qz, tm_h1a q2.2.1]
    exact ⟨0, σc, rfl, tb_O.bad (f2.tr f3) (tb_P.mk M M3 (fun _ _ _ => rfl) (fun _ _ _ => rfl)) rfl q2 _⟩
end TI
end
/-! FROM 48q.rdpart.lean.txt -/
section
/-! A PART READ, ALL PARTS, THE HEAD -/
noncomputable def tm_part (X : XW) (τ : ST) (a : Nat) : ST :=
  if (F_X12_isLaw X τ a).toInt = 0 then if (F_X12_isMost X τ a).toInt = 0 then if (F_X12_isPlayer X τ a).toInt = 0 then if (F_X12_isHand X τ a).toInt = 0 then F_X12_wrong X τ a else F_X12_readHand X τ a else F_X12_readPlayer X τ a else F_X12_readMost X τ a else F_X12_readLaw X τ a
theorem tm_E232 (X : XW) (τ : ST) (a : Nat) : F_X12_table_E232_7 X τ a = F_X12_table_E232_6 X τ a := rfl
section TJ
variable {X : XW} {lb : Nat → Nat} {D T g a : Nat} {σ τ σ' τ' σ1 τ1 : ST} {n : Int} {B : Int → Int} {V : Nat → Int → Int} {r c w t : Int → Int} {f9 f10 : Int}
theorem tm_B145 (Bf : ST → Int32 × ST) : F_X12_table_B145_5 X a Bf τ = if (τ.1 a 12).toInt = 0 then (if (τ.1 a 14).toInt = 0 then F_X12_table_E232_6 X τ a else Bf (F_X12_must X (tm_part X τ a) a (F_X12_isSign X (tm_part X τ a) a 59))) else F_X12_table_E232_6 X τ a := by
  unfold F_X12_table_B145_5
  rw [q_letE]
  by_cases h : (τ.1 a 12).toInt = 0
  · rw [if_pos h, if_pos h, q_letE]
    by_cases h2 : (τ.1 a 14).toInt = 0
    · rw [if_pos h2, if_pos h2, tm_E232]
    · rw [if_neg h2, if_neg h2, q_letE]
      unfold tm_part
      by_cases h3 : (F_X12_isLaw X τ a).toInt = 0
      · rw [if_pos h3, if_pos h3, q_letE]
        by_cases h4 : (F_X12_isMost X τ a).toInt = 0
        · rw [if_pos h4, if_pos h4, q_letE]
          by_cases h5 : (F_X12_isPlayer X τ a).toInt = 0
          · rw [if_pos h5, if_pos h5, q_letE]
            by_cases h6 : (F_X12_isHand X τ a).toInt = 0
            · rw [if_pos h6, if_pos h6, q_letE, q_letE, q_letE]
            · rw [if_neg h6, if_neg h6, q_letE, q_letE, q_letE]
          · rw [if_neg h5, if_neg h5, q_letE, q_letE, q_letE]
        · rw [if_neg h4, if_neg h4, q_letE, q_letE, q_letE]
      · rw [if_neg h3, if_neg h3, q_letE, q_letE, q_letE]
  · rw [if_neg h, if_neg h]
theorem tb_readPart (Y : y_S X lb) (H : tb_D X lb D T g) (ha : q_kd X a = 12) (I : tb_I X D T g a n B σ τ V r c w t f9 f10) :
    ∃ (z : Int32) (σ' : ST), F_X9_readPart X σ D = (z, σ') ∧ tb_O X lb D T g a n B σ τ σ' (F_X12_must X (tm_part X τ a) a (F_X12_isSign X (tm_part X τ a) a 59)) z := by
  obtain ⟨S, M, K, h0, Rr⟩ := id I
  have iw : ∀ rr : Nat, y_isw rr → (F_X3_isWord X σ D rr).toInt = if (τ.1 a 14).toInt = 1 ∧ (τ.2.1 a 19).toInt = y_cw rr then 1 else 0 := fun rr hr => tl_isWord S.1 K hr
  have cL : (F_X12_isLaw X τ a).toInt = if (τ.1 a 14).toInt = 1 ∧ (τ.2.1 a 19).toInt = y_cw 2 then 1 else 0 := tm_isLaw
  have cM : (F_X12_isMost X τ a).toInt = if (τ.1 a 14).toInt = 1 ∧ (τ.2.1 a 19).toInt = y_cw 6 then 1 else 0 := tm_isMost
  have cP : (F_X12_isPlayer X τ a).toInt = if (τ.1 a 14).toInt = 1 ∧ (τ.2.1 a 19).toInt = y_cw 7 then 1 else 0 := tm_isPlayer
  have cH : (F_X12_isHand X τ a).toInt = if (τ.1 a 14).toInt = 1 ∧ (τ.2.1 a 19).toInt = y_cw 11 then 1 else 0 := tm_isHand
  have z0 : (0 : Int) = 0 := rfl
  have z1 : ¬ (1 : Int) = 0 := by decide
  unfold F_X9_readPart tm_part
  rw [q_letE, iw 2 ⟨by decide, by decide⟩, cL]
  by_cases w2 : (τ.1 a 14).toInt = 1 ∧ (τ.2.1 a 19).toInt = y_cw 2
  · rw [if_pos w2, if_neg z1, if_neg z1]
    obtain ⟨z, σ', e, o⟩ := tb_readLaw Y H ha I w2.1
    rw [e, q_biP]
    exact ⟨z, σ', rfl, o⟩
  · rw [if_neg w2, if_pos z0, if_pos z0, q_letE, iw 6 ⟨by decide, by decide⟩, cM]
    by_cases w6 : (τ.1 a 14).toInt = 1 ∧ (τ.2.1 a 19).toInt = y_cw 6
    · rw [if_pos w6, if_neg z1, if_neg z1]
      obtain ⟨z, σ', e, o⟩ := tb_readMost Y H ha I w6.1
      rw [e, q_biP]
      exact ⟨z, σ', rfl, o⟩
    · rw [if_neg w6, if_pos z0, if_pos z0, q_letE, iw 7 ⟨by decide, by decide⟩, cP]
      by_cases w7 : (τ.1 a 14).toInt = 1 ∧ (τ.2.1 a 19).toInt = y_cw 7
      · rw [if_pos w7, if_neg z1, if_neg z1]
        obtain ⟨z, σ', e, o⟩ := tb_readPlayer Y H ha I w7.1
        rw [e, q_biP]
        exact ⟨z, σ', rfl, o⟩
      · rw [if_neg w7, if_pos z0, if_pos z0, q_letE, iw 11 ⟨by decide, by decide⟩, cH]
        by_cases w11 : (τ.1 a 14).toInt = 1 ∧ (τ.2.1 a 19).toInt = y_cw 11
        · rw [if_pos w11, if_neg z1, if_neg z1]
          obtain ⟨z, σ', e, o⟩ := tb_readHand Y H ha I w11.1
          rw [e, q_biP]
          exact ⟨z, σ', rfl, o⟩
        · rw [if_neg w11, if_pos z0, if_pos z0]
          obtain ⟨σ', a1, a2, a3, a4⟩ := tl_wrong (X := X) K h0
          rw [a1, q_biP]
          exact ⟨0, σ', rfl, tb_O.bad (S.rd Y H a2).2 (tb_P.rd Y.1 ha a3) rfl a4 _⟩
/-- what comes of all parts -/
def tb_U (X : XW) (lb : Nat → Nat) (D T g a : Nat) (n : Int) (B : Int → Int) (σ τ σ' τ' : ST) (z : Int32) : Prop :=
  tb_F X lb D σ σ' ∧ tb_P X a τ τ' ∧ ((z.toInt = 1 ∧ ∃ (V : Nat → Int → Int) (r c w t : Int → Int) (f9 f10 : Int), tb_I X D T g a n B σ' τ' V r c w t f9 f10) ∨ (z.toInt = 0 ∧ tl_F σ' D τ' a))
theorem tb_takesL (Y : y_S X lb) (H : tb_D X lb D T g) (ha : q_kd X a = 12) (k : Nat) : ∀ (m : Nat) (x : Int32) (σ τ : ST) (V : Nat → Int → Int) (r c w t : Int → Int) (f9 f10 : Int), (2147483647 - x.toInt).toNat < k → (902 - (τ.1 a 15).toInt).toNat ≤ m → 0 ≤ x.toInt → x.toInt ≤ (τ.1 a 15).toInt → tb_I X D T g a n B σ τ V r c w t f9 f10 →
    ∃ (z : Int32) (σ' τ' : ST), F_X9_takes_L41_1 X D k x σ = (z, σ') ∧ F_X12_table_L145_5 X a m τ = F_X12_table_E232_6 X τ' a ∧ tb_U X lb D T g a n B σ τ σ' τ' z := by
  induction k with
  | zero => intro m x σ τ V r c w t f9 f10 hm; exact absurd hm (Nat.not_lt_zero _)
  | succ k ih =>
    intro m x σ τ V r c w t f9 f10 hk hm x0 xb I
    obtain ⟨S, M, K, h0, Rr⟩ := id I
    have n9 : n ≤ 900 := S.1.2.2.1.2
    have kb := K.b
    have k8 := K.2.2.2.2.2.2.2
    obtain ⟨m', hm'⟩ : ∃ m', m = m' + 1 + 1 := ⟨m - 2, by omega⟩
    subst hm'
    rw [F_X9_takes_L41_1_s, F_X12_table_L145_5_s, tm_B145, h0, if_pos (Eq.refl (0 : Int))]
    unfold F_X9_takes_B41_1
    by_cases hx : x.toInt < 900
    · rw [if_pos hx, q_letE, K.2.2.1]
      by_cases hty : (τ.1 a 14).toInt = 0
      · rw [if_pos hty, if_pos hty]
        exact ⟨1, σ, τ, rfl, rfl, tb_F.rf, tb_P.rf, Or.inl ⟨rfl, V, r, c, w, t, f9, f10, I⟩⟩
      · rw [if_neg hty, if_neg hty]
        obtain ⟨z, σ1, e, o1, o2, o3⟩ := tb_readPart Y H ha I
        rw [e, q_biP]
        obtain ⟨τ1, hτ1⟩ : ∃ s, s = F_X12_must X (tm_part X τ a) a (F_X12_isSign X (tm_part X τ a) a 59) := ⟨_, rfl⟩
        rw [← hτ1] at o2 o3 ⊢
        rcases o3 with ⟨q1, V', r', c', w', t', f9', f10', I', lt⟩ | ⟨q1, q2⟩
        · rw [if_neg (by omega : ¬ z.toInt = 0), q_letE]
          have e1 : (x + 1).toInt = x.toInt + 1 := y_inc (by omega)
          obtain ⟨z', σ2, τ2, a1, a2, a3, a4, a5⟩ := ih (m' + 1) (x + 1) σ1 τ1 V' r' c' w' t' f9' f10' (by omega) (by omega) (by omega) (by omega) I'
          exact ⟨z', σ2, τ2, a1, a2, o1.tr a3, o2.tr a4, a5⟩
        · have q3 := q2.2.1
          rw [if_pos q1, F_X12_table_L145_5_s, tm_B145, if_neg (by omega : ¬ (τ1.1 a 12).toInt = 0)]
          exact ⟨0, σ1, τ1, rfl, rfl, o1, o2, Or.inr ⟨rfl, q2⟩⟩
    · have hty : (τ.1 a 14).toInt = 0 := by omega
      rw [if_neg hx, if_pos hty]
      exact ⟨1, σ, τ, rfl, rfl, tb_F.rf, tb_P.rf, Or.inl ⟨rfl, V, r, c, w, t, f9, f10, I⟩⟩
/-- before the head -/
def tb_R0 (V : Nat → Int → Int) (r c t : Int → Int) : Prop :=
  (V 1 2 = 0 ∧ V 1 3 = 4 ∧ V 1 4 = 0) ∧ (∀ k : Int, 0 ≤ k → k < 10 → V 4 k = 0) ∧ (∀ j : Int, 0 ≤ j → j < 60 → V 7 j = 0) ∧ (∀ p : Int, 0 ≤ p → p < 6 → V 9 p = 0 ∧ V 10 p = 0 ∧ V 11 p = 0) ∧ tb_Z V ∧
  (∀ p : Int, 0 ≤ p → p < 6 → r p = 0) ∧ (∀ j : Int, 3720 ≤ j → j < 4650 → c j = if j = 3724 then 4 else 0) ∧ ∀ j : Int, 0 ≤ j → j < 60 → t j = 0
theorem m_S_0 {b : Int} : ∀ N : Nat, (∀ j : Int, b ≤ j → j < b + (N : Int) → c j = 0) → m_S c b N = 0 := by
  intro N
  induction N with
  | zero => intro _; rfl
  | succ N ih =>
    intro h
    show m_S c b N + c (b + (N : Int)) = 0
    rw [ih (fun j a1 a2 => h j a1 (by omega)), h (b + (N : Int)) (by omega) (by omega)]
    rfl
theorem tb_R0.head {kk ee : Int} (h : tb_R0 V r c t) (hk : 2 ≤ kk ∧ kk ≤ 10) (he : 1 ≤ ee ∧ ee ≤ 8) : tb_R (y_up (y_up V 1 0 kk) 1 1 ee) r (m_up (m_up c 3720 kk) 3721 ee) w t := by
  obtain ⟨⟨h2, h3, h4⟩, hk4, h7, h9, hz, hr, hc, ht⟩ := h
  have rc : ∀ j : Int, 3722 ≤ j → j < 4650 → m_up (m_up c 3720 kk) 3721 ee j = if j = 3724 then 4 else 0 := fun j a1 a2 => by rw [m_up_ne (by omega), m_up_ne (by omega)]; exact hc j (by omega) a2
  have rz : ∀ j : Int, 3725 ≤ j → j < 4650 → m_up (m_up c 3720 kk) 3721 ee j = 0 := fun j a1 a2 => by rw [rc j (by omega) a2, if_neg (by omega)]
  have c20 : m_up (m_up c 3720 kk) 3721 ee 3720 = kk := by rw [m_up_ne (by decide), m_up_eq]
  have c21 : m_up (m_up c 3720 kk) 3721 ee 3721 = ee := m_up_eq _ _ _
  have c22 : m_up (m_up c 3720 kk) 3721 ee 3722 = 0 := by rw [rc _ (by decide) (by decide)]; rfl
  have c23 : m_up (m_up c 3720 kk) 3721 ee 3723 = 0 := by rw [rc _ (by decide) (by decide)]; rfl
  have c24 : m_up (m_up c 3720 kk) 3721 ee 3724 = 4 := by rw [rc _ (by decide) (by decide)]; rfl
  have sm : ∀ k : Int, 0 ≤ k → k < 10 → m_sum (m_up (m_up c 3720 kk) 3721 ee) 3720 k = 0 := fun k a1 a2 => by
    rw [m_sum_e, rz _ (by omega) (by omega), rz _ (by omega) (by omega), rz _ (by omega) (by omega), rz _ (by omega) (by omega), rz _ (by omega) (by omega), rz _ (by omega) (by omega)]
    rfl
  have rd : ∀ (id : Nat) (i : Int), id ≠ 1 ∨ 2 ≤ i → y_up (y_up V 1 0 kk) 1 1 ee id i = V id i := fun id i h => by
    rw [y_up_ne (by omega), y_up_ne (by omega)]
  have v0 : y_up (y_up V 1 0 kk) 1 1 ee 1 0 = kk := by rw [y_up_ne (Or.inr (by decide)), y_up_eq]
  have v1 : y_up (y_up V 1 0 kk) 1 1 ee 1 1 = ee := y_up_eq _ _ _ _
  have ten : ((10 : Nat) : Int) = 10 := rfl
  refine ⟨⟨⟨?_, ?_, ?_, ?_, ?_⟩, ?_, ?_, ?_, ?_⟩, ?_, ?_, ⟨?_, ?_, ?_⟩, ⟨?_, ?_, ?_, ?_, ?_, ?_, ?_, ?_, ?_, ?_, ?_⟩, ?_, ?_, ?_⟩
  · rw [v0, c20]
  · rw [v1, c21]
  · rw [rd 1 2 (Or.inr (by decide)), c23, h2]
  · rw [rd 1 3 (Or.inr (by decide)), c24, h3]
  · rw [rd 1 4 (Or.inr (by decide)), c22, h4]
  · intro k a1 a2
    rw [rd 4 k (Or.inl (by decide)), sm k a1 a2, hk4 k a1 a2]
  · intro j a1 a2
    rw [rd 7 j (Or.inl (by decide)), rz _ (by omega) (by omega), h7 j a1 a2]
  · intro p a1 a2
    rw [rd 9 p (Or.inl (by decide)), (h9 p a1 a2).1, m_S_0 10 (fun j b1 b2 => rz j (by omega) (by rw [ten] at b2; omega))]
  · intro p a1 a2
    rw [rd 10 p (Or.inl (by decide)), rd 11 p (Or.inl (by decide)), rz _ (by omega) (by omega), rz _ (by omega) (by omega)]
    exact (h9 p a1 a2).2
  · exact (hz.up (by omega)).up (by omega)
  · rw [c22]
    intro p p0 p1
    omega
  · intro j a1 a2
    exact ⟨Or.inl (ht j a1 a2), fun _ => rz _ (by omega) (by omega)⟩
  · intro p a1 a2
    rw [hr p a1 a2]
    unfold tb_bits
    rw [ht _ (by omega) (by omega), ht _ (by omega) (by omega), ht _ (by omega) (by omega), ht _ (by omega) (by omega), ht _ (by omega) (by omega), ht _ (by omega) (by omega), ht _ (by omega) (by omega), ht _ (by omega) (by omega), ht _ (by omega) (by omega), ht _ (by omega) (by omega)]
    rfl
  · intro j a1 a2 _
    exact ht j a1 a2
  · rw [c20]; omega
  · rw [c21]; omega
  · rw [c22]; decide
  · rw [c23]; decide
  · rw [c24]; decide
  · intro j a1 a2; exact rz j a1 (by omega)
  · intro j a1 a2; exact rz j (by omega) (by omega)
  · intro j a1 a2; rw [rz j (by omega) (by omega)]; decide
  · intro k a1 a2; rw [sm k a1 a2]; decide
  · intro j a1 a2; exact rz j (by omega) a2
  · intro p k a0 a1 a2 a3 _; exact rz _ (by omega) (by omega)
  · rw [c20]; omega
  · rw [c21]; omega
  · rw [c24]; decide
/-! the reference's head, stretch by stretch -/
noncomputable def tm_hd3 (X : XW) (a : Nat) (Kc : ST → Int32 × ST) (r_33 : Int32) (σ_34 : ST) : Int32 × ST :=
  q_let (q_si σ_34 (q_rf X a 20) (3721 : Int32).toNatClampNeg r_33 : ST) (fun σ_35 => q_let (F_X12_isSign X σ_35 a (59 : Int32) : Int32) (fun r_37 => q_let (F_X12_must X σ_35 a r_37 : ST) (fun σ_40 => Kc σ_40)))
noncomputable def tm_hd2 (X : XW) (a : Nat) (Kc : ST → Int32 × ST) (r_24 : Int32) (σ_25 : ST) : Int32 × ST :=
  q_let (q_si σ_25 (q_rf X a 20) (3720 : Int32).toNatClampNeg r_24 : ST) (fun σ_26 => q_let (F_X12_isEach X σ_26 a : Int32) (fun r_27 => q_let (F_X12_must X σ_26 a r_27 : ST) (fun σ_30 => q_bi (F_X12_count X σ_30 a (1 : Int32) (8 : Int32)) (fun r_33 σ_34 => tm_hd3 X a Kc r_33 σ_34))))
noncomputable def tm_hd1 (X : XW) (a : Nat) (Kc : ST → Int32 × ST) (σ_17 : ST) : Int32 × ST :=
  q_let (F_X12_isKinds X σ_17 a : Int32) (fun r_18 => q_let (F_X12_must X σ_17 a r_18 : ST) (fun σ_21 => q_bi (F_X12_count X σ_21 a (2 : Int32) (10 : Int32)) (fun r_24 σ_25 => tm_hd2 X a Kc r_24 σ_25)))
noncomputable def tm_Kc (X : XW) (a : Nat) (s : ST) : Int32 × ST := F_X12_table_L145_5 X a ((901 - (s.1 a 15).toInt).toNat + (1 - (s.1 a 12).toInt).toNat + 1) s
theorem tm_E70 (X : XW) (τ : ST) (a : Nat) : F_X12_table_E70_7 X τ a = q_let (q_si τ a 25 (0 : Int32) : ST) (fun σ_15 => q_let (q_si σ_15 a 26 (0 : Int32) : ST) (fun σ_16 => q_let (q_si σ_16 (q_rf X a 20) (3724 : Int32).toNatClampNeg (4 : Int32) : ST) (fun σ_17 => tm_hd1 X a (tm_Kc X a) σ_17))) := rfl
theorem tl_F.same {R : Nat} (h : tl_F σ R τ a) (k : tl_same a τ τ') : tl_F σ R τ' a := by
  unfold tl_F at h ⊢
  rw [k.1 12 (by decide) (by decide), k.1 13 (by decide) (by decide)]
  exact h
theorem tl_same.tr {τ2 : ST} (h : tl_same a τ τ') (k : tl_same a τ' τ2) : tl_same a τ τ2 := ⟨fun f f1 f2 => (k.1 f f1 f2).trans (h.1 f f1 f2), k.2.trans h.2⟩
theorem tm_hd3a (Y : y_S X lb) (ha : q_kd X a = 12) (M : tb_M X a τ n B c w t f9 f10) (h : 0 < (τ.1 a 12).toInt) (Kc : ST → Int32 × ST) (v : Int32) : ∃ (τ' : ST) (c' : Int → Int), tm_hd3 X a Kc v τ = Kc τ' ∧ tb_M X a τ' n B c' w t f9 f10 ∧ (∀ j : Int, 0 ≤ j → j < 3720 → c' j = c j) ∧ tl_same a τ τ' := by
  obtain ⟨M1, s1⟩ := M.cw Y.1 ha (i := 3721) (v := v) (A := 3721) rfl (by decide)
  have h1 : 0 < ((q_si τ (q_rf X a 20) (3721 : Int32).toNatClampNeg v).1 a 12).toInt := by rw [s1.1 12 (by decide) (by decide)]; exact h
  refine ⟨_, _, ?_, M1, fun j a1 a2 => m_up_ne (by omega), s1⟩
  unfold tm_hd3
  rw [q_letE, q_letE, tm_must2 h1, q_letE]
theorem tm_hd2a (Y : y_S X lb) (ha : q_kd X a = 12) (M : tb_M X a τ n B c w t f9 f10) (h : 0 < (τ.1 a 12).toInt) (Kc : ST → Int32 × ST) (v : Int32) : ∃ (τ' : ST) (c' : Int → Int), tm_hd2 X a Kc v τ = Kc τ' ∧ tb_M X a τ' n B c' w t f9 f10 ∧ (∀ j : Int, 0 ≤ j → j < 3720 → c' j = c j) ∧ tl_same a τ τ' := by
  obtain ⟨M1, s1⟩ := M.cw Y.1 ha (i := 3720) (v := v) (A := 3720) rfl (by decide)
  have h1 : 0 < ((q_si τ (q_rf X a 20) (3720 : Int32).toNatClampNeg v).1 a 12).toInt := by rw [s1.1 12 (by decide) (by decide)]; exact h
  obtain ⟨τ', c', e, M2, hc, s2⟩ := tm_hd3a Y ha M1 h1 Kc 0
  refine ⟨τ', c', ?_, M2, fun j a1 a2 => (hc j a1 a2).trans (m_up_ne (by omega)), s1.tr s2⟩
  unfold tm_hd2
  rw [q_letE, q_letE, tm_must2 h1, q_letE, tm_count2 h1, q_biP]
  exact e
theorem tb_head (Y : y_S X lb) (H : tb_D X lb D T g) (ha : q_kd X a = 12) (S : tb_S X D T g σ n B V r f9 f10) (M : tb_M X a τ n B c w t f9 f10) (K : tl_K σ D τ a B n) (h0 : (τ.1 a 12).toInt = 0) (R0 : tb_R0 V r c t) (Kc : ST → Int32 × ST) :
    ∃ (z : Int32) (σ' τ' : ST), F_X9_readHead X σ D = (z, σ') ∧ tm_hd1 X a Kc τ = Kc τ' ∧ tb_U X lb D T g a n B σ τ σ' τ' z := by
  have hDn : lb D / 8192 ≠ 6 := by have := H.2.2.2.1; omega
  unfold F_X9_readHead tm_hd1
  rw [q_letE (F_X12_isKinds X τ a), ← H.2.1]
  obtain ⟨z1, σ1, e1, hz1, ⟨o1, o2, o3⟩⟩ := tl_passWord S.1 M.1 K h0 (r := 0) ⟨by decide, by decide⟩ (v := F_X12_isKinds X τ a) tm_isKinds
  obtain ⟨S1, f1⟩ := S.rd Y H o1
  have M1 := M.rd Y.1 ha o2
  rw [e1, q_biP, q_letE (F_X12_must X τ a (F_X12_isKinds X τ a))]
  obtain ⟨τ1, hτ1⟩ : ∃ s, s = F_X12_must X τ a (F_X12_isKinds X τ a) := ⟨_, rfl⟩
  rw [← hτ1] at M1 o3 ⊢
  rcases o3 with ⟨q1, K1, h01, g1⟩ | ⟨q1, q2⟩
  · rw [if_neg (by omega : ¬ z1.toInt = 0)]
    obtain ⟨z2, w2, σ2, τ2, e3, e4, ⟨o4, o5, o6⟩, v3, v4⟩ := tl_passNum S1.1 M1.1 K1 h01 2 10 (by decide)
    obtain ⟨S2, f2⟩ := S1.rd Y H o4
    have M2 := M1.rd Y.1 ha o5
    rw [e3, q_biP z2 σ2, e4, q_biP w2 τ2]
    rcases o6 with ⟨q3, K2, h02, g2⟩ | ⟨q3, q4⟩
    · obtain ⟨ev2, z22, z210⟩ := v3 q3
      rw [if_neg q3]
      unfold tm_hd2
      obtain ⟨M3, s3⟩ := M2.cw Y.1 ha (i := 3720) (v := w2) (A := 3720) rfl (by decide)
      rw [q_letE (q_si τ2 (q_rf X a 20) (3720 : Int32).toNatClampNeg w2)]
      obtain ⟨τ3, hτ3⟩ : ∃ s, s = q_si τ2 (q_rf X a 20) (3720 : Int32).toNatClampNeg w2 := ⟨_, rfl⟩
      rw [← hτ3] at M3 s3 ⊢
      have K3 := K2.same (tl_sameC.rf (σ := σ2)) s3
      have h03 : (τ3.1 a 12).toInt = 0 := by rw [s3.1 12 (by decide) (by decide)]; exact h02
      rw [q_letE (F_X12_isEach X τ3 a)]
      obtain ⟨z4, σ4, e5, hz4, ⟨o7, o8, o9⟩⟩ := tl_passWord S2.1 M3.1 K3 h03 (r := 1) ⟨by decide, by decide⟩ (v := F_X12_isEach X τ3 a) tm_isEach
      obtain ⟨S4, f4⟩ := S2.rd Y H o7
      have M4 := M3.rd Y.1 ha o8
      rw [e5, q_biP z4 σ4, q_letE (F_X12_must X τ3 a (F_X12_isEach X τ3 a))]
      obtain ⟨τ4, hτ4⟩ : ∃ s, s = F_X12_must X τ3 a (F_X12_isEach X τ3 a) := ⟨_, rfl⟩
      rw [← hτ4] at M4 o9 ⊢
      rcases o9 with ⟨q5, K4, h04, g4⟩ | ⟨q5, q6⟩
      · rw [if_neg (by omega : ¬ z4.toInt = 0)]
        obtain ⟨z5, w5, σ5, τ5, e7, e8, ⟨o10, o11, o12⟩, v5, v6⟩ := tl_passNum S4.1 M4.1 K4 h04 1 8 (by decide)
        obtain ⟨S5, f5⟩ := S4.rd Y H o10
        have M5 := M4.rd Y.1 ha o11
        rw [e7, q_biP z5 σ5, e8, q_biP w5 τ5]
        rcases o12 with ⟨q7, K5, h05, g5⟩ | ⟨q7, q8⟩
        · obtain ⟨ev5, z51, z58⟩ := v5 q7
          rw [if_neg q7]
          unfold tm_hd3
          obtain ⟨M6, s6⟩ := M5.cw Y.1 ha (i := 3721) (v := w5) (A := 3721) rfl (by decide)
          rw [q_letE (q_si τ5 (q_rf X a 20) (3721 : Int32).toNatClampNeg w5)]
          obtain ⟨τ6, hτ6⟩ : ∃ s, s = q_si τ5 (q_rf X a 20) (3721 : Int32).toNatClampNeg w5 := ⟨_, rfl⟩
          rw [← hτ6] at M6 s6 ⊢
          have K6 := K5.same (tl_sameC.rf (σ := σ5)) s6
          have h06 : (τ6.1 a 12).toInt = 0 := by rw [s6.1 12 (by decide) (by decide)]; exact h05
          have W := (((y_W.rf (lb := lb) (g := g) (o := 6) (σ := σ5)).eq S5.2.1).si Y H.2.2.1 (id := 1) (by decide) 0 z2).si Y H.2.2.1 (id := 1) (by decide) 1 z5
          obtain ⟨S7, f7⟩ := S5.gm Y H W
          have K7 := K6.same (tl_sameC.W W hDn) (tl_same.rf (τ := τ6))
          have R7 : tb_R (y_up (y_up V 1 ((0 : Nat) : Int) z2.toInt) 1 ((1 : Nat) : Int) z5.toInt) r (m_up (m_up c 3720 w2.toInt) 3721 w5.toInt) w t := by
            rw [ev2, ev5]
            exact R0.head ⟨z22, z210⟩ ⟨z51, z58⟩
          have eg : y_gA X g 1 = q_rf X g 0 := rfl
          rw [eg] at S7 f7 K7
          rw [q_letE (q_si σ5 (q_rf X g 0) 0 z2), q_letE (q_si (q_si σ5 (q_rf X g 0) 0 z2) (q_rf X g 0) 1 z5), q_letE (F_X12_isSign X τ6 a 59)]
          obtain ⟨z8, σ8, e9, hz8, ⟨p1, p2, p3⟩⟩ := tl_passSemi S7.1 M6.1 K7 h06
          obtain ⟨S8, f8⟩ := S7.rd Y H p1
          have M8 := M6.rd Y.1 ha p2
          rw [e9, q_biP z8 σ8, q_letE]
          have pP : tb_P X a τ (F_X12_must X τ6 a (F_X12_isSign X τ6 a 59)) := tb_P.mk M M8 (fun j a1 a2 => by rw [m_up_ne (by omega), m_up_ne (by omega)]) (fun _ _ _ => rfl)
          refine ⟨z8, σ8, _, rfl, rfl, ((((f1.tr f2).tr f4).tr f5).tr f7).tr f8, pP, ?_⟩
          rcases p3 with ⟨y1, y2, y3, y4⟩ | ⟨y1, y2⟩
          · exact Or.inl ⟨y1, _, _, _, _, _, _, _, S8, M8, y2, y3, R7⟩
          · refine Or.inr ⟨?_, y2⟩
            rcases hz8 with h | h
            · exact h
            · exact absurd h y1
        · have qz : z5.toInt = -1 := Classical.not_not.mp q7
          obtain ⟨τ', c', e, M', hc', s'⟩ := tm_hd3a Y ha M5 q8.2.1 Kc w5
          rw [if_pos qz, e]
          exact ⟨0, σ5, τ', rfl, rfl, ((f1.tr f2).tr f4).tr f5, tb_P.mk M M' (fun j a1 a2 => (hc' j a1 a2).trans (m_up_ne (by omega))) (fun _ _ _ => rfl), Or.inr ⟨rfl, q8.same s'⟩⟩
      · have hz0 : z4.toInt = 0 := by
          rcases hz4 with h | h
          · exact h
          · exact absurd h q5
        obtain ⟨τ', c', e, M', hc', s'⟩ := tm_hd3a Y ha M4 q6.2.1 Kc 0
        rw [if_pos hz0, tm_count2 q6.2.1, q_biP, e]
        exact ⟨0, σ4, τ', rfl, rfl, (f1.tr f2).tr f4, tb_P.mk M M' (fun j a1 a2 => (hc' j a1 a2).trans (m_up_ne (by omega))) (fun _ _ _ => rfl), Or.inr ⟨rfl, q6.same s'⟩⟩
    · have qz : z2.toInt = -1 := Classical.not_not.mp q3
      obtain ⟨τ', c', e, M', hc', s'⟩ := tm_hd2a Y ha M2 q4.2.1 Kc w2
      rw [if_pos qz, e]
      exact ⟨0, σ2, τ', rfl, rfl, f1.tr f2, tb_P.mk M M' hc' (fun _ _ _ => rfl), Or.inr ⟨rfl, q4.same s'⟩⟩
  · have hz0 : z1.toInt = 0 := by
      rcases hz1 with h | h
      · exact h
      · exact absurd h q1
    obtain ⟨τ', c', e, M', hc', s'⟩ := tm_hd2a Y ha M1 q2.2.1 Kc 0
    rw [if_pos hz0, tm_count2 q2.2.1, q_biP, e]
    exact ⟨0, σ1, τ', rfl, rfl, f1, tb_P.mk M M' hc' (fun _ _ _ => rfl), Or.inr ⟨rfl, q2.same s'⟩⟩
end TJ
end
/-! FROM 48r.start.lean.txt -/
section
/-! A NEW GAME, THE START OF A READING -/
theorem y_bl_ne {V : Nat → Int → Int} {id id' : Nat} {n i : Int} {f : Int → Int} (h : id' ≠ id) : y_bl V id n f id' i = V id' i := if_neg (fun q => h q.1)
theorem y_bl_in {V : Nat → Int → Int} {id : Nat} {n i : Int} {f : Int → Int} (h0 : 0 ≤ i) (h1 : i < n) : y_bl V id n f id i = f i := if_pos ⟨rfl, h0, h1⟩
def tb_Rv (V : Nat → Int → Int) : Prop :=
  (V 1 2 = 0 ∧ V 1 3 = 4 ∧ V 1 4 = 0) ∧ (∀ k : Int, 0 ≤ k → k < 10 → V 4 k = 0) ∧ (∀ j : Int, 0 ≤ j → j < 60 → V 7 j = 0) ∧ (∀ p : Int, 0 ≤ p → p < 6 → V 9 p = 0 ∧ V 10 p = 0 ∧ V 11 p = 0) ∧ tb_Z V
section TK
variable {X : XW} {lb : Nat → Nat} {D T g a : Nat} {σ τ σ' τ' σ1 τ1 : ST} {n : Int} {B : Int → Int} {V : Nat → Int → Int} {r c w t : Int → Int} {f9 f10 : Int}
theorem tb_reset (Y : y_S X lb) (G : y_G X lb g 6) : ∃ V' : Nat → Int → Int, y_W X lb g 6 σ (F_X0_reset X σ g) V' ∧ tb_Rv V' := by
  obtain ⟨V, hV⟩ : ∃ V, y_v X g σ = V := ⟨_, rfl⟩
  have w0 : y_W X lb g 6 σ σ V := y_W.rf.eq hV
  obtain ⟨V1, hV1⟩ : ∃ v, v = y_up V 1 0 2 := ⟨_, rfl⟩
  have w1 : y_W X lb g 6 σ (q_si σ (y_gA X g 1) 0 2) V1 := (w0.si Y G (id := 1) (by decide) 0 2).eq hV1.symm
  obtain ⟨s1, hs1⟩ : ∃ s, s = q_si σ (y_gA X g 1) 0 2 := ⟨_, rfl⟩
  rw [← hs1] at w1
  obtain ⟨V2, hV2⟩ : ∃ v, v = y_up V1 1 1 1 := ⟨_, rfl⟩
  have w2 : y_W X lb g 6 σ (q_si s1 (y_gA X g 1) 1 1) V2 := (w1.si Y G (id := 1) (by decide) 1 1).eq hV2.symm
  obtain ⟨s2, hs2⟩ : ∃ s, s = q_si s1 (y_gA X g 1) 1 1 := ⟨_, rfl⟩
  rw [← hs2] at w2
  obtain ⟨V3, hV3⟩ : ∃ v, v = y_up V2 1 2 0 := ⟨_, rfl⟩
  have w3 : y_W X lb g 6 σ (q_si s2 (y_gA X g 1) 2 0) V3 := (w2.si Y G (id := 1) (by decide) 2 0).eq hV3.symm
  obtain ⟨s3, hs3⟩ : ∃ s, s = q_si s2 (y_gA X g 1) 2 0 := ⟨_, rfl⟩
  rw [← hs3] at w3
  obtain ⟨V4, hV4⟩ : ∃ v, v = y_up V3 1 3 4 := ⟨_, rfl⟩
  have w4 : y_W X lb g 6 σ (q_si s3 (y_gA X g 1) 3 4) V4 := (w3.si Y G (id := 1) (by decide) 3 4).eq hV4.symm
  obtain ⟨s4, hs4⟩ : ∃ s, s = q_si s3 (y_gA X g 1) 3 4 := ⟨_, rfl⟩
  rw [← hs4] at w4
  obtain ⟨V5, hV5⟩ : ∃ v, v = y_up V4 1 4 0 := ⟨_, rfl⟩
  have w5 : y_W X lb g 6 σ (q_si s4 (y_gA X g 1) 4 0) V5 := (w4.si Y G (id := 1) (by decide) 4 0).eq hV5.symm
  obtain ⟨s5, hs5⟩ : ∃ s, s = q_si s4 (y_gA X g 1) 4 0 := ⟨_, rfl⟩
  rw [← hs5] at w5
  obtain ⟨V6, hV6⟩ : ∃ v, v = y_bl V5 4 10 (fun _ => 0) := ⟨_, rfl⟩
  have w6 : y_W X lb g 6 σ (F_X5_clear X s5 (q_rf X (q_rf X g 0) 5)) V6 := (w5.clear Y G (id := 4) (r := q_rf X (q_rf X g 0) 5) ⟨by decide, by decide⟩ rfl).eq hV6.symm
  obtain ⟨s6, hs6⟩ : ∃ s, s = F_X5_clear X s5 (q_rf X (q_rf X g 0) 5) := ⟨_, rfl⟩
  rw [← hs6] at w6
  obtain ⟨V7, hV7⟩ : ∃ v, v = y_bl V6 7 60 (fun _ => 0) := ⟨_, rfl⟩
  have w7 : y_W X lb g 6 σ (F_X5_clear X s6 (q_rf X (q_rf X g 1) 0)) V7 := (w6.clear Y G (id := 7) (r := q_rf X (q_rf X g 1) 0) ⟨by decide, by decide⟩ rfl).eq hV7.symm
  obtain ⟨s7, hs7⟩ : ∃ s, s = F_X5_clear X s6 (q_rf X (q_rf X g 1) 0) := ⟨_, rfl⟩
  rw [← hs7] at w7
  obtain ⟨V8, hV8⟩ : ∃ v, v = y_bl V7 8 60 (fun _ => 0) := ⟨_, rfl⟩
  have w8 : y_W X lb g 6 σ (F_X5_clear X s7 (q_rf X (q_rf X g 1) 1)) V8 := (w7.clear Y G (id := 8) (r := q_rf X (q_rf X g 1) 1) ⟨by decide, by decide⟩ rfl).eq hV8.symm
  obtain ⟨s8, hs8⟩ : ∃ s, s = F_X5_clear X s7 (q_rf X (q_rf X g 1) 1) := ⟨_, rfl⟩
  rw [← hs8] at w8
  obtain ⟨V9, hV9⟩ : ∃ v, v = y_bl V8 9 6 (fun _ => 0) := ⟨_, rfl⟩
  have w9 : y_W X lb g 6 σ (F_X5_clear X s8 (q_rf X (q_rf X g 1) 2)) V9 := (w8.clear Y G (id := 9) (r := q_rf X (q_rf X g 1) 2) ⟨by decide, by decide⟩ rfl).eq hV9.symm
  obtain ⟨s9, hs9⟩ : ∃ s, s = F_X5_clear X s8 (q_rf X (q_rf X g 1) 2) := ⟨_, rfl⟩
  rw [← hs9] at w9
  obtain ⟨V10, hV10⟩ : ∃ v, v = y_bl V9 10 6 (fun _ => 0) := ⟨_, rfl⟩
  have w10 : y_W X lb g 6 σ (F_X5_clear X s9 (q_rf X (q_rf X g 1) 3)) V10 := (w9.clear Y G (id := 10) (r := q_rf X (q_rf X g 1) 3) ⟨by decide, by decide⟩ rfl).eq hV10.symm
  obtain ⟨s10, hs10⟩ : ∃ s, s = F_X5_clear X s9 (q_rf X (q_rf X g 1) 3) := ⟨_, rfl⟩
  rw [← hs10] at w10
  obtain ⟨V11, hV11⟩ : ∃ v, v = y_bl V10 11 6 (fun _ => 0) := ⟨_, rfl⟩
  have w11 : y_W X lb g 6 σ (F_X5_clear X s10 (q_rf X (q_rf X g 1) 4)) V11 := (w10.clear Y G (id := 11) (r := q_rf X (q_rf X g 1) 4) ⟨by decide, by decide⟩ rfl).eq hV11.symm
  obtain ⟨s11, hs11⟩ : ∃ s, s = F_X5_clear X s10 (q_rf X (q_rf X g 1) 4) := ⟨_, rfl⟩
  rw [← hs11] at w11
  obtain ⟨V12, hV12⟩ : ∃ v, v = y_bl V11 12 6 (fun _ => 0) := ⟨_, rfl⟩
  have w12 : y_W X lb g 6 σ (F_X5_clear X s11 (q_rf X (q_rf X g 1) 5)) V12 := (w11.clear Y G (id := 12) (r := q_rf X (q_rf X g 1) 5) ⟨by decide, by decide⟩ rfl).eq hV12.symm
  obtain ⟨s12, hs12⟩ : ∃ s, s = F_X5_clear X s11 (q_rf X (q_rf X g 1) 5) := ⟨_, rfl⟩
  rw [← hs12] at w12
  obtain ⟨V13, hV13⟩ : ∃ v, v = y_bl V12 13 6 (fun _ => 0) := ⟨_, rfl⟩
  have w13 : y_W X lb g 6 σ (F_X5_clear X s12 (q_rf X (q_rf X g 1) 6)) V13 := (w12.clear Y G (id := 13) (r := q_rf X (q_rf X g 1) 6) ⟨by decide, by decide⟩ rfl).eq hV13.symm
  obtain ⟨s13, hs13⟩ : ∃ s, s = F_X5_clear X s12 (q_rf X (q_rf X g 1) 6) := ⟨_, rfl⟩
  rw [← hs13] at w13
  obtain ⟨V14, hV14⟩ : ∃ v, v = y_up V13 2 0 0 := ⟨_, rfl⟩
  have w14 : y_W X lb g 6 σ (q_si s13 (y_gA X g 2) 0 0) V14 := (w13.si Y G (id := 2) (by decide) 0 0).eq hV14.symm
  obtain ⟨s14, hs14⟩ : ∃ s, s = q_si s13 (y_gA X g 2) 0 0 := ⟨_, rfl⟩
  rw [← hs14] at w14
  obtain ⟨V15, hV15⟩ : ∃ v, v = y_up V14 2 1 0 := ⟨_, rfl⟩
  have w15 : y_W X lb g 6 σ (q_si s14 (y_gA X g 2) 1 0) V15 := (w14.si Y G (id := 2) (by decide) 1 0).eq hV15.symm
  obtain ⟨s15, hs15⟩ : ∃ s, s = q_si s14 (y_gA X g 2) 1 0 := ⟨_, rfl⟩
  rw [← hs15] at w15
  obtain ⟨V16, hV16⟩ : ∃ v, v = y_up V15 3 0 0 := ⟨_, rfl⟩
  have w16 : y_W X lb g 6 σ (q_si s15 (y_gA X g 3) 0 0) V16 := (w15.si Y G (id := 3) (by decide) 0 0).eq hV16.symm
  obtain ⟨s16, hs16⟩ : ∃ s, s = q_si s15 (y_gA X g 3) 0 0 := ⟨_, rfl⟩
  rw [← hs16] at w16
  obtain ⟨V17, hV17⟩ : ∃ v, v = y_up V16 3 1 0 := ⟨_, rfl⟩
  have w17 : y_W X lb g 6 σ (q_si s16 (y_gA X g 3) 1 0) V17 := (w16.si Y G (id := 3) (by decide) 1 0).eq hV17.symm
  obtain ⟨s17, hs17⟩ : ∃ s, s = q_si s16 (y_gA X g 3) 1 0 := ⟨_, rfl⟩
  rw [← hs17] at w17
  obtain ⟨V18, hV18⟩ : ∃ v, v = y_up V17 3 2 0 := ⟨_, rfl⟩
  have w18 : y_W X lb g 6 σ (q_si s17 (y_gA X g 3) 2 0) V18 := (w17.si Y G (id := 3) (by decide) 2 0).eq hV18.symm
  obtain ⟨s18, hs18⟩ : ∃ s, s = q_si s17 (y_gA X g 3) 2 0 := ⟨_, rfl⟩
  rw [← hs18] at w18
  obtain ⟨V19, hV19⟩ : ∃ v, v = y_up V18 0 4 0 := ⟨_, rfl⟩
  have w19 : y_W X lb g 6 σ (q_si s18 (y_gA X g 0) 4 0) V19 := (w18.si Y G (id := 0) (by decide) 4 0).eq hV19.symm
  obtain ⟨s19, hs19⟩ : ∃ s, s = q_si s18 (y_gA X g 0) 4 0 := ⟨_, rfl⟩
  rw [← hs19] at w19
  obtain ⟨V20, hV20⟩ : ∃ v, v = y_up V19 0 5 0 := ⟨_, rfl⟩
  have w20 : y_W X lb g 6 σ (q_si s19 (y_gA X g 0) 5 0) V20 := (w19.si Y G (id := 0) (by decide) 5 0).eq hV20.symm
  obtain ⟨s20, hs20⟩ : ∃ s, s = q_si s19 (y_gA X g 0) 5 0 := ⟨_, rfl⟩
  rw [← hs20] at w20
  obtain ⟨V21, hV21⟩ : ∃ v, v = y_up V20 0 6 (-1) := ⟨_, rfl⟩
  have w21 : y_W X lb g 6 σ (q_si s20 (y_gA X g 0) 6 (-1)) V21 := (w20.si Y G (id := 0) (by decide) 6 (-1)).eq hV21.symm
  obtain ⟨s21, hs21⟩ : ∃ s, s = q_si s20 (y_gA X g 0) 6 (-1) := ⟨_, rfl⟩
  rw [← hs21] at w21
  obtain ⟨V22, hV22⟩ : ∃ v, v = y_up V21 0 7 0 := ⟨_, rfl⟩
  have w22 : y_W X lb g 6 σ (q_si s21 (y_gA X g 0) 7 0) V22 := (w21.si Y G (id := 0) (by decide) 7 0).eq hV22.symm
  obtain ⟨s22, hs22⟩ : ∃ s, s = q_si s21 (y_gA X g 0) 7 0 := ⟨_, rfl⟩
  rw [← hs22] at w22
  refine ⟨V22, ?_, ?_⟩
  · have e : F_X0_reset X σ g = s22 := by
      unfold F_X0_reset F_X6_reset F_X1_reset F_X2_clear F_X8_clear
      rw [q_letE (q_si σ (q_rf X g 0) 0 2)]
      have z1 : q_si σ (q_rf X g 0) 0 2 = s1 := hs1.symm
      rw [z1]
      rw [q_letE (q_si s1 (q_rf X g 0) 1 1)]
      have z2 : q_si s1 (q_rf X g 0) 1 1 = s2 := hs2.symm
      rw [z2]
      rw [q_letE (q_si s2 (q_rf X g 0) 2 0)]
      have z3 : q_si s2 (q_rf X g 0) 2 0 = s3 := hs3.symm
      rw [z3]
      rw [q_letE (q_si s3 (q_rf X g 0) 3 4)]
      have z4 : q_si s3 (q_rf X g 0) 3 4 = s4 := hs4.symm
      rw [z4]
      rw [q_letE (q_si s4 (q_rf X g 0) 4 0)]
      have z5 : q_si s4 (q_rf X g 0) 4 0 = s5 := hs5.symm
      rw [z5]
      rw [q_letE (F_X5_clear X s5 (q_rf X (q_rf X g 0) 5))]
      have z6 : F_X5_clear X s5 (q_rf X (q_rf X g 0) 5) = s6 := hs6.symm
      rw [z6]
      rw [q_letE s6]
      rw [q_letE (F_X5_clear X s6 (q_rf X (q_rf X g 1) 0))]
      have z7 : F_X5_clear X s6 (q_rf X (q_rf X g 1) 0) = s7 := hs7.symm
      rw [z7]
      rw [q_letE (F_X5_clear X s7 (q_rf X (q_rf X g 1) 1))]
      have z8 : F_X5_clear X s7 (q_rf X (q_rf X g 1) 1) = s8 := hs8.symm
      rw [z8]
      rw [q_letE (F_X5_clear X s8 (q_rf X (q_rf X g 1) 2))]
      have z9 : F_X5_clear X s8 (q_rf X (q_rf X g 1) 2) = s9 := hs9.symm
      rw [z9]
      rw [q_letE (F_X5_clear X s9 (q_rf X (q_rf X g 1) 3))]
      have z10 : F_X5_clear X s9 (q_rf X (q_rf X g 1) 3) = s10 := hs10.symm
      rw [z10]
      rw [q_letE (F_X5_clear X s10 (q_rf X (q_rf X g 1) 4))]
      have z11 : F_X5_clear X s10 (q_rf X (q_rf X g 1) 4) = s11 := hs11.symm
      rw [z11]
      rw [q_letE (F_X5_clear X s11 (q_rf X (q_rf X g 1) 5))]
      have z12 : F_X5_clear X s11 (q_rf X (q_rf X g 1) 5) = s12 := hs12.symm
      rw [z12]
      rw [q_letE (F_X5_clear X s12 (q_rf X (q_rf X g 1) 6))]
      have z13 : F_X5_clear X s12 (q_rf X (q_rf X g 1) 6) = s13 := hs13.symm
      rw [z13]
      rw [q_letE s13]
      rw [q_letE (q_si s13 (q_rf X g 2) 0 0)]
      have z14 : q_si s13 (q_rf X g 2) 0 0 = s14 := hs14.symm
      rw [z14]
      rw [q_letE (q_si s14 (q_rf X g 2) 1 0)]
      have z15 : q_si s14 (q_rf X g 2) 1 0 = s15 := hs15.symm
      rw [z15]
      rw [q_letE s15]
      rw [q_letE (q_si s15 (q_rf X g 3) 0 0)]
      have z16 : q_si s15 (q_rf X g 3) 0 0 = s16 := hs16.symm
      rw [z16]
      rw [q_letE (q_si s16 (q_rf X g 3) 1 0)]
      have z17 : q_si s16 (q_rf X g 3) 1 0 = s17 := hs17.symm
      rw [z17]
      rw [q_letE (q_si s17 (q_rf X g 3) 2 0)]
      have z18 : q_si s17 (q_rf X g 3) 2 0 = s18 := hs18.symm
      rw [z18]
      rw [q_letE s18]
      rw [q_letE (q_si s18 (g) 4 0)]
      have z19 : q_si s18 (g) 4 0 = s19 := hs19.symm
      rw [z19]
      rw [q_letE (q_si s19 (g) 5 0)]
      have z20 : q_si s19 (g) 5 0 = s20 := hs20.symm
      rw [z20]
      rw [q_letE (q_si s20 (g) 6 (-1))]
      have z21 : q_si s20 (g) 6 (-1) = s21 := hs21.symm
      rw [z21]
      rw [q_letE (q_si s21 (g) 7 0)]
      have z22 : q_si s21 (g) 7 0 = s22 := hs22.symm
      rw [z22]
    rw [e]
    exact w22
  · refine ⟨⟨?_, ?_, ?_⟩, ?_, ?_, ?_, ?_, ?_, ?_, ?_, ?_, ?_, ?_, ?_, ?_, ?_, ?_⟩
    · rw [hV22, y_up_ne (Or.inl (by decide)), hV21, y_up_ne (Or.inl (by decide)), hV20, y_up_ne (Or.inl (by decide)), hV19, y_up_ne (Or.inl (by decide)), hV18, y_up_ne (Or.inl (by decide)), hV17, y_up_ne (Or.inl (by decide)), hV16, y_up_ne (Or.inl (by decide)), hV15, y_up_ne (Or.inl (by decide)), hV14, y_up_ne (Or.inl (by decide)), hV13, y_bl_ne (by decide), hV12, y_bl_ne (by decide), hV11, y_bl_ne (by decide), hV10, y_bl_ne (by decide), hV9, y_bl_ne (by decide), hV8, y_bl_ne (by decide), hV7, y_bl_ne (by decide), hV6, y_bl_ne (by decide), hV5, y_up_ne (Or.inr (by decide)), hV4, y_up_ne (Or.inr (by decide)), hV3, y_up_eq]
    · rw [hV22, y_up_ne (Or.inl (by decide)), hV21, y_up_ne (Or.inl (by decide)), hV20, y_up_ne (Or.inl (by decide)), hV19, y_up_ne (Or.inl (by decide)), hV18, y_up_ne (Or.inl (by decide)), hV17, y_up_ne (Or.inl (by decide)), hV16, y_up_ne (Or.inl (by decide)), hV15, y_up_ne (Or.inl (by decide)), hV14, y_up_ne (Or.inl (by decide)), hV13, y_bl_ne (by decide), hV12, y_bl_ne (by decide), hV11, y_bl_ne (by decide), hV10, y_bl_ne (by decide), hV9, y_bl_ne (by decide), hV8, y_bl_ne (by decide), hV7, y_bl_ne (by decide), hV6, y_bl_ne (by decide), hV5, y_up_ne (Or.inr (by decide)), hV4, y_up_eq]
    · rw [hV22, y_up_ne (Or.inl (by decide)), hV21, y_up_ne (Or.inl (by decide)), hV20, y_up_ne (Or.inl (by decide)), hV19, y_up_ne (Or.inl (by decide)), hV18, y_up_ne (Or.inl (by decide)), hV17, y_up_ne (Or.inl (by decide)), hV16, y_up_ne (Or.inl (by decide)), hV15, y_up_ne (Or.inl (by decide)), hV14, y_up_ne (Or.inl (by decide)), hV13, y_bl_ne (by decide), hV12, y_bl_ne (by decide), hV11, y_bl_ne (by decide), hV10, y_bl_ne (by decide), hV9, y_bl_ne (by decide), hV8, y_bl_ne (by decide), hV7, y_bl_ne (by decide), hV6, y_bl_ne (by decide), hV5, y_up_eq]
    · intro j a1 a2
      rw [hV22, y_up_ne (Or.inl (by decide)), hV21, y_up_ne (Or.inl (by decide)), hV20, y_up_ne (Or.inl (by decide)), hV19, y_up_ne (Or.inl (by decide)), hV18, y_up_ne (Or.inl (by decide)), hV17, y_up_ne (Or.inl (by decide)), hV16, y_up_ne (Or.inl (by decide)), hV15, y_up_ne (Or.inl (by decide)), hV14, y_up_ne (Or.inl (by decide)), hV13, y_bl_ne (by decide), hV12, y_bl_ne (by decide), hV11, y_bl_ne (by decide), hV10, y_bl_ne (by decide), hV9, y_bl_ne (by decide), hV8, y_bl_ne (by decide), hV7, y_bl_ne (by decide), hV6, y_bl_in a1 a2]
    · intro j a1 a2
      rw [hV22, y_up_ne (Or.inl (by decide)), hV21, y_up_ne (Or.inl (by decide)), hV20, y_up_ne (Or.inl (by decide)), hV19, y_up_ne (Or.inl (by decide)), hV18, y_up_ne (Or.inl (by decide)), hV17, y_up_ne (Or.inl (by decide)), hV16, y_up_ne (Or.inl (by decide)), hV15, y_up_ne (Or.inl (by decide)), hV14, y_up_ne (Or.inl (by decide)), hV13, y_bl_ne (by decide), hV12, y_bl_ne (by decide), hV11, y_bl_ne (by decide), hV10, y_bl_ne (by decide), hV9, y_bl_ne (by decide), hV8, y_bl_ne (by decide), hV7, y_bl_in a1 a2]
    · intro j a1 a2
      refine ⟨?_, ?_, ?_⟩
      · rw [hV22, y_up_ne (Or.inl (by decide)), hV21, y_up_ne (Or.inl (by decide)), hV20, y_up_ne (Or.inl (by decide)), hV19, y_up_ne (Or.inl (by decide)), hV18, y_up_ne (Or.inl (by decide)), hV17, y_up_ne (Or.inl (by decide)), hV16, y_up_ne (Or.inl (by decide)), hV15, y_up_ne (Or.inl (by decide)), hV14, y_up_ne (Or.inl (by decide)), hV13, y_bl_ne (by decide), hV12, y_bl_ne (by decide), hV11, y_bl_ne (by decide), hV10, y_bl_ne (by decide), hV9, y_bl_in a1 a2]
      · rw [hV22, y_up_ne (Or.inl (by decide)), hV21, y_up_ne (Or.inl (by decide)), hV20, y_up_ne (Or.inl (by decide)), hV19, y_up_ne (Or.inl (by decide)), hV18, y_up_ne (Or.inl (by decide)), hV17, y_up_ne (Or.inl (by decide)), hV16, y_up_ne (Or.inl (by decide)), hV15, y_up_ne (Or.inl (by decide)), hV14, y_up_ne (Or.inl (by decide)), hV13, y_bl_ne (by decide), hV12, y_bl_ne (by decide), hV11, y_bl_ne (by decide), hV10, y_bl_in a1 a2]
      · rw [hV22, y_up_ne (Or.inl (by decide)), hV21, y_up_ne (Or.inl (by decide)), hV20, y_up_ne (Or.inl (by decide)), hV19, y_up_ne (Or.inl (by decide)), hV18, y_up_ne (Or.inl (by decide)), hV17, y_up_ne (Or.inl (by decide)), hV16, y_up_ne (Or.inl (by decide)), hV15, y_up_ne (Or.inl (by decide)), hV14, y_up_ne (Or.inl (by decide)), hV13, y_bl_ne (by decide), hV12, y_bl_ne (by decide), hV11, y_bl_in a1 a2]
    · intro j a1 a2
      rw [hV22, y_up_ne (Or.inl (by decide)), hV21, y_up_ne (Or.inl (by decide)), hV20, y_up_ne (Or.inl (by decide)), hV19, y_up_ne (Or.inl (by decide)), hV18, y_up_ne (Or.inl (by decide)), hV17, y_up_ne (Or.inl (by decide)), hV16, y_up_ne (Or.inl (by decide)), hV15, y_up_ne (Or.inl (by decide)), hV14, y_up_ne (Or.inl (by decide)), hV13, y_bl_ne (by decide), hV12, y_bl_ne (by decide), hV11, y_bl_ne (by decide), hV10, y_bl_ne (by decide), hV9, y_bl_ne (by decide), hV8, y_bl_in a1 a2]
    · intro j a1 a2
      refine ⟨?_, ?_⟩
      · rw [hV22, y_up_ne (Or.inl (by decide)), hV21, y_up_ne (Or.inl (by decide)), hV20, y_up_ne (Or.inl (by decide)), hV19, y_up_ne (Or.inl (by decide)), hV18, y_up_ne (Or.inl (by decide)), hV17, y_up_ne (Or.inl (by decide)), hV16, y_up_ne (Or.inl (by decide)), hV15, y_up_ne (Or.inl (by decide)), hV14, y_up_ne (Or.inl (by decide)), hV13, y_bl_ne (by decide), hV12, y_bl_in a1 a2]
      · rw [hV22, y_up_ne (Or.inl (by decide)), hV21, y_up_ne (Or.inl (by decide)), hV20, y_up_ne (Or.inl (by decide)), hV19, y_up_ne (Or.inl (by decide)), hV18, y_up_ne (Or.inl (by decide)), hV17, y_up_ne (Or.inl (by decide)), hV16, y_up_ne (Or.inl (by decide)), hV15, y_up_ne (Or.inl (by decide)), hV14, y_up_ne (Or.inl (by decide)), hV13, y_bl_in a1 a2]
    · rw [hV22, y_up_ne (Or.inr (by decide)), hV21, y_up_ne (Or.inr (by decide)), hV20, y_up_ne (Or.inr (by decide)), hV19, y_up_eq]
    · rw [hV22, y_up_ne (Or.inr (by decide)), hV21, y_up_ne (Or.inr (by decide)), hV20, y_up_eq]
    · rw [hV22, y_up_ne (Or.inr (by decide)), hV21, y_up_eq]
    · rw [hV22, y_up_eq]
    · rw [hV22, y_up_ne (Or.inl (by decide)), hV21, y_up_ne (Or.inl (by decide)), hV20, y_up_ne (Or.inl (by decide)), hV19, y_up_ne (Or.inl (by decide)), hV18, y_up_ne (Or.inl (by decide)), hV17, y_up_ne (Or.inl (by decide)), hV16, y_up_ne (Or.inl (by decide)), hV15, y_up_ne (Or.inr (by decide)), hV14, y_up_eq]
    · rw [hV22, y_up_ne (Or.inl (by decide)), hV21, y_up_ne (Or.inl (by decide)), hV20, y_up_ne (Or.inl (by decide)), hV19, y_up_ne (Or.inl (by decide)), hV18, y_up_ne (Or.inl (by decide)), hV17, y_up_ne (Or.inl (by decide)), hV16, y_up_ne (Or.inl (by decide)), hV15, y_up_eq]
    · rw [hV22, y_up_ne (Or.inl (by decide)), hV21, y_up_ne (Or.inl (by decide)), hV20, y_up_ne (Or.inl (by decide)), hV19, y_up_ne (Or.inl (by decide)), hV18, y_up_ne (Or.inr (by decide)), hV17, y_up_ne (Or.inr (by decide)), hV16, y_up_eq]
    · rw [hV22, y_up_ne (Or.inl (by decide)), hV21, y_up_ne (Or.inl (by decide)), hV20, y_up_ne (Or.inl (by decide)), hV19, y_up_ne (Or.inl (by decide)), hV18, y_up_ne (Or.inr (by decide)), hV17, y_up_eq]
    · rw [hV22, y_up_ne (Or.inl (by decide)), hV21, y_up_ne (Or.inl (by decide)), hV20, y_up_ne (Or.inl (by decide)), hV19, y_up_ne (Or.inl (by decide)), hV18, y_up_eq]
/-- the hands told are none -/
theorem tb_clearL {d A : Nat} (hA : q_rf X d 0 = A) (hl : (q_len X A).toInt = 6) (k : Nat) : ∀ (x : Int32) (τ : ST), (2147483647 - x.toInt).toNat < k → 0 ≤ x.toInt → x.toInt ≤ 6 → tk (fun b _ => b = A) σ τ → (∀ p : Int, 0 ≤ p → p < x.toInt → (τ.1 A p.toNat).toInt = 0) → tk (fun b _ => b = A) σ (F_X5_clear_L2_1 X d k x τ) ∧ ∀ p : Int, 0 ≤ p → p < 6 → ((F_X5_clear_L2_1 X d k x τ).1 A p.toNat).toInt = 0 := by
  induction k with
  | zero => intro x τ hm; exact absurd hm (Nat.not_lt_zero _)
  | succ k ih =>
    intro x τ hm h0 h1 ht hz
    have hb := ar_bd x
    rw [F_X5_clear_L2_1_s]
    unfold F_X5_clear_B2_1
    rw [hA, q_letE, hl]
    by_cases q : x.toInt < 6
    · rw [if_pos q, q_letE, q_letE]
      have e : (x + 1).toInt = x.toInt + 1 := y_inc (by omega)
      refine ih (x + 1) _ (by omega) (by omega) (by omega) (ht.si _ rfl) (fun p p0 p1 => ?_)
      show (if A = A ∧ p.toNat = x.toNatClampNeg then (0 : Int32) else τ.1 A p.toNat).toInt = 0
      by_cases q2 : p = x.toInt
      · rw [if_pos ⟨rfl, by rw [ar_cl, q2]⟩]
        rfl
      · rw [if_neg (fun z => q2 (by have := z.2; rw [ar_cl] at this; omega))]
        exact hz p p0 (by omega)
    · rw [if_neg q]
      exact ⟨ht, fun p p0 p1 => hz p p0 (by omega)⟩
theorem tb_clear (hl : q_ln X (tb_T X D) = 6) : tk (fun b _ => b = tb_T X D) σ (F_X5_clear X σ (q_rf X D 11)) ∧ ∀ p : Int, 0 ≤ p → p < 6 → ((F_X5_clear X σ (q_rf X D 11)).1 (tb_T X D) p.toNat).toInt = 0 := by
  have h6 : (q_len X (tb_T X D)).toInt = 6 := by
    unfold q_len
    rw [hl]
    rfl
  unfold F_X5_clear
  exact tb_clearL (X := X) (σ := σ) (d := q_rf X D 11) (A := tb_T X D) rfl h6 _ 0 σ (by decide) (by decide) (by decide) tk.rf (fun p p0 p1 => by have : (0 : Int32).toInt = 0 := rfl; omega)
/-- cells kept, but for those of S and the reader's text -/
def tkr (S : Nat → Nat → Prop) (R : Nat) (σ τ : ST) : Prop := (∀ b f, ¬ S b f → τ.1 b f = σ.1 b f) ∧ τ.2.1 = σ.2.1 ∧ ∀ b, b ≠ R → τ.2.2 b = σ.2.2 b
theorem tk.kr {S : Nat → Nat → Prop} {R : Nat} (h : tk S σ τ) : tkr S R σ τ := ⟨h.1, by rw [h.2], fun b _ => by rw [h.2]⟩
theorem tkr.tr {S : Nat → Nat → Prop} {R : Nat} {ρ : ST} (h : tkr S R σ τ) (k : tkr S R τ ρ) : tkr S R σ ρ := ⟨fun b f q => (k.1 b f q).trans (h.1 b f q), k.2.1.trans h.2.1, fun b q => (k.2.2 b q).trans (h.2.2 b q)⟩
/-- the class begins to read -/
theorem tc_start (hTl : q_ln X T = 900) (hTD : T ≠ D) {v : Int32} (hv : v.toInt = n) (hn : 0 ≤ n ∧ n ≤ 900) (hB : ∀ p : Int, 0 ≤ p → p < n → (σ.1 T p.toNat).toInt = B p ∧ -128 ≤ B p ∧ B p ≤ 127) :
    ∃ ρ : ST, F_X3_start X σ D T v = F_X3_advance X ρ D ∧ tc_E X ρ D T n B ∧ (ρ.1 D 3).toInt = 0 ∧ (ρ.1 D 6).toInt = 0 ∧ (ρ.1 D 7).toInt = -1 ∧ tkr (fun b f => b = D ∧ (f = 1 ∨ f = 3 ∨ f = 6 ∨ f = 7)) D σ ρ := by
  have hl : (q_len X T).toInt = 900 := tc_len hTl
  have z0 : (0 : Int32).toInt = 0 := rfl
  have mn : (F_J9_min_7cf53 X (q_st σ D T) v (q_len X T)).toInt = n := by
    unfold F_J9_min_7cf53
    rw [hl, hv]
    by_cases q : 900 < n
    · omega
    · rw [if_neg q, hv]
  have mx : (F_J9_max_7cf53 X (q_st σ D T) 0 (F_J9_min_7cf53 X (q_st σ D T) v (q_len X T))).toInt = n := by
    unfold F_J9_max_7cf53
    rw [mn, z0]
    by_cases q : 0 < n
    · rw [if_pos q, mn]
    · rw [if_neg q, z0]
      omega
  unfold F_X3_start
  rw [q_letE (q_st σ D T), q_letE (q_len X T), q_letE (F_J9_min_7cf53 X (q_st σ D T) v (q_len X T)), q_letE (F_J9_max_7cf53 X (q_st σ D T) 0 (F_J9_min_7cf53 X (q_st σ D T) v (q_len X T)))]
  obtain ⟨m, hm⟩ : ∃ m, m = F_J9_max_7cf53 X (q_st σ D T) 0 (F_J9_min_7cf53 X (q_st σ D T) v (q_len X T)) := ⟨_, rfl⟩
  rw [← hm] at mx ⊢
  rw [q_letE, q_letE, q_letE, q_letE, q_letE]
  obtain ⟨ρ, hρ⟩ : ∃ s, s = q_si (q_si (q_si (q_si (q_st σ D T) D 1 m) D 3 0) D 6 0) D 7 (-1) := ⟨_, rfl⟩
  rw [← hρ]
  have t : tk (fun b f => b = D ∧ (f = 1 ∨ f = 3 ∨ f = 6 ∨ f = 7)) (q_st σ D T) ρ := by
    rw [hρ]
    exact ((((tk.rf.si _ ⟨rfl, Or.inl rfl⟩).si _ ⟨rfl, Or.inr (Or.inl rfl)⟩).si _ ⟨rfl, Or.inr (Or.inr (Or.inl rfl))⟩).si _ ⟨rfl, Or.inr (Or.inr (Or.inr rfl))⟩)
  have c1 : ρ.1 D 1 = m := by rw [hρ, si_f (by decide), si_f (by decide), si_f (by decide), si_eq]
  have c3 : ρ.1 D 3 = 0 := by rw [hρ, si_f (by decide), si_f (by decide), si_eq]
  have c6 : ρ.1 D 6 = 0 := by rw [hρ, si_f (by decide), si_eq]
  have c7 : ρ.1 D 7 = -1 := by rw [hρ, si_eq]
  have cT : ρ.2.2 D = T := by
    rw [t.2]
    show (if D = D then T else σ.2.2 D) = T
    rw [if_pos rfl]
  refine ⟨ρ, rfl, ⟨cT, by rw [c1]; exact mx, hn, hTD, hTl, fun p p0 p1 => ?_⟩, by rw [c3]; rfl, by rw [c6]; rfl, by rw [c7]; rfl, fun b f q => ?_, ?_, fun b q => ?_⟩
  · rw [t.1 T _ (fun q => hTD q.1)]
    exact hB p p0 p1
  · exact t.1 b f q
  · rw [t.2]
    rfl
  · rw [t.2]
    show (if b = D then T else σ.2.2 b) = _
    rw [if_neg q]
end TK
end
/-! FROM 48s.takes.lean.txt -/
section
/-! BOTH TAKE A TABLE -/
section TM
variable {X : XW} {lb : Nat → Nat} {D T g a : Nat} {σ τ σ' τ' σ1 τ1 τ0 : ST} {n : Int} {B : Int → Int} {V : Nat → Int → Int} {r c w t : Int → Int} {f9 f10 : Int}
theorem tm_L51 (k : Nat) : ∀ (x : Int32) (τ : ST), (2147483647 - x.toInt).toNat < k → 0 ≤ x.toInt → x.toInt ≤ 60 → tkl (fun b _ => b = q_rf X a 22) (fun _ _ => False) τ0 τ → (∀ j : Int, 0 ≤ j → j < x.toInt → (τ.1 (q_rf X a 22) j.toNat).toInt = 0) →
    ∃ τ' : ST, F_X12_table_L51_3 X a k x τ = F_X12_table_E70_7 X τ' a ∧ tkl (fun b _ => b = q_rf X a 22) (fun _ _ => False) τ0 τ' ∧ ∀ j : Int, 0 ≤ j → j < 60 → (τ'.1 (q_rf X a 22) j.toNat).toInt = 0 := by
  induction k with
  | zero => intro x τ hm; exact absurd hm (Nat.not_lt_zero _)
  | succ k ih =>
    intro x τ hm h0 h1 ht hz
    have hb := ar_bd x
    rw [F_X12_table_L51_3_s]
    unfold F_X12_table_B51_3
    by_cases q : x.toInt < 60
    · rw [if_pos q, q_letE, q_letE]
      have e : (x + 1).toInt = x.toInt + 1 := y_inc (by omega)
      refine ih (x + 1) _ (by omega) (by omega) (by omega) (ht.si _ rfl) (fun p p0 p1 => ?_)
      show (if q_rf X a 22 = q_rf X a 22 ∧ p.toNat = x.toNatClampNeg then (0 : Int32) else τ.1 (q_rf X a 22) p.toNat).toInt = 0
      by_cases q2 : p = x.toInt
      · rw [if_pos ⟨rfl, by rw [ar_cl, q2]⟩]
        rfl
      · rw [if_neg (fun z => q2 (by have := z.2; rw [ar_cl] at this; omega))]
        exact hz p p0 (by omega)
    · rw [if_neg q]
      exact ⟨τ, rfl, ht, fun p p0 p1 => hz p p0 (by omega)⟩
theorem tm_L25 (k : Nat) : ∀ (x : Int32) (τ : ST), (2147483647 - x.toInt).toNat < k → 0 ≤ x.toInt → x.toInt ≤ 930 → tkl (fun b _ => b = q_rf X a 20) (fun _ _ => False) τ0 τ → (∀ j : Int, 0 ≤ j → m_c X τ a j = if 3720 ≤ j ∧ j < 3720 + x.toInt then 0 else m_c X τ0 a j) →
    ∃ τ' : ST, F_X12_table_L25_1 X a k x τ = F_X12_table_L51_3 X a ((2147483647 - (0 : Int32).toInt).toNat + 1) (0 : Int32) τ' ∧ tkl (fun b _ => b = q_rf X a 20) (fun _ _ => False) τ0 τ' ∧ ∀ j : Int, 0 ≤ j → m_c X τ' a j = if 3720 ≤ j ∧ j < 4650 then 0 else m_c X τ0 a j := by
  induction k with
  | zero => intro x τ hm; exact absurd hm (Nat.not_lt_zero _)
  | succ k ih =>
    intro x τ hm h0 h1 ht hz
    have hb := ar_bd x
    rw [F_X12_table_L25_1_s]
    unfold F_X12_table_B25_1
    by_cases q : x.toInt < 930
    · rw [if_pos q, q_letE, q_letE, q_letE]
      have e : (x + 1).toInt = x.toInt + 1 := y_inc (by omega)
      have ei : ((3720 : Int32) + x).toInt = 3720 + x.toInt := by
        have e3 : (3720 : Int32).toInt = 3720 := rfl
        rw [ar_add, e3, ar_wr (by omega) (by omega)]
      refine ih (x + 1) _ (by omega) (by omega) (by omega) (ht.si _ rfl) (fun j j0 => ?_)
      rw [m_wr (X := X) (a := a) rfl ei (by omega) j j0, hz j j0, e]
      have z0 : (0 : Int32).toInt = 0 := rfl
      by_cases q2 : j = 3720 + x.toInt
      · rw [if_pos q2, if_pos ⟨by omega, by omega⟩, z0]
      · rw [if_neg q2]
        by_cases q3 : 3720 ≤ j ∧ j < 3720 + x.toInt
        · rw [if_pos q3, if_pos ⟨q3.1, by omega⟩]
        · rw [if_neg q3, if_neg (fun z => q3 ⟨z.1, by omega⟩)]
    · rw [if_neg q]
      refine ⟨τ, rfl, ht, fun j j0 => ?_⟩
      rw [hz j j0]
      by_cases q3 : 3720 ≤ j ∧ j < 4650
      · rw [if_pos q3, if_pos ⟨q3.1, by omega⟩]
      · rw [if_neg q3, if_neg (fun z => q3 ⟨z.1, by omega⟩)]
/-- cells kept by the class's reading -/
def tb_G (X : XW) (lb : Nat → Nat) (D : Nat) (σ σ' : ST) : Prop := (∀ b, lb b / 8192 ≠ 6 → b ≠ D → b ≠ tb_T X D → ∀ f, σ'.1 b f = σ.1 b f) ∧ σ'.2.1 = σ.2.1 ∧ ∀ b, b ≠ D → σ'.2.2 b = σ.2.2 b
theorem tb_F.tg (h : tb_F X lb D σ σ') : tb_G X lb D σ σ' := ⟨h.1, by rw [h.2.2], fun b _ => by rw [h.2.2]⟩
theorem tb_G.tr {ρ : ST} (h : tb_G X lb D σ σ') (k : tb_G X lb D σ' ρ) : tb_G X lb D σ ρ := ⟨fun b b1 b2 b3 f => (k.1 b b1 b2 b3 f).trans (h.1 b b1 b2 b3 f), k.2.1.trans h.2.1, fun b q => (k.2.2 b q).trans (h.2.2 b q)⟩
theorem tb_TT (H : tb_D X lb D T g) : T ≠ tb_T X D := by
  intro e
  have h7 := H.2.2.2.2.2.2.1
  have h9 := H.2.2.2.2.2.2.2.2
  rw [← e, h9] at h7
  exact absurd h7 (by decide)
/-- the class's new game, its flags and hands, and its text -/
theorem tb_begin (Y : y_S X lb) (H : tb_D X lb D T g) (hTl : q_ln X T = 900) (hTD : T ≠ D) {v : Int32} (hv : v.toInt = n) (hn : 0 ≤ n ∧ n ≤ 900) (hB : ∀ p : Int, 0 ≤ p → p < n → (σ.1 T p.toNat).toInt = B p ∧ -128 ≤ B p ∧ B p ≤ 127) :
    ∃ (ρ : ST) (V : Nat → Int → Int), F_X9_takes X σ D T v = q_bi (F_X9_readHead X (F_X3_advance X ρ D) D) (fun r_9 σ_10 => if r_9.toInt = 0 then ((0 : Int32), σ_10) else F_X9_takes_L41_1 X D ((2147483647 - (0 : Int32).toInt).toNat + 1) (0 : Int32) σ_10) ∧ tb_S X D T g ρ n B V (fun _ => 0) 0 0 ∧ tb_Rv V ∧ (ρ.1 D 3).toInt = 0 ∧ (ρ.1 D 6).toInt = 0 ∧ (ρ.1 D 7).toInt = -1 ∧ tb_G X lb D σ ρ := by
  have hD : lb D / 8192 ≠ 6 := by have := H.2.2.2.1; omega
  have hT : lb T / 8192 ≠ 6 := by have := H.2.2.2.2.1; omega
  have hA : lb (tb_T X D) / 8192 ≠ 6 := by have := H.2.2.2.2.2.1; omega
  have hTA := tb_TT H
  have hDA : D ≠ tb_T X D := Ne.symm (tb_TD H)
  obtain ⟨V, W, Rv⟩ := tb_reset (σ := σ) Y H.2.2.1
  unfold F_X9_takes
  rw [← H.2.1, q_letE (F_X0_reset X σ g)]
  obtain ⟨σ2, h2⟩ : ∃ s, s = F_X0_reset X σ g := ⟨_, rfl⟩
  rw [← h2] at W ⊢
  rw [q_letE (q_si σ2 D 9 0), q_letE (q_si (q_si σ2 D 9 0) D 10 0)]
  have t4 : tk (fun b f => b = D ∧ (f = 9 ∨ f = 10)) σ2 (q_si (q_si σ2 D 9 0) D 10 0) := (tk.rf.si _ ⟨rfl, Or.inl rfl⟩).si _ ⟨rfl, Or.inr rfl⟩
  have d9 : (q_si (q_si σ2 D 9 0) D 10 0).1 D 9 = 0 := by rw [si_f (by decide), si_eq]
  have d10 : (q_si (q_si σ2 D 9 0) D 10 0).1 D 10 = 0 := si_eq _ _ _ _
  obtain ⟨σ4, h4⟩ : ∃ s, s = q_si (q_si σ2 D 9 0) D 10 0 := ⟨_, rfl⟩
  rw [← h4] at t4 d9 d10 ⊢
  rw [q_letE (F_X5_clear X σ4 (q_rf X D 11))]
  obtain ⟨t6, z6⟩ := tb_clear (X := X) (D := D) (σ := σ4) H.2.2.2.2.2.2.2.1
  obtain ⟨σ6, h6⟩ : ∃ s, s = F_X5_clear X σ4 (q_rf X D 11) := ⟨_, rfl⟩
  rw [← h6] at t6 z6 ⊢
  have b6 : ∀ p : Int, 0 ≤ p → p < n → (σ6.1 T p.toNat).toInt = B p ∧ -128 ≤ B p ∧ B p ≤ 127 := fun p p0 p1 => by
    rw [t6.1 T _ hTA, t4.1 T _ (fun q => hTD q.1), W.1 T hT]
    exact hB p p0 p1
  obtain ⟨ρ, e1, E, e3, e6, e7, k⟩ := tc_start hTl hTD hv hn b6
  rw [e1, q_letE (F_X3_advance X ρ D)]
  have kD : ∀ b, b ≠ D → b ≠ tb_T X D → ∀ f, ρ.1 b f = σ2.1 b f := fun b b1 b2 f => by
    rw [k.1 b f (fun q => b1 q.1), t6.1 b f b2, t4.1 b f (fun q => b1 q.1)]
  refine ⟨ρ, V, rfl, ⟨E, ?_, fun p p0 p1 => ?_, ?_, ?_⟩, Rv, e3, e6, e7, fun b b1 b2 b3 f => ?_, ?_, fun b b1 => ?_⟩
  · rw [tb_v Y H (fun b b1 b2 f => kD b b1 b2 f)]
    exact W.2.2
  · rw [k.1 _ _ (fun q => (tb_TD H) q.1)]
    exact z6 p p0 p1
  · rw [k.1 D 9 (fun q => by have := q.2; omega), t6.1 D 9 hDA, d9]
    rfl
  · rw [k.1 D 10 (fun q => by have := q.2; omega), t6.1 D 10 hDA, d10]
    rfl
  · rw [kD b b2 b3]
    exact W.1 b b1 f
  · rw [k.2.1, t6.2, t4.2, W.2.1]
  · rw [k.2.2 b b1, t6.2, t4.2, W.2.1]
/-- both take a table out of the same bytes -/
theorem tb_takes (Y : y_S X lb) (H : tb_D X lb D T g) (ha : q_kd X a = 12) (hTl : q_ln X T = 900) (hTD : T ≠ D) {v : Int32} (hv : v.toInt = n) (hn : 0 ≤ n ∧ n ≤ 900) (hB : ∀ p : Int, 0 ≤ p → p < n → (σ.1 T p.toNat).toInt = B p ∧ -128 ≤ B p ∧ B p ≤ 127) (M0 : tm_E X τ a n B) (h16 : (τ.1 a 16).toInt = 0) (h12 : (τ.1 a 12).toInt = 0) (h0a : (τ.1 a 0).toInt = 0) (h8a : (τ.1 a 8).toInt = 0) :
    ∃ (z : Int32) (σ' τ' : ST), F_X9_takes X σ D T v = (z, σ') ∧ F_X12_table_L25_1 X a ((2147483647 - (0 : Int32).toInt).toNat + 1) (0 : Int32) (F_X12_next X τ a) = F_X12_table_E232_6 X τ' a ∧ tb_G X lb D σ σ' ∧ tb_P X a τ τ' ∧
      ((z.toInt = 1 ∧ ∃ (V : Nat → Int → Int) (r c w t : Int → Int) (f9 f10 : Int), tb_I X D T g a n B σ' τ' V r c w t f9 f10) ∨ (z.toInt = 0 ∧ tl_F σ' D τ' a)) := by
  have z0 : (0 : Int32).toInt = 0 := rfl
  obtain ⟨k20, k22, k23, k7⟩ := tb_k Y.1 ha
  have n20a : a ≠ q_rf X a 20 := Ne.symm (m_ne k20 ha (by decide))
  have n22a : a ≠ q_rf X a 22 := Ne.symm (m_ne k22 ha (by decide))
  have n207 : q_rf X a 7 ≠ q_rf X a 20 := m_ne k7 k20 (by decide)
  have n227 : q_rf X a 7 ≠ q_rf X a 22 := m_ne k7 k22 (by decide)
  obtain ⟨ρ, V, e, S, Rv, e3, e6, e7, G0⟩ := tb_begin Y H hTl hTD hv hn hB
  rw [e]
  obtain ⟨c1, m1, K, -⟩ := tl_adv S.1 M0 e3 h16 ⟨Int.le_refl 0, hn.1⟩ e6 e7
  obtain ⟨S1, f1⟩ := S.rd Y H c1.S2
  have p1 : tb_P X a τ (F_X12_next X τ a) := tb_P.rd Y.1 ha m1.S2
  have M1 := M0.k2 m1.S2
  have h01 : ((F_X12_next X τ a).1 a 12).toInt = 0 := by rw [tn_12 m1]; exact h12
  obtain ⟨σ1, hσ1⟩ : ∃ s, s = F_X3_advance X ρ D := ⟨_, rfl⟩
  obtain ⟨τ1, hτ1⟩ : ∃ s, s = F_X12_next X τ a := ⟨_, rfl⟩
  rw [← hσ1] at K S1 f1 ⊢
  rw [← hτ1] at K M1 h01 p1 ⊢
  obtain ⟨τ2, e2, t2, c2⟩ := tm_L25 (X := X) (a := a) (τ0 := τ1) ((2147483647 - (0 : Int32).toInt).toNat + 1) 0 τ1 (by decide) (by decide) (by decide) tkl.rf (fun j j0 => by rw [if_neg (by omega)])
  obtain ⟨τ3, e4, t3, c3⟩ := tm_L51 (X := X) (a := a) (τ0 := τ2) ((2147483647 - (0 : Int32).toInt).toNat + 1) 0 τ2 (by decide) (by decide) (by decide) tkl.rf (fun j j0 j1 => by omega)
  rw [e2, e4, tm_E70]
  have s13 : tl_same a τ1 τ3 := ⟨fun f _ _ => (t3.1 a f n22a).trans (t2.1 a f n20a), (t3.2.1 a 19 (fun q => q)).trans (t2.2.1 a 19 (fun q => q))⟩
  have M3 : tb_M X a τ3 n B (m_c X τ3 a) (m_wd X τ3 a) (fun _ => 0) (τ3.1 a 25).toInt (τ3.1 a 26).toInt := by
    obtain ⟨x1, x2, x3, x4⟩ := M1
    refine ⟨⟨?_, x2, x3, fun p p0 p1 => ?_⟩, rfl, rfl, c3, rfl, rfl, ?_, ?_⟩
    · rw [t3.1 a 9 n22a, t2.1 a 9 n20a]
      exact x1
    · rw [t3.1 _ _ n227, t2.1 _ _ n207]
      exact x4 p p0 p1
    · rw [t3.1 a 0 n22a, t2.1 a 0 n20a, p1.2.2.1]
      exact h0a
    · rw [t3.1 a 8 n22a, t2.1 a 8 n20a, p1.2.2.2]
      exact h8a
  have mc3 : ∀ j : Int, 0 ≤ j → m_c X τ3 a j = if 3720 ≤ j ∧ j < 4650 then 0 else m_c X τ1 a j := fun j j0 => by
    rw [← c2 j j0]
    exact congrArg Int32.toInt (t3.1 _ _ (m_ne k20 k22 (by decide)))
  have mw3 : ∀ j : Int, m_wd X τ3 a j = m_wd X τ1 a j := fun j => (congrArg Int64.toInt (t3.2.1 _ _ (fun q => q))).trans (congrArg Int64.toInt (t2.2.1 _ _ (fun q => q)))
  obtain ⟨M4, s4⟩ := M3.s9 Y.1 ha 0
  obtain ⟨M5, s5⟩ := M4.s10 Y.1 ha 0
  obtain ⟨M6, s6⟩ := M5.cw Y.1 ha (i := 3724) (v := 4) (A := 3724) rfl (by decide)
  have e4_ : (4 : Int32).toInt = 4 := rfl
  rw [z0, e4_] at M6
  rw [q_letE (q_si τ3 a 25 0), q_letE (q_si (q_si τ3 a 25 0) a 26 0), q_letE (q_si (q_si (q_si τ3 a 25 0) a 26 0) (q_rf X a 20) (3724 : Int32).toNatClampNeg 4)]
  have s16 := ((s13.tr s4).tr s5).tr s6
  obtain ⟨τ6, hτ6⟩ : ∃ s, s = q_si (q_si (q_si τ3 a 25 0) a 26 0) (q_rf X a 20) (3724 : Int32).toNatClampNeg 4 := ⟨_, rfl⟩
  rw [← hτ6] at M6 s16 ⊢
  have K6 := K.same (tl_sameC.rf (σ := σ1)) s16
  have h06 : (τ6.1 a 12).toInt = 0 := by rw [s16.1 12 (by decide) (by decide)]; exact h01
  have R0 : tb_R0 V (fun _ => 0) (m_up (m_c X τ3 a) 3724 4) (fun _ => 0) := by
    obtain ⟨v1, v2, v3, v4, v5⟩ := Rv
    refine ⟨v1, v2, v3, v4, v5, fun _ _ _ => rfl, fun j a1 a2 => ?_, fun _ _ _ => rfl⟩
    show (if j = 3724 then (4 : Int) else m_c X τ3 a j) = if j = 3724 then 4 else 0
    by_cases q : j = 3724
    · rw [if_pos q, if_pos q]
    · rw [if_neg q, if_neg q, mc3 j (by omega), if_pos ⟨a1, a2⟩]
  have p6 : tb_P X a τ1 τ6 := by
    refine ⟨fun j a1 a2 => ?_, fun j a1 a2 => ?_, M6.2.2.2.2.2.2.1.trans (p1.2.2.1.trans h0a).symm, M6.2.2.2.2.2.2.2.trans (p1.2.2.2.trans h8a).symm⟩
    · rw [M6.2.1, m_up_ne (by omega), mc3 j a1, if_neg (by omega)]
    · rw [M6.2.2.1]
      exact mw3 j
  obtain ⟨z1, σ7, τ7, e8, e9, u1, u2, u3⟩ := tb_head Y H ha S1 M6 K6 h06 R0 (tm_Kc X a)
  rw [e8, q_biP, e9]
  rcases u3 with ⟨q1, V', r', c', w', t', f9', f10', I⟩ | ⟨q1, q2⟩
  · rw [if_neg (by omega : ¬ z1.toInt = 0)]
    unfold tm_Kc
    have h07 := I.2.2.2.1
    have b7 := I.2.2.1.2.2.2.2.2.2.1
    obtain ⟨z, σ8, τ8, a1, a2, x1, x2, x3⟩ := tb_takesL Y H ha ((2147483647 - (0 : Int32).toInt).toNat + 1) ((901 - (τ7.1 a 15).toInt).toNat + (1 - (τ7.1 a 12).toInt).toNat + 1) 0 σ7 τ7 V' r' c' w' t' f9' f10' (by decide) (by omega) (by decide) (by rw [z0]; exact b7) I
    rw [a1, a2]
    exact ⟨z, σ8, τ8, rfl, rfl, ((G0.tr f1.tg).tr u1.tg).tr x1.tg, ((p1.tr p6).tr u2).tr x2, x3⟩
  · have q3 := q2.2.1
    rw [if_pos q1]
    unfold tm_Kc
    obtain ⟨m, hm⟩ : ∃ m, m = (901 - (τ7.1 a 15).toInt).toNat + (1 - (τ7.1 a 12).toInt).toNat := ⟨_, rfl⟩
    rw [← hm, F_X12_table_L145_5_s, tm_B145, if_neg (by omega : ¬ (τ7.1 a 12).toInt = 0)]
    exact ⟨0, σ7, τ7, rfl, rfl, (G0.tr f1.tg).tr u1.tg, (p1.tr p6).tr u2, Or.inr ⟨rfl, q2⟩⟩
end TM
end
/-! FROM 48t.copy.lean.txt -/
section
/-! GAMES COPIED, BLOCKS COPIED -/
def y_in (L : List (Nat × Nat)) (id : Nat) (i : Int) : Prop := ∃ e ∈ L, e.1 = id ∧ (e.2 = 99 ∧ 0 ≤ i ∧ i < (y_gn id : Int) ∨ e.2 ≠ 99 ∧ i = (e.2 : Int))
/-- g1 has taken of g what L names -/
def y_C (X : XW) (lb : Nat → Nat) (g1 o g : Nat) (σ τ : ST) (L : List (Nat × Nat)) : Prop := ∃ V1 : Nat → Int → Int, y_W X lb g1 o σ τ V1 ∧ ∀ id i, y_in L id i → V1 id i = y_v X g σ id i
section YC
variable {X : XW} {lb : Nat → Nat} {g1 g o o' : Nat} {σ τ : ST} {L : List (Nat × Nat)}
theorem y_C.rf : y_C X lb g1 o g σ σ [] := ⟨_, y_W.rf, fun id i h => by obtain ⟨e, he, _⟩ := h; cases he⟩
theorem y_C.si (S : y_S X lb) (G1 : y_G X lb g1 o) (G : y_G X lb g o') (ho : o' ≠ o) (h : y_C X lb g1 o g σ τ L) {id : Nat} (hid : id < 25) (f : Nat) (hf : f ≠ 99) : y_C X lb g1 o g σ (q_si τ (y_gA X g1 id) f (τ.1 (y_gA X g id) f)) ((id, f) :: L) := by
  obtain ⟨V1, W, hd⟩ := h
  have W' := W.si S G1 hid f (τ.1 (y_gA X g id) f)
  have hv : (τ.1 (y_gA X g id) f).toInt = y_v X g σ id (f : Int) := by
    rw [W.1 _ (by rw [y_own S G hid]; exact ho), y_v_rdn hid]
  refine ⟨_, W', fun id' i' hi => ?_⟩
  show (if id' = id ∧ i' = (f : Int) then (τ.1 (y_gA X g id) f).toInt else V1 id' i') = y_v X g σ id' i'
  by_cases q : id' = id ∧ i' = (f : Int)
  · obtain ⟨rfl, rfl⟩ := q
    rw [if_pos ⟨rfl, rfl⟩, hv]
  · rw [if_neg q]
    obtain ⟨e, he, h1, h2⟩ := hi
    rcases List.mem_cons.mp he with he | he
    · subst he
      rcases h2 with ⟨h2, _⟩ | ⟨_, h2⟩
      · exact absurd h2 hf
      · exact absurd ⟨h1.symm, h2⟩ q
    · exact hd id' i' ⟨e, he, h1, h2⟩
theorem y_C.row (S : y_S X lb) (G1 : y_G X lb g1 o) (G : y_G X lb g o') (ho : o' ≠ o) (h : y_C X lb g1 o g σ τ L) {id r r' : Nat} (hid : 4 ≤ id ∧ id < 25) (hr : q_rf X r 0 = y_gA X g1 id) (hr' : q_rf X r' 0 = y_gA X g id) : y_C X lb g1 o g σ (F_X5_copyFrom X τ r r') ((id, 99) :: L) := by
  obtain ⟨V1, W, hd⟩ := h
  have own : lb (y_gA X g id) / 8192 ≠ o := by rw [y_own S G hid.2]; exact ho
  have W' := W.copy S G1 (r' := r') hid hr (by rw [hr']; exact y_ln S G hid) (by rw [hr']; exact y_gA_ne S G1 hid.2 own)
  refine ⟨_, W', fun id' i' hi => ?_⟩
  show (if id' = id ∧ 0 ≤ i' ∧ i' < (y_gn id : Int) then (τ.1 (q_rf X r' 0) i'.toNat).toInt else V1 id' i') = y_v X g σ id' i'
  by_cases q : id' = id ∧ 0 ≤ i' ∧ i' < (y_gn id : Int)
  · obtain ⟨rfl, q0, q1⟩ := q
    rw [if_pos ⟨rfl, q0, q1⟩, hr', W.1 _ own]
    unfold y_v
    rw [if_pos ⟨hid.2, q0⟩]
  · rw [if_neg q]
    obtain ⟨e, he, h1, h2⟩ := hi
    rcases List.mem_cons.mp he with he | he
    · subst he
      rcases h2 with ⟨_, h2⟩ | ⟨h2, _⟩
      · exact absurd ⟨h1.symm, by rw [← h1] at h2; exact h2⟩ q
      · exact absurd rfl h2
    · exact hd id' i' ⟨e, he, h1, h2⟩
def y_all : List (Nat × Nat) := [(0, 7), (0, 6), (0, 5), (0, 4), (22, 99), (21, 99), (20, 99), (19, 99), (18, 99), (3, 2), (3, 1), (3, 0), (17, 99), (16, 99), (15, 99), (14, 99), (2, 1), (2, 0), (13, 99), (12, 99), (11, 99), (10, 99), (9, 99), (8, 99), (7, 99), (6, 99), (5, 99), (4, 99), (1, 4), (1, 3), (1, 2), (1, 1), (1, 0)]
theorem tb_copy (S : y_S X lb) (G1 : y_G X lb g1 o) (G : y_G X lb g o') (ho : o' ≠ o) : y_C X lb g1 o g σ (F_X0_copyFrom X σ g1 g) y_all := by
  have h0 : y_C X lb g1 o g σ σ [] := y_C.rf
  unfold F_X0_copyFrom F_X6_copyFrom F_X1_copyFrom F_X2_copyFrom F_X8_copyFrom
  have h1 := h0.si S G1 G ho (id := 1) (by decide) 0 (by decide)
  rw [q_letE (σ.1 (q_rf X g 0) 0), q_letE (q_si σ (q_rf X g1 0) 0 (σ.1 (q_rf X g 0) 0))]
  obtain ⟨s1, e1⟩ : ∃ s, s = q_si σ (q_rf X g1 0) 0 (σ.1 (q_rf X g 0) 0) := ⟨_, rfl⟩
  have h1' : y_C X lb g1 o g σ (q_si σ (q_rf X g1 0) 0 (σ.1 (q_rf X g 0) 0)) _ := h1
  rw [← e1] at h1' ⊢
  clear h0 h1
  have h1 := h1'
  clear h1' e1
  have h2 := h1.si S G1 G ho (id := 1) (by decide) 1 (by decide)
  rw [q_letE (s1.1 (q_rf X g 0) 1), q_letE (q_si s1 (q_rf X g1 0) 1 (s1.1 (q_rf X g 0) 1))]
  obtain ⟨s2, e2⟩ : ∃ s, s = q_si s1 (q_rf X g1 0) 1 (s1.1 (q_rf X g 0) 1) := ⟨_, rfl⟩
  have h2' : y_C X lb g1 o g σ (q_si s1 (q_rf X g1 0) 1 (s1.1 (q_rf X g 0) 1)) _ := h2
  rw [← e2] at h2' ⊢
  clear h2
  have h2 := h2'
  clear h2' e2
  have h3 := h2.si S G1 G ho (id := 1) (by decide) 2 (by decide)
  rw [q_letE (s2.1 (q_rf X g 0) 2), q_letE (q_si s2 (q_rf X g1 0) 2 (s2.1 (q_rf X g 0) 2))]
  obtain ⟨s3, e3⟩ : ∃ s, s = q_si s2 (q_rf X g1 0) 2 (s2.1 (q_rf X g 0) 2) := ⟨_, rfl⟩
  have h3' : y_C X lb g1 o g σ (q_si s2 (q_rf X g1 0) 2 (s2.1 (q_rf X g 0) 2)) _ := h3
  rw [← e3] at h3' ⊢
  clear h3
  have h3 := h3'
  clear h3' e3
  have h4 := h3.si S G1 G ho (id := 1) (by decide) 3 (by decide)
  rw [q_letE (s3.1 (q_rf X g 0) 3), q_letE (q_si s3 (q_rf X g1 0) 3 (s3.1 (q_rf X g 0) 3))]
  obtain ⟨s4, e4⟩ : ∃ s, s = q_si s3 (q_rf X g1 0) 3 (s3.1 (q_rf X g 0) 3) := ⟨_, rfl⟩
  have h4' : y_C X lb g1 o g σ (q_si s3 (q_rf X g1 0) 3 (s3.1 (q_rf X g 0) 3)) _ := h4
  rw [← e4] at h4' ⊢
  clear h4
  have h4 := h4'
  clear h4' e4
  have h5 := h4.si S G1 G ho (id := 1) (by decide) 4 (by decide)
  rw [q_letE (s4.1 (q_rf X g 0) 4), q_letE (q_si s4 (q_rf X g1 0) 4 (s4.1 (q_rf X g 0) 4))]
  obtain ⟨s5, e5⟩ : ∃ s, s = q_si s4 (q_rf X g1 0) 4 (s4.1 (q_rf X g 0) 4) := ⟨_, rfl⟩
  have h5' : y_C X lb g1 o g σ (q_si s4 (q_rf X g1 0) 4 (s4.1 (q_rf X g 0) 4)) _ := h5
  rw [← e5] at h5' ⊢
  clear h5
  have h5 := h5'
  clear h5' e5
  have h6 := h5.row S G1 G ho (id := 4) (r := q_rf X (q_rf X g1 0) 5) (r' := q_rf X (q_rf X g 0) 5) ⟨by decide, by decide⟩ rfl rfl
  rw [q_letE (F_X5_copyFrom X s5 (q_rf X (q_rf X g1 0) 5) (q_rf X (q_rf X g 0) 5))]
  obtain ⟨s6, e6⟩ : ∃ s, s = F_X5_copyFrom X s5 (q_rf X (q_rf X g1 0) 5) (q_rf X (q_rf X g 0) 5) := ⟨_, rfl⟩
  have h6' : y_C X lb g1 o g σ (F_X5_copyFrom X s5 (q_rf X (q_rf X g1 0) 5) (q_rf X (q_rf X g 0) 5)) _ := h6
  rw [← e6] at h6' ⊢
  clear h6
  have h6 := h6'
  clear h6' e6
  have h7 := h6.row S G1 G ho (id := 5) (r := q_rf X (q_rf X g1 0) 6) (r' := q_rf X (q_rf X g 0) 6) ⟨by decide, by decide⟩ rfl rfl
  rw [q_letE (F_X5_copyFrom X s6 (q_rf X (q_rf X g1 0) 6) (q_rf X (q_rf X g 0) 6))]
  obtain ⟨s7, e7⟩ : ∃ s, s = F_X5_copyFrom X s6 (q_rf X (q_rf X g1 0) 6) (q_rf X (q_rf X g 0) 6) := ⟨_, rfl⟩
  have h7' : y_C X lb g1 o g σ (F_X5_copyFrom X s6 (q_rf X (q_rf X g1 0) 6) (q_rf X (q_rf X g 0) 6)) _ := h7
  rw [← e7] at h7' ⊢
  clear h7
  have h7 := h7'
  clear h7' e7
  have h8 := h7.row S G1 G ho (id := 6) (r := q_rf X (q_rf X g1 0) 7) (r' := q_rf X (q_rf X g 0) 7) ⟨by decide, by decide⟩ rfl rfl
  rw [q_letE (F_X5_copyFrom X s7 (q_rf X (q_rf X g1 0) 7) (q_rf X (q_rf X g 0) 7))]
  obtain ⟨s8, e8⟩ : ∃ s, s = F_X5_copyFrom X s7 (q_rf X (q_rf X g1 0) 7) (q_rf X (q_rf X g 0) 7) := ⟨_, rfl⟩
  have h8' : y_C X lb g1 o g σ (F_X5_copyFrom X s7 (q_rf X (q_rf X g1 0) 7) (q_rf X (q_rf X g 0) 7)) _ := h8
  rw [← e8] at h8' ⊢
  clear h8
  have h8 := h8'
  clear h8' e8
  rw [q_letE s8]
  have h9 := h8.row S G1 G ho (id := 7) (r := q_rf X (q_rf X g1 1) 0) (r' := q_rf X (q_rf X g 1) 0) ⟨by decide, by decide⟩ rfl rfl
  rw [q_letE (F_X5_copyFrom X s8 (q_rf X (q_rf X g1 1) 0) (q_rf X (q_rf X g 1) 0))]
  obtain ⟨s9, e9⟩ : ∃ s, s = F_X5_copyFrom X s8 (q_rf X (q_rf X g1 1) 0) (q_rf X (q_rf X g 1) 0) := ⟨_, rfl⟩
  have h9' : y_C X lb g1 o g σ (F_X5_copyFrom X s8 (q_rf X (q_rf X g1 1) 0) (q_rf X (q_rf X g 1) 0)) _ := h9
  rw [← e9] at h9' ⊢
  clear h9
  have h9 := h9'
  clear h9' e9
  have h10 := h9.row S G1 G ho (id := 8) (r := q_rf X (q_rf X g1 1) 1) (r' := q_rf X (q_rf X g 1) 1) ⟨by decide, by decide⟩ rfl rfl
  rw [q_letE (F_X5_copyFrom X s9 (q_rf X (q_rf X g1 1) 1) (q_rf X (q_rf X g 1) 1))]
  obtain ⟨s10, e10⟩ : ∃ s, s = F_X5_copyFrom X s9 (q_rf X (q_rf X g1 1) 1) (q_rf X (q_rf X g 1) 1) := ⟨_, rfl⟩
  have h10' : y_C X lb g1 o g σ (F_X5_copyFrom X s9 (q_rf X (q_rf X g1 1) 1) (q_rf X (q_rf X g 1) 1)) _ := h10
  rw [← e10] at h10' ⊢
  clear h10
  have h10 := h10'
  clear h10' e10
  have h11 := h10.row S G1 G ho (id := 9) (r := q_rf X (q_rf X g1 1) 2) (r' := q_rf X (q_rf X g 1) 2) ⟨by decide, by decide⟩ rfl rfl
  rw [q_letE (F_X5_copyFrom X s10 (q_rf X (q_rf X g1 1) 2) (q_rf X (q_rf X g 1) 2))]
  obtain ⟨s11, e11⟩ : ∃ s, s = F_X5_copyFrom X s10 (q_rf X (q_rf X g1 1) 2) (q_rf X (q_rf X g 1) 2) := ⟨_, rfl⟩
  have h11' : y_C X lb g1 o g σ (F_X5_copyFrom X s10 (q_rf X (q_rf X g1 1) 2) (q_rf X (q_rf X g 1) 2)) _ := h11
  rw [← e11] at h11' ⊢
  clear h11
  have h11 := h11'
  clear h11' e11
  have h12 := h11.row S G1 G ho (id := 10) (r := q_rf X (q_rf X g1 1) 3) (r' := q_rf X (q_rf X g 1) 3) ⟨by decide, by decide⟩ rfl rfl
  rw [q_letE (F_X5_copyFrom X s11 (q_rf X (q_rf X g1 1) 3) (q_rf X (q_rf X g 1) 3))]
  obtain ⟨s12, e12⟩ : ∃ s, s = F_X5_copyFrom X s11 (q_rf X (q_rf X g1 1) 3) (q_rf X (q_rf X g 1) 3) := ⟨_, rfl⟩
  have h12' : y_C X lb g1 o g σ (F_X5_copyFrom X s11 (q_rf X (q_rf X g1 1) 3) (q_rf X (q_rf X g 1) 3)) _ := h12
  rw [← e12] at h12' ⊢
  clear h12
  have h12 := h12'
  clear h12' e12
  have h13 := h12.row S G1 G ho (id := 11) (r := q_rf X (q_rf X g1 1) 4) (r' := q_rf X (q_rf X g 1) 4) ⟨by decide, by decide⟩ rfl rfl
  rw [q_letE (F_X5_copyFrom X s12 (q_rf X (q_rf X g1 1) 4) (q_rf X (q_rf X g 1) 4))]
  obtain ⟨s13, e13⟩ : ∃ s, s = F_X5_copyFrom X s12 (q_rf X (q_rf X g1 1) 4) (q_rf X (q_rf X g 1) 4) := ⟨_, rfl⟩
  have h13' : y_C X lb g1 o g σ (F_X5_copyFrom X s12 (q_rf X (q_rf X g1 1) 4) (q_rf X (q_rf X g 1) 4)) _ := h13
  rw [← e13] at h13' ⊢
  clear h13
  have h13 := h13'
  clear h13' e13
  have h14 := h13.row S G1 G ho (id := 12) (r := q_rf X (q_rf X g1 1) 5) (r' := q_rf X (q_rf X g 1) 5) ⟨by decide, by decide⟩ rfl rfl
  rw [q_letE (F_X5_copyFrom X s13 (q_rf X (q_rf X g1 1) 5) (q_rf X (q_rf X g 1) 5))]
  obtain ⟨s14, e14⟩ : ∃ s, s = F_X5_copyFrom X s13 (q_rf X (q_rf X g1 1) 5) (q_rf X (q_rf X g 1) 5) := ⟨_, rfl⟩
  have h14' : y_C X lb g1 o g σ (F_X5_copyFrom X s13 (q_rf X (q_rf X g1 1) 5) (q_rf X (q_rf X g 1) 5)) _ := h14
  rw [← e14] at h14' ⊢
  clear h14
  have h14 := h14'
  clear h14' e14
  have h15 := h14.row S G1 G ho (id := 13) (r := q_rf X (q_rf X g1 1) 6) (r' := q_rf X (q_rf X g 1) 6) ⟨by decide, by decide⟩ rfl rfl
  rw [q_letE (F_X5_copyFrom X s14 (q_rf X (q_rf X g1 1) 6) (q_rf X (q_rf X g 1) 6))]
  obtain ⟨s15, e15⟩ : ∃ s, s = F_X5_copyFrom X s14 (q_rf X (q_rf X g1 1) 6) (q_rf X (q_rf X g 1) 6) := ⟨_, rfl⟩
  have h15' : y_C X lb g1 o g σ (F_X5_copyFrom X s14 (q_rf X (q_rf X g1 1) 6) (q_rf X (q_rf X g 1) 6)) _ := h15
  rw [← e15] at h15' ⊢
  clear h15
  have h15 := h15'
  clear h15' e15
  rw [q_letE s15]
  have h16 := h15.si S G1 G ho (id := 2) (by decide) 0 (by decide)
  rw [q_letE (s15.1 (q_rf X g 2) 0), q_letE (q_si s15 (q_rf X g1 2) 0 (s15.1 (q_rf X g 2) 0))]
  obtain ⟨s16, e16⟩ : ∃ s, s = q_si s15 (q_rf X g1 2) 0 (s15.1 (q_rf X g 2) 0) := ⟨_, rfl⟩
  have h16' : y_C X lb g1 o g σ (q_si s15 (q_rf X g1 2) 0 (s15.1 (q_rf X g 2) 0)) _ := h16
  rw [← e16] at h16' ⊢
  clear h16
  have h16 := h16'
  clear h16' e16
  have h17 := h16.si S G1 G ho (id := 2) (by decide) 1 (by decide)
  rw [q_letE (s16.1 (q_rf X g 2) 1), q_letE (q_si s16 (q_rf X g1 2) 1 (s16.1 (q_rf X g 2) 1))]
  obtain ⟨s17, e17⟩ : ∃ s, s = q_si s16 (q_rf X g1 2) 1 (s16.1 (q_rf X g 2) 1) := ⟨_, rfl⟩
  have h17' : y_C X lb g1 o g σ (q_si s16 (q_rf X g1 2) 1 (s16.1 (q_rf X g 2) 1)) _ := h17
  rw [← e17] at h17' ⊢
  clear h17
  have h17 := h17'
  clear h17' e17
  have h18 := h17.row S G1 G ho (id := 14) (r := q_rf X (q_rf X g1 2) 2) (r' := q_rf X (q_rf X g 2) 2) ⟨by decide, by decide⟩ rfl rfl
  rw [q_letE (F_X5_copyFrom X s17 (q_rf X (q_rf X g1 2) 2) (q_rf X (q_rf X g 2) 2))]
  obtain ⟨s18, e18⟩ : ∃ s, s = F_X5_copyFrom X s17 (q_rf X (q_rf X g1 2) 2) (q_rf X (q_rf X g 2) 2) := ⟨_, rfl⟩
  have h18' : y_C X lb g1 o g σ (F_X5_copyFrom X s17 (q_rf X (q_rf X g1 2) 2) (q_rf X (q_rf X g 2) 2)) _ := h18
  rw [← e18] at h18' ⊢
  clear h18
  have h18 := h18'
  clear h18' e18
  have h19 := h18.row S G1 G ho (id := 15) (r := q_rf X (q_rf X g1 2) 3) (r' := q_rf X (q_rf X g 2) 3) ⟨by decide, by decide⟩ rfl rfl
  rw [q_letE (F_X5_copyFrom X s18 (q_rf X (q_rf X g1 2) 3) (q_rf X (q_rf X g 2) 3))]
  obtain ⟨s19, e19⟩ : ∃ s, s = F_X5_copyFrom X s18 (q_rf X (q_rf X g1 2) 3) (q_rf X (q_rf X g 2) 3) := ⟨_, rfl⟩
  have h19' : y_C X lb g1 o g σ (F_X5_copyFrom X s18 (q_rf X (q_rf X g1 2) 3) (q_rf X (q_rf X g 2) 3)) _ := h19
  rw [← e19] at h19' ⊢
  clear h19
  have h19 := h19'
  clear h19' e19
  have h20 := h19.row S G1 G ho (id := 16) (r := q_rf X (q_rf X g1 2) 4) (r' := q_rf X (q_rf X g 2) 4) ⟨by decide, by decide⟩ rfl rfl
  rw [q_letE (F_X5_copyFrom X s19 (q_rf X (q_rf X g1 2) 4) (q_rf X (q_rf X g 2) 4))]
  obtain ⟨s20, e20⟩ : ∃ s, s = F_X5_copyFrom X s19 (q_rf X (q_rf X g1 2) 4) (q_rf X (q_rf X g 2) 4) := ⟨_, rfl⟩
  have h20' : y_C X lb g1 o g σ (F_X5_copyFrom X s19 (q_rf X (q_rf X g1 2) 4) (q_rf X (q_rf X g 2) 4)) _ := h20
  rw [← e20] at h20' ⊢
  clear h20
  have h20 := h20'
  clear h20' e20
  have h21 := h20.row S G1 G ho (id := 17) (r := q_rf X (q_rf X g1 2) 5) (r' := q_rf X (q_rf X g 2) 5) ⟨by decide, by decide⟩ rfl rfl
  rw [q_letE (F_X5_copyFrom X s20 (q_rf X (q_rf X g1 2) 5) (q_rf X (q_rf X g 2) 5))]
  obtain ⟨s21, e21⟩ : ∃ s, s = F_X5_copyFrom X s20 (q_rf X (q_rf X g1 2) 5) (q_rf X (q_rf X g 2) 5) := ⟨_, rfl⟩
  have h21' : y_C X lb g1 o g σ (F_X5_copyFrom X s20 (q_rf X (q_rf X g1 2) 5) (q_rf X (q_rf X g 2) 5)) _ := h21
  rw [← e21] at h21' ⊢
  clear h21
  have h21 := h21'
  clear h21' e21
  rw [q_letE s21]
  have h22 := h21.si S G1 G ho (id := 3) (by decide) 0 (by decide)
  rw [q_letE (s21.1 (q_rf X g 3) 0), q_letE (q_si s21 (q_rf X g1 3) 0 (s21.1 (q_rf X g 3) 0))]
  obtain ⟨s22, e22⟩ : ∃ s, s = q_si s21 (q_rf X g1 3) 0 (s21.1 (q_rf X g 3) 0) := ⟨_, rfl⟩
  have h22' : y_C X lb g1 o g σ (q_si s21 (q_rf X g1 3) 0 (s21.1 (q_rf X g 3) 0)) _ := h22
  rw [← e22] at h22' ⊢
  clear h22
  have h22 := h22'
  clear h22' e22
  have h23 := h22.si S G1 G ho (id := 3) (by decide) 1 (by decide)
  rw [q_letE (s22.1 (q_rf X g 3) 1), q_letE (q_si s22 (q_rf X g1 3) 1 (s22.1 (q_rf X g 3) 1))]
  obtain ⟨s23, e23⟩ : ∃ s, s = q_si s22 (q_rf X g1 3) 1 (s22.1 (q_rf X g 3) 1) := ⟨_, rfl⟩
  have h23' : y_C X lb g1 o g σ (q_si s22 (q_rf X g1 3) 1 (s22.1 (q_rf X g 3) 1)) _ := h23
  rw [← e23] at h23' ⊢
  clear h23
  have h23 := h23'
  clear h23' e23
  have h24 := h23.si S G1 G ho (id := 3) (by decide) 2 (by decide)
  rw [q_letE (s23.1 (q_rf X g 3) 2), q_letE (q_si s23 (q_rf X g1 3) 2 (s23.1 (q_rf X g 3) 2))]
  obtain ⟨s24, e24⟩ : ∃ s, s = q_si s23 (q_rf X g1 3) 2 (s23.1 (q_rf X g 3) 2) := ⟨_, rfl⟩
  have h24' : y_C X lb g1 o g σ (q_si s23 (q_rf X g1 3) 2 (s23.1 (q_rf X g 3) 2)) _ := h24
  rw [← e24] at h24' ⊢
  clear h24
  have h24 := h24'
  clear h24' e24
  have h25 := h24.row S G1 G ho (id := 18) (r := q_rf X (q_rf X g1 3) 3) (r' := q_rf X (q_rf X g 3) 3) ⟨by decide, by decide⟩ rfl rfl
  rw [q_letE (F_X5_copyFrom X s24 (q_rf X (q_rf X g1 3) 3) (q_rf X (q_rf X g 3) 3))]
  obtain ⟨s25, e25⟩ : ∃ s, s = F_X5_copyFrom X s24 (q_rf X (q_rf X g1 3) 3) (q_rf X (q_rf X g 3) 3) := ⟨_, rfl⟩
  have h25' : y_C X lb g1 o g σ (F_X5_copyFrom X s24 (q_rf X (q_rf X g1 3) 3) (q_rf X (q_rf X g 3) 3)) _ := h25
  rw [← e25] at h25' ⊢
  clear h25
  have h25 := h25'
  clear h25' e25
  have h26 := h25.row S G1 G ho (id := 19) (r := q_rf X (q_rf X g1 3) 4) (r' := q_rf X (q_rf X g 3) 4) ⟨by decide, by decide⟩ rfl rfl
  rw [q_letE (F_X5_copyFrom X s25 (q_rf X (q_rf X g1 3) 4) (q_rf X (q_rf X g 3) 4))]
  obtain ⟨s26, e26⟩ : ∃ s, s = F_X5_copyFrom X s25 (q_rf X (q_rf X g1 3) 4) (q_rf X (q_rf X g 3) 4) := ⟨_, rfl⟩
  have h26' : y_C X lb g1 o g σ (F_X5_copyFrom X s25 (q_rf X (q_rf X g1 3) 4) (q_rf X (q_rf X g 3) 4)) _ := h26
  rw [← e26] at h26' ⊢
  clear h26
  have h26 := h26'
  clear h26' e26
  have h27 := h26.row S G1 G ho (id := 20) (r := q_rf X (q_rf X g1 3) 5) (r' := q_rf X (q_rf X g 3) 5) ⟨by decide, by decide⟩ rfl rfl
  rw [q_letE (F_X5_copyFrom X s26 (q_rf X (q_rf X g1 3) 5) (q_rf X (q_rf X g 3) 5))]
  obtain ⟨s27, e27⟩ : ∃ s, s = F_X5_copyFrom X s26 (q_rf X (q_rf X g1 3) 5) (q_rf X (q_rf X g 3) 5) := ⟨_, rfl⟩
  have h27' : y_C X lb g1 o g σ (F_X5_copyFrom X s26 (q_rf X (q_rf X g1 3) 5) (q_rf X (q_rf X g 3) 5)) _ := h27
  rw [← e27] at h27' ⊢
  clear h27
  have h27 := h27'
  clear h27' e27
  have h28 := h27.row S G1 G ho (id := 21) (r := q_rf X (q_rf X g1 3) 6) (r' := q_rf X (q_rf X g 3) 6) ⟨by decide, by decide⟩ rfl rfl
  rw [q_letE (F_X5_copyFrom X s27 (q_rf X (q_rf X g1 3) 6) (q_rf X (q_rf X g 3) 6))]
  obtain ⟨s28, e28⟩ : ∃ s, s = F_X5_copyFrom X s27 (q_rf X (q_rf X g1 3) 6) (q_rf X (q_rf X g 3) 6) := ⟨_, rfl⟩
  have h28' : y_C X lb g1 o g σ (F_X5_copyFrom X s27 (q_rf X (q_rf X g1 3) 6) (q_rf X (q_rf X g 3) 6)) _ := h28
  rw [← e28] at h28' ⊢
  clear h28
  have h28 := h28'
  clear h28' e28
  have h29 := h28.row S G1 G ho (id := 22) (r := q_rf X (q_rf X g1 3) 7) (r' := q_rf X (q_rf X g 3) 7) ⟨by decide, by decide⟩ rfl rfl
  rw [q_letE (F_X5_copyFrom X s28 (q_rf X (q_rf X g1 3) 7) (q_rf X (q_rf X g 3) 7))]
  obtain ⟨s29, e29⟩ : ∃ s, s = F_X5_copyFrom X s28 (q_rf X (q_rf X g1 3) 7) (q_rf X (q_rf X g 3) 7) := ⟨_, rfl⟩
  have h29' : y_C X lb g1 o g σ (F_X5_copyFrom X s28 (q_rf X (q_rf X g1 3) 7) (q_rf X (q_rf X g 3) 7)) _ := h29
  rw [← e29] at h29' ⊢
  clear h29
  have h29 := h29'
  clear h29' e29
  rw [q_letE s29]
  have h30 := h29.si S G1 G ho (id := 0) (by decide) 4 (by decide)
  rw [q_letE (s29.1 (g) 4), q_letE (q_si s29 (g1) 4 (s29.1 (g) 4))]
  obtain ⟨s30, e30⟩ : ∃ s, s = q_si s29 (g1) 4 (s29.1 (g) 4) := ⟨_, rfl⟩
  have h30' : y_C X lb g1 o g σ (q_si s29 (g1) 4 (s29.1 (g) 4)) _ := h30
  rw [← e30] at h30' ⊢
  clear h30
  have h30 := h30'
  clear h30' e30
  have h31 := h30.si S G1 G ho (id := 0) (by decide) 5 (by decide)
  rw [q_letE (s30.1 (g) 5), q_letE (q_si s30 (g1) 5 (s30.1 (g) 5))]
  obtain ⟨s31, e31⟩ : ∃ s, s = q_si s30 (g1) 5 (s30.1 (g) 5) := ⟨_, rfl⟩
  have h31' : y_C X lb g1 o g σ (q_si s30 (g1) 5 (s30.1 (g) 5)) _ := h31
  rw [← e31] at h31' ⊢
  clear h31
  have h31 := h31'
  clear h31' e31
  have h32 := h31.si S G1 G ho (id := 0) (by decide) 6 (by decide)
  rw [q_letE (s31.1 (g) 6), q_letE (q_si s31 (g1) 6 (s31.1 (g) 6))]
  obtain ⟨s32, e32⟩ : ∃ s, s = q_si s31 (g1) 6 (s31.1 (g) 6) := ⟨_, rfl⟩
  have h32' : y_C X lb g1 o g σ (q_si s31 (g1) 6 (s31.1 (g) 6)) _ := h32
  rw [← e32] at h32' ⊢
  clear h32
  have h32 := h32'
  clear h32' e32
  have h33 := h32.si S G1 G ho (id := 0) (by decide) 7 (by decide)
  rw [q_letE (s32.1 (g) 7), q_letE (q_si s32 (g1) 7 (s32.1 (g) 7))]
  obtain ⟨s33, e33⟩ : ∃ s, s = q_si s32 (g1) 7 (s32.1 (g) 7) := ⟨_, rfl⟩
  have h33' : y_C X lb g1 o g σ (q_si s32 (g1) 7 (s32.1 (g) 7)) _ := h33
  rw [← e33] at h33' ⊢
  clear h33
  have h33 := h33'
  clear h33' e33
  exact h33
end YC
section YB
variable {X : XW} {a : Nat} {τ τ0 : ST}
/-- block s to block d -/
theorem tm_copyW {v1 v2 : Int32} {s d : Int} (hv1 : v1.toInt = s) (hv2 : v2.toInt = d) (hs : 0 ≤ s ∧ s ≤ 4) (hd : 0 ≤ d ∧ d ≤ 4) (hsd : s ≠ d) (k : Nat) : ∀ (x : Int32) (τ : ST), (2147483647 - x.toInt).toNat < k → 0 ≤ x.toInt → x.toInt ≤ 6 → tkl (fun _ _ => False) (fun b _ => b = q_rf X a 23) τ0 τ → (∀ j : Int, 0 ≤ j → m_wd X τ a j = if 6 * d ≤ j ∧ j < 6 * d + x.toInt then m_wd X τ0 a (6 * s + (j - 6 * d)) else m_wd X τ0 a j) →
    tkl (fun _ _ => False) (fun b _ => b = q_rf X a 23) τ0 (F_X12_copy_L41_3 X v2 v1 a k x τ) ∧ ∀ j : Int, 0 ≤ j → m_wd X (F_X12_copy_L41_3 X v2 v1 a k x τ) a j = if 6 * d ≤ j ∧ j < 6 * d + 6 then m_wd X τ0 a (6 * s + (j - 6 * d)) else m_wd X τ0 a j := by
  induction k with
  | zero => intro x τ hm; exact absurd hm (Nat.not_lt_zero _)
  | succ k ih =>
    intro x τ hm h0 h1 ht hz
    have hb := ar_bd x
    have e6 : (6 : Int32).toInt = 6 := rfl
    rw [F_X12_copy_L41_3_s]
    unfold F_X12_copy_B41_3
    by_cases q : x.toInt < 6
    · rw [if_pos q, q_letE, q_letE, q_letE, q_letE, q_letE, q_letE, q_letE]
      have e : (x + 1).toInt = x.toInt + 1 := y_inc (by omega)
      have id_ : ((6 : Int32) * v2 + x).toInt = 6 * d + x.toInt := by rw [ar_add, ar_mul, e6, hv2, ar_wr (n := 6 * d) (by omega) (by omega), ar_wr (by omega) (by omega)]
      have is_ : ((6 : Int32) * v1 + x).toInt = 6 * s + x.toInt := by rw [ar_add, ar_mul, e6, hv1, ar_wr (n := 6 * s) (by omega) (by omega), ar_wr (by omega) (by omega)]
      have hg : (τ.2.1 (q_rf X a 23) ((6 : Int32) * v1 + x).toNatClampNeg).toInt = m_wd X τ0 a (6 * s + x.toInt) := by
        have z := hz (6 * s + x.toInt) (by omega)
        rw [if_neg (by omega)] at z
        rw [← z]
        unfold m_wd
        rw [ar_cl, is_]
      refine ih (x + 1) _ (by omega) (by omega) (by omega) (ht.sl _ rfl) (fun j j0 => ?_)
      rw [e]
      show (if q_rf X a 23 = q_rf X a 23 ∧ j.toNat = ((6 : Int32) * v2 + x).toNatClampNeg then τ.2.1 (q_rf X a 23) ((6 : Int32) * v1 + x).toNatClampNeg else τ.2.1 (q_rf X a 23) j.toNat).toInt = _
      by_cases q2 : j = 6 * d + x.toInt
      · rw [if_pos ⟨rfl, by rw [ar_cl, id_, q2]⟩, hg, if_pos ⟨by omega, by omega⟩]
        congr 1
        omega
      · rw [if_neg (fun z => q2 (by have := z.2; rw [ar_cl, id_] at this; omega))]
        have z := hz j j0
        unfold m_wd at z ⊢
        rw [z]
        by_cases q3 : 6 * d ≤ j ∧ j < 6 * d + x.toInt
        · rw [if_pos q3, if_pos ⟨q3.1, by omega⟩]
        · rw [if_neg q3, if_neg (fun z => q3 ⟨z.1, by omega⟩)]
    · rw [if_neg q]
      refine ⟨ht, fun j j0 => ?_⟩
      rw [hz j j0]
      have ex : x.toInt = 6 := by omega
      rw [ex]
theorem tm_copyL {v1 v2 : Int32} {s d : Int} (hv1 : v1.toInt = s) (hv2 : v2.toInt = d) (hs : 0 ≤ s ∧ s ≤ 4) (hd : 0 ≤ d ∧ d ≤ 4) (hsd : s ≠ d) (k : Nat) : ∀ (x : Int32) (τ : ST), (2147483647 - x.toInt).toNat < k → 0 ≤ x.toInt → x.toInt ≤ 930 → tkl (fun b _ => b = q_rf X a 20) (fun _ _ => False) τ0 τ → (∀ j : Int, 0 ≤ j → m_c X τ a j = if 930 * d ≤ j ∧ j < 930 * d + x.toInt then m_c X τ0 a (930 * s + (j - 930 * d)) else m_c X τ0 a j) →
    ∃ τ' : ST, F_X12_copy_L2_1 X v2 v1 a k x τ = F_X12_copy_L41_3 X v2 v1 a ((2147483647 - (0 : Int32).toInt).toNat + 1) (0 : Int32) τ' ∧ tkl (fun b _ => b = q_rf X a 20) (fun _ _ => False) τ0 τ' ∧ ∀ j : Int, 0 ≤ j → m_c X τ' a j = if 930 * d ≤ j ∧ j < 930 * d + 930 then m_c X τ0 a (930 * s + (j - 930 * d)) else m_c X τ0 a j := by
  induction k with
  | zero => intro x τ hm; exact absurd hm (Nat.not_lt_zero _)
  | succ k ih =>
    intro x τ hm h0 h1 ht hz
    have hb := ar_bd x
    have e6 : (930 : Int32).toInt = 930 := rfl
    rw [F_X12_copy_L2_1_s]
    unfold F_X12_copy_B2_1
    by_cases q : x.toInt < 930
    · rw [if_pos q, q_letE, q_letE, q_letE, q_letE, q_letE, q_letE, q_letE]
      have e : (x + 1).toInt = x.toInt + 1 := y_inc (by omega)
      have id_ : ((930 : Int32) * v2 + x).toInt = 930 * d + x.toInt := by rw [ar_add, ar_mul, e6, hv2, ar_wr (n := 930 * d) (by omega) (by omega), ar_wr (by omega) (by omega)]
      have is_ : ((930 : Int32) * v1 + x).toInt = 930 * s + x.toInt := by rw [ar_add, ar_mul, e6, hv1, ar_wr (n := 930 * s) (by omega) (by omega), ar_wr (by omega) (by omega)]
      have hg : (τ.1 (q_rf X a 20) ((930 : Int32) * v1 + x).toNatClampNeg).toInt = m_c X τ0 a (930 * s + x.toInt) := by
        have z := hz (930 * s + x.toInt) (by omega)
        rw [if_neg (by omega)] at z
        rw [← z]
        exact m_rd (X := X) rfl is_
      refine ih (x + 1) _ (by omega) (by omega) (by omega) (ht.si _ rfl) (fun j j0 => ?_)
      rw [e, m_wr (X := X) (a := a) rfl id_ (by omega) j j0]
      by_cases q2 : j = 930 * d + x.toInt
      · rw [if_pos q2, hg, if_pos ⟨by omega, by omega⟩]
        congr 1
        omega
      · rw [if_neg q2, hz j j0]
        by_cases q3 : 930 * d ≤ j ∧ j < 930 * d + x.toInt
        · rw [if_pos q3, if_pos ⟨q3.1, by omega⟩]
        · rw [if_neg q3, if_neg (fun z => q3 ⟨z.1, by omega⟩)]
    · rw [if_neg q]
      refine ⟨τ, rfl, ht, fun j j0 => ?_⟩
      rw [hz j j0]
      have ex : x.toInt = 930 := by omega
      rw [ex]
theorem tm_copy (hT : q_T X) (ha : q_kd X a = 12) {v1 v2 : Int32} {s d : Int} (hv1 : v1.toInt = s) (hv2 : v2.toInt = d) (hs : 0 ≤ s ∧ s ≤ 4) (hd : 0 ≤ d ∧ d ≤ 4) (hsd : s ≠ d) : tkl (fun b _ => b = q_rf X a 20) (fun b _ => b = q_rf X a 23) τ (F_X12_copy X τ a v1 v2) ∧ (∀ j : Int, 0 ≤ j → m_c X (F_X12_copy X τ a v1 v2) a j = if 930 * d ≤ j ∧ j < 930 * d + 930 then m_c X τ a (930 * s + (j - 930 * d)) else m_c X τ a j) ∧ ∀ j : Int, 0 ≤ j → m_wd X (F_X12_copy X τ a v1 v2) a j = if 6 * d ≤ j ∧ j < 6 * d + 6 then m_wd X τ a (6 * s + (j - 6 * d)) else m_wd X τ a j := by
  have z0 : (0 : Int32).toInt = 0 := rfl
  unfold F_X12_copy
  obtain ⟨τ1, e1, t1, c1⟩ := tm_copyL (X := X) (a := a) (τ0 := τ) hv1 hv2 hs hd hsd ((2147483647 - (0 : Int32).toInt).toNat + 1) 0 τ (by decide) (by decide) (by decide) tkl.rf (fun j j0 => by rw [if_neg (by omega)])
  rw [e1]
  have zz := tm_copyW (X := X) (a := a) (τ0 := τ1) hv1 hv2 hs hd hsd ((2147483647 - (0 : Int32).toInt).toNat + 1) 0 τ1 (by decide) (by decide) (by decide) tkl.rf (fun j j0 => by rw [if_neg (by omega)])
  obtain ⟨t2, w2⟩ := zz
  refine ⟨(t1.mono (fun _ _ h => h) (fun _ _ h => h.elim)).tr (t2.mono (fun _ _ h => h.elim) (fun _ _ h => h)), fun j j0 => ?_, fun j j0 => ?_⟩
  · rw [← c1 j j0]
    exact congrArg Int32.toInt (t2.1 _ _ (fun q => q))
  · have mw : ∀ i : Int, m_wd X τ1 a i = m_wd X τ a i := fun i => congrArg Int64.toInt (t1.2.1 _ _ (fun q => q))
    rw [w2 j j0, mw, mw]
/-- the reference's table ends with a fault -/
theorem tm_end0 (h : 0 < (τ.1 a 12).toInt) : ∃ τ' : ST, F_X12_table_E232_6 X τ a = (-1, τ') ∧ τ'.1 a 10 = τ.1 a 12 ∧ τ'.1 a 11 = τ.1 a 13 ∧ (τ'.1 a 0).toInt = 10 ∧ tkl (fun b f => b = a ∧ (f = 0 ∨ f = 10 ∨ f = 11)) (fun _ _ => False) τ τ' := by
  have e12 : (q_si τ a 10 (τ.1 a 12)).1 a 12 = τ.1 a 12 := si_f (by decide) a
  have e12' : (q_si (q_si τ a 10 (τ.1 a 12)) a 11 ((q_si τ a 10 (τ.1 a 12)).1 a 13)).1 a 12 = τ.1 a 12 := (si_f (by decide) a).trans e12
  unfold F_X12_table_E232_6 F_X12_isWell F_X12_no
  rw [q_letE (τ.1 a 12), q_letE (q_si τ a 10 (τ.1 a 12)), q_letE ((q_si τ a 10 (τ.1 a 12)).1 a 12), e12, if_neg (by omega), q_letE, q_letE, q_letE, e12', if_neg (by omega), q_letE, q_biP (0 : Int32) (q_si (q_si (q_si τ a 10 (τ.1 a 12)) a 11 ((q_si τ a 10 (τ.1 a 12)).1 a 13)) a 0 10), if_pos (by decide : (0 : Int32).toInt = 0), q_biP (0 : Int32), if_pos (by decide : (0 : Int32).toInt = 0)]
  refine ⟨_, rfl, ?_, ?_, ?_, ?_⟩
  · rw [si_f (by decide), si_f (by decide), si_eq]
  · rw [si_f (by decide), si_eq, si_f (by decide)]
  · rw [si_eq]
    rfl
  · exact ((tkl.rf.si _ ⟨rfl, Or.inr (Or.inl rfl)⟩).si _ ⟨rfl, Or.inr (Or.inr rfl)⟩).si _ ⟨rfl, Or.inl rfl⟩
/-- what the new block has at last -/
def m_fin (c : Int → Int) : Int → Int := m_up (m_up c 3728 (-1)) 3726 (if c 3722 = 0 then -1 else 0)
theorem tm_end1 (hT : q_T X) (ha : q_kd X a = 12) (h : (τ.1 a 12).toInt = 0) : ∃ (z : Int32) (τ' : ST), F_X12_table_E232_6 X τ a = (z, τ') ∧ z.toInt = m_c X τ a 3722 ∧ (τ'.1 a 10).toInt = 0 ∧ (τ'.1 a 11).toInt = -1 ∧ tkl (fun b f => b = q_rf X a 20 ∨ b = a ∧ (f = 10 ∨ f = 11)) (fun b _ => b = q_rf X a 23) τ τ' ∧
    (∀ j : Int, 0 ≤ j → m_c X τ' a j = if j < 930 then m_fin (m_c X τ a) (3720 + j) else m_fin (m_c X τ a) j) ∧ ∀ j : Int, 0 ≤ j → m_wd X τ' a j = if j < 6 then m_wd X τ a (24 + j) else m_wd X τ a j := by
  have k20 : q_kd X (q_rf X a 20) = 34 := (hT.1 a 20 (by rw [ha]; decide)).trans (by rw [ha]; rfl)
  have n20 : a ≠ q_rf X a 20 := Ne.symm (m_ne k20 ha (by decide))
  have m1 : ((-1) : Int32).toInt = -1 := rfl
  have z0 : (0 : Int32).toInt = 0 := rfl
  have e4 : (4 : Int32).toInt = 4 := rfl
  have e12 : (q_si τ a 10 (τ.1 a 12)).1 a 12 = τ.1 a 12 := si_f (by decide) a
  have e12' : (q_si (q_si τ a 10 (τ.1 a 12)) a 11 (-1)).1 a 12 = τ.1 a 12 := (si_f (by decide) a).trans e12
  unfold F_X12_table_E232_6 F_X12_isWell
  rw [q_letE (τ.1 a 12), q_letE (q_si τ a 10 (τ.1 a 12)), q_letE ((q_si τ a 10 (τ.1 a 12)).1 a 12), e12, if_pos h, q_letE (q_si (q_si τ a 10 (τ.1 a 12)) a 11 (-1)), q_letE ((q_si (q_si τ a 10 (τ.1 a 12)) a 11 (-1)).1 a 12), e12', if_pos h, q_biP, if_neg (by decide : ¬ (1 : Int32).toInt = 0)]
  have t1 : tkl (fun b f => b = a ∧ (f = 10 ∨ f = 11)) (fun _ _ => False) τ (q_si (q_si τ a 10 (τ.1 a 12)) a 11 (-1)) := (tkl.rf.si _ ⟨rfl, Or.inl rfl⟩).si _ ⟨rfl, Or.inr rfl⟩
  have d10 : ((q_si (q_si τ a 10 (τ.1 a 12)) a 11 (-1)).1 a 10).toInt = 0 := by rw [si_f (by decide), si_eq]; exact h
  have d11 : ((q_si (q_si τ a 10 (τ.1 a 12)) a 11 (-1)).1 a 11).toInt = -1 := by rw [si_eq]; exact m1
  obtain ⟨τ1, h1⟩ : ∃ s, s = q_si (q_si τ a 10 (τ.1 a 12)) a 11 (-1) := ⟨_, rfl⟩
  rw [← h1] at t1 d10 d11 ⊢
  have c1 : m_c X τ1 a = m_c X τ a := by
    funext j
    exact congrArg Int32.toInt (t1.1 _ _ (fun q => n20 q.1.symm))
  have w1 : ∀ j : Int, m_wd X τ1 a j = m_wd X τ a j := fun j => congrArg Int64.toInt (t1.2.1 _ _ (fun q => q))
  have c2 : m_c X (q_si τ1 (q_rf X a 20) (3728 : Int32).toNatClampNeg (-1)) a = m_up (m_c X τ a) 3728 (-1) := by
    rw [m_c_up 3728 (by decide) rfl, c1, m1]
  have t2 : tkl (fun b _ => b = q_rf X a 20) (fun _ _ => False) τ1 (q_si τ1 (q_rf X a 20) (3728 : Int32).toNatClampNeg (-1)) := tkl.rf.si _ rfl
  rw [q_letE (q_si τ1 (q_rf X a 20) (3728 : Int32).toNatClampNeg (-1))]
  obtain ⟨τ2, h2⟩ : ∃ s, s = q_si τ1 (q_rf X a 20) (3728 : Int32).toNatClampNeg (-1) := ⟨_, rfl⟩
  rw [← h2] at c2 t2 ⊢
  have r22 : (τ2.1 (q_rf X a 20) (3722 : Int32).toNatClampNeg).toInt = m_c X τ a 3722 := by
    have z := m_rd (X := X) (σ := τ2) (a := a) (i := 3722) (A := 3722) rfl rfl
    rw [c2, m_up_ne (by decide)] at z
    exact z
  rw [q_letE (τ2.1 (q_rf X a 20) (3722 : Int32).toNatClampNeg), r22]
  have fin : ∀ (u : Int32), u.toInt = (if m_c X τ a 3722 = 0 then -1 else 0) → ∃ (z : Int32) (τ' : ST), q_let (q_si τ2 (q_rf X a 20) (3726 : Int32).toNatClampNeg u : ST) (fun σ_57 => q_let (F_X12_copy X σ_57 a (4 : Int32) (0 : Int32) : ST) (fun σ_61 => q_let (σ_61.1 (q_rf X a 20) (2 : Int32).toNatClampNeg : Int32) (fun f_62 => (f_62, σ_61)))) = (z, τ') ∧ z.toInt = m_c X τ a 3722 ∧ (τ'.1 a 10).toInt = 0 ∧ (τ'.1 a 11).toInt = -1 ∧ tkl (fun b f => b = q_rf X a 20 ∨ b = a ∧ (f = 10 ∨ f = 11)) (fun b _ => b = q_rf X a 23) τ τ' ∧
      (∀ j : Int, 0 ≤ j → m_c X τ' a j = if j < 930 then m_fin (m_c X τ a) (3720 + j) else m_fin (m_c X τ a) j) ∧ ∀ j : Int, 0 ≤ j → m_wd X τ' a j = if j < 6 then m_wd X τ a (24 + j) else m_wd X τ a j := by
    intro u hu
    have c3 : m_c X (q_si τ2 (q_rf X a 20) (3726 : Int32).toNatClampNeg u) a = m_fin (m_c X τ a) := by
      rw [m_c_up 3726 (by decide) rfl, c2, hu]
      rfl
    have t3 : tkl (fun b _ => b = q_rf X a 20) (fun _ _ => False) τ1 (q_si τ2 (q_rf X a 20) (3726 : Int32).toNatClampNeg u) := t2.si _ rfl
    rw [q_letE (q_si τ2 (q_rf X a 20) (3726 : Int32).toNatClampNeg u)]
    obtain ⟨τ3, h3⟩ : ∃ s, s = q_si τ2 (q_rf X a 20) (3726 : Int32).toNatClampNeg u := ⟨_, rfl⟩
    rw [← h3] at c3 t3 ⊢
    obtain ⟨t4, c4, w4⟩ := tm_copy (X := X) (τ := τ3) (v1 := 4) (v2 := 0) hT ha e4 z0 ⟨by decide, by decide⟩ ⟨by decide, by decide⟩ (by decide)
    rw [q_letE (F_X12_copy X τ3 a 4 0)]
    obtain ⟨τ4, h4⟩ : ∃ s, s = F_X12_copy X τ3 a 4 0 := ⟨_, rfl⟩
    rw [← h4] at t4 c4 w4 ⊢
    rw [q_letE]
    have w3 : ∀ j : Int, m_wd X τ3 a j = m_wd X τ a j := fun j => (congrArg Int64.toInt (t3.2.1 _ _ (fun q => q))).trans (w1 j)
    have cc : ∀ j : Int, 0 ≤ j → m_c X τ4 a j = if j < 930 then m_fin (m_c X τ a) (3720 + j) else m_fin (m_c X τ a) j := fun j j0 => by
      rw [c4 j j0, c3]
      by_cases q : j < 930
      · rw [if_pos q, if_pos ⟨by omega, by omega⟩]
        congr 1
        omega
      · rw [if_neg q, if_neg (by omega)]
    refine ⟨_, τ4, rfl, ?_, ?_, ?_, ?_, cc, fun j j0 => ?_⟩
    · have z := m_rd (X := X) (σ := τ4) (a := a) (i := 2) (A := 2) rfl rfl
      rw [cc 2 (by decide), if_pos (by decide)] at z
      refine z.trans ?_
      show m_fin (m_c X τ a) 3722 = _
      unfold m_fin
      rw [m_up_ne (by decide), m_up_ne (by decide)]
    · rw [t4.1 a 10 n20, t3.1 a 10 n20]; exact d10
    · rw [t4.1 a 11 n20, t3.1 a 11 n20]; exact d11
    · exact ((t1.mono (fun _ _ h => Or.inr h) (fun _ _ h => h.elim)).tr (t3.mono (fun _ _ h => Or.inl h) (fun _ _ h => h.elim))).tr (t4.mono (fun _ _ h => Or.inl h) (fun _ _ h => h))
    · rw [w4 j j0, w3, w3]
      by_cases q : j < 6
      · rw [if_pos q, if_pos ⟨by omega, by omega⟩]
        congr 1
        omega
      · rw [if_neg q, if_neg (by omega)]
  by_cases q : m_c X τ a 3722 = 0
  · rw [if_pos q]
    exact fin (-1) (by rw [if_pos q]; exact m1)
  · rw [if_neg q]
    exact fin 0 (by rw [if_neg q]; exact z0)
end YB
end
/-! FROM 48u.table.lean.txt -/
section
/-! TABLE: both answer the same -/
def tb_Cls (X : XW) (lb : Nat → Nat) (C a : Nat) : Prop := q_kd X C = 11 ∧ q_kd X a = 12 ∧ y_S X lb ∧ tb_D X lb (q_rf X C 12) (q_rf X C 4) (q_rf X (q_rf X C 12) 8) ∧ y_G X lb (q_rf X C 8) 1 ∧ q_ln X (q_rf X C 4) = 900 ∧ q_ln X (q_rf X a 7) = 900 ∧ lb C / 8192 = 0
/-- what a table leaves: a refusal, a fault, a game -/
def tb_Out (X : XW) (C a : Nat) (σ τ : ST) (v : Int32) (m : Int) (z : Int32) (σ' τ' : ST) : Prop :=
  ((v.toInt < 0 ∨ m < v.toInt) ∧ tk (fun b f => b = C ∧ f = 0) σ σ' ∧ tkl (fun b f => b = a ∧ (f = 0 ∨ f = 1)) (fun _ _ => False) τ τ') ∨
  ((0 ≤ v.toInt ∧ v.toInt ≤ m) ∧ (σ'.1 C 5).toInt = 0 ∧ (τ'.1 a 8).toInt = 0 ∧ (σ'.1 C 6).toInt = (τ'.1 a 10).toInt ∧ (σ'.1 C 7).toInt = (τ'.1 a 11).toInt ∧
    ((z.toInt = -1 ∧ y_v X (q_rf X C 8) σ' = y_v X (q_rf X C 8) σ ∧ (∀ j : Int, 0 ≤ j → j < 3720 → m_c X τ' a j = m_c X τ a j) ∧ ∀ j : Int, 0 ≤ j → j < 24 → m_wd X τ' a j = m_wd X τ a j) ∨
     ((σ'.1 C 6).toInt = 0 ∧ ∃ (V : Nat → Int → Int) (r c w t : Int → Int), tb_R V r c w t ∧ (∀ j : Int, 0 ≤ j → j < 3720 → c j = m_c X τ a j) ∧ (∀ j : Int, 0 ≤ j → j < 24 → w j = m_wd X τ a j) ∧ z.toInt = c 3722 ∧ (∀ id i, y_in y_all id i → y_v X (q_rf X C 8) σ' id i = V id i) ∧
       (∀ j : Int, 0 ≤ j → m_c X τ' a j = if j < 930 then m_fin c (3720 + j) else m_fin c j) ∧ ∀ j : Int, 0 ≤ j → m_wd X τ' a j = if j < 6 then w (24 + j) else w j)))
section TN
variable {X : XW} {lb : Nat → Nat} {C a : Nat} {σ τ : ST} {m : Int} {B : Int → Int}
theorem tb_table (Cl : tb_Cls X lb C a) (h5 : (σ.1 C 5).toInt = m) (h8 : (τ.1 a 8).toInt = m) (hm : 0 ≤ m ∧ m ≤ 900) (hB : ∀ p : Int, 0 ≤ p → p < m → (σ.1 (q_rf X C 4) p.toNat).toInt = B p ∧ -128 ≤ B p ∧ B p ≤ 127) (hB2 : ∀ p : Int, 0 ≤ p → p < m → (τ.1 (q_rf X a 7) p.toNat).toInt = B p) (v : Int32) :
    ∃ (z : Int32) (σ' : ST) (z' : Int32) (τ' : ST), F_X11_table X σ C v = (z, σ') ∧ F_X12_table X τ a v = (z', τ') ∧ z.toInt = z'.toInt ∧ (σ'.1 C 0).toInt = (τ'.1 a 0).toInt ∧ tb_Out X C a σ τ v m z σ' τ' := by
  obtain ⟨kC, ka, Y, H, G1, hTl, hUl, hlC⟩ := Cl
  have z0 : (0 : Int32).toInt = 0 := rfl
  have m1 : ((-1) : Int32).toInt = -1 := rfl
  have e900 : (900 : Int32).toInt = 900 := rfl
  have ku : q_kd X (q_rf X a 7) = 33 := (tb_k Y.1 ka).2.2.2
  have nU : q_rf X a 7 ≠ a := m_ne ku ka (by decide)
  obtain ⟨D, hD⟩ : ∃ D, D = q_rf X C 12 := ⟨_, rfl⟩
  obtain ⟨T, hT⟩ : ∃ T, T = q_rf X C 4 := ⟨_, rfl⟩
  obtain ⟨g, hg⟩ : ∃ g, g = q_rf X D 8 := ⟨_, rfl⟩
  obtain ⟨g1, hg1⟩ : ∃ g, g = q_rf X C 8 := ⟨_, rfl⟩
  rw [← hD, ← hT, ← hg] at H
  rw [← hT] at hTl hB
  rw [← hg1] at G1
  have kD : q_kd X D = 9 := H.1
  have kT : q_kd X T = 22 := H.2.2.2.2.2.2.2.2
  have nTD : T ≠ D := m_ne kT kD (by decide)
  have nCD : C ≠ D := m_ne kC kD (by decide)
  have nCA : C ≠ tb_T X D := m_ne kC H.2.2.2.2.2.2.1 (by decide)
  have hC6 : lb C / 8192 ≠ 6 := by omega
  have hC1 : lb C / 8192 ≠ 1 := by omega
  have hD1 : lb D / 8192 ≠ 1 := by have := H.2.2.2.1; omega
  -- the reference begins
  have t2 : tkl (fun b f => b = a ∧ (f = 0 ∨ f = 1)) (fun _ _ => False) τ (q_si (q_si τ a 1 0) a 0 0) := (tkl.rf.si _ ⟨rfl, Or.inr rfl⟩).si _ ⟨rfl, Or.inl rfl⟩
  have d8 : ((q_si (q_si τ a 1 0) a 0 0).1 a 8).toInt = m := by rw [si_f (by decide), si_f (by decide)]; exact h8
  have d0 : (q_si (q_si τ a 1 0) a 0 0).1 a 0 = 0 := si_eq _ _ _ _
  unfold F_X11_table F_X12_table F_X12_opens F_X12_no F_X11_none F_X11_good
  rw [q_letE (q_si τ a 1 0), q_letE (q_si (q_si τ a 1 0) a 0 0)]
  obtain ⟨τ2, e2⟩ : ∃ s, s = q_si (q_si τ a 1 0) a 0 0 := ⟨_, rfl⟩
  rw [← e2] at t2 d8 d0 ⊢
  have no5 : tkl (fun b f => b = a ∧ (f = 0 ∨ f = 1)) (fun _ _ => False) τ (q_si τ2 a 0 5) := t2.si _ ⟨rfl, Or.inl rfl⟩
  have st5 : ((q_si σ C 0 5).1 C 0).toInt = ((q_si τ2 a 0 5).1 a 0).toInt := by rw [si_eq, si_eq]
  have tc5 : tk (fun b f => b = C ∧ f = 0) σ (q_si σ C 0 5) := tk.rf.si _ ⟨rfl, rfl⟩
  by_cases q1 : v.toInt < 0
  · rw [if_pos q1, if_pos q1, q_letE, q_biP, q_letE, q_biP, q_biP, if_pos (by decide : (0 : Int32).toInt = 0)]
    exact ⟨-1, _, -1, _, rfl, rfl, rfl, st5, Or.inl ⟨Or.inl q1, tc5, no5⟩⟩
  · rw [if_neg q1, if_neg q1, q_letE (σ.1 C 5), h5, q_letE (τ2.1 a 8), d8]
    by_cases q2 : m < v.toInt
    · rw [if_pos q2, if_pos q2, q_letE, q_biP, q_letE, q_biP, q_biP, if_pos (by decide : (0 : Int32).toInt = 0)]
      exact ⟨-1, _, -1, _, rfl, rfl, rfl, st5, Or.inl ⟨Or.inr q2, tc5, no5⟩⟩
    · rw [if_neg q2, if_neg q2, e900, if_neg (by omega : ¬ (900 : Int) < v.toInt)]
      rw [q_letE (q_si τ2 a 9 v), q_letE (q_si (q_si τ2 a 9 v) a 8 0), q_letE (q_si (q_si (q_si τ2 a 9 v) a 8 0) a 16 0), q_letE (q_si (q_si (q_si (q_si τ2 a 9 v) a 8 0) a 16 0) a 12 0)]
      have t3 : tkl (fun b f => b = a ∧ (f = 9 ∨ f = 8 ∨ f = 16 ∨ f = 12)) (fun _ _ => False) τ2 (q_si (q_si (q_si (q_si τ2 a 9 v) a 8 0) a 16 0) a 12 0) := (((tkl.rf.si _ ⟨rfl, Or.inl rfl⟩).si _ ⟨rfl, Or.inr (Or.inl rfl)⟩).si _ ⟨rfl, Or.inr (Or.inr (Or.inl rfl))⟩).si _ ⟨rfl, Or.inr (Or.inr (Or.inr rfl))⟩
      have c9 : (q_si (q_si (q_si (q_si τ2 a 9 v) a 8 0) a 16 0) a 12 0).1 a 9 = v := by rw [si_f (by decide), si_f (by decide), si_f (by decide), si_eq]
      have c8 : (q_si (q_si (q_si (q_si τ2 a 9 v) a 8 0) a 16 0) a 12 0).1 a 8 = 0 := by rw [si_f (by decide), si_f (by decide), si_eq]
      have c16 : (q_si (q_si (q_si (q_si τ2 a 9 v) a 8 0) a 16 0) a 12 0).1 a 16 = 0 := by rw [si_f (by decide), si_eq]
      have c12 : (q_si (q_si (q_si (q_si τ2 a 9 v) a 8 0) a 16 0) a 12 0).1 a 12 = 0 := si_eq _ _ _ _
      obtain ⟨τ3, e3⟩ : ∃ s, s = q_si (q_si (q_si (q_si τ2 a 9 v) a 8 0) a 16 0) a 12 0 := ⟨_, rfl⟩
      rw [← e3] at t3 c9 c8 c16 c12 ⊢
      have c0 : τ3.1 a 0 = 0 := by rw [t3.1 a 0 (fun q => absurd q.2 (by decide)), d0]
      have M0 : tm_E X τ3 a v.toInt B := ⟨by rw [c9], ⟨by omega, by omega⟩, nU, fun p p0 p1 => by
        rw [t3.1 _ _ (fun q => nU q.1), t2.1 _ _ (fun q => nU q.1)]
        exact ⟨hB2 p p0 (by omega), (hB p p0 (by omega)).2⟩⟩
      obtain ⟨z, σ8, τ8, f1, f2, Gf, Pf, out⟩ := tb_takes Y H ka hTl nTD (v := v) rfl ⟨by omega, by omega⟩ (fun p p0 p1 => hB p p0 (by omega)) M0 (by rw [c16]; rfl) (by rw [c12]; rfl) (by rw [c0]; rfl) (by rw [c8]; rfl)
      rw [q_letE (F_X12_next X τ3 a), q_biP (1 : Int32) (F_X12_next X τ3 a), if_neg (by decide : ¬ (1 : Int32).toInt = 0), f2, ← hD, ← hT, ← hg1, f1, q_biP z σ8]
      have C8 : ∀ f, σ8.1 C f = σ.1 C f := Gf.1 C hC6 nCD nCA
      -- the class ends its reading
      unfold F_X11_endReading
      rw [q_letE (q_si σ8 C 5 0), q_letE ((q_si σ8 C 5 0).1 D 6), q_letE (q_si (q_si σ8 C 5 0) C 6 ((q_si σ8 C 5 0).1 D 6)), q_letE ((q_si (q_si σ8 C 5 0) C 6 ((q_si σ8 C 5 0).1 D 6)).1 D 7), q_letE (q_si (q_si (q_si σ8 C 5 0) C 6 ((q_si σ8 C 5 0).1 D 6)) C 7 ((q_si (q_si σ8 C 5 0) C 6 ((q_si σ8 C 5 0).1 D 6)).1 D 7))]
      have t9 : tk (fun b f => b = C ∧ (f = 5 ∨ f = 6 ∨ f = 7)) σ8 (q_si (q_si (q_si σ8 C 5 0) C 6 ((q_si σ8 C 5 0).1 D 6)) C 7 ((q_si (q_si σ8 C 5 0) C 6 ((q_si σ8 C 5 0).1 D 6)).1 D 7)) := ((tk.rf.si _ ⟨rfl, Or.inl rfl⟩).si _ ⟨rfl, Or.inr (Or.inl rfl)⟩).si _ ⟨rfl, Or.inr (Or.inr rfl)⟩
      have g5 : (q_si (q_si (q_si σ8 C 5 0) C 6 ((q_si σ8 C 5 0).1 D 6)) C 7 ((q_si (q_si σ8 C 5 0) C 6 ((q_si σ8 C 5 0).1 D 6)).1 D 7)).1 C 5 = 0 := by rw [si_f (by decide), si_f (by decide), si_eq]
      have g6 : (q_si (q_si (q_si σ8 C 5 0) C 6 ((q_si σ8 C 5 0).1 D 6)) C 7 ((q_si (q_si σ8 C 5 0) C 6 ((q_si σ8 C 5 0).1 D 6)).1 D 7)).1 C 6 = σ8.1 D 6 := by rw [si_f (by decide), si_eq, q_si_ne (Ne.symm nCD)]
      have g7 : (q_si (q_si (q_si σ8 C 5 0) C 6 ((q_si σ8 C 5 0).1 D 6)) C 7 ((q_si (q_si σ8 C 5 0) C 6 ((q_si σ8 C 5 0).1 D 6)).1 D 7)).1 C 7 = σ8.1 D 7 := by rw [si_eq, q_si_ne (Ne.symm nCD), q_si_ne (Ne.symm nCD)]
      obtain ⟨σ9, e9⟩ : ∃ s, s = q_si (q_si (q_si σ8 C 5 0) C 6 ((q_si σ8 C 5 0).1 D 6)) C 7 ((q_si (q_si σ8 C 5 0) C 6 ((q_si σ8 C 5 0).1 D 6)).1 D 7) := ⟨_, rfl⟩
      rw [← e9] at t9 g5 g6 g7 ⊢
      rw [q_letE σ9]
      have vw : ∀ (h o : Nat), y_G X lb h o → o ≠ 0 → ∀ id, id < 25 → ∀ f, σ9.1 (y_gA X h id) f = σ8.1 (y_gA X h id) f := fun h o G ho id hid f => t9.1 _ _ (fun q => by
        have := y_own Y G hid
        rw [q.1] at this
        omega)
      rcases out with ⟨o1, V, r, c, w, t, f9, f10, I⟩ | ⟨o1, o2⟩
      · obtain ⟨S, M, K, h0, Rr⟩ := I
        obtain ⟨zz, τ9, x1, x2, x3, x4, x5, x6, x7⟩ := tm_end1 (X := X) Y.1 ka h0
        rw [x1, if_neg (by omega : ¬ z.toInt = 0), ← hg]
        have cp : y_C X lb g1 1 g σ9 (F_X0_copyFrom X σ9 g1 g) y_all := tb_copy Y G1 H.2.2.1 (by decide)
        rw [q_letE (F_X0_copyFrom X σ9 g1 g)]
        obtain ⟨σ10, e10⟩ : ∃ s, s = F_X0_copyFrom X σ9 g1 g := ⟨_, rfl⟩
        rw [← e10] at cp ⊢
        obtain ⟨V1, W, hV⟩ := cp
        have vg : y_v X g σ9 = V := by
          rw [← S.2.1]
          funext id i
          unfold y_v
          by_cases q : id < 25 ∧ 0 ≤ i
          · rw [if_pos q, if_pos q, vw g 6 H.2.2.1 (by decide) id q.1]
          · rw [if_neg q, if_neg q]
        have p4 : (σ10.1 (q_rf X g1 0) 4).toInt = c 3722 := by
          have z1 := y_v_rdn (X := X) (g := g1) (σ := σ10) (id := 1) (by decide) 4
          rw [W.2.2] at z1
          refine z1.trans ?_
          have z2 := hV 1 ((4 : Nat) : Int) ⟨(1, 4), by decide, rfl, Or.inr ⟨by decide, rfl⟩⟩
          rw [z2, vg]
          exact Rr.b.2.2.1
        have C10 : ∀ f, σ10.1 C f = σ9.1 C f := W.1 C hC1
        have nCg : ∀ id, id < 25 → C ≠ y_gA X g1 id := fun id hid => y_gA_ne Y G1 hid hC1
        rw [q_letE (σ10.1 (q_rf X g1 0) 4), q_letE (q_si σ10 C 0 0), q_biP]
        have c5 : (q_si σ10 C 0 0).1 C 5 = 0 := by rw [si_f (by decide), C10, g5]
        have c6 : (q_si σ10 C 0 0).1 C 6 = σ8.1 D 6 := by rw [si_f (by decide), C10, g6]
        have c7 : (q_si σ10 C 0 0).1 C 7 = σ8.1 D 7 := by rw [si_f (by decide), C10, g7]
        have k67 := K.2.2.2.2.2.2.2.2
        have n20 : a ≠ q_rf X a 20 := Ne.symm (m_ne (tb_k Y.1 ka).1 ka (by decide))
        have a08 : ∀ f, f ≠ 10 → f ≠ 11 → τ9.1 a f = τ8.1 a f := fun f q1 q2 => x5.1 a f (fun q => by
          rcases q with q | q
          · exact n20 q
          · omega)
        have cc : ∀ j : Int, 0 ≤ j → j < 3720 → c j = m_c X τ a j := fun j a1 a2 => by
          rw [← M.2.1, Pf.1 j a1 a2]
          exact congrArg Int32.toInt ((t3.1 _ _ (fun q => n20 q.1.symm)).trans (t2.1 _ _ (fun q => n20 q.1.symm)))
        have ww : ∀ j : Int, 0 ≤ j → j < 24 → w j = m_wd X τ a j := fun j a1 a2 => by
          rw [← M.2.2.1, Pf.2.1 j a1 a2]
          exact congrArg Int64.toInt ((t3.2.1 _ _ (fun q => q)).trans (t2.2.1 _ _ (fun q => q)))
        rw [M.2.1] at x2 x6
        rw [M.2.2.1] at x7
        refine ⟨_, _, zz, τ9, rfl, rfl, p4.trans x2.symm, ?_, Or.inr ⟨⟨by omega, by omega⟩, by rw [c5]; rfl, ?_, ?_, ?_, Or.inr ⟨?_, V, r, c, w, t, Rr, cc, ww, p4, fun id i hi => ?_, x6, x7⟩⟩⟩
        · rw [si_eq, a08 0 (by decide) (by decide), M.2.2.2.2.2.2.1]
          rfl
        · rw [a08 8 (by decide) (by decide)]
          exact M.2.2.2.2.2.2.2
        · rw [c6, x3]
          exact k67.1
        · rw [c7, x4]
          exact k67.2
        · rw [c6]
          exact k67.1
        · have z1 := hV id i hi
          rw [vg] at z1
          rw [← hg1, ← z1, ← W.2.2]
          unfold y_v
          by_cases q : id < 25 ∧ 0 ≤ i
          · rw [if_pos q, if_pos q, q_si_ne (Ne.symm (nCg id q.1))]
          · rw [if_neg q, if_neg q]
      · obtain ⟨τ9, x1, x2, x3, x4, x5⟩ := tm_end0 (X := X) o2.2.1
        rw [x1, if_pos o1, q_letE, q_biP]
        have n20 : a ≠ q_rf X a 20 := Ne.symm (m_ne (tb_k Y.1 ka).1 ka (by decide))
        refine ⟨_, _, _, τ9, rfl, rfl, rfl, ?_, Or.inr ⟨⟨by omega, by omega⟩, ?_, ?_, ?_, ?_, Or.inl ⟨rfl, ?_, fun j a1 a2 => ?_, fun j a1 a2 => ?_⟩⟩⟩
        · rw [si_eq, x4]
          rfl
        · rw [si_f (by decide), g5]
          rfl
        · rw [x5.1 a 8 (fun q => absurd q.2 (by decide)), Pf.2.2.2, c8]
          rfl
        · rw [si_f (by decide), g6, x2]
          exact o2.1
        · rw [si_f (by decide), g7, x3]
          exact o2.2.2
        · funext id i
          unfold y_v
          by_cases q : id < 25 ∧ 0 ≤ i
          · have own := y_own Y G1 q.1
            rw [if_pos q, if_pos q, ← hg1, q_si_ne (fun z => by rw [z] at own; omega), vw g1 1 G1 (by decide) id q.1, Gf.1 _ (by omega) (fun z => by rw [z] at own; omega) (fun z => by
              rw [z] at own
              have := H.2.2.2.2.2.1
              omega)]
          · rw [if_neg q, if_neg q]
        · have y1 : m_c X τ9 a j = m_c X τ8 a j := congrArg Int32.toInt (x5.1 _ _ (fun q => n20 q.1.symm))
          rw [y1, Pf.1 j a1 a2]
          exact congrArg Int32.toInt ((t3.1 _ _ (fun q => n20 q.1.symm)).trans (t2.1 _ _ (fun q => n20 q.1.symm)))
        · have y1 : m_wd X τ9 a j = m_wd X τ8 a j := congrArg Int64.toInt (x5.2.1 _ _ (fun q => q))
          rw [y1, Pf.2.1 j a1 a2]
          exact congrArg Int64.toInt ((t3.2.1 _ _ (fun q => q)).trans (t2.2.1 _ _ (fun q => q)))
end TN
end
/-! FROM 48v.feed.lean.txt -/
section
/-! FEED: both tapes take the same bytes -/
def tp_R (X : XW) (C a : Nat) (σ τ : ST) (m : Int) : Prop := (σ.1 C 5).toInt = m ∧ (τ.1 a 8).toInt = m ∧ ∀ p : Int, 0 ≤ p → p < m → σ.1 (q_rf X C 4) p.toNat = τ.1 (q_rf X a 7) p.toNat ∧ -128 ≤ (σ.1 (q_rf X C 4) p.toNat).toInt ∧ (σ.1 (q_rf X C 4) p.toNat).toInt ≤ 127
theorem tp_byte (x : Int32) : -128 ≤ (x.toInt8.toInt32).toInt ∧ (x.toInt8.toInt32).toInt ≤ 127 := by
  have h1 := Int8.le_toInt x.toInt8
  have h2 := Int8.toInt_lt x.toInt8
  rw [Int8.toInt_toInt32]
  omega
section TO
variable {X : XW} {C a : Nat} {σ τ : ST} {m : Int}
theorem tp_step (nC : q_rf X C 4 ≠ C) (na : q_rf X a 7 ≠ a) (R : tp_R X C a σ τ m) (hm : 0 ≤ m ∧ m < 900) {y : Int32} (hy : -128 ≤ y.toInt ∧ y.toInt ≤ 127) :
    tp_R X C a (q_si (q_si σ (q_rf X C 4) (σ.1 C 5).toNatClampNeg y) C 5 ((q_si σ (q_rf X C 4) (σ.1 C 5).toNatClampNeg y).1 C 5 + 1)) (q_si (q_si τ (q_rf X a 7) (τ.1 a 8).toNatClampNeg y) a 8 ((q_si τ (q_rf X a 7) (τ.1 a 8).toNatClampNeg y).1 a 8 + 1)) (m + 1) := by
  obtain ⟨R1, R2, R3⟩ := R
  refine ⟨?_, ?_, fun p p0 p1 => ?_⟩
  · rw [si_eq, q_si_ne (Ne.symm nC), y_inc (by rw [R1]; omega), R1]
  · rw [si_eq, q_si_ne (Ne.symm na), y_inc (by rw [R2]; omega), R2]
  · rw [q_si_ne nC, q_si_ne na]
    show (if q_rf X C 4 = q_rf X C 4 ∧ p.toNat = (σ.1 C 5).toNatClampNeg then y else σ.1 (q_rf X C 4) p.toNat) = (if q_rf X a 7 = q_rf X a 7 ∧ p.toNat = (τ.1 a 8).toNatClampNeg then y else τ.1 (q_rf X a 7) p.toNat) ∧ -128 ≤ (if q_rf X C 4 = q_rf X C 4 ∧ p.toNat = (σ.1 C 5).toNatClampNeg then y else σ.1 (q_rf X C 4) p.toNat).toInt ∧ (if q_rf X C 4 = q_rf X C 4 ∧ p.toNat = (σ.1 C 5).toNatClampNeg then y else σ.1 (q_rf X C 4) p.toNat).toInt ≤ 127
    rw [ar_cl, ar_cl, R1, R2]
    by_cases q : p = m
    · rw [if_pos ⟨rfl, by rw [q]⟩, if_pos ⟨rfl, by rw [q]⟩]
      exact ⟨rfl, hy⟩
    · have nq : ¬ p.toNat = m.toNat := by omega
      rw [if_neg (fun z => nq z.2), if_neg (fun z => nq z.2)]
      exact R3 p p0 (by omega)
/-- one byte of an int -/
theorem tp_it (nC : q_rf X C 4 ≠ C) (na : q_rf X a 7 ≠ a) (R : tp_R X C a σ τ m) (hm : 0 ≤ m ∧ m < 900) (v : Int32) {x x' y y' : Int32} (hx : 0 ≤ x.toInt) (hy : 0 ≤ y.toInt) (ex : x + (-8) = x') (ey : y + (-1) = y') (exy : x = (8 : Int32) * y) (k j : Nat) :
    ∃ σ' τ' : ST, F_X11_tapeInt_L3_1 X C v (k + 1) x σ = F_X11_tapeInt_L3_1 X C v k x' σ' ∧ F_X12_lays_L2_1 X a v (j + 1) y τ = F_X12_lays_L2_1 X a v j y' τ' ∧ tp_R X C a σ' τ' (m + 1) := by
  obtain ⟨R1, R2, R3⟩ := id R
  have st := tp_step nC na R hm (tp_byte (v >>> (((8 : Int32) * y) &&& 31)).toInt8.toInt32)
  rw [F_X11_tapeInt_L3_1_s, F_X12_lays_L2_1_s]
  unfold F_X11_tapeInt_B3_1 F_X12_lays_B2_1
  rw [if_neg (by omega : ¬ x.toInt < 0), q_letE, R1, if_neg (by omega : ¬ m < 0), q_letE, R1, if_pos hm.2, if_neg (by omega : ¬ y.toInt < 0)]
  rw [q_letE (σ.1 C 5), q_letE (v >>> (x &&& 31)), q_letE ((v >>> (x &&& 31)).toInt8.toInt32), q_letE, q_letE, q_letE, q_letE, q_letE]
  rw [q_letE (τ.1 a 8), q_letE ((8 : Int32) * y), q_letE (v >>> (((8 : Int32) * y) &&& 31)), q_letE ((v >>> (((8 : Int32) * y) &&& 31)).toInt8.toInt32), q_letE, q_letE, q_letE, q_letE, q_letE]
  rw [ex, ey, exy]
  exact ⟨_, _, rfl, rfl, st⟩
theorem tp_int (nC : q_rf X C 4 ≠ C) (na : q_rf X a 7 ≠ a) (R : tp_R X C a σ τ m) (hm : 0 ≤ m ∧ m + 4 ≤ 900) (v : Int32) : tp_R X C a (F_X11_tapeInt X σ C v) (F_X12_lays X τ a v) (m + 4) := by
  unfold F_X11_tapeInt F_X12_lays
  have e24 : (24 : Int32).toInt = 24 := rfl
  have e3 : (3 : Int32).toInt = 3 := rfl
  obtain ⟨k, hk⟩ : ∃ k, ((24 : Int32).toInt + 2147483656).toNat + 1 = k + 1 + 1 + 1 + 1 + 1 := ⟨((24 : Int32).toInt + 2147483656).toNat - 4, by rw [e24]; omega⟩
  obtain ⟨j, hj⟩ : ∃ j, ((3 : Int32).toInt + 2147483656).toNat + 1 = j + 1 + 1 + 1 + 1 + 1 := ⟨((3 : Int32).toInt + 2147483656).toNat - 4, by rw [e3]; omega⟩
  rw [hk, hj]
  obtain ⟨σ1, τ1, a1, b1, R1⟩ := tp_it nC na R ⟨hm.1, by omega⟩ v (x := 24) (x' := 16) (y := 3) (y' := 2) (by decide) (by decide) (by decide) (by decide) (by decide) (k + 1 + 1 + 1 + 1) (j + 1 + 1 + 1 + 1)
  obtain ⟨σ2, τ2, a2, b2, R2⟩ := tp_it nC na R1 ⟨by omega, by omega⟩ v (x := 16) (x' := 8) (y := 2) (y' := 1) (by decide) (by decide) (by decide) (by decide) (by decide) (k + 1 + 1 + 1) (j + 1 + 1 + 1)
  obtain ⟨σ3, τ3, a3, b3, R3⟩ := tp_it nC na R2 ⟨by omega, by omega⟩ v (x := 8) (x' := 0) (y := 1) (y' := 0) (by decide) (by decide) (by decide) (by decide) (by decide) (k + 1 + 1) (j + 1 + 1)
  obtain ⟨σ4, τ4, a4, b4, R4⟩ := tp_it nC na R3 ⟨by omega, by omega⟩ v (x := 0) (x' := -8) (y := 0) (y' := -1) (by decide) (by decide) (by decide) (by decide) (by decide) (k + 1) (j + 1)
  rw [a1, a2, a3, a4, b1, b2, b3, b4, F_X11_tapeInt_L3_1_s, F_X12_lays_L2_1_s]
  unfold F_X11_tapeInt_B3_1 F_X12_lays_B2_1
  rw [if_pos (by decide : ((-8) : Int32).toInt < 0), if_pos (by decide : ((-1) : Int32).toInt < 0)]
  have em : m + 1 + 1 + 1 + 1 = m + 4 := by omega
  rw [em] at R4
  exact R4
theorem tp_feed (nC : q_rf X C 4 ≠ C) (na : q_rf X a 7 ≠ a) (R : tp_R X C a σ τ m) (hm : 0 ≤ m ∧ m ≤ 900) (v1 v2 v3 v4 v5 : Int32) : (F_X11_feed X σ C v1 v2 v3 v4 v5).1 = (F_X12_feed X τ a v1 v2 v3 v4 v5).1 ∧ ∃ m' : Int, 0 ≤ m' ∧ m' ≤ 900 ∧ tp_R X C a (F_X11_feed X σ C v1 v2 v3 v4 v5).2 (F_X12_feed X τ a v1 v2 v3 v4 v5).2 m' := by
  have e20 : (20 : Int32).toInt = 20 := rfl
  have R0 : tp_R X C a σ (q_si τ a 1 0) m := by
    obtain ⟨R1, R2, R3⟩ := R
    exact ⟨R1, by rw [si_f (by decide)]; exact R2, fun p p0 p1 => by rw [q_si_ne na]; exact R3 p p0 p1⟩
  unfold F_X11_feed F_X12_feed
  rw [q_letE (q_si τ a 1 0)]
  obtain ⟨τ0, h0⟩ : ∃ s, s = q_si τ a 1 0 := ⟨_, rfl⟩
  rw [← h0] at R0 ⊢
  have z1 : (σ.1 C 5 + 20).toInt = m + 20 := by rw [ar_add, R0.1, e20, ar_wr (by omega) (by omega)]
  have z2 : (τ0.1 a 8 + 20).toInt = m + 20 := by rw [ar_add, R0.2.1, e20, ar_wr (by omega) (by omega)]
  rw [q_letE (σ.1 C 5), q_letE (σ.1 C 5 + 20), q_letE (τ0.1 a 8), q_letE (τ0.1 a 8 + 20), z1, z2]
  by_cases q : 900 < m + 20
  · rw [if_pos q, if_pos q]
    exact ⟨rfl, m, hm.1, hm.2, R0⟩
  · rw [if_neg q, if_neg q]
    have S1 := tp_int nC na R0 ⟨hm.1, by omega⟩ v1
    rw [q_letE (F_X11_tapeInt X σ C v1), q_letE (F_X12_lays X τ0 a v1)]
    obtain ⟨σ1, g1⟩ : ∃ s, s = F_X11_tapeInt X σ C v1 := ⟨_, rfl⟩
    obtain ⟨τ1, h1⟩ : ∃ s, s = F_X12_lays X τ0 a v1 := ⟨_, rfl⟩
    rw [← g1, ← h1] at S1 ⊢
    have S2 := tp_int nC na S1 ⟨by omega, by omega⟩ v2
    rw [q_letE (F_X11_tapeInt X σ1 C v2), q_letE (F_X12_lays X τ1 a v2)]
    obtain ⟨σ2, g2⟩ : ∃ s, s = F_X11_tapeInt X σ1 C v2 := ⟨_, rfl⟩
    obtain ⟨τ2, h2⟩ : ∃ s, s = F_X12_lays X τ1 a v2 := ⟨_, rfl⟩
    rw [← g2, ← h2] at S2 ⊢
    have S3 := tp_int nC na S2 ⟨by omega, by omega⟩ v3
    rw [q_letE (F_X11_tapeInt X σ2 C v3), q_letE (F_X12_lays X τ2 a v3)]
    obtain ⟨σ3, g3⟩ : ∃ s, s = F_X11_tapeInt X σ2 C v3 := ⟨_, rfl⟩
    obtain ⟨τ3, h3⟩ : ∃ s, s = F_X12_lays X τ2 a v3 := ⟨_, rfl⟩
    rw [← g3, ← h3] at S3 ⊢
    have S4 := tp_int nC na S3 ⟨by omega, by omega⟩ v4
    rw [q_letE (F_X11_tapeInt X σ3 C v4), q_letE (F_X12_lays X τ3 a v4)]
    obtain ⟨σ4, g4⟩ : ∃ s, s = F_X11_tapeInt X σ3 C v4 := ⟨_, rfl⟩
    obtain ⟨τ4, h4⟩ : ∃ s, s = F_X12_lays X τ3 a v4 := ⟨_, rfl⟩
    rw [← g4, ← h4] at S4 ⊢
    have S5 := tp_int nC na S4 ⟨by omega, by omega⟩ v5
    rw [q_letE (F_X11_tapeInt X σ4 C v5), q_letE (F_X12_lays X τ4 a v5)]
    obtain ⟨σ5, g5⟩ : ∃ s, s = F_X11_tapeInt X σ4 C v5 := ⟨_, rfl⟩
    obtain ⟨τ5, h5⟩ : ∃ s, s = F_X12_lays X τ4 a v5 := ⟨_, rfl⟩
    rw [← g5, ← h5] at S5 ⊢
    rw [q_letE (σ5.1 C 5), q_letE (τ5.1 a 8)]
    exact ⟨Int32.toInt_inj.mp (S5.1.trans S5.2.1.symm), m + 4 + 4 + 4 + 4 + 4, by omega, by omega, S5⟩
end TO
end
/-! FROM 48w.forest.lean.txt -/
section
/-! THE WORLD IS A FOREST: labels -/
def y_root (X : XW) (c : Nat) : Prop := ∀ a f, q_rk (q_kd X a) f ≠ 0 → q_rf X a f ≠ c
def y_Fo (X : XW) : Prop := (∀ a f, q_rk (q_kd X a) f ≠ 0 → a < q_rf X a f) ∧ (∀ a f b g, q_rk (q_kd X a) f ≠ 0 → q_rk (q_kd X b) g ≠ 0 → q_rf X a f = q_rf X b g → a = b ∧ f = g) ∧ ∀ a f, q_rk (q_kd X a) f = 5 → q_ln X (q_rf X (q_rf X a f) 0) = y_rl (q_kd X a) f
noncomputable def y_par (X : XW) (b : Nat) : Option (Nat × Nat) := @dite _ (∃ p : Nat × Nat, q_rk (q_kd X p.1) p.2 ≠ 0 ∧ q_rf X p.1 p.2 = b) (Classical.propDecidable _) (fun h => some (Classical.choose h)) (fun _ => none)
noncomputable def y_lbn (X : XW) (C : Nat) : Nat → Nat → Nat
  | 0, _ => 0
  | n + 1, b => match y_par X b with | none => (if b = C then 1 else 0) | some p => y_lc (y_lbn X C n p.1) p.2
theorem y_par_s {X : XW} {b : Nat} {p : Nat × Nat} (h : y_par X b = some p) : q_rk (q_kd X p.1) p.2 ≠ 0 ∧ q_rf X p.1 p.2 = b := by
  unfold y_par at h
  by_cases q : ∃ p : Nat × Nat, q_rk (q_kd X p.1) p.2 ≠ 0 ∧ q_rf X p.1 p.2 = b
  · rw [dif_pos q] at h
    have z := Classical.choose_spec q
    rw [Option.some.inj h] at z
    exact z
  · rw [dif_neg q] at h
    cases h
theorem y_par_n {X : XW} {b : Nat} (h : y_root X b) : y_par X b = none := by
  unfold y_par
  refine dif_neg ?_
  rintro ⟨p, h1, h2⟩
  exact h p.1 p.2 h1 h2
theorem y_lbn_st {X : XW} {C : Nat} (F : y_Fo X) : ∀ n m b, b < n → b < m → y_lbn X C n b = y_lbn X C m b := by
  intro n
  induction n with
  | zero => intro m b h; exact absurd h (Nat.not_lt_zero _)
  | succ n ih =>
    intro m b h1 h2
    obtain ⟨m', rfl⟩ : ∃ m', m = m' + 1 := ⟨m - 1, by omega⟩
    show (match y_par X b with | none => (if b = C then 1 else 0) | some p => y_lc (y_lbn X C n p.1) p.2) = (match y_par X b with | none => (if b = C then 1 else 0) | some p => y_lc (y_lbn X C m' p.1) p.2)
    cases e : y_par X b with
    | none => rfl
    | some p =>
      obtain ⟨z1, z2⟩ := y_par_s e
      have z3 := F.1 p.1 p.2 z1
      rw [z2] at z3
      show y_lc (y_lbn X C n p.1) p.2 = y_lc (y_lbn X C m' p.1) p.2
      rw [ih m' p.1 (by omega) (by omega)]
theorem y_Fo.lb {X : XW} (F : y_Fo X) (T : q_T X) {C : Nat} (hC : y_root X C) : ∃ lb : Nat → Nat, y_S X lb ∧ lb C = 1 := by
  refine ⟨fun b => y_lbn X C (b + 1) b, ⟨T, fun a f h => ?_, F.2.2⟩, ?_⟩
  · obtain ⟨b, hb⟩ : ∃ b, b = q_rf X a f := ⟨_, rfl⟩
    have lt := F.1 a f h
    rw [← hb] at lt
    show y_lbn X C (q_rf X a f + 1) (q_rf X a f) = y_lc (y_lbn X C (a + 1) a) f
    rw [← hb]
    show (match y_par X b with | none => (if b = C then 1 else 0) | some p => y_lc (y_lbn X C b p.1) p.2) = _
    cases e : y_par X b with
    | none =>
      exfalso
      unfold y_par at e
      rw [dif_pos ⟨(a, f), h, hb.symm⟩] at e
      cases e
    | some p =>
      obtain ⟨z1, z2⟩ := y_par_s e
      obtain ⟨e1, e2⟩ := F.2.1 p.1 p.2 a f z1 h (z2.trans hb)
      show y_lc (y_lbn X C b p.1) p.2 = _
      rw [e1, e2, y_lbn_st F b (a + 1) a lt (by omega)]
  · show (match y_par X C with | none => (if C = C then 1 else 0) | some p => y_lc (y_lbn X C C p.1) p.2) = 1
    rw [y_par_n hC]
    show (if C = C then 1 else 0) = 1
    rw [if_pos rfl]
/-- the class's root: where its reader, games and tape lie -/
theorem y_Cls {X : XW} {lb : Nat → Nat} {C a : Nat} (S : y_S X lb) (hC : q_kd X C = 11) (ha : q_kd X a = 12) (h1 : lb C = 1) (h9 : q_ln X (q_rf X a 7) = 900) : tb_Cls X lb C a := by
  obtain ⟨T, L, N⟩ := id S
  have kD : q_kd X (q_rf X C 12) = 9 := (T.1 C 12 (by rw [hC]; decide)).trans (by rw [hC]; rfl)
  have lD : lb (q_rf X C 12) = 28 := (L C 12 (by rw [hC]; decide)).trans (by rw [h1]; decide)
  have kG : q_kd X (q_rf X (q_rf X C 12) 8) = 1 := (T.1 (q_rf X C 12) 8 (by rw [kD]; decide)).trans (by rw [kD]; rfl)
  have lG : lb (q_rf X (q_rf X C 12) 8) = 8192 * 6 + 1 := (L (q_rf X C 12) 8 (by rw [kD]; decide)).trans (by rw [lD]; decide)
  have kR : q_kd X (q_rf X (q_rf X C 12) 11) = 5 := (T.1 (q_rf X C 12) 11 (by rw [kD]; decide)).trans (by rw [kD]; rfl)
  have lR : lb (q_rf X (q_rf X C 12) 11) = 459 := (L (q_rf X C 12) 11 (by rw [kD]; decide)).trans (by rw [lD]; decide)
  have kA : q_kd X (tb_T X (q_rf X C 12)) = 20 := (T.1 (q_rf X (q_rf X C 12) 11) 0 (by rw [kR]; decide)).trans (by rw [kR]; rfl)
  have lA : lb (tb_T X (q_rf X C 12)) = 7344 := (L (q_rf X (q_rf X C 12) 11) 0 (by rw [kR]; decide)).trans (by rw [lR]; decide)
  have nA : q_ln X (tb_T X (q_rf X C 12)) = 6 := (N (q_rf X C 12) 11 (by rw [kD]; rfl)).trans (by rw [kD]; rfl)
  have kT : q_kd X (q_rf X C 4) = 22 := (T.1 C 4 (by rw [hC]; decide)).trans (by rw [hC]; rfl)
  have lT : lb (q_rf X C 4) = 20 := (L C 4 (by rw [hC]; decide)).trans (by rw [h1]; decide)
  have k8 : q_kd X (q_rf X C 8) = 1 := (T.1 C 8 (by rw [hC]; decide)).trans (by rw [hC]; rfl)
  have l8 : lb (q_rf X C 8) = 8192 * 1 + 1 := (L C 8 (by rw [hC]; decide)).trans (by rw [h1]; decide)
  refine ⟨hC, ha, S, ⟨kD, rfl, ⟨kG, lG, by decide⟩, by omega, by omega, by omega, kA, nA, kT⟩, ⟨k8, l8, by decide⟩, T.2.2.2 C hC, h9, by omega⟩
end
