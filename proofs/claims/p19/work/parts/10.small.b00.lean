/-! FROM 10.small.b00.lean.txt -/
section
set_option maxRecDepth 100000 in
set_option maxHeartbeats 4000000 in
theorem c_J9_min_7cf53 (l : Launch) (X : XW) (σ : ST) (v0 : Int32) (v1 : Int32) : Met l yJ9_min_7cf53 (q_ws yJ9_min_7cf53 cJ9_min_7cf53 2 (some .int)) (q_rm 0 0) (q_P X σ [.int v0, .int v1]) (q_Qi X 9 σ (fun (r : Int32) (σ' : ST) => σ' = σ ∧ (r.toInt = min v0.toInt v1.toInt) ∧ r = F_J9_min_7cf53 X σ v0 v1)) 0 0 (q_reg X) := by
  refine q_met 9 (by first | exact q_j9 (n := "min") (d := "(II)I") (by decide) | decide +kernel) rfl (Nat.le_of_ble_eq_true rfl) (fun p e s m below meth c E hml hr hlk hI ls hl => ?_)
  have hx := E.1
  have hb := E.2.1
  have hl : lv_has ls 2 [(0, .int v0), (1, .int v1)] := hl
  obtain ⟨out, hout⟩ : ∃ o, o = F_J9_min_7cf53 X σ v0 v1 := ⟨_, rfl⟩
  have hF := hout.symm
  unfold F_J9_min_7cf53 at hF
  refine lv_iload_n hx hb dJ9_min_7cf53_0 rfl (lv_at hl 0 rfl) ?_
  refine lv_iload_n hx hb dJ9_min_7cf53_1 rfl (lv_at hl 1 rfl) ?_
  refine q_icmp_gt (A := v0.toInt) (B := v1.toInt) E rfl rfl (tgt := 9) dJ9_min_7cf53_2 (by decide) (fun c_1 => ?_) (fun c_1 => ?_)
  · skip
    replace hF := q_ifp hF c_1
    refine lv_iload_n hx hb dJ9_min_7cf53_9 rfl (lv_at hl 1 rfl) ?_
    exact q_reti E hr hlk hI ⟨rfl, (by omega), (hF.trans hout)⟩ dJ9_min_7cf53_10
  · skip
    replace hF := q_ifn hF (Int.not_lt.mpr c_1)
    refine lv_iload_n hx hb dJ9_min_7cf53_5 rfl (lv_at hl 0 rfl) ?_
    refine lv_goto (tgt := 10) hx hb dJ9_min_7cf53_6 (by decide) ?_
    exact q_reti E hr hlk hI ⟨rfl, (by omega), (hF.trans hout)⟩ dJ9_min_7cf53_10

set_option maxRecDepth 100000 in
set_option maxHeartbeats 4000000 in
theorem c_J9_max_7cf53 (l : Launch) (X : XW) (σ : ST) (v0 : Int32) (v1 : Int32) : Met l yJ9_max_7cf53 (q_ws yJ9_max_7cf53 cJ9_max_7cf53 2 (some .int)) (q_rm 0 0) (q_P X σ [.int v0, .int v1]) (q_Qi X 9 σ (fun (r : Int32) (σ' : ST) => σ' = σ ∧ (r.toInt = max v0.toInt v1.toInt) ∧ r = F_J9_max_7cf53 X σ v0 v1)) 0 0 (q_reg X) := by
  refine q_met 9 (by first | exact q_j9 (n := "max") (d := "(II)I") (by decide) | decide +kernel) rfl (Nat.le_of_ble_eq_true rfl) (fun p e s m below meth c E hml hr hlk hI ls hl => ?_)
  have hx := E.1
  have hb := E.2.1
  have hl : lv_has ls 2 [(0, .int v0), (1, .int v1)] := hl
  obtain ⟨out, hout⟩ : ∃ o, o = F_J9_max_7cf53 X σ v0 v1 := ⟨_, rfl⟩
  have hF := hout.symm
  unfold F_J9_max_7cf53 at hF
  refine lv_iload_n hx hb dJ9_max_7cf53_0 rfl (lv_at hl 0 rfl) ?_
  refine lv_iload_n hx hb dJ9_max_7cf53_1 rfl (lv_at hl 1 rfl) ?_
  refine q_icmp_lt (A := v0.toInt) (B := v1.toInt) E rfl rfl (tgt := 9) dJ9_max_7cf53_2 (by decide) (fun c_1 => ?_) (fun c_1 => ?_)
  · skip
    replace hF := q_ifp hF c_1
    refine lv_iload_n hx hb dJ9_max_7cf53_9 rfl (lv_at hl 1 rfl) ?_
    exact q_reti E hr hlk hI ⟨rfl, (by omega), (hF.trans hout)⟩ dJ9_max_7cf53_10
  · skip
    replace hF := q_ifn hF (Int.not_lt.mpr c_1)
    refine lv_iload_n hx hb dJ9_max_7cf53_5 rfl (lv_at hl 0 rfl) ?_
    refine lv_goto (tgt := 10) hx hb dJ9_max_7cf53_6 (by decide) ?_
    exact q_reti E hr hlk hI ⟨rfl, (by omega), (hF.trans hout)⟩ dJ9_max_7cf53_10

set_option maxRecDepth 100000 in
set_option maxHeartbeats 4000000 in
theorem c_X10_make (l : Launch) (X : XW) (σ : ST) (a : Nat) (v1 : Int32) (v2 : Int32) (ha : q_kd X a = 10) (h0 : 0 ≤ v1.toInt) (h1 : v1.toInt ≤ 3) : Met l yX10_make (q_ws yX10_make cX10_make 4 none) (q_rm 1 21) (q_P X σ [.ref a, .int v1, .int v2]) (q_Qv X 0 σ (fun (σ' : ST) => (q_KS (fun b g => b = a ∧ g ≤ 1) 8 X σ σ') ∧ (σ'.1 a 0 = v1) ∧ ((σ'.1 a 1).toInt = max 0 (min v2.toInt 60)) ∧ σ' = F_X10_make X σ a v1 v2 ∧ q_ow [(10, 0), (10, 1)] [(21, 99)] X σ σ')) 0 0 (q_reg X) := by
  refine q_met 0 (by first | exact rfl | decide +kernel) rfl (Nat.le_of_ble_eq_true rfl) (fun p e s m below meth c E hml hr hlk hI ls hl => ?_)
  have hx := E.1
  have hb := E.2.1
  have hl : lv_has ls 4 [(0, .ref a), (1, .int v1), (2, .int v2)] := hl
  have ks_σ : q_KS (fun b g => b = a ∧ g ≤ 1) 8 X σ σ := q_KS.rf
  have fr_σ : q_ow [(10, 0), (10, 1)] [(21, 99)] X σ σ := q_ow.rf
  obtain ⟨out, hout⟩ : ∃ o, o = F_X10_make X σ a v1 v2 := ⟨_, rfl⟩
  have hF := hout.symm
  unfold F_X10_make at hF
  refine lv_aload_n hx hb dX10_make_0 rfl (lv_at hl 0 rfl) ?_
  refine lv_iload_n hx hb dX10_make_1 rfl (lv_at hl 1 rfl) ?_
  refine ps_X10_9_10 E hI ha (by decide) (by omega) (by omega) dX10_make_2 (fun H locs σ_1 hσ_1 hI => ?_)
  replace hF := q_letX hF hσ_1
  have fr_σ_1 := fr_σ.si hσ_1 ha rfl
  have ks_σ_1 : q_KS (fun b g => b = a ∧ g ≤ 1) 8 X σ σ_1 := ks_σ.siS hσ_1 ⟨rfl, by decide⟩
  have p0σ_1 : σ_1.1 a 0 = v1 := q_rd hσ_1
  refine lv_aload_n hx hb dX10_make_5 rfl (lv_at hl 0 rfl) ?_
  refine lv_iconst (v := 0) hx hb dX10_make_6 (by decide) ?_
  refine lv_iload_n hx hb dX10_make_7 rfl (lv_at hl 2 rfl) ?_
  refine lv_bipush (v := 60) hx hb dX10_make_8 (by decide) ?_
  have kc_2 : (60 : Int32).toInt = 60 := rfl
  refine q_ci (q_runS (As := [.int v2, .int 60]) (rest := [.int 0, .ref a]) E (hml.trans hl.1.symm) hI (c_J9_min_7cf53 l X σ_1 v2 (60 : Int32)) ks_X10_22 rfl ⟨Nat.le_of_ble_eq_true rfl, Nat.le_of_ble_eq_true rfl⟩ ⟨Nat.le_refl _, Nat.le_refl _⟩ rfl (Nat.le_of_ble_eq_true rfl) dX10_make_10) hI (by decide) (fun r_3 σ_4 H locs hpσ_4 hkσ_4 hI => ?_)
  obtain ⟨ahpσ_4, bhpσ_4, chpσ_4⟩ := hpσ_4
  rw [ahpσ_4] at hI
  replace hF := q_letX hF chpσ_4
  have kc_5 : (0 : Int32).toInt = 0 := rfl
  refine q_ci (q_runS (As := [.int 0, .int r_3]) (rest := [.ref a]) E (hml.trans hl.1.symm) hI (c_J9_max_7cf53 l X σ_1 (0 : Int32) r_3) ks_X10_28 rfl ⟨Nat.le_of_ble_eq_true rfl, Nat.le_of_ble_eq_true rfl⟩ ⟨Nat.le_refl _, Nat.le_refl _⟩ rfl (Nat.le_of_ble_eq_true rfl) dX10_make_13) hI (by decide) (fun r_6 σ_7 H locs hpσ_7 hkσ_7 hI => ?_)
  obtain ⟨ahpσ_7, bhpσ_7, chpσ_7⟩ := hpσ_7
  rw [ahpσ_7] at hI
  replace hF := q_letX hF chpσ_7
  refine ps_X10_15_10 E hI ha (by decide) (by first | (clear h0 h1 p0σ_1 kc_2 ahpσ_4 chpσ_4 ahpσ_7 chpσ_7; omega) | omega) (by first | (clear h0 h1 p0σ_1 ahpσ_4 chpσ_4 ahpσ_7 chpσ_7; omega) | omega) dX10_make_16 (fun H locs σ_8 hσ_8 hI => ?_)
  replace hF := q_letX hF hσ_8
  have fr_σ_8 := fr_σ_1.si hσ_8 ha rfl
  have ks_σ_8 : q_KS (fun b g => b = a ∧ g ≤ 1) 8 X σ σ_8 := ks_σ_1.siS hσ_8 ⟨rfl, by decide⟩
  have p0σ_8 : σ_8.1 a 0 = v1 := (q_rdn hσ_8 (Or.inr (by decide))).trans p0σ_1
  have p1σ_8 : (σ_8.1 a 1).toInt = max 0 (min v2.toInt 60) := by rw [q_rd hσ_8]; omega
  refine lv_iconst (v := 0) hx hb dX10_make_19 (by decide) ?_
  refine lv_istore_n (lv' := [(3, .int 0), (0, .ref a), (1, .int v1), (2, .int v2)]) hx hb dX10_make_20 rfl hl (by decide) rfl (fun ls hl => ?_)
  have L_21_11 : ∀ (k_11 : Nat) (x_9 : Int32) (σ_10 : ST) (H : Heap) (locs : List Loc) (ls : Array Slot), (2147483647 - x_9.toInt).toNat < k_11 → (0 ≤ x_9.toInt) → (σ_10.1 a 0 = v1) → ((σ_10.1 a 1).toInt = max 0 (min v2.toInt 60)) → (q_KS (fun b g => b = a ∧ g ≤ 1) 8 X σ σ_10) → (q_ow [(10, 0), (10, 1)] [(21, 99)] X σ σ_10) → (F_X10_make_L21_1 X a k_11 x_9 σ_10 = out) → q_I X 0 σ s.heap locs σ_10 H → lv_has ls 4 [(0, .ref a), (1, .int v1), (2, .int v2), (3, .int x_9)] → W p l e (q_rm 1 21) s m ([.ref a, .int v1, .int v2] : List Value).toArray below meth c H locs 0 0 (MQ below (q_Qv X 0 σ (fun (σ' : ST) => (q_KS (fun b g => b = a ∧ g ≤ 1) 8 X σ σ') ∧ (σ'.1 a 0 = v1) ∧ ((σ'.1 a 1).toInt = max 0 (min v2.toInt 60)) ∧ σ' = F_X10_make X σ a v1 v2 ∧ q_ow [(10, 0), (10, 1)] [(21, 99)] X σ σ')) ([.ref a, .int v1, .int v2] : List Value).toArray s 0 0 (q_reg X)) (F0 m 21 ls []) := by
    clear hF
    intro k_11
    induction k_11 with
    | zero =>
      intro x_9 σ_10 H locs ls hms
      exact absurd hms (Nat.not_lt_zero _)
    | succ k_11 ih21 =>
      intro x_9 σ_10 H locs ls hm21 hge21 p0σ_10 p1σ_10 ks_σ_10 fr_σ_10 hF hI hl
      replace hF := (F_X10_make_L21_1_s).symm.trans hF
      unfold F_X10_make_B21_1 at hF
      refine lv_iload_n hx hb dX10_make_21 rfl (lv_at hl 3 rfl) ?_
      refine lv_bipush (v := 60) hx hb dX10_make_22 (by decide) ?_
      have gc_12_x_9 := q_rng x_9
      refine q_icmp_ge (A := x_9.toInt) (B := 60) E rfl (by decide) (tgt := 40) dX10_make_24 (by decide) (fun c_12 => ?_) (fun c_12 => ?_)
      · skip
        replace hF := q_ifn hF (Int.not_lt.mpr c_12)
        skip
        exact q_retv E hr hlk hI ⟨ks_σ_10, p0σ_10, p1σ_10, (hF.trans hout), fr_σ_10⟩ dX10_make_40
      · skip
        replace hF := q_ifp hF c_12
        refine lv_aload_n hx hb dX10_make_27 rfl (lv_at hl 0 rfl) ?_
        refine gs_X10_18_10 E hI ha dX10_make_28 ?_
        refine lv_iload_n hx hb dX10_make_31 rfl (lv_at hl 3 rfl) ?_
        refine lv_lconst (v := 0) hx hb dX10_make_32 (by decide) ?_
        refine q_lastN E hI (q_tk (k' := 21) hI ha rfl (by decide)) ⟨by decide, rfl⟩ (by omega) (by rw [q_lnk (v := 60) hI (q_tk (k' := 21) hI ha rfl (by decide)) rfl (by decide)]; omega) dX10_make_33 (fun H locs σ_13 hσ_13 hI => ?_)
        replace hF := q_letX hF hσ_13
        have fr_σ_13 := fr_σ_10.sl hσ_13 (q_tk (k' := 21) hI ha rfl (by decide)) rfl
        have ks_σ_13 : q_KS (fun b g => b = a ∧ g ≤ 1) 8 X σ σ_13 := ks_σ_10.sl hσ_13
        have p0σ_13 : σ_13.1 a 0 = v1 := (q_rdl hσ_13).trans p0σ_10
        have p1σ_13 : (σ_13.1 a 1).toInt = max 0 (min v2.toInt 60) := (congrArg Int32.toInt (q_rdl hσ_13)).trans p1σ_10
        obtain ⟨z_14, ez_14⟩ : ∃ y : Int32, y = x_9 + 1 := ⟨_, rfl⟩
        replace hF := q_letX hF ez_14
        refine lv_iinc (v := z_14) (lv' := [(3, .int z_14), (0, .ref a), (1, .int v1), (2, .int v2)]) hx hb dX10_make_34 hl (k := 3) rfl (by rw [ez_14]; rfl) (by decide) rfl (fun ls hl => ?_)
        have iz_14 : z_14.toInt = x_9.toInt + 1 := q_inc ez_14 (by first | (clear h0 h1 p0σ_1 kc_2 ahpσ_4 bhpσ_4 chpσ_4 kc_5 ahpσ_7 bhpσ_7 chpσ_7 p0σ_8 p1σ_8 hm21 p0σ_10 p1σ_10 p0σ_13 p1σ_13; omega) | omega)
        refine lv_goto (tgt := 21) hx hb dX10_make_37 (by decide) ?_
        exact ih21 z_14 σ_13 _ _ ls (by first | (clear h0 h1 p0σ_1 kc_2 ahpσ_4 bhpσ_4 chpσ_4 kc_5 ahpσ_7 bhpσ_7 chpσ_7 p0σ_8 p1σ_8 p0σ_10 p1σ_10 p0σ_13 p1σ_13; omega) | omega) (by first | (clear h0 h1 p0σ_1 kc_2 ahpσ_4 bhpσ_4 chpσ_4 kc_5 ahpσ_7 bhpσ_7 chpσ_7 p0σ_8 p1σ_8 hm21 p0σ_10 p1σ_10 p0σ_13 p1σ_13; omega) | omega) p0σ_13 p1σ_13 ks_σ_13 fr_σ_13 hF hI (lv_sub hl [1, 2, 3, 0] rfl)
  exact L_21_11 ((2147483647 - (0 : Int32).toInt).toNat + 1) 0 σ_8 _ _ ls (Nat.lt_succ_self _) (by decide) p0σ_8 p1σ_8 ks_σ_8 fr_σ_8 hF hI (lv_sub hl [1, 2, 3, 0] rfl)

set_option maxRecDepth 100000 in
set_option maxHeartbeats 4000000 in
theorem c_X10_isMissing (l : Launch) (X : XW) (σ : ST) (a : Nat) (ha : q_kd X a = 10) : Met l yX10_isMissing (q_ws yX10_isMissing cX10_isMissing 1 (some .boolean)) (q_rm 0 0) (q_P X σ [.ref a]) (q_Qi X 9 σ (fun (r : Int32) (σ' : ST) => σ' = σ ∧ (0 ≤ r.toInt ∧ r.toInt ≤ 1) ∧ (r.toInt = 1 ↔ (σ.1 a 1).toInt = -1) ∧ r = F_X10_isMissing X σ a)) 0 0 (q_reg X) := by
  refine q_met 9 (by first | exact rfl | decide +kernel) rfl (Nat.le_of_ble_eq_true rfl) (fun p e s m below meth c E hml hr hlk hI ls hl => ?_)
  have hx := E.1
  have hb := E.2.1
  have hl : lv_has ls 1 [(0, .ref a)] := hl
  obtain ⟨out, hout⟩ : ∃ o, o = F_X10_isMissing X σ a := ⟨_, rfl⟩
  have hF := hout.symm
  unfold F_X10_isMissing at hF
  refine lv_aload_n hx hb dX10_isMissing_0 rfl (lv_at hl 0 rfl) ?_
  refine gs_X10_15_10 E hI ha dX10_isMissing_1 ?_
  refine lv_topi (fun f_1 ef_1 => ?_)
  replace hF := q_letX hF ef_1
  have if_1 : f_1.toInt = (σ.1 a 1).toInt := congrArg Int32.toInt ef_1
  have bf_1 : -1 ≤ f_1.toInt ∧ f_1.toInt ≤ 60 := by rw [ef_1]; exact q_bd hI ha rfl
  refine lv_iconst (v := (-1)) hx hb dX10_isMissing_4 (by decide) ?_
  refine q_icmp_ne (A := f_1.toInt) (B := (-1)) E rfl (by decide) (tgt := 12) dX10_isMissing_5 (by decide) (fun c_2 => ?_) (fun c_2 => ?_)
  · skip
    replace hF := q_ifn hF c_2
    refine lv_iconst (v := 0) hx hb dX10_isMissing_12 (by decide) ?_
    have hrv : (0 : Int32).toInt = 0 := rfl
    exact q_retz E hr hlk hI ⟨by decide, by decide⟩ ⟨rfl, ⟨by decide, by decide⟩, (by constructor <;> intro h9 <;> omega), (hF.trans hout)⟩ dX10_isMissing_13
  · skip
    replace hF := q_ifp hF c_2
    refine lv_iconst (v := 1) hx hb dX10_isMissing_8 (by decide) ?_
    refine lv_goto (tgt := 13) hx hb dX10_isMissing_9 (by decide) ?_
    have hrv : (1 : Int32).toInt = 1 := rfl
    exact q_retz E hr hlk hI ⟨by decide, by decide⟩ ⟨rfl, ⟨by decide, by decide⟩, (by constructor <;> intro h9 <;> omega), (hF.trans hout)⟩ dX10_isMissing_13

set_option maxRecDepth 100000 in
set_option maxHeartbeats 4000000 in
theorem c_X10_hasPlaces (l : Launch) (X : XW) (σ : ST) (a : Nat) (v1 : Int32) (v2 : Int32) (ha : q_kd X a = 10) : Met l yX10_hasPlaces (q_ws yX10_hasPlaces cX10_hasPlaces 3 (some .boolean)) (q_rm 0 0) (q_P X σ [.ref a, .int v1, .int v2]) (q_Qi X 9 σ (fun (r : Int32) (σ' : ST) => σ' = σ ∧ (0 ≤ r.toInt ∧ r.toInt ≤ 1) ∧ (r.toInt = 1 ↔ (0 ≤ v2.toInt ∧ 0 ≤ v1.toInt ∧ v1.toInt + v2.toInt ≤ (σ.1 a 1).toInt)) ∧ r = F_X10_hasPlaces X σ a v1 v2)) 0 0 (q_reg X) := by
  refine q_met 9 (by first | exact rfl | decide +kernel) rfl (Nat.le_of_ble_eq_true rfl) (fun p e s m below meth c E hml hr hlk hI ls hl => ?_)
  have hx := E.1
  have hb := E.2.1
  have hl : lv_has ls 3 [(0, .ref a), (1, .int v1), (2, .int v2)] := hl
  obtain ⟨out, hout⟩ : ∃ o, o = F_X10_hasPlaces X σ a v1 v2 := ⟨_, rfl⟩
  have hF := hout.symm
  unfold F_X10_hasPlaces at hF
  refine lv_iload_n hx hb dX10_hasPlaces_0 rfl (lv_at hl 2 rfl) ?_
  refine q_if_lt (A := v2.toInt) E rfl (tgt := 30) dX10_hasPlaces_1 (by decide) (fun c_1 => ?_) (fun c_1 => ?_)
  · skip
    replace hF := q_ifp hF c_1
    refine lv_iconst (v := 0) hx hb dX10_hasPlaces_30 (by decide) ?_
    have hrv : (0 : Int32).toInt = 0 := rfl
    exact q_retz E hr hlk hI ⟨by decide, by decide⟩ ⟨rfl, ⟨by decide, by decide⟩, (by constructor <;> intro h9 <;> omega), (hF.trans hout)⟩ dX10_hasPlaces_31
  · skip
    replace hF := q_ifn hF (Int.not_lt.mpr c_1)
    refine lv_iload_n hx hb dX10_hasPlaces_4 rfl (lv_at hl 2 rfl) ?_
    refine lv_aload_n hx hb dX10_hasPlaces_5 rfl (lv_at hl 0 rfl) ?_
    refine gs_X10_15_10 E hI ha dX10_hasPlaces_6 ?_
    refine lv_topi (fun f_2 ef_2 => ?_)
    replace hF := q_letX hF ef_2
    have if_2 : f_2.toInt = (σ.1 a 1).toInt := congrArg Int32.toInt ef_2
    have bf_2 : -1 ≤ f_2.toInt ∧ f_2.toInt ≤ 60 := by rw [ef_2]; exact q_bd hI ha rfl
    have gc_3_v2 := q_rng v2
    have gc_3_f_2 := q_rng f_2
    refine q_icmp_gt (A := v2.toInt) (B := f_2.toInt) E rfl rfl (tgt := 30) dX10_hasPlaces_9 (by decide) (fun c_3 => ?_) (fun c_3 => ?_)
    · skip
      replace hF := q_ifp hF c_3
      refine lv_iconst (v := 0) hx hb dX10_hasPlaces_30 (by decide) ?_
      have hrv : (0 : Int32).toInt = 0 := rfl
      exact q_retz E hr hlk hI ⟨by decide, by decide⟩ ⟨rfl, ⟨by decide, by decide⟩, (by constructor <;> intro h9 <;> omega), (hF.trans hout)⟩ dX10_hasPlaces_31
    · skip
      replace hF := q_ifn hF (Int.not_lt.mpr c_3)
      refine lv_iload_n hx hb dX10_hasPlaces_12 rfl (lv_at hl 1 rfl) ?_
      refine q_if_lt (A := v1.toInt) E rfl (tgt := 30) dX10_hasPlaces_13 (by decide) (fun c_4 => ?_) (fun c_4 => ?_)
      · skip
        replace hF := q_ifp hF c_4
        refine lv_iconst (v := 0) hx hb dX10_hasPlaces_30 (by decide) ?_
        have hrv : (0 : Int32).toInt = 0 := rfl
        exact q_retz E hr hlk hI ⟨by decide, by decide⟩ ⟨rfl, ⟨by decide, by decide⟩, (by constructor <;> intro h9 <;> omega), (hF.trans hout)⟩ dX10_hasPlaces_31
      · skip
        replace hF := q_ifn hF (Int.not_lt.mpr c_4)
        refine lv_iload_n hx hb dX10_hasPlaces_16 rfl (lv_at hl 1 rfl) ?_
        refine lv_aload_n hx hb dX10_hasPlaces_17 rfl (lv_at hl 0 rfl) ?_
        refine gs_X10_15_10 E hI ha dX10_hasPlaces_18 ?_
        refine lv_topi (fun f_5 ef_5 => ?_)
        replace hF := q_letX hF ef_5
        have if_5 : f_5.toInt = (σ.1 a 1).toInt := congrArg Int32.toInt ef_5
        have bf_5 : -1 ≤ f_5.toInt ∧ f_5.toInt ≤ 60 := by rw [ef_5]; exact q_bd hI ha rfl
        refine lv_iload_n hx hb dX10_hasPlaces_21 rfl (lv_at hl 2 rfl) ?_
        refine lv_isub hx hb dX10_hasPlaces_22 ?_
        refine lv_topi (fun z_6 ez_6 => ?_)
        replace hF := q_letX hF ez_6
        have iz_6 := q_sub ez_6 (by first | (clear c_1 bf_2 gc_3_v2 gc_3_f_2 c_4 bf_5; omega) | omega) (by first | (clear gc_3_f_2 c_3 c_4 bf_5; omega) | omega)
        have gc_7_v1 := q_rng v1
        have gc_7_z_6 := q_rng z_6
        refine q_icmp_gt (A := v1.toInt) (B := z_6.toInt) E rfl rfl (tgt := 30) dX10_hasPlaces_23 (by decide) (fun c_7 => ?_) (fun c_7 => ?_)
        · skip
          replace hF := q_ifp hF c_7
          refine lv_iconst (v := 0) hx hb dX10_hasPlaces_30 (by decide) ?_
          have hrv : (0 : Int32).toInt = 0 := rfl
          exact q_retz E hr hlk hI ⟨by decide, by decide⟩ ⟨rfl, ⟨by decide, by decide⟩, (by constructor <;> intro h9 <;> omega), (hF.trans hout)⟩ dX10_hasPlaces_31
        · skip
          replace hF := q_ifn hF (Int.not_lt.mpr c_7)
          refine lv_iconst (v := 1) hx hb dX10_hasPlaces_26 (by decide) ?_
          refine lv_goto (tgt := 31) hx hb dX10_hasPlaces_27 (by decide) ?_
          have hrv : (1 : Int32).toInt = 1 := rfl
          exact q_retz E hr hlk hI ⟨by decide, by decide⟩ ⟨rfl, ⟨by decide, by decide⟩, (by constructor <;> intro h9 <;> omega), (hF.trans hout)⟩ dX10_hasPlaces_31

set_option maxRecDepth 100000 in
set_option maxHeartbeats 4000000 in
theorem c_X10_cut (l : Launch) (X : XW) (σ : ST) (a : Nat) (v1 : Int64) (ha : q_kd X a = 10) : Met l yX10_cut (q_ws yX10_cut cX10_cut 3 (some .long)) (q_rm 0 0) (q_P X σ [.ref a, .long v1]) (q_Ql X 9 σ (fun (r : Int64) (σ' : ST) => σ' = σ ∧ r = F_X10_cut X σ a v1)) 0 0 (q_reg X) := by
  refine q_met 9 (by first | exact rfl | decide +kernel) rfl (Nat.le_of_ble_eq_true rfl) (fun p e s m below meth c E hml hr hlk hI ls hl => ?_)
  have hx := E.1
  have hb := E.2.1
  have hl : lv_has ls 3 [(0, .ref a), (1, .long v1)] := hl
  obtain ⟨out, hout⟩ : ∃ o, o = F_X10_cut X σ a v1 := ⟨_, rfl⟩
  have hF := hout.symm
  unfold F_X10_cut at hF
  refine lv_aload_n hx hb dX10_cut_0 rfl (lv_at hl 0 rfl) ?_
  refine gs_X10_9_10 E hI ha dX10_cut_1 ?_
  refine lv_topi (fun f_1 ef_1 => ?_)
  replace hF := q_letX hF ef_1
  have bf_1 : 0 ≤ f_1.toInt ∧ f_1.toInt ≤ 3 := by rw [ef_1]; exact q_bd hI ha rfl
  by_cases c_2 : f_1.toInt = 0
  · refine lv_tableIn (off := 28) (tgt := 32) hx hb dX10_cut_4 (by first | (clear bf_1; omega) | omega) (by first | (clear bf_1; omega) | omega) (by rw [c_2]; rfl) (by decide) ?_
    replace hF := q_ifp hF c_2
    refine lv_lload_n hx hb dX10_cut_32 rfl (lv_at hl 1 rfl) ?_
    refine lv_l2i hx hb dX10_cut_33 rfl ?_
    refine lv_topi (fun z_3 ez_3 => ?_)
    replace hF := q_letX hF ez_3
    refine lv_i2b hx hb dX10_cut_34 rfl ?_
    refine lv_topi (fun z_4 ez_4 => ?_)
    replace hF := q_letX hF ez_4
    refine lv_i2l hx hb dX10_cut_35 rfl ?_
    refine lv_topl (fun y_5 ey_5 => ?_)
    replace hF := q_letX hF ey_5
    exact q_retl E hr hlk hI ⟨rfl, (hF.trans hout)⟩ dX10_cut_36
  replace hF := q_ifn hF c_2
  by_cases c_6 : f_1.toInt = 1
  · refine lv_tableIn (off := 33) (tgt := 37) hx hb dX10_cut_4 (by first | (clear bf_1; omega) | omega) (by first | (clear bf_1; omega) | omega) (by rw [c_6]; rfl) (by decide) ?_
    replace hF := q_ifp hF c_6
    refine lv_lload_n hx hb dX10_cut_37 rfl (lv_at hl 1 rfl) ?_
    refine lv_l2i hx hb dX10_cut_38 rfl ?_
    refine lv_topi (fun z_7 ez_7 => ?_)
    replace hF := q_letX hF ez_7
    refine lv_i2s hx hb dX10_cut_39 rfl ?_
    refine lv_topi (fun z_8 ez_8 => ?_)
    replace hF := q_letX hF ez_8
    refine lv_i2l hx hb dX10_cut_40 rfl ?_
    refine lv_topl (fun y_9 ey_9 => ?_)
    replace hF := q_letX hF ey_9
    exact q_retl E hr hlk hI ⟨rfl, (hF.trans hout)⟩ dX10_cut_41
  replace hF := q_ifn hF c_6
  by_cases c_10 : f_1.toInt = 2
  · refine lv_tableIn (off := 38) (tgt := 42) hx hb dX10_cut_4 (by first | (clear bf_1; omega) | omega) (by first | (clear bf_1; omega) | omega) (by rw [c_10]; rfl) (by decide) ?_
    replace hF := q_ifp hF c_10
    refine lv_lload_n hx hb dX10_cut_42 rfl (lv_at hl 1 rfl) ?_
    refine lv_l2i hx hb dX10_cut_43 rfl ?_
    refine lv_topi (fun z_11 ez_11 => ?_)
    replace hF := q_letX hF ez_11
    refine lv_i2l hx hb dX10_cut_44 rfl ?_
    refine lv_topl (fun y_12 ey_12 => ?_)
    replace hF := q_letX hF ey_12
    exact q_retl E hr hlk hI ⟨rfl, (hF.trans hout)⟩ dX10_cut_45
  replace hF := q_ifn hF c_10
  refine lv_tableOut (tgt := 46) hx hb dX10_cut_4 (by omega) (by decide) ?_
  refine lv_lload_n hx hb dX10_cut_46 rfl (lv_at hl 1 rfl) ?_
  exact q_retl E hr hlk hI ⟨rfl, (hF.trans hout)⟩ dX10_cut_47

set_option maxRecDepth 100000 in
set_option maxHeartbeats 4000000 in
theorem c_X10_put (l : Launch) (X : XW) (σ : ST) (a : Nat) (v1 : Int32) (v2 : Int64) (ha : q_kd X a = 10) : Met l yX10_put (q_ws yX10_put cX10_put 4 none) (q_rm 1 22) (q_P X σ [.ref a, .int v1, .long v2]) (q_Qv X 8 σ (fun (σ' : ST) => σ' = F_X10_put X σ a v1 v2 ∧ q_ow [] [(21, 99)] X σ σ')) 0 0 (q_reg X) := by
  refine q_met 8 (by first | exact rfl | decide +kernel) rfl (Nat.le_of_ble_eq_true rfl) (fun p e s m below meth c E hml hr hlk hI ls hl => ?_)
  have hx := E.1
  have hb := E.2.1
  have hl : lv_has ls 4 [(0, .ref a), (1, .int v1), (2, .long v2)] := hl
  have fr_σ : q_ow [] [(21, 99)] X σ σ := q_ow.rf
  obtain ⟨out, hout⟩ : ∃ o, o = F_X10_put X σ a v1 v2 := ⟨_, rfl⟩
  have hF := hout.symm
  unfold F_X10_put at hF
  refine lv_iload_n hx hb dX10_put_0 rfl (lv_at hl 1 rfl) ?_
  refine q_if_lt (A := v1.toInt) E rfl (tgt := 21) dX10_put_1 (by decide) (fun c_1 => ?_) (fun c_1 => ?_)
  · skip
    replace hF := q_ifp hF c_1
    exact q_retv E hr hlk hI ⟨(hF.trans hout), fr_σ⟩ dX10_put_21
  · skip
    replace hF := q_ifn hF (Int.not_lt.mpr c_1)
    refine lv_iload_n hx hb dX10_put_4 rfl (lv_at hl 1 rfl) ?_
    refine lv_bipush (v := 60) hx hb dX10_put_5 (by decide) ?_
    refine q_icmp_ge (A := v1.toInt) (B := 60) E rfl (by decide) (tgt := 21) dX10_put_7 (by decide) (fun c_2 => ?_) (fun c_2 => ?_)
    · skip
      replace hF := q_ifn hF (Int.not_lt.mpr c_2)
      exact q_retv E hr hlk hI ⟨(hF.trans hout), fr_σ⟩ dX10_put_21
    · skip
      replace hF := q_ifp hF c_2
      refine lv_aload_n hx hb dX10_put_10 rfl (lv_at hl 0 rfl) ?_
      refine gs_X10_18_10 E hI ha dX10_put_11 ?_
      refine lv_iload_n hx hb dX10_put_14 rfl (lv_at hl 1 rfl) ?_
      refine lv_aload_n hx hb dX10_put_15 rfl (lv_at hl 0 rfl) ?_
      refine lv_lload_n hx hb dX10_put_16 rfl (lv_at hl 2 rfl) ?_
      refine q_cl_ (q_runV (As := [.long v2]) (rest := [.int v1, .ref (q_rf X a 2)]) E (hml.trans hl.1.symm) hI (c_X10_cut l X σ a v2 ha) kv_X10_31 ha ⟨rfl, by decide⟩ (show vwCl[9]? = some (RX10, TX10, 3) from rfl) rfl ⟨Nat.le_of_ble_eq_true rfl, Nat.le_of_ble_eq_true rfl⟩ ⟨Nat.le_refl _, Nat.le_refl _⟩ rfl (Nat.le_of_ble_eq_true rfl) dX10_put_17) hI (by decide) (fun r_3 σ_4 H locs hpσ_4 hkσ_4 hI => ?_)
      obtain ⟨ahpσ_4, bhpσ_4⟩ := hpσ_4
      rw [ahpσ_4] at hI
      replace hF := q_letX hF bhpσ_4
      refine q_lastN E hI (q_tk (k' := 21) hI ha rfl (by decide)) ⟨by decide, rfl⟩ (by omega) (by rw [q_lnk (v := 60) hI (q_tk (k' := 21) hI ha rfl (by decide)) rfl (by decide)]; omega) dX10_put_20 (fun H locs σ_5 hσ_5 hI => ?_)
      replace hF := q_letX hF hσ_5
      have fr_σ_5 := fr_σ.sl hσ_5 (q_tk (k' := 21) hI ha rfl (by decide)) rfl
      exact q_retv E hr hlk hI ⟨(hF.trans hout), fr_σ_5⟩ dX10_put_21

set_option maxRecDepth 100000 in
set_option maxHeartbeats 4000000 in
theorem c_X10_get (l : Launch) (X : XW) (σ : ST) (a : Nat) (v1 : Int32) (ha : q_kd X a = 10) : Met l yX10_get (q_ws yX10_get cX10_get 2 (some .long)) (q_rm 0 0) (q_P X σ [.ref a, .int v1]) (q_Ql X 9 σ (fun (r : Int64) (σ' : ST) => σ' = σ ∧ r = F_X10_get X σ a v1)) 0 0 (q_reg X) := by
  refine q_met 9 (by first | exact rfl | decide +kernel) rfl (Nat.le_of_ble_eq_true rfl) (fun p e s m below meth c E hml hr hlk hI ls hl => ?_)
  have hx := E.1
  have hb := E.2.1
  have hl : lv_has ls 2 [(0, .ref a), (1, .int v1)] := hl
  obtain ⟨out, hout⟩ : ∃ o, o = F_X10_get X σ a v1 := ⟨_, rfl⟩
  have hF := hout.symm
  unfold F_X10_get at hF
  refine lv_iload_n hx hb dX10_get_0 rfl (lv_at hl 1 rfl) ?_
  refine q_if_lt (A := v1.toInt) E rfl (tgt := 19) dX10_get_1 (by decide) (fun c_1 => ?_) (fun c_1 => ?_)
  · skip
    replace hF := q_ifp hF c_1
    refine lv_lconst (v := 0) hx hb dX10_get_19 (by decide) ?_
    exact q_retl E hr hlk hI ⟨rfl, (hF.trans hout)⟩ dX10_get_20
  · skip
    replace hF := q_ifn hF (Int.not_lt.mpr c_1)
    refine lv_iload_n hx hb dX10_get_4 rfl (lv_at hl 1 rfl) ?_
    refine lv_bipush (v := 60) hx hb dX10_get_5 (by decide) ?_
    refine q_icmp_ge (A := v1.toInt) (B := 60) E rfl (by decide) (tgt := 19) dX10_get_7 (by decide) (fun c_2 => ?_) (fun c_2 => ?_)
    · skip
      replace hF := q_ifn hF (Int.not_lt.mpr c_2)
      refine lv_lconst (v := 0) hx hb dX10_get_19 (by decide) ?_
      exact q_retl E hr hlk hI ⟨rfl, (hF.trans hout)⟩ dX10_get_20
    · skip
      replace hF := q_ifp hF c_2
      refine lv_aload_n hx hb dX10_get_10 rfl (lv_at hl 0 rfl) ?_
      refine gs_X10_18_10 E hI ha dX10_get_11 ?_
      refine lv_iload_n hx hb dX10_get_14 rfl (lv_at hl 1 rfl) ?_
      refine q_lald E hI (q_tk (k' := 21) hI ha rfl (by decide)) ⟨by decide, rfl⟩ (by omega) (by rw [q_lnk (v := 60) hI (q_tk (k' := 21) hI ha rfl (by decide)) rfl (by decide)]; omega) dX10_get_15 ?_
      refine lv_topl (fun g_3 eg_3 => ?_)
      replace hF := q_letX hF eg_3
      refine lv_goto (tgt := 20) hx hb dX10_get_16 (by decide) ?_
      exact q_retl E hr hlk hI ⟨rfl, (hF.trans hout)⟩ dX10_get_20

set_option maxRecDepth 100000 in
set_option maxHeartbeats 4000000 in
theorem c_X10_copyFrom (l : Launch) (X : XW) (σ : ST) (a : Nat) (r1 : Nat) (v2 : Int32) (v3 : Int32) (v4 : Int32) (ha : q_kd X a = 10) (hr1 : q_kd X r1 = 10) : Met l yX10_copyFrom (q_ws yX10_copyFrom cX10_copyFrom 5 none) (q_rm 1 60) (q_P X σ [.ref a, .ref r1, .int v2, .int v3, .int v4]) (q_Qv X 8 σ (fun (σ' : ST) => σ' = F_X10_copyFrom X σ a r1 v2 v3 v4 ∧ q_ow [] [(21, 99)] X σ σ')) 0 0 (q_reg X) := by
  refine q_met 8 (by first | exact rfl | decide +kernel) rfl (Nat.le_of_ble_eq_true rfl) (fun p e s m below meth c E hml hr hlk hI ls hl => ?_)
  have hx := E.1
  have hb := E.2.1
  have hl : lv_has ls 5 [(0, .ref a), (1, .ref r1), (2, .int v2), (3, .int v3), (4, .int v4)] := hl
  have fr_σ : q_ow [] [(21, 99)] X σ σ := q_ow.rf
  have gp0 := q_bd (f := 1) (lo := -1) (hi := 60) hI ha rfl
  have gp1 := q_bd (f := 1) (lo := -1) (hi := 60) hI hr1 rfl
  obtain ⟨out, hout⟩ : ∃ o, o = F_X10_copyFrom X σ a r1 v2 v3 v4 := ⟨_, rfl⟩
  have hF := hout.symm
  unfold F_X10_copyFrom at hF
  refine lv_aload_n hx hb dX10_copyFrom_0 rfl (lv_at hl 1 rfl) ?_
  refine lv_iload_n hx hb dX10_copyFrom_1 rfl (lv_at hl 2 rfl) ?_
  refine lv_iload hx hb dX10_copyFrom_2 (lv_at hl 4 rfl) ?_
  refine q_ci (q_runV (As := [.int v2, .int v4]) (rest := []) E (hml.trans hl.1.symm) hI (c_X10_hasPlaces l X σ r1 v2 v4 hr1) kv_X10_35 hr1 ⟨rfl, by decide⟩ (show vwCl[9]? = some (RX10, TX10, 3) from rfl) rfl ⟨Nat.le_of_ble_eq_true rfl, Nat.le_of_ble_eq_true rfl⟩ ⟨Nat.le_refl _, Nat.le_refl _⟩ rfl (Nat.le_of_ble_eq_true rfl) dX10_copyFrom_4) hI (by decide) (fun r_1 σ_2 H locs hpσ_2 hkσ_2 hI => ?_)
  obtain ⟨ahpσ_2, bhpσ_2, chpσ_2, dhpσ_2⟩ := hpσ_2
  rw [ahpσ_2] at hI
  replace hF := q_letX hF dhpσ_2
  refine q_if_eq (A := r_1.toInt) E rfl (tgt := 35) dX10_copyFrom_7 (by decide) (fun c_3 => ?_) (fun c_3 => ?_)
  · skip
    replace hF := q_ifp hF c_3
    replace chpσ_2 := q_ifNo chpσ_2 c_3
    exact q_retv E hr hlk hI ⟨(hF.trans hout), fr_σ⟩ dX10_copyFrom_35
  · skip
    replace hF := q_ifn hF c_3
    replace c_3 := q_ifOne bhpσ_2 c_3
    replace chpσ_2 := q_ifYes chpσ_2 c_3
    refine lv_aload_n hx hb dX10_copyFrom_10 rfl (lv_at hl 0 rfl) ?_
    refine lv_iload_n hx hb dX10_copyFrom_11 rfl (lv_at hl 3 rfl) ?_
    refine lv_iload hx hb dX10_copyFrom_12 (lv_at hl 4 rfl) ?_
    refine q_ci (q_runV (As := [.int v3, .int v4]) (rest := []) E (hml.trans hl.1.symm) hI (c_X10_hasPlaces l X σ a v3 v4 ha) kv_X10_35 ha ⟨rfl, by decide⟩ (show vwCl[9]? = some (RX10, TX10, 3) from rfl) rfl ⟨Nat.le_of_ble_eq_true rfl, Nat.le_of_ble_eq_true rfl⟩ ⟨Nat.le_refl _, Nat.le_refl _⟩ rfl (Nat.le_of_ble_eq_true rfl) dX10_copyFrom_14) hI (by decide) (fun r_4 σ_5 H locs hpσ_5 hkσ_5 hI => ?_)
    obtain ⟨ahpσ_5, bhpσ_5, chpσ_5, dhpσ_5⟩ := hpσ_5
    rw [ahpσ_5] at hI
    replace hF := q_letX hF dhpσ_5
    refine q_if_eq (A := r_4.toInt) E rfl (tgt := 35) dX10_copyFrom_17 (by decide) (fun c_6 => ?_) (fun c_6 => ?_)
    · skip
      replace hF := q_ifp hF c_6
      replace chpσ_5 := q_ifNo chpσ_5 c_6
      exact q_retv E hr hlk hI ⟨(hF.trans hout), fr_σ⟩ dX10_copyFrom_35
    · skip
      replace hF := q_ifn hF c_6
      replace c_6 := q_ifOne bhpσ_5 c_6
      replace chpσ_5 := q_ifYes chpσ_5 c_6
      refine lv_aload_n hx hb dX10_copyFrom_20 rfl (lv_at hl 1 rfl) ?_
      refine gs_X10_18_10 E hI hr1 dX10_copyFrom_21 ?_
      refine lv_iload_n hx hb dX10_copyFrom_24 rfl (lv_at hl 2 rfl) ?_
      refine lv_aload_n hx hb dX10_copyFrom_25 rfl (lv_at hl 0 rfl) ?_
      refine gs_X10_18_10 E hI ha dX10_copyFrom_26 ?_
      refine lv_iload_n hx hb dX10_copyFrom_29 rfl (lv_at hl 3 rfl) ?_
      refine lv_iload hx hb dX10_copyFrom_30 (lv_at hl 4 rfl) ?_
      refine q_copyl E (hml.trans hl.1.symm) hI (q_tk (k' := 21) hI hr1 rfl (by decide)) (q_tk (k' := 21) hI ha rfl (by decide)) (q_in_t3 (i := 94) (by first | rfl | decide +kernel) rfl) (q_in_t3 (i := 96) (by first | rfl | decide +kernel) rfl) (q_in_t3 (i := 95) (by first | rfl | decide +kernel) rfl) (q_in_t1 (i := 15) (by first | rfl | decide +kernel) rfl) (by first | (clear gp0 gp1 ahpσ_2 bhpσ_2 dhpσ_2 c_3 ahpσ_5 bhpσ_5 dhpσ_5 c_6 chpσ_5; omega) | omega) (by first | (clear gp0 gp1 ahpσ_2 bhpσ_2 dhpσ_2 c_3 chpσ_2 ahpσ_5 bhpσ_5 dhpσ_5 c_6; omega) | omega) (by first | (clear gp0 gp1 ahpσ_2 bhpσ_2 dhpσ_2 c_3 ahpσ_5 bhpσ_5 dhpσ_5 c_6 chpσ_5; omega) | omega) (by first | (clear gp0 ahpσ_2 bhpσ_2 dhpσ_2 c_3 ahpσ_5 bhpσ_5 dhpσ_5 c_6 chpσ_5; omega) | omega) (by first | (clear gp1 ahpσ_2 bhpσ_2 dhpσ_2 c_3 chpσ_2 ahpσ_5 bhpσ_5 dhpσ_5 c_6; omega) | omega) (by decide) (by decide) dX10_copyFrom_32 ⟨Nat.le_refl _, Nat.le_refl _⟩ (fun H locs σ_7 hσ_7 hI => ?_)
      replace hF := q_letX hF hσ_7
      have fr_σ_7 := fr_σ.cpy hσ_7 (q_tk (k' := 21) hI ha rfl (by decide)) (fun _ => rfl)
      exact q_retv E hr hlk hI ⟨(hF.trans hout), fr_σ_7⟩ dX10_copyFrom_35

set_option maxRecDepth 100000 in
set_option maxHeartbeats 4000000 in
theorem c_X5_clear (l : Launch) (X : XW) (σ : ST) (a : Nat) (ha : q_kd X a = 5) : Met l yX5_clear (q_ws yX5_clear cX5_clear 2 none) (q_rm 0 0) (q_P X σ [.ref a]) (q_Qv X 8 σ (fun (σ' : ST) => σ' = F_X5_clear X σ a ∧ q_ow [(20, 99)] [] X σ σ')) 0 0 (q_reg X) := by
  refine q_met 8 (by first | exact rfl | decide +kernel) rfl (Nat.le_of_ble_eq_true rfl) (fun p e s m below meth c E hml hr hlk hI ls hl => ?_)
  have hx := E.1
  have hb := E.2.1
  have hl : lv_has ls 2 [(0, .ref a)] := hl
  have fr_σ : q_ow [(20, 99)] [] X σ σ := q_ow.rf
  obtain ⟨out, hout⟩ : ∃ o, o = F_X5_clear X σ a := ⟨_, rfl⟩
  have hF := hout.symm
  unfold F_X5_clear at hF
  refine lv_iconst (v := 0) hx hb dX5_clear_0 (by decide) ?_
  refine lv_istore_n (lv' := [(1, .int 0), (0, .ref a)]) hx hb dX5_clear_1 rfl hl (by decide) rfl (fun ls hl => ?_)
  have L_2_3 : ∀ (k_3 : Nat) (x_1 : Int32) (σ_2 : ST) (H : Heap) (locs : List Loc) (ls : Array Slot), (2147483647 - x_1.toInt).toNat < k_3 → (0 ≤ x_1.toInt) → (q_ow [(20, 99)] [] X σ σ_2) → (F_X5_clear_L2_1 X a k_3 x_1 σ_2 = out) → q_I X 8 σ s.heap locs σ_2 H → lv_has ls 2 [(0, .ref a), (1, .int x_1)] → W p l e (q_rm 0 0) s m ([.ref a] : List Value).toArray below meth c H locs 0 0 (MQ below (q_Qv X 8 σ (fun (σ' : ST) => σ' = F_X5_clear X σ a ∧ q_ow [(20, 99)] [] X σ σ')) ([.ref a] : List Value).toArray s 0 0 (q_reg X)) (F0 m 2 ls []) := by
    clear hF
    intro k_3
    induction k_3 with
    | zero =>
      intro x_1 σ_2 H locs ls hms
      exact absurd hms (Nat.not_lt_zero _)
    | succ k_3 ih2 =>
      intro x_1 σ_2 H locs ls hm2 hge2 fr_σ_2 hF hI hl
      replace hF := (F_X5_clear_L2_1_s).symm.trans hF
      unfold F_X5_clear_B2_1 at hF
      refine lv_iload_n hx hb dX5_clear_2 rfl (lv_at hl 1 rfl) ?_
      refine lv_aload_n hx hb dX5_clear_3 rfl (lv_at hl 0 rfl) ?_
      refine gs_X5_13_5 E hI ha dX5_clear_4 ?_
      refine q_alenX E hI (q_tk (k' := 20) hI ha rfl (by decide)) (by decide) (t := 1) rfl rfl dX5_clear_7 (fun n_4 en_4 hn_4 => ?_)
      replace hF := q_letX hF en_4
      have gc_5_x_1 := q_rng x_1
      have gc_5_n_4 := q_rng n_4
      refine q_icmp_ge (A := x_1.toInt) (B := n_4.toInt) E rfl rfl (tgt := 24) dX5_clear_8 (by decide) (fun c_5 => ?_) (fun c_5 => ?_)
      · skip
        replace hF := q_ifn hF (Int.not_lt.mpr c_5)
        skip
        exact q_retv E hr hlk hI ⟨(hF.trans hout), fr_σ_2⟩ dX5_clear_24
      · skip
        replace hF := q_ifp hF c_5
        refine lv_aload_n hx hb dX5_clear_11 rfl (lv_at hl 0 rfl) ?_
        refine gs_X5_13_5 E hI ha dX5_clear_12 ?_
        refine lv_iload_n hx hb dX5_clear_15 rfl (lv_at hl 1 rfl) ?_
        refine lv_iconst (v := 0) hx hb dX5_clear_16 (by decide) ?_
        refine q_iastN E hI (q_tk (k' := 20) hI ha rfl (by decide)) ⟨by decide, rfl⟩ (by omega) (by first | (clear hm2 hge2 gc_5_x_1 gc_5_n_4; omega) | omega) (show 8 < 9 by decide) (q_inU rfl) dX5_clear_17 (fun H locs σ_6 hσ_6 hI => ?_)
        replace hF := q_letX hF hσ_6
        have fr_σ_6 := fr_σ_2.si hσ_6 (q_tk (k' := 20) hI ha rfl (by decide)) rfl
        obtain ⟨z_7, ez_7⟩ : ∃ y : Int32, y = x_1 + 1 := ⟨_, rfl⟩
        replace hF := q_letX hF ez_7
        refine lv_iinc (v := z_7) (lv' := [(1, .int z_7), (0, .ref a)]) hx hb dX5_clear_18 hl (k := 1) rfl (by rw [ez_7]; rfl) (by decide) rfl (fun ls hl => ?_)
        have iz_7 : z_7.toInt = x_1.toInt + 1 := q_inc ez_7 (by first | (clear hm2; omega) | omega)
        refine lv_goto (tgt := 2) hx hb dX5_clear_21 (by decide) ?_
        exact ih2 z_7 σ_6 _ _ ls (by omega) (by first | (clear hm2 hn_4 gc_5_n_4 c_5; omega) | omega) fr_σ_6 hF hI (lv_sub hl [1, 0] rfl)
  exact L_2_3 ((2147483647 - (0 : Int32).toInt).toNat + 1) 0 σ _ _ ls (Nat.lt_succ_self _) (by decide) fr_σ hF hI (lv_sub hl [1, 0] rfl)

set_option maxRecDepth 100000 in
set_option maxHeartbeats 4000000 in
theorem c_J0_coder_7d493 (l : Launch) (X : XW) (σ : ST) (a : Nat) (ha : a < 22) : Met l yJ0_coder_7d493 (q_ws yJ0_coder_7d493 cJ0_coder_7d493 1 (some .byte)) (q_rm 0 0) (q_P X σ [.ref (q_sk X a)]) (q_Qi X 9 σ (fun (r : Int32) (σ' : ST) => σ' = σ ∧ (r.toInt = 0) ∧ r = F_J0_coder_7d493 X σ a)) 0 0 (q_reg X) := by
  refine q_met 9 (by first | exact rfl | decide +kernel) rfl (Nat.le_of_ble_eq_true rfl) (fun p e s m below meth c E hml hr hlk hI ls hl => ?_)
  have hx := E.1
  have hb := E.2.1
  have hl : lv_has ls 1 [(0, .ref (q_sk X a))] := hl
  obtain ⟨out, hout⟩ : ∃ o, o = F_J0_coder_7d493 X σ a := ⟨_, rfl⟩
  have hF := hout.symm
  unfold F_J0_coder_7d493 at hF
  refine va_gets hx hb E.2.2.2.2.2.2.1 hI.S E.2.2.1 (E.2.2.2.1 _ (q_in_t3 (i := 194) (by first | rfl | decide +kernel) rfl)) (fun _ h => h) dJ0_coder_7d493_0 ?_
  refine q_if_eq (A := 1) E (by decide) (tgt := 13) dJ0_coder_7d493_3 (by decide) (fun c_1 => ?_) (fun c_1 => ?_)
  · skip
    replace hF := q_ifp hF c_1
    exact absurd c_1 (by omega)
  · skip
    replace hF := q_ifn hF c_1
    refine lv_aload_n hx hb dJ0_coder_7d493_6 rfl (lv_at hl 0 rfl) ?_
    refine vk_getf hx hb (E.2.2.2.2.2.1.1 _ ha).2.1 hI.S E.2.2.1 (E.2.2.2.1 _ (q_in_t9 (i := 211) (by first | rfl | decide +kernel) rfl)) (fun _ h => h) dJ0_coder_7d493_7 ?_
    refine lv_goto (tgt := 14) hx hb dJ0_coder_7d493_10 (by decide) ?_
    have hrv : (0 : Int32).toInt = 0 := rfl
    exact q_retn E hr hlk hI rfl ⟨rfl, (by decide), (hF.trans hout)⟩ dJ0_coder_7d493_14

set_option maxRecDepth 100000 in
set_option maxHeartbeats 4000000 in
theorem c_J0_length_8abf5 (l : Launch) (X : XW) (σ : ST) (a : Nat) (ha : a < 22) : Met l yJ0_length_8abf5 (q_ws yJ0_length_8abf5 cJ0_length_8abf5 1 (some .int)) (q_rm 1 20) (q_P X σ [.ref (q_sk X a)]) (q_Qi X 9 σ (fun (r : Int32) (σ' : ST) => σ' = σ ∧ (r.toInt = (q_slen.getD a 0 : Nat)) ∧ r = F_J0_length_8abf5 X σ a)) 0 0 (q_reg X) := by
  refine q_met 9 (by first | exact rfl | decide +kernel) rfl (Nat.le_of_ble_eq_true rfl) (fun p e s m below meth c E hml hr hlk hI ls hl => ?_)
  have hx := E.1
  have hb := E.2.1
  have hl : lv_has ls 1 [(0, .ref (q_sk X a))] := hl
  obtain ⟨out, hout⟩ : ∃ o, o = F_J0_length_8abf5 X σ a := ⟨_, rfl⟩
  have hF := hout.symm
  unfold F_J0_length_8abf5 at hF
  refine lv_aload_n hx hb dJ0_length_8abf5_0 rfl (lv_at hl 0 rfl) ?_
  refine vk_getf hx hb (E.2.2.2.2.2.1.1 _ ha).2.2.1 hI.S E.2.2.1 (E.2.2.2.1 _ (q_in_t9 (i := 210) (by first | rfl | decide +kernel) rfl)) (fun _ h => h) dJ0_length_8abf5_1 ?_
  refine va_tlen hx hb (E.2.2.2.2.2.1.1 _ ha).2.2.2 hI.S rfl dJ0_length_8abf5_4 ?_
  refine lv_topi (fun n_1 en_1 => ?_)
  replace hF := q_letX hF en_1
  have hn_1 : n_1.toInt = (q_slen.getD a 0 : Nat) := by rw [en_1]; exact nI_toInt (q_slen_lt a)
  refine lv_aload_n hx hb dJ0_length_8abf5_5 rfl (lv_at hl 0 rfl) ?_
  refine q_ci (q_runT (As := []) (rest := [.int n_1]) E (hml.trans hl.1.symm) hI (c_J0_coder_7d493 l X σ a ha) kt_J0_335 ha rfl ⟨Nat.le_of_ble_eq_true rfl, Nat.le_of_ble_eq_true rfl⟩ ⟨Nat.le_refl _, Nat.le_refl _⟩ rfl (Nat.le_of_ble_eq_true rfl) dJ0_length_8abf5_6) hI (by decide) (fun r_2 σ_3 H locs hpσ_3 hkσ_3 hI => ?_)
  obtain ⟨ahpσ_3, bhpσ_3, chpσ_3⟩ := hpσ_3
  rw [ahpσ_3] at hI
  replace hF := q_letX hF chpσ_3
  refine lv_ishr hx hb dJ0_length_8abf5_9 ?_
  refine lv_topi (fun z_4 ez_4 => ?_)
  replace hF := q_letX hF ez_4
  have hr0 : r_2 = 0 := q_eqI.mpr (by rw [q_z0]; omega)
  have j_lenz_4 : (n_1 >>> (r_2 &&& 31)).toInt = (q_slen.getD a 0 : Nat) := by rw [hr0]; exact (congrArg Int32.toInt (sb_shr0 n_1)).trans hn_1
  exact q_reti E hr hlk hI ⟨rfl, (by rw [ez_4]; exact j_lenz_4), (hF.trans hout)⟩ dJ0_length_8abf5_10

set_option maxRecDepth 100000 in
set_option maxHeartbeats 4000000 in
theorem c_J0_isLatin1_aae02 (l : Launch) (X : XW) (σ : ST) (a : Nat) (ha : a < 22) : Met l yJ0_isLatin1_aae02 (q_ws yJ0_isLatin1_aae02 cJ0_isLatin1_aae02 1 (some .boolean)) (q_rm 0 0) (q_P X σ [.ref (q_sk X a)]) (q_Qi X 9 σ (fun (r : Int32) (σ' : ST) => σ' = σ ∧ (0 ≤ r.toInt ∧ r.toInt ≤ 1) ∧ (r.toInt = 1) ∧ r = F_J0_isLatin1_aae02 X σ a)) 0 0 (q_reg X) := by
  refine q_met 9 (by first | exact rfl | decide +kernel) rfl (Nat.le_of_ble_eq_true rfl) (fun p e s m below meth c E hml hr hlk hI ls hl => ?_)
  have hx := E.1
  have hb := E.2.1
  have hl : lv_has ls 1 [(0, .ref (q_sk X a))] := hl
  obtain ⟨out, hout⟩ : ∃ o, o = F_J0_isLatin1_aae02 X σ a := ⟨_, rfl⟩
  have hF := hout.symm
  unfold F_J0_isLatin1_aae02 at hF
  refine va_gets hx hb E.2.2.2.2.2.2.1 hI.S E.2.2.1 (E.2.2.2.1 _ (q_in_t3 (i := 194) (by first | rfl | decide +kernel) rfl)) (fun _ h => h) dJ0_isLatin1_aae02_0 ?_
  refine q_if_eq (A := 1) E (by decide) (tgt := 17) dJ0_isLatin1_aae02_3 (by decide) (fun c_1 => ?_) (fun c_1 => ?_)
  · skip
    replace hF := q_ifp hF c_1
    exact absurd c_1 (by omega)
  · skip
    replace hF := q_ifn hF c_1
    refine lv_aload_n hx hb dJ0_isLatin1_aae02_6 rfl (lv_at hl 0 rfl) ?_
    refine vk_getf hx hb (E.2.2.2.2.2.1.1 _ ha).2.1 hI.S E.2.2.1 (E.2.2.2.1 _ (q_in_t9 (i := 211) (by first | rfl | decide +kernel) rfl)) (fun _ h => h) dJ0_isLatin1_aae02_7 ?_
    refine q_if_ne (A := 0) E (by decide) (tgt := 17) dJ0_isLatin1_aae02_10 (by decide) (fun c_2 => ?_) (fun c_2 => ?_)
    · skip
      replace hF := q_ifn hF c_2
      exact absurd c_2 (by first | (clear c_1 c_2; omega) | omega)
    · skip
      replace hF := q_ifp hF c_2
      refine lv_iconst (v := 1) hx hb dJ0_isLatin1_aae02_13 (by decide) ?_
      refine lv_goto (tgt := 18) hx hb dJ0_isLatin1_aae02_14 (by decide) ?_
      have hrv : (1 : Int32).toInt = 1 := rfl
      exact q_retz E hr hlk hI ⟨by decide, by decide⟩ ⟨rfl, ⟨by decide, by decide⟩, (by decide), (hF.trans hout)⟩ dJ0_isLatin1_aae02_18

set_option maxRecDepth 100000 in
set_option maxHeartbeats 4000000 in
theorem c_J3_checkIndex_8e157 (l : Launch) (X : XW) (σ : ST) (v0 : Int32) (v1 : Int32) (r2 : Nat) (h0 : 0 ≤ v0.toInt) (h1 : v0.toInt < v1.toInt) : Met l yJ3_checkIndex_8e157 (q_ws yJ3_checkIndex_8e157 cJ3_checkIndex_8e157 3 (some .int)) (q_rm 0 0) (q_P X σ [.int v0, .int v1, .ref r2]) (q_Qi X 9 σ (fun (r : Int32) (σ' : ST) => σ' = σ)) 0 0 (q_reg X) := by
  refine q_met 9 (by first | exact rfl | decide +kernel) rfl (Nat.le_of_ble_eq_true rfl) (fun p e s m below meth c E hml hr hlk hI ls hl => ?_)
  have hx := E.1
  have hb := E.2.1
  have hl : lv_has ls 3 [(0, .int v0), (1, .int v1), (2, .ref r2)] := hl
  refine lv_iload_n hx hb dJ3_checkIndex_8e157_0 rfl (lv_at hl 0 rfl) ?_
  refine q_if_lt (A := v0.toInt) E rfl (tgt := 9) dJ3_checkIndex_8e157_1 (by decide) (fun c_1 => ?_) (fun c_1 => ?_)
  · skip
    exact absurd c_1 (by first | (clear h0 h1; omega) | omega)
  · skip
    refine lv_iload_n hx hb dJ3_checkIndex_8e157_4 rfl (lv_at hl 0 rfl) ?_
    refine lv_iload_n hx hb dJ3_checkIndex_8e157_5 rfl (lv_at hl 1 rfl) ?_
    refine q_icmp_lt (A := v0.toInt) (B := v1.toInt) E rfl rfl (tgt := 16) dJ3_checkIndex_8e157_6 (by decide) (fun c_2 => ?_) (fun c_2 => ?_)
    · skip
      refine lv_iload_n hx hb dJ3_checkIndex_8e157_16 rfl (lv_at hl 0 rfl) ?_
      exact q_reti E hr hlk hI rfl dJ3_checkIndex_8e157_17
    · skip
      exact absurd c_2 (by first | (clear h0 h1 c_1; omega) | omega)

set_option maxRecDepth 100000 in
set_option maxHeartbeats 4000000 in
theorem c_J3_checkIndex_8e157_n (l : Launch) (X : XW) (σ : ST) (v0 : Int32) (v1 : Int32) (h0 : 0 ≤ v0.toInt) (h1 : v0.toInt < v1.toInt) : Met l yJ3_checkIndex_8e157 (q_ws yJ3_checkIndex_8e157 cJ3_checkIndex_8e157 3 (some .int)) (q_rm 0 0) (q_P X σ [.int v0, .int v1, .null]) (q_Qi X 9 σ (fun (r : Int32) (σ' : ST) => σ' = σ)) 0 0 (q_reg X) := by
  refine q_met 9 (by first | exact rfl | decide +kernel) rfl (Nat.le_of_ble_eq_true rfl) (fun p e s m below meth c E hml hr hlk hI ls hl => ?_)
  have hx := E.1
  have hb := E.2.1
  have hl : lv_has ls 3 [(0, .int v0), (1, .int v1), (2, .null)] := hl
  refine lv_iload_n hx hb dJ3_checkIndex_8e157_0 rfl (lv_at hl 0 rfl) ?_
  refine q_if_lt (A := v0.toInt) E rfl (tgt := 9) dJ3_checkIndex_8e157_1 (by decide) (fun c_1 => ?_) (fun c_1 => ?_)
  · skip
    exact absurd c_1 (by omega)
  · skip
    refine lv_iload_n hx hb dJ3_checkIndex_8e157_4 rfl (lv_at hl 0 rfl) ?_
    refine lv_iload_n hx hb dJ3_checkIndex_8e157_5 rfl (lv_at hl 1 rfl) ?_
    refine q_icmp_lt (A := v0.toInt) (B := v1.toInt) E rfl rfl (tgt := 16) dJ3_checkIndex_8e157_6 (by decide) (fun c_2 => ?_) (fun c_2 => ?_)
    · skip
      refine lv_iload_n hx hb dJ3_checkIndex_8e157_16 rfl (lv_at hl 0 rfl) ?_
      exact q_reti E hr hlk hI rfl dJ3_checkIndex_8e157_17
    · skip
      exact absurd c_2 (by omega)

set_option maxRecDepth 100000 in
set_option maxHeartbeats 4000000 in
theorem c_J0_checkIndex_df160 (l : Launch) (X : XW) (σ : ST) (v0 : Int32) (v1 : Int32) (h0 : 0 ≤ v0.toInt) (h1 : v0.toInt < v1.toInt) : Met l yJ0_checkIndex_df160 (q_ws yJ0_checkIndex_df160 cJ0_checkIndex_df160 2 none) (q_rm 1 22) (q_P X σ [.int v0, .int v1]) (q_Qv X 9 σ (fun (σ' : ST) => σ' = σ)) 0 0 (q_reg X) := by
  refine q_met 9 (by first | exact rfl | decide +kernel) rfl (Nat.le_of_ble_eq_true rfl) (fun p e s m below meth c E hml hr hlk hI ls hl => ?_)
  have hx := E.1
  have hb := E.2.1
  have hl : lv_has ls 2 [(0, .int v0), (1, .int v1)] := hl
  refine lv_iload_n hx hb dJ0_checkIndex_df160_0 rfl (lv_at hl 0 rfl) ?_
  refine lv_iload_n hx hb dJ0_checkIndex_df160_1 rfl (lv_at hl 1 rfl) ?_
  rcases E.2.2.2.2.2.2.2 with hz | ⟨t_1, hz⟩
  · refine va_gets hx hb hz hI.S E.2.2.1 (E.2.2.2.1 _ (q_in_t3 (i := 210) (by first | rfl | decide +kernel) rfl)) (fun _ h => h) dJ0_checkIndex_df160_2 ?_
    refine q_ci (q_runS (As := [.int v0, .int v1, .null]) (rest := []) E (hml.trans hl.1.symm) hI (c_J3_checkIndex_8e157_n l X σ v0 v1 (by omega) (by omega)) ks_J0_1059 rfl ⟨Nat.le_of_ble_eq_true rfl, Nat.le_of_ble_eq_true rfl⟩ ⟨Nat.le_refl _, Nat.le_refl _⟩ rfl (Nat.le_of_ble_eq_true rfl) dJ0_checkIndex_df160_5) hI (by decide) (fun r_2 σ_3 H locs hpσ_3 hkσ_3 hI => ?_)
    have ahpσ_3 := hpσ_3
    rw [ahpσ_3] at hI
    refine lv_pop hx hb dJ0_checkIndex_df160_8 rfl ?_
    exact q_retv E hr hlk hI rfl dJ0_checkIndex_df160_9
  · refine va_gets hx hb hz hI.S E.2.2.1 (E.2.2.2.1 _ (q_in_t3 (i := 210) (by first | rfl | decide +kernel) rfl)) (fun _ h => h) dJ0_checkIndex_df160_2 ?_
    refine q_ci (q_runS (As := [.int v0, .int v1, .ref t_1]) (rest := []) E (hml.trans hl.1.symm) hI (c_J3_checkIndex_8e157 l X σ v0 v1 t_1 (by omega) (by omega)) ks_J0_1059 rfl ⟨Nat.le_of_ble_eq_true rfl, Nat.le_of_ble_eq_true rfl⟩ ⟨Nat.le_refl _, Nat.le_refl _⟩ rfl (Nat.le_of_ble_eq_true rfl) dJ0_checkIndex_df160_5) hI (by decide) (fun r_4 σ_5 H locs hpσ_5 hkσ_5 hI => ?_)
    have ahpσ_5 := hpσ_5
    rw [ahpσ_5] at hI
    refine lv_pop hx hb dJ0_checkIndex_df160_8 rfl ?_
    exact q_retv E hr hlk hI rfl dJ0_checkIndex_df160_9

set_option maxRecDepth 100000 in
set_option maxHeartbeats 4000000 in
theorem c_J1_charAt_3b067 (l : Launch) (X : XW) (σ : ST) (r0 : Nat) (v1 : Int32) (hr0 : r0 < 22) (h0 : 0 ≤ v1.toInt) (h1 : v1.toInt < (q_slen.getD r0 0 : Nat)) : Met l yJ1_charAt_3b067 (q_ws yJ1_charAt_3b067 cJ1_charAt_3b067 2 (some .char)) (q_rm 2 43) (q_P X σ [.ref (q_sv X r0), .int v1]) (q_Qi X 9 σ (fun (r : Int32) (σ' : ST) => σ' = σ ∧ (narrow .char (.int r) = .int r) ∧ r = F_J1_charAt_3b067 X σ r0 v1)) 0 0 (q_reg X) := by
  refine q_met 9 (by first | exact rfl | decide +kernel) rfl (Nat.le_of_ble_eq_true rfl) (fun p e s m below meth c E hml hr hlk hI ls hl => ?_)
  have hx := E.1
  have hb := E.2.1
  have hl : lv_has ls 2 [(0, .ref (q_sv X r0)), (1, .int v1)] := hl
  obtain ⟨out, hout⟩ : ∃ o, o = F_J1_charAt_3b067 X σ r0 v1 := ⟨_, rfl⟩
  have hF := hout.symm
  unfold F_J1_charAt_3b067 at hF
  refine lv_iload_n hx hb dJ1_charAt_3b067_0 rfl (lv_at hl 1 rfl) ?_
  refine lv_aload_n hx hb dJ1_charAt_3b067_1 rfl (lv_at hl 0 rfl) ?_
  refine va_tlen hx hb (E.2.2.2.2.2.1.1 _ hr0).2.2.2 hI.S rfl dJ1_charAt_3b067_2 ?_
  refine lv_topi (fun n_1 en_1 => ?_)
  replace hF := q_letX hF en_1
  have hn_1 : n_1.toInt = (q_slen.getD r0 0 : Nat) := by rw [en_1]; exact nI_toInt (q_slen_lt r0)
  refine q_cv (q_runS (As := [.int v1, .int n_1]) (rest := []) E (hml.trans hl.1.symm) hI (c_J0_checkIndex_df160 l X σ v1 n_1 (by omega) (by first | (clear h0 h1; omega) | omega)) ks_J1_9 rfl ⟨Nat.le_of_ble_eq_true rfl, Nat.le_of_ble_eq_true rfl⟩ ⟨Nat.le_refl _, Nat.le_refl _⟩ rfl (Nat.le_of_ble_eq_true rfl) dJ1_charAt_3b067_3) hI (by decide) (fun σ_3 H locs hpσ_3 hkσ_3 hI => ?_)
  have ahpσ_3 := hpσ_3
  rw [ahpσ_3] at hI
  refine lv_aload_n hx hb dJ1_charAt_3b067_6 rfl (lv_at hl 0 rfl) ?_
  refine lv_iload_n hx hb dJ1_charAt_3b067_7 rfl (lv_at hl 1 rfl) ?_
  refine va_tb hx hb (E.2.2.2.2.2.1.1 _ hr0).2.2.2 hI.S (vp_in_iff.mpr ⟨by omega, by omega⟩) rfl dJ1_charAt_3b067_8 ?_
  refine lv_topi (fun f_4 ef_4 => ?_)
  replace hF := q_letX hF ef_4
  refine lv_sipush (v := 255) hx hb dJ1_charAt_3b067_9 (by decide) ?_
  refine lv_iand hx hb dJ1_charAt_3b067_12 ?_
  refine lv_topi (fun z_5 ez_5 => ?_)
  replace hF := q_letX hF ez_5
  refine lv_i2c hx hb dJ1_charAt_3b067_13 rfl ?_
  refine lv_topi (fun z_6 ez_6 => ?_)
  replace hF := q_letX hF ez_6
  exact q_retn E hr hlk hI (by rw [ez_6]; exact pk_nc _) ⟨rfl, (by rw [ez_6]; exact pk_nc _), (hF.trans hout)⟩ dJ1_charAt_3b067_14

set_option maxRecDepth 100000 in
set_option maxHeartbeats 4000000 in
theorem c_J0_charAt_5068e (l : Launch) (X : XW) (σ : ST) (a : Nat) (v1 : Int32) (ha : a < 22) (h0 : 0 ≤ v1.toInt) (h1 : v1.toInt < (q_slen.getD a 0 : Nat)) : Met l yJ0_charAt_5068e (q_ws yJ0_charAt_5068e cJ0_charAt_5068e 2 (some .char)) (q_rm 3 64) (q_P X σ [.ref (q_sk X a), .int v1]) (q_Qi X 9 σ (fun (r : Int32) (σ' : ST) => σ' = σ ∧ r = F_J0_charAt_5068e X σ a v1)) 0 0 (q_reg X) := by
  refine q_met 9 (by first | exact rfl | decide +kernel) rfl (Nat.le_of_ble_eq_true rfl) (fun p e s m below meth c E hml hr hlk hI ls hl => ?_)
  have hx := E.1
  have hb := E.2.1
  have hl : lv_has ls 2 [(0, .ref (q_sk X a)), (1, .int v1)] := hl
  obtain ⟨out, hout⟩ : ∃ o, o = F_J0_charAt_5068e X σ a v1 := ⟨_, rfl⟩
  have hF := hout.symm
  unfold F_J0_charAt_5068e at hF
  refine lv_aload_n hx hb dJ0_charAt_5068e_0 rfl (lv_at hl 0 rfl) ?_
  refine q_ci (q_runT (As := []) (rest := []) E (hml.trans hl.1.symm) hI (c_J0_isLatin1_aae02 l X σ a ha) kt_J0_492 ha rfl ⟨Nat.le_of_ble_eq_true rfl, Nat.le_of_ble_eq_true rfl⟩ ⟨Nat.le_refl _, Nat.le_refl _⟩ rfl (Nat.le_of_ble_eq_true rfl) dJ0_charAt_5068e_1) hI (by decide) (fun r_1 σ_2 H locs hpσ_2 hkσ_2 hI => ?_)
  obtain ⟨ahpσ_2, bhpσ_2, chpσ_2, dhpσ_2⟩ := hpσ_2
  rw [ahpσ_2] at hI
  replace hF := q_letX hF dhpσ_2
  refine q_if_eq (A := r_1.toInt) E rfl (tgt := 16) dJ0_charAt_5068e_4 (by decide) (fun c_3 => ?_) (fun c_3 => ?_)
  · skip
    replace hF := q_ifp hF c_3
    exact absurd c_3 (by first | (clear h0 h1 ahpσ_2 bhpσ_2 dhpσ_2; omega) | omega)
  · skip
    replace hF := q_ifn hF c_3
    replace c_3 := q_ifOne bhpσ_2 c_3
    refine lv_aload_n hx hb dJ0_charAt_5068e_7 rfl (lv_at hl 0 rfl) ?_
    refine vk_getf hx hb (E.2.2.2.2.2.1.1 _ ha).2.2.1 hI.S E.2.2.1 (E.2.2.2.1 _ (q_in_t9 (i := 210) (by first | rfl | decide +kernel) rfl)) (fun _ h => h) dJ0_charAt_5068e_8 ?_
    refine lv_iload_n hx hb dJ0_charAt_5068e_11 rfl (lv_at hl 1 rfl) ?_
    refine q_ci (q_runS (As := [.ref (q_sv X a), .int v1]) (rest := []) E (hml.trans hl.1.symm) hI (c_J1_charAt_3b067 l X σ a v1 ha (by omega) (by omega)) ks_J0_495 rfl ⟨Nat.le_of_ble_eq_true rfl, Nat.le_of_ble_eq_true rfl⟩ ⟨Nat.le_refl _, Nat.le_refl _⟩ rfl (Nat.le_of_ble_eq_true rfl) dJ0_charAt_5068e_12) hI (by decide) (fun r_4 σ_5 H locs hpσ_5 hkσ_5 hI => ?_)
    obtain ⟨ahpσ_5, bhpσ_5, chpσ_5⟩ := hpσ_5
    rw [ahpσ_5] at hI
    replace hF := q_letX hF chpσ_5
    exact q_retn E hr hlk hI bhpσ_5 ⟨rfl, (hF.trans hout)⟩ dJ0_charAt_5068e_15

set_option maxRecDepth 100000 in
set_option maxHeartbeats 4000000 in
theorem c_X5_get (l : Launch) (X : XW) (σ : ST) (a : Nat) (v1 : Int32) (ha : q_kd X a = 5) : Met l yX5_get (q_ws yX5_get cX5_get 2 (some .int)) (q_rm 0 0) (q_P X σ [.ref a, .int v1]) (q_Qi X 9 σ (fun (r : Int32) (σ' : ST) => σ' = σ ∧ r = F_X5_get X σ a v1)) 0 0 (q_reg X) := by
  refine q_met 9 (by first | exact rfl | decide +kernel) rfl (Nat.le_of_ble_eq_true rfl) (fun p e s m below meth c E hml hr hlk hI ls hl => ?_)
  have hx := E.1
  have hb := E.2.1
  have hl : lv_has ls 2 [(0, .ref a), (1, .int v1)] := hl
  obtain ⟨out, hout⟩ : ∃ o, o = F_X5_get X σ a v1 := ⟨_, rfl⟩
  have hF := hout.symm
  unfold F_X5_get at hF
  refine lv_iload_n hx hb dX5_get_0 rfl (lv_at hl 1 rfl) ?_
  refine q_if_lt (A := v1.toInt) E rfl (tgt := 22) dX5_get_1 (by decide) (fun c_1 => ?_) (fun c_1 => ?_)
  · skip
    replace hF := q_ifp hF c_1
    refine lv_iconst (v := 0) hx hb dX5_get_22 (by decide) ?_
    exact q_reti E hr hlk hI ⟨rfl, (hF.trans hout)⟩ dX5_get_23
  · skip
    replace hF := q_ifn hF (Int.not_lt.mpr c_1)
    refine lv_iload_n hx hb dX5_get_4 rfl (lv_at hl 1 rfl) ?_
    refine lv_aload_n hx hb dX5_get_5 rfl (lv_at hl 0 rfl) ?_
    refine gs_X5_13_5 E hI ha dX5_get_6 ?_
    refine q_alenX E hI (q_tk (k' := 20) hI ha rfl (by decide)) (by decide) (t := 1) rfl rfl dX5_get_9 (fun n_2 en_2 hn_2 => ?_)
    replace hF := q_letX hF en_2
    refine q_icmp_ge (A := v1.toInt) (B := n_2.toInt) E rfl rfl (tgt := 22) dX5_get_10 (by decide) (fun c_3 => ?_) (fun c_3 => ?_)
    · skip
      replace hF := q_ifn hF (Int.not_lt.mpr c_3)
      refine lv_iconst (v := 0) hx hb dX5_get_22 (by decide) ?_
      exact q_reti E hr hlk hI ⟨rfl, (hF.trans hout)⟩ dX5_get_23
    · skip
      replace hF := q_ifp hF c_3
      refine lv_aload_n hx hb dX5_get_13 rfl (lv_at hl 0 rfl) ?_
      refine gs_X5_13_5 E hI ha dX5_get_14 ?_
      refine lv_iload_n hx hb dX5_get_17 rfl (lv_at hl 1 rfl) ?_
      refine q_iald E hI (q_tk (k' := 20) hI ha rfl (by decide)) ⟨by decide, rfl⟩ (by omega) (by first | (clear c_1; omega) | omega) dX5_get_18 ?_
      refine lv_topi (fun f_4 ef_4 => ?_)
      replace hF := q_letX hF ef_4
      refine lv_goto (tgt := 23) hx hb dX5_get_19 (by decide) ?_
      exact q_reti E hr hlk hI ⟨rfl, (hF.trans hout)⟩ dX5_get_23

set_option maxRecDepth 100000 in
set_option maxHeartbeats 4000000 in
theorem c_X5_set (l : Launch) (X : XW) (σ : ST) (a : Nat) (v1 : Int32) (v2 : Int32) (ha : q_kd X a = 5) : Met l yX5_set (q_ws yX5_set cX5_set 3 none) (q_rm 0 0) (q_P X σ [.ref a, .int v1, .int v2]) (q_Qv X 8 σ (fun (σ' : ST) => σ' = F_X5_set X σ a v1 v2 ∧ q_ow [(20, 99)] [] X σ σ')) 0 0 (q_reg X) := by
  refine q_met 8 (by first | exact rfl | decide +kernel) rfl (Nat.le_of_ble_eq_true rfl) (fun p e s m below meth c E hml hr hlk hI ls hl => ?_)
  have hx := E.1
  have hb := E.2.1
  have hl : lv_has ls 3 [(0, .ref a), (1, .int v1), (2, .int v2)] := hl
  have fr_σ : q_ow [(20, 99)] [] X σ σ := q_ow.rf
  obtain ⟨out, hout⟩ : ∃ o, o = F_X5_set X σ a v1 v2 := ⟨_, rfl⟩
  have hF := hout.symm
  unfold F_X5_set at hF
  refine lv_iload_n hx hb dX5_set_0 rfl (lv_at hl 1 rfl) ?_
  refine q_if_lt (A := v1.toInt) E rfl (tgt := 20) dX5_set_1 (by decide) (fun c_1 => ?_) (fun c_1 => ?_)
  · skip
    replace hF := q_ifp hF c_1
    exact q_retv E hr hlk hI ⟨(hF.trans hout), fr_σ⟩ dX5_set_20
  · skip
    replace hF := q_ifn hF (Int.not_lt.mpr c_1)
    refine lv_iload_n hx hb dX5_set_4 rfl (lv_at hl 1 rfl) ?_
    refine lv_aload_n hx hb dX5_set_5 rfl (lv_at hl 0 rfl) ?_
    refine gs_X5_13_5 E hI ha dX5_set_6 ?_
    refine q_alenX E hI (q_tk (k' := 20) hI ha rfl (by decide)) (by decide) (t := 1) rfl rfl dX5_set_9 (fun n_2 en_2 hn_2 => ?_)
    replace hF := q_letX hF en_2
    refine q_icmp_ge (A := v1.toInt) (B := n_2.toInt) E rfl rfl (tgt := 20) dX5_set_10 (by decide) (fun c_3 => ?_) (fun c_3 => ?_)
    · skip
      replace hF := q_ifn hF (Int.not_lt.mpr c_3)
      exact q_retv E hr hlk hI ⟨(hF.trans hout), fr_σ⟩ dX5_set_20
    · skip
      replace hF := q_ifp hF c_3
      refine lv_aload_n hx hb dX5_set_13 rfl (lv_at hl 0 rfl) ?_
      refine gs_X5_13_5 E hI ha dX5_set_14 ?_
      refine lv_iload_n hx hb dX5_set_17 rfl (lv_at hl 1 rfl) ?_
      refine lv_iload_n hx hb dX5_set_18 rfl (lv_at hl 2 rfl) ?_
      refine q_iastN E hI (q_tk (k' := 20) hI ha rfl (by decide)) ⟨by decide, rfl⟩ (by omega) (by omega) (show 8 < 9 by decide) (q_inU rfl) dX5_set_19 (fun H locs σ_4 hσ_4 hI => ?_)
      replace hF := q_letX hF hσ_4
      have fr_σ_4 := fr_σ.si hσ_4 (q_tk (k' := 20) hI ha rfl (by decide)) rfl
      exact q_retv E hr hlk hI ⟨(hF.trans hout), fr_σ_4⟩ dX5_set_20

set_option maxRecDepth 100000 in
set_option maxHeartbeats 4000000 in
theorem c_X5_add (l : Launch) (X : XW) (σ : ST) (a : Nat) (v1 : Int32) (v2 : Int32) (ha : q_kd X a = 5) : Met l yX5_add (q_ws yX5_add cX5_add 3 none) (q_rm 0 0) (q_P X σ [.ref a, .int v1, .int v2]) (q_Qv X 8 σ (fun (σ' : ST) => σ' = F_X5_add X σ a v1 v2 ∧ q_ow [(20, 99)] [] X σ σ')) 0 0 (q_reg X) := by
  refine q_met 8 (by first | exact rfl | decide +kernel) rfl (Nat.le_of_ble_eq_true rfl) (fun p e s m below meth c E hml hr hlk hI ls hl => ?_)
  have hx := E.1
  have hb := E.2.1
  have hl : lv_has ls 3 [(0, .ref a), (1, .int v1), (2, .int v2)] := hl
  have fr_σ : q_ow [(20, 99)] [] X σ σ := q_ow.rf
  obtain ⟨out, hout⟩ : ∃ o, o = F_X5_add X σ a v1 v2 := ⟨_, rfl⟩
  have hF := hout.symm
  unfold F_X5_add at hF
  refine lv_iload_n hx hb dX5_add_0 rfl (lv_at hl 1 rfl) ?_
  refine q_if_lt (A := v1.toInt) E rfl (tgt := 23) dX5_add_1 (by decide) (fun c_1 => ?_) (fun c_1 => ?_)
  · skip
    replace hF := q_ifp hF c_1
    exact q_retv E hr hlk hI ⟨(hF.trans hout), fr_σ⟩ dX5_add_23
  · skip
    replace hF := q_ifn hF (Int.not_lt.mpr c_1)
    refine lv_iload_n hx hb dX5_add_4 rfl (lv_at hl 1 rfl) ?_
    refine lv_aload_n hx hb dX5_add_5 rfl (lv_at hl 0 rfl) ?_
    refine gs_X5_13_5 E hI ha dX5_add_6 ?_
    refine q_alenX E hI (q_tk (k' := 20) hI ha rfl (by decide)) (by decide) (t := 1) rfl rfl dX5_add_9 (fun n_2 en_2 hn_2 => ?_)
    replace hF := q_letX hF en_2
    refine q_icmp_ge (A := v1.toInt) (B := n_2.toInt) E rfl rfl (tgt := 23) dX5_add_10 (by decide) (fun c_3 => ?_) (fun c_3 => ?_)
    · skip
      replace hF := q_ifn hF (Int.not_lt.mpr c_3)
      exact q_retv E hr hlk hI ⟨(hF.trans hout), fr_σ⟩ dX5_add_23
    · skip
      replace hF := q_ifp hF c_3
      refine lv_aload_n hx hb dX5_add_13 rfl (lv_at hl 0 rfl) ?_
      refine gs_X5_13_5 E hI ha dX5_add_14 ?_
      refine lv_iload_n hx hb dX5_add_17 rfl (lv_at hl 1 rfl) ?_
      refine lv_dup2_11 hx hb dX5_add_18 rfl rfl ?_
      refine q_iald E hI (q_tk (k' := 20) hI ha rfl (by decide)) ⟨by decide, rfl⟩ (by omega) (by omega) dX5_add_19 ?_
      refine lv_topi (fun f_4 ef_4 => ?_)
      replace hF := q_letX hF ef_4
      refine lv_iload_n hx hb dX5_add_20 rfl (lv_at hl 2 rfl) ?_
      refine lv_iadd hx hb dX5_add_21 ?_
      refine lv_topi (fun z_5 ez_5 => ?_)
      replace hF := q_letX hF ez_5
      refine q_iastN E hI (q_tk (k' := 20) hI ha rfl (by decide)) ⟨by decide, rfl⟩ (by omega) (by omega) (show 8 < 9 by decide) (q_inU rfl) dX5_add_22 (fun H locs σ_6 hσ_6 hI => ?_)
      replace hF := q_letX hF hσ_6
      have fr_σ_6 := fr_σ.si hσ_6 (q_tk (k' := 20) hI ha rfl (by decide)) rfl
      exact q_retv E hr hlk hI ⟨(hF.trans hout), fr_σ_6⟩ dX5_add_23

set_option maxRecDepth 100000 in
set_option maxHeartbeats 4000000 in
theorem c_X5_copyFrom (l : Launch) (X : XW) (σ : ST) (a : Nat) (r1 : Nat) (ha : q_kd X a = 5) (hr1 : q_kd X r1 = 5) : Met l yX5_copyFrom (q_ws yX5_copyFrom cX5_copyFrom 3 none) (q_rm 0 0) (q_P X σ [.ref a, .ref r1]) (q_Qv X 8 σ (fun (σ' : ST) => σ' = F_X5_copyFrom X σ a r1 ∧ q_ow [(20, 99)] [] X σ σ')) 0 0 (q_reg X) := by
  refine q_met 8 (by first | exact rfl | decide +kernel) rfl (Nat.le_of_ble_eq_true rfl) (fun p e s m below meth c E hml hr hlk hI ls hl => ?_)
  have hx := E.1
  have hb := E.2.1
  have hl : lv_has ls 3 [(0, .ref a), (1, .ref r1)] := hl
  have fr_σ : q_ow [(20, 99)] [] X σ σ := q_ow.rf
  obtain ⟨out, hout⟩ : ∃ o, o = F_X5_copyFrom X σ a r1 := ⟨_, rfl⟩
  have hF := hout.symm
  unfold F_X5_copyFrom at hF
  refine lv_iconst (v := 0) hx hb dX5_copyFrom_0 (by decide) ?_
  refine lv_istore_n (lv' := [(2, .int 0), (0, .ref a), (1, .ref r1)]) hx hb dX5_copyFrom_1 rfl hl (by decide) rfl (fun ls hl => ?_)
  have L_2_3 : ∀ (k_3 : Nat) (x_1 : Int32) (σ_2 : ST) (H : Heap) (locs : List Loc) (ls : Array Slot), (2147483647 - x_1.toInt).toNat < k_3 → (0 ≤ x_1.toInt) → (q_ow [(20, 99)] [] X σ σ_2) → (F_X5_copyFrom_L2_1 X a r1 k_3 x_1 σ_2 = out) → q_I X 8 σ s.heap locs σ_2 H → lv_has ls 3 [(0, .ref a), (1, .ref r1), (2, .int x_1)] → W p l e (q_rm 0 0) s m ([.ref a, .ref r1] : List Value).toArray below meth c H locs 0 0 (MQ below (q_Qv X 8 σ (fun (σ' : ST) => σ' = F_X5_copyFrom X σ a r1 ∧ q_ow [(20, 99)] [] X σ σ')) ([.ref a, .ref r1] : List Value).toArray s 0 0 (q_reg X)) (F0 m 2 ls []) := by
    clear hF
    intro k_3
    induction k_3 with
    | zero =>
      intro x_1 σ_2 H locs ls hms
      exact absurd hms (Nat.not_lt_zero _)
    | succ k_3 ih2 =>
      intro x_1 σ_2 H locs ls hm2 hge2 fr_σ_2 hF hI hl
      replace hF := (F_X5_copyFrom_L2_1_s).symm.trans hF
      unfold F_X5_copyFrom_B2_1 at hF
      refine lv_iload_n hx hb dX5_copyFrom_2 rfl (lv_at hl 2 rfl) ?_
      refine lv_aload_n hx hb dX5_copyFrom_3 rfl (lv_at hl 0 rfl) ?_
      refine gs_X5_13_5 E hI ha dX5_copyFrom_4 ?_
      refine q_alenX E hI (q_tk (k' := 20) hI ha rfl (by decide)) (by decide) (t := 1) rfl rfl dX5_copyFrom_7 (fun n_4 en_4 hn_4 => ?_)
      replace hF := q_letX hF en_4
      have gc_5_x_1 := q_rng x_1
      have gc_5_n_4 := q_rng n_4
      refine q_icmp_ge (A := x_1.toInt) (B := n_4.toInt) E rfl rfl (tgt := 38) dX5_copyFrom_8 (by decide) (fun c_5 => ?_) (fun c_5 => ?_)
      · skip
        replace hF := q_ifn hF (Int.not_lt.mpr c_5)
        skip
        exact q_retv E hr hlk hI ⟨(hF.trans hout), fr_σ_2⟩ dX5_copyFrom_38
      · skip
        replace hF := q_ifp hF c_5
        refine lv_iload_n hx hb dX5_copyFrom_11 rfl (lv_at hl 2 rfl) ?_
        refine lv_aload_n hx hb dX5_copyFrom_12 rfl (lv_at hl 1 rfl) ?_
        refine gs_X5_13_5 E hI hr1 dX5_copyFrom_13 ?_
        refine q_alenX E hI (q_tk (k' := 20) hI hr1 rfl (by decide)) (by decide) (t := 1) rfl rfl dX5_copyFrom_16 (fun n_6 en_6 hn_6 => ?_)
        replace hF := q_letX hF en_6
        have gc_7_x_1 := q_rng x_1
        have gc_7_n_6 := q_rng n_6
        refine q_icmp_ge (A := x_1.toInt) (B := n_6.toInt) E rfl rfl (tgt := 38) dX5_copyFrom_17 (by decide) (fun c_7 => ?_) (fun c_7 => ?_)
        · skip
          replace hF := q_ifn hF (Int.not_lt.mpr c_7)
          skip
          exact q_retv E hr hlk hI ⟨(hF.trans hout), fr_σ_2⟩ dX5_copyFrom_38
        · skip
          replace hF := q_ifp hF c_7
          refine lv_aload_n hx hb dX5_copyFrom_20 rfl (lv_at hl 0 rfl) ?_
          refine gs_X5_13_5 E hI ha dX5_copyFrom_21 ?_
          refine lv_iload_n hx hb dX5_copyFrom_24 rfl (lv_at hl 2 rfl) ?_
          refine lv_aload_n hx hb dX5_copyFrom_25 rfl (lv_at hl 1 rfl) ?_
          refine gs_X5_13_5 E hI hr1 dX5_copyFrom_26 ?_
          refine lv_iload_n hx hb dX5_copyFrom_29 rfl (lv_at hl 2 rfl) ?_
          refine q_iald E hI (q_tk (k' := 20) hI hr1 rfl (by decide)) ⟨by decide, rfl⟩ (by omega) (by first | (clear hm2 hge2 hn_4 gc_5_x_1 gc_5_n_4 c_5 gc_7_x_1 gc_7_n_6; omega) | omega) dX5_copyFrom_30 ?_
          refine lv_topi (fun f_8 ef_8 => ?_)
          replace hF := q_letX hF ef_8
          refine q_iastN E hI (q_tk (k' := 20) hI ha rfl (by decide)) ⟨by decide, rfl⟩ (by omega) (by first | (clear hm2 hge2 gc_5_x_1 gc_5_n_4 hn_6 gc_7_x_1 gc_7_n_6 c_7; omega) | omega) (show 8 < 9 by decide) (q_inU rfl) dX5_copyFrom_31 (fun H locs σ_9 hσ_9 hI => ?_)
          replace hF := q_letX hF hσ_9
          have fr_σ_9 := fr_σ_2.si hσ_9 (q_tk (k' := 20) hI ha rfl (by decide)) rfl
          obtain ⟨z_10, ez_10⟩ : ∃ y : Int32, y = x_1 + 1 := ⟨_, rfl⟩
          replace hF := q_letX hF ez_10
          refine lv_iinc (v := z_10) (lv' := [(2, .int z_10), (0, .ref a), (1, .ref r1)]) hx hb dX5_copyFrom_32 hl (k := 2) rfl (by rw [ez_10]; rfl) (by decide) rfl (fun ls hl => ?_)
          have iz_10 : z_10.toInt = x_1.toInt + 1 := q_inc ez_10 (by first | (clear hm2 hn_6 gc_7_x_1 gc_7_n_6 c_7; omega) | omega)
          refine lv_goto (tgt := 2) hx hb dX5_copyFrom_35 (by decide) ?_
          exact ih2 z_10 σ_9 _ _ ls (by first | (clear hn_6 gc_7_x_1 gc_7_n_6 c_7; omega) | omega) (by first | (clear hm2 hn_4 gc_5_n_4 c_5 hn_6 gc_7_x_1 gc_7_n_6 c_7; omega) | omega) fr_σ_9 hF hI (lv_sub hl [1, 2, 0] rfl)
  exact L_2_3 ((2147483647 - (0 : Int32).toInt).toNat + 1) 0 σ _ _ ls (Nat.lt_succ_self _) (by decide) fr_σ hF hI (lv_sub hl [1, 2, 0] rfl)

set_option maxRecDepth 100000 in
set_option maxHeartbeats 4000000 in
theorem c_X5_sum (l : Launch) (X : XW) (σ : ST) (a : Nat) (v1 : Int32) (v2 : Int32) (ha : q_kd X a = 5) : Met l yX5_sum (q_ws yX5_sum cX5_sum 5 (some .int)) (q_rm 1 21) (q_P X σ [.ref a, .int v1, .int v2]) (q_Qi X 9 σ (fun (r : Int32) (σ' : ST) => σ' = σ ∧ r = F_X5_sum X σ a v1 v2)) 0 0 (q_reg X) := by
  refine q_met 9 (by first | exact rfl | decide +kernel) rfl (Nat.le_of_ble_eq_true rfl) (fun p e s m below meth c E hml hr hlk hI ls hl => ?_)
  have hx := E.1
  have hb := E.2.1
  have hl : lv_has ls 5 [(0, .ref a), (1, .int v1), (2, .int v2)] := hl
  obtain ⟨out, hout⟩ : ∃ o, o = F_X5_sum X σ a v1 v2 := ⟨_, rfl⟩
  have hF := hout.symm
  unfold F_X5_sum at hF
  refine lv_iconst (v := 0) hx hb dX5_sum_0 (by decide) ?_
  refine lv_istore_n (lv' := [(3, .int 0), (0, .ref a), (1, .int v1), (2, .int v2)]) hx hb dX5_sum_1 rfl hl (by decide) rfl (fun ls hl => ?_)
  refine lv_iload_n hx hb dX5_sum_2 rfl (lv_at hl 2 rfl) ?_
  refine lv_istore (lv' := [(4, .int v1), (3, .int 0), (0, .ref a), (1, .int v1), (2, .int v2)]) hx hb dX5_sum_3 hl (by decide) rfl (fun ls hl => ?_)
  have L_5_3 : ∀ (k_3 : Nat) (x_1 : Int32) (x_2 : Int32) (H : Heap) (locs : List Loc) (ls : Array Slot), (2147483647 - x_2.toInt).toNat < k_3 → (F_X5_sum_L5_1 X v1 v2 σ a k_3 x_1 x_2 = out) → q_I X 9 σ s.heap locs σ H → lv_has ls 5 [(0, .ref a), (1, .int v1), (2, .int v2), (3, .int x_1), (4, .int x_2)] → W p l e (q_rm 1 21) s m ([.ref a, .int v1, .int v2] : List Value).toArray below meth c H locs 0 0 (MQ below (q_Qi X 9 σ (fun (r : Int32) (σ' : ST) => σ' = σ ∧ r = F_X5_sum X σ a v1 v2)) ([.ref a, .int v1, .int v2] : List Value).toArray s 0 0 (q_reg X)) (F0 m 5 ls []) := by
    clear hF
    intro k_3
    induction k_3 with
    | zero =>
      intro x_1 x_2 H locs ls hms
      exact absurd hms (Nat.not_lt_zero _)
    | succ k_3 ih5 =>
      intro x_1 x_2 H locs ls hm5  hF hI hl
      replace hF := (F_X5_sum_L5_1_s).symm.trans hF
      unfold F_X5_sum_B5_1 at hF
      refine lv_iload hx hb dX5_sum_5 (lv_at hl 4 rfl) ?_
      refine lv_iload_n hx hb dX5_sum_7 rfl (lv_at hl 1 rfl) ?_
      refine lv_iload_n hx hb dX5_sum_8 rfl (lv_at hl 2 rfl) ?_
      refine lv_iadd hx hb dX5_sum_9 ?_
      refine lv_topi (fun z_4 ez_4 => ?_)
      replace hF := q_letX hF ez_4
      have gc_5_x_2 := q_rng x_2
      have gc_5_z_4 := q_rng z_4
      refine q_icmp_ge (A := x_2.toInt) (B := z_4.toInt) E rfl rfl (tgt := 28) dX5_sum_10 (by decide) (fun c_5 => ?_) (fun c_5 => ?_)
      · skip
        replace hF := q_ifn hF (Int.not_lt.mpr c_5)
        skip
        refine lv_iload_n hx hb dX5_sum_28 rfl (lv_at hl 3 rfl) ?_
        exact q_reti E hr hlk hI ⟨rfl, (hF.trans hout)⟩ dX5_sum_29
      · skip
        replace hF := q_ifp hF c_5
        refine lv_iload_n hx hb dX5_sum_13 rfl (lv_at hl 3 rfl) ?_
        refine lv_aload_n hx hb dX5_sum_14 rfl (lv_at hl 0 rfl) ?_
        refine lv_iload hx hb dX5_sum_15 (lv_at hl 4 rfl) ?_
        refine q_ci (q_runV (As := [.int x_2]) (rest := [.int x_1]) E (hml.trans hl.1.symm) hI (c_X5_get l X σ a x_2 ha) kv_X5_19 ha ⟨rfl, by decide⟩ (show vwCl[4]? = some (RX5, TX5, 1) from rfl) rfl ⟨Nat.le_of_ble_eq_true rfl, Nat.le_of_ble_eq_true rfl⟩ ⟨Nat.le_refl _, Nat.le_refl _⟩ rfl (Nat.le_of_ble_eq_true rfl) dX5_sum_17) hI (by decide) (fun r_6 σ_7 H locs hpσ_7 hkσ_7 hI => ?_)
        obtain ⟨ahpσ_7, bhpσ_7⟩ := hpσ_7
        rw [ahpσ_7] at hI
        replace hF := q_letX hF bhpσ_7
        refine lv_iadd hx hb dX5_sum_20 ?_
        refine lv_topi (fun z_8 ez_8 => ?_)
        replace hF := q_letX hF ez_8
        refine lv_istore_n (lv' := [(3, .int z_8), (0, .ref a), (1, .int v1), (2, .int v2), (4, .int x_2)]) hx hb dX5_sum_21 rfl hl (by decide) rfl (fun ls hl => ?_)
        obtain ⟨z_9, ez_9⟩ : ∃ y : Int32, y = x_2 + 1 := ⟨_, rfl⟩
        replace hF := q_letX hF ez_9
        refine lv_iinc (v := z_9) (lv' := [(4, .int z_9), (3, .int z_8), (0, .ref a), (1, .int v1), (2, .int v2)]) hx hb dX5_sum_22 hl (k := 4) rfl (by rw [ez_9]; rfl) (by decide) rfl (fun ls hl => ?_)
        have iz_9 : z_9.toInt = x_2.toInt + 1 := q_inc ez_9 (by first | (clear hm5 ahpσ_7 bhpσ_7; omega) | omega)
        refine lv_goto (tgt := 5) hx hb dX5_sum_25 (by decide) ?_
        exact ih5 z_8 z_9 _ _ ls (by first | (clear ahpσ_7 bhpσ_7; omega) | omega) hF hI (lv_sub hl [2, 3, 4, 1, 0] rfl)
  exact L_5_3 ((2147483647 - v1.toInt).toNat + 1) 0 v1 _ _ ls (Nat.lt_succ_self _) hF hI (lv_sub hl [2, 3, 4, 1, 0] rfl)

set_option maxRecDepth 100000 in
set_option maxHeartbeats 4000000 in
theorem c_J9_floorMod_7cf53 (l : Launch) (X : XW) (σ : ST) (v0 : Int32) (v1 : Int32) (hne : ¬ v1 = 0) : Met l yJ9_floorMod_7cf53 (q_ws yJ9_floorMod_7cf53 cJ9_floorMod_7cf53 3 (some .int)) (q_rm 0 0) (q_P X σ [.int v0, .int v1]) (q_Qi X 9 σ (fun (r : Int32) (σ' : ST) => σ' = σ ∧ r = F_J9_floorMod_7cf53 X σ v0 v1)) 0 0 (q_reg X) := by
  refine q_met 9 (by first | exact q_j9 (n := "floorMod") (d := "(II)I") (by decide) | decide +kernel) rfl (Nat.le_of_ble_eq_true rfl) (fun p e s m below meth c E hml hr hlk hI ls hl => ?_)
  have hx := E.1
  have hb := E.2.1
  have hl : lv_has ls 3 [(0, .int v0), (1, .int v1)] := hl
  obtain ⟨out, hout⟩ : ∃ o, o = F_J9_floorMod_7cf53 X σ v0 v1 := ⟨_, rfl⟩
  have hF := hout.symm
  unfold F_J9_floorMod_7cf53 at hF
  refine lv_iload_n hx hb dJ9_floorMod_7cf53_0 rfl (lv_at hl 0 rfl) ?_
  refine lv_iload_n hx hb dJ9_floorMod_7cf53_1 rfl (lv_at hl 1 rfl) ?_
  refine lv_irem hx hb dJ9_floorMod_7cf53_2 hne ?_
  refine lv_topi (fun z_1 ez_1 => ?_)
  replace hF := q_letX hF (ez_1.trans (q_remI _ _))
  refine lv_istore_n (lv' := [(2, .int z_1), (0, .int v0), (1, .int v1)]) hx hb dJ9_floorMod_7cf53_3 rfl hl (by decide) rfl (fun ls hl => ?_)
  refine lv_iload_n hx hb dJ9_floorMod_7cf53_4 rfl (lv_at hl 1 rfl) ?_
  refine lv_iload_n hx hb dJ9_floorMod_7cf53_5 rfl (lv_at hl 2 rfl) ?_
  refine lv_ixor hx hb dJ9_floorMod_7cf53_6 ?_
  refine lv_topi (fun z_2 ez_2 => ?_)
  replace hF := q_letX hF ez_2
  refine q_if_ge (A := z_2.toInt) E rfl (tgt := 18) dJ9_floorMod_7cf53_7 (by decide) (fun c_3 => ?_) (fun c_3 => ?_)
  · skip
    replace hF := q_ifn hF (Int.not_lt.mpr c_3)
    refine lv_iload_n hx hb dJ9_floorMod_7cf53_18 rfl (lv_at hl 0 rfl) ?_
    exact q_reti E hr hlk hI ⟨rfl, (hF.trans hout)⟩ dJ9_floorMod_7cf53_19
  · skip
    replace hF := q_ifp hF c_3
    refine lv_iload_n hx hb dJ9_floorMod_7cf53_10 rfl (lv_at hl 0 rfl) ?_
    refine q_if_eq (A := z_1.toInt) E rfl (tgt := 18) dJ9_floorMod_7cf53_11 (by decide) (fun c_4 => ?_) (fun c_4 => ?_)
    · skip
      replace hF := q_ifp hF c_4
      refine lv_iload_n hx hb dJ9_floorMod_7cf53_18 rfl (lv_at hl 0 rfl) ?_
      exact q_reti E hr hlk hI ⟨rfl, (hF.trans hout)⟩ dJ9_floorMod_7cf53_19
    · skip
      replace hF := q_ifn hF c_4
      refine lv_iload_n hx hb dJ9_floorMod_7cf53_14 rfl (lv_at hl 0 rfl) ?_
      refine lv_iload_n hx hb dJ9_floorMod_7cf53_15 rfl (lv_at hl 2 rfl) ?_
      refine lv_iadd hx hb dJ9_floorMod_7cf53_16 ?_
      refine lv_topi (fun z_5 ez_5 => ?_)
      replace hF := q_letX hF ez_5
      exact q_reti E hr hlk hI ⟨rfl, (hF.trans hout)⟩ dJ9_floorMod_7cf53_17

set_option maxRecDepth 100000 in
set_option maxHeartbeats 4000000 in
theorem c_J9_abs_067f4 (l : Launch) (X : XW) (σ : ST) (v0 : Int64) : Met l yJ9_abs_067f4 (q_ws yJ9_abs_067f4 cJ9_abs_067f4 2 (some .long)) (q_rm 0 0) (q_P X σ [.long v0]) (q_Ql X 9 σ (fun (r : Int64) (σ' : ST) => σ' = σ ∧ r = F_J9_abs_067f4 X σ v0)) 0 0 (q_reg X) := by
  refine q_met 9 (by first | exact q_j9 (n := "abs") (d := "(J)J") (by decide) | decide +kernel) rfl (Nat.le_of_ble_eq_true rfl) (fun p e s m below meth c E hml hr hlk hI ls hl => ?_)
  have hx := E.1
  have hb := E.2.1
  have hl : lv_has ls 2 [(0, .long v0)] := hl
  obtain ⟨out, hout⟩ : ∃ o, o = F_J9_abs_067f4 X σ v0 := ⟨_, rfl⟩
  have hF := hout.symm
  unfold F_J9_abs_067f4 at hF
  refine lv_lload_n hx hb dJ9_abs_067f4_0 rfl (lv_at hl 0 rfl) ?_
  refine lv_lconst (v := 0) hx hb dJ9_abs_067f4_1 (by decide) ?_
  have kc_2 : (0 : Int64).toInt = 0 := rfl
  refine q_lcmpX E dJ9_abs_067f4_2 (fun z_1 ez_1 hz_1 => ?_)
  replace hF := q_letX hF ez_1
  refine q_if_ge (A := z_1.toInt) E rfl (tgt := 11) dJ9_abs_067f4_3 (by decide) (fun c_3 => ?_) (fun c_3 => ?_)
  · skip
    replace hF := q_ifn hF (Int.not_lt.mpr c_3)
    refine lv_lload_n hx hb dJ9_abs_067f4_11 rfl (lv_at hl 0 rfl) ?_
    exact q_retl E hr hlk hI ⟨rfl, (hF.trans hout)⟩ dJ9_abs_067f4_12
  · skip
    replace hF := q_ifp hF c_3
    refine lv_lload_n hx hb dJ9_abs_067f4_6 rfl (lv_at hl 0 rfl) ?_
    refine lv_lneg hx hb dJ9_abs_067f4_7 ?_
    refine lv_topl (fun y_4 ey_4 => ?_)
    replace hF := q_letX hF ey_4
    refine lv_goto (tgt := 12) hx hb dJ9_abs_067f4_8 (by decide) ?_
    exact q_retl E hr hlk hI ⟨rfl, (hF.trans hout)⟩ dJ9_abs_067f4_12
end
/-! FROM 11.parts.a.lean.txt -/
section
section QS
variable {p : Program} {l : Launch} {e : Env} {R : Room} {s : State} {m : MethodId} {args : Array Value} {below : List Frame} {meth : Method} {c : Code} {H : Heap} {locs : List Loc} {cells slots : Nat} {Q : State → Prop} {cc : ByteArray} {X : XW} {n : Nat} {σ0 σ : ST} {H0 : Heap} {pc : Nat} {ls : Array Slot} {rest : List Value} {a : Nat}
theorem gs_X1_14_2 (E : q_E p c cc s m args RX1 X) (hI : q_I X n σ0 H0 locs σ H) (ha : q_kd X a = 2) (hdg : decode cc pc = .ok (.getfield 14, 3)) (kk : W p l e R s m args below meth c H locs cells slots Q (F0 m (pc + 3) ls (.ref (q_rf X a 0) :: rest))) : W p l e R s m args below meth c H locs cells slots Q (F0 m pc ls (.ref a :: rest)) :=
  q_getf (ref := "CheatHeap$Hands") E hI ha ⟨rfl, by decide⟩ (show vwCl[1]? = some (RX1, TX1, 7) from rfl) q_inX1 (f := 0) (by decide) (q_in_t1 (i := 109) (by first | rfl | decide +kernel) rfl) (Or.inl rfl) rfl hdg kk
theorem kv_X1_38 : q_okV RX1 38 RX5 yX5_clear cX5_clear 2 none 0 := ⟨(q_in_t3 (i := 129) (by first | rfl | decide +kernel) rfl), (q_in_t3 (i := 122) (by first | rfl | decide +kernel) rfl), (q_in_t3 (i := 123) (by first | rfl | decide +kernel) rfl), (q_in_t1 (i := 4) (by first | rfl | decide +kernel) rfl), (q_in_t3 (i := 124) (by first | rfl | decide +kernel) rfl), ⟨rfl, by decide, by decide, rfl⟩⟩
theorem gs_X1_20_2 (E : q_E p c cc s m args RX1 X) (hI : q_I X n σ0 H0 locs σ H) (ha : q_kd X a = 2) (hdg : decode cc pc = .ok (.getfield 20, 3)) (kk : W p l e R s m args below meth c H locs cells slots Q (F0 m (pc + 3) ls (.ref (q_rf X a 1) :: rest))) : W p l e R s m args below meth c H locs cells slots Q (F0 m pc ls (.ref a :: rest)) :=
  q_getf (ref := "CheatHeap$Hands") E hI ha ⟨rfl, by decide⟩ (show vwCl[1]? = some (RX1, TX1, 7) from rfl) q_inX1 (f := 1) (by decide) (q_in_t1 (i := 110) (by first | rfl | decide +kernel) rfl) (Or.inl rfl) rfl hdg kk
theorem gs_X1_23_2 (E : q_E p c cc s m args RX1 X) (hI : q_I X n σ0 H0 locs σ H) (ha : q_kd X a = 2) (hdg : decode cc pc = .ok (.getfield 23, 3)) (kk : W p l e R s m args below meth c H locs cells slots Q (F0 m (pc + 3) ls (.ref (q_rf X a 2) :: rest))) : W p l e R s m args below meth c H locs cells slots Q (F0 m pc ls (.ref a :: rest)) :=
  q_getf (ref := "CheatHeap$Hands") E hI ha ⟨rfl, by decide⟩ (show vwCl[1]? = some (RX1, TX1, 7) from rfl) q_inX1 (f := 2) (by decide) (q_in_t1 (i := 111) (by first | rfl | decide +kernel) rfl) (Or.inl rfl) rfl hdg kk
theorem gs_X1_26_2 (E : q_E p c cc s m args RX1 X) (hI : q_I X n σ0 H0 locs σ H) (ha : q_kd X a = 2) (hdg : decode cc pc = .ok (.getfield 26, 3)) (kk : W p l e R s m args below meth c H locs cells slots Q (F0 m (pc + 3) ls (.ref (q_rf X a 3) :: rest))) : W p l e R s m args below meth c H locs cells slots Q (F0 m pc ls (.ref a :: rest)) :=
  q_getf (ref := "CheatHeap$Hands") E hI ha ⟨rfl, by decide⟩ (show vwCl[1]? = some (RX1, TX1, 7) from rfl) q_inX1 (f := 3) (by decide) (q_in_t1 (i := 115) (by first | rfl | decide +kernel) rfl) (Or.inl rfl) rfl hdg kk
theorem gs_X1_29_2 (E : q_E p c cc s m args RX1 X) (hI : q_I X n σ0 H0 locs σ H) (ha : q_kd X a = 2) (hdg : decode cc pc = .ok (.getfield 29, 3)) (kk : W p l e R s m args below meth c H locs cells slots Q (F0 m (pc + 3) ls (.ref (q_rf X a 4) :: rest))) : W p l e R s m args below meth c H locs cells slots Q (F0 m pc ls (.ref a :: rest)) :=
  q_getf (ref := "CheatHeap$Hands") E hI ha ⟨rfl, by decide⟩ (show vwCl[1]? = some (RX1, TX1, 7) from rfl) q_inX1 (f := 4) (by decide) (q_in_t1 (i := 119) (by first | rfl | decide +kernel) rfl) (Or.inl rfl) rfl hdg kk
theorem gs_X1_32_2 (E : q_E p c cc s m args RX1 X) (hI : q_I X n σ0 H0 locs σ H) (ha : q_kd X a = 2) (hdg : decode cc pc = .ok (.getfield 32, 3)) (kk : W p l e R s m args below meth c H locs cells slots Q (F0 m (pc + 3) ls (.ref (q_rf X a 5) :: rest))) : W p l e R s m args below meth c H locs cells slots Q (F0 m pc ls (.ref a :: rest)) :=
  q_getf (ref := "CheatHeap$Hands") E hI ha ⟨rfl, by decide⟩ (show vwCl[1]? = some (RX1, TX1, 7) from rfl) q_inX1 (f := 5) (by decide) (q_in_t1 (i := 123) (by first | rfl | decide +kernel) rfl) (Or.inl rfl) rfl hdg kk
theorem gs_X1_35_2 (E : q_E p c cc s m args RX1 X) (hI : q_I X n σ0 H0 locs σ H) (ha : q_kd X a = 2) (hdg : decode cc pc = .ok (.getfield 35, 3)) (kk : W p l e R s m args below meth c H locs cells slots Q (F0 m (pc + 3) ls (.ref (q_rf X a 6) :: rest))) : W p l e R s m args below meth c H locs cells slots Q (F0 m pc ls (.ref a :: rest)) :=
  q_getf (ref := "CheatHeap$Hands") E hI ha ⟨rfl, by decide⟩ (show vwCl[1]? = some (RX1, TX1, 7) from rfl) q_inX1 (f := 6) (by decide) (q_in_t1 (i := 127) (by first | rfl | decide +kernel) rfl) (Or.inl rfl) rfl hdg kk
theorem ps_X2_9_3 (E : q_E p c cc s m args RX2 X) (hI : q_I X n σ0 H0 locs σ H) (ha : q_kd X a = 3) {v : Int32} (hcl : n < 9) (hdg : decode cc pc = .ok (.putfield 9, 3)) (kk : ∀ (H1 : Heap) (locs1 : List Loc) (σ1 : ST), σ1 = q_si σ a 0 v → q_I X n σ0 H0 locs1 σ1 H1 → W p l e R s m args below meth c H1 locs1 cells slots Q (F0 m (pc + 3) ls rest)) : W p l e R s m args below meth c H locs cells slots Q (F0 m pc ls (.int v :: .ref a :: rest)) :=
  q_puti (ref := "CheatHeap$Pile") E hI ha ⟨rfl, by decide⟩ (show vwCl[2]? = some (RX2, TX2, 6) from rfl) q_inX2 tyX2_ok nmX2 (f := 0) (by decide) (q_in_t1 (i := 153) (by first | rfl | decide +kernel) rfl) (Or.inl rfl) rfl rfl hcl hdg (q_inU rfl) (Or.inl rfl) (fun H1 l1 h => kk H1 l1 _ rfl h)
theorem ps_X2_15_3 (E : q_E p c cc s m args RX2 X) (hI : q_I X n σ0 H0 locs σ H) (ha : q_kd X a = 3) {v : Int32} (hcl : n < 9) (hdg : decode cc pc = .ok (.putfield 15, 3)) (kk : ∀ (H1 : Heap) (locs1 : List Loc) (σ1 : ST), σ1 = q_si σ a 1 v → q_I X n σ0 H0 locs1 σ1 H1 → W p l e R s m args below meth c H1 locs1 cells slots Q (F0 m (pc + 3) ls rest)) : W p l e R s m args below meth c H locs cells slots Q (F0 m pc ls (.int v :: .ref a :: rest)) :=
  q_puti (ref := "CheatHeap$Pile") E hI ha ⟨rfl, by decide⟩ (show vwCl[2]? = some (RX2, TX2, 6) from rfl) q_inX2 tyX2_ok nmX2 (f := 1) (by decide) (q_in_t1 (i := 155) (by first | rfl | decide +kernel) rfl) (Or.inl rfl) rfl rfl hcl hdg (q_inU rfl) (Or.inl rfl) (fun H1 l1 h => kk H1 l1 _ rfl h)
theorem ps_X8_11_8 (E : q_E p c cc s m args RX8 X) (hI : q_I X n σ0 H0 locs σ H) (ha : q_kd X a = 8) {v : Int32} (hcl : n < 9) (h1 : 0 ≤ v.toInt) (h2 : v.toInt ≤ 1) (hdg : decode cc pc = .ok (.putfield 11, 3)) (kk : ∀ (H1 : Heap) (locs1 : List Loc) (σ1 : ST), σ1 = q_si σ a 0 v → q_I X n σ0 H0 locs1 σ1 H1 → W p l e R s m args below meth c H1 locs1 cells slots Q (F0 m (pc + 3) ls rest)) : W p l e R s m args below meth c H locs cells slots Q (F0 m pc ls (.int v :: .ref a :: rest)) :=
  q_puti (ref := "CheatHeap$Script") E hI ha ⟨rfl, by decide⟩ (show vwCl[7]? = some (RX8, TX8, 8) from rfl) q_inX8 tyX8_ok nmX8 (f := 0) (by decide) (q_in_t1 (i := 187) (by first | rfl | decide +kernel) rfl) (Or.inl rfl) rfl rfl hcl hdg (q_inB rfl h1 h2) (Or.inr ⟨rfl, h1, h2⟩) (fun H1 l1 h => kk H1 l1 _ rfl h)
theorem ps_X8_15_8 (E : q_E p c cc s m args RX8 X) (hI : q_I X n σ0 H0 locs σ H) (ha : q_kd X a = 8) {v : Int32} (hcl : n < 9) (hdg : decode cc pc = .ok (.putfield 15, 3)) (kk : ∀ (H1 : Heap) (locs1 : List Loc) (σ1 : ST), σ1 = q_si σ a 1 v → q_I X n σ0 H0 locs1 σ1 H1 → W p l e R s m args below meth c H1 locs1 cells slots Q (F0 m (pc + 3) ls rest)) : W p l e R s m args below meth c H locs cells slots Q (F0 m pc ls (.int v :: .ref a :: rest)) :=
  q_puti (ref := "CheatHeap$Script") E hI ha ⟨rfl, by decide⟩ (show vwCl[7]? = some (RX8, TX8, 8) from rfl) q_inX8 tyX8_ok nmX8 (f := 1) (by decide) (q_in_t1 (i := 190) (by first | rfl | decide +kernel) rfl) (Or.inl rfl) rfl rfl hcl hdg (q_inU rfl) (Or.inl rfl) (fun H1 l1 h => kk H1 l1 _ rfl h)
theorem ps_X8_19_8 (E : q_E p c cc s m args RX8 X) (hI : q_I X n σ0 H0 locs σ H) (ha : q_kd X a = 8) {v : Int32} (hcl : n < 9) (hdg : decode cc pc = .ok (.putfield 19, 3)) (kk : ∀ (H1 : Heap) (locs1 : List Loc) (σ1 : ST), σ1 = q_si σ a 2 v → q_I X n σ0 H0 locs1 σ1 H1 → W p l e R s m args below meth c H1 locs1 cells slots Q (F0 m (pc + 3) ls rest)) : W p l e R s m args below meth c H locs cells slots Q (F0 m pc ls (.int v :: .ref a :: rest)) :=
  q_puti (ref := "CheatHeap$Script") E hI ha ⟨rfl, by decide⟩ (show vwCl[7]? = some (RX8, TX8, 8) from rfl) q_inX8 tyX8_ok nmX8 (f := 2) (by decide) (q_in_t1 (i := 193) (by first | rfl | decide +kernel) rfl) (Or.inl rfl) rfl rfl hcl hdg (q_inU rfl) (Or.inl rfl) (fun H1 l1 h => kk H1 l1 _ rfl h)
theorem kv_X1_53 : q_okV RX1 53 RX5 yX5_add cX5_add 3 none 2 := ⟨(q_in_t4 (i := 120) (by first | rfl | decide +kernel) rfl), (q_in_t4 (i := 113) (by first | rfl | decide +kernel) rfl), (q_in_t4 (i := 114) (by first | rfl | decide +kernel) rfl), (q_in_t1 (i := 4) (by first | rfl | decide +kernel) rfl), (q_in_t4 (i := 115) (by first | rfl | decide +kernel) rfl), ⟨rfl, by decide, by decide, rfl⟩⟩
theorem kv_X1_41 : q_okV RX1 41 RX5 yX5_copyFrom cX5_copyFrom 3 none 1 := ⟨(q_in_t4 (i := 141) (by first | rfl | decide +kernel) rfl), (q_in_t4 (i := 134) (by first | rfl | decide +kernel) rfl), (q_in_t4 (i := 135) (by first | rfl | decide +kernel) rfl), (q_in_t1 (i := 4) (by first | rfl | decide +kernel) rfl), (q_in_t4 (i := 136) (by first | rfl | decide +kernel) rfl), ⟨rfl, by decide, by decide, rfl⟩⟩
theorem gs_X2_9_3 (E : q_E p c cc s m args RX2 X) (hI : q_I X n σ0 H0 locs σ H) (ha : q_kd X a = 3) (hdg : decode cc pc = .ok (.getfield 9, 3)) (kk : W p l e R s m args below meth c H locs cells slots Q (F0 m (pc + 3) ls (.int (σ.1 a 0) :: rest))) : W p l e R s m args below meth c H locs cells slots Q (F0 m pc ls (.ref a :: rest)) :=
  q_getf (ref := "CheatHeap$Pile") E hI ha ⟨rfl, by decide⟩ (show vwCl[2]? = some (RX2, TX2, 6) from rfl) q_inX2 (f := 0) (by decide) (q_in_t1 (i := 153) (by first | rfl | decide +kernel) rfl) (Or.inl rfl) rfl hdg kk
theorem gs_X2_15_3 (E : q_E p c cc s m args RX2 X) (hI : q_I X n σ0 H0 locs σ H) (ha : q_kd X a = 3) (hdg : decode cc pc = .ok (.getfield 15, 3)) (kk : W p l e R s m args below meth c H locs cells slots Q (F0 m (pc + 3) ls (.int (σ.1 a 1) :: rest))) : W p l e R s m args below meth c H locs cells slots Q (F0 m pc ls (.ref a :: rest)) :=
  q_getf (ref := "CheatHeap$Pile") E hI ha ⟨rfl, by decide⟩ (show vwCl[2]? = some (RX2, TX2, 6) from rfl) q_inX2 (f := 1) (by decide) (q_in_t1 (i := 155) (by first | rfl | decide +kernel) rfl) (Or.inl rfl) rfl hdg kk
theorem gs_X2_23_3 (E : q_E p c cc s m args RX2 X) (hI : q_I X n σ0 H0 locs σ H) (ha : q_kd X a = 3) (hdg : decode cc pc = .ok (.getfield 23, 3)) (kk : W p l e R s m args below meth c H locs cells slots Q (F0 m (pc + 3) ls (.ref (q_rf X a 2) :: rest))) : W p l e R s m args below meth c H locs cells slots Q (F0 m pc ls (.ref a :: rest)) :=
  q_getf (ref := "CheatHeap$Pile") E hI ha ⟨rfl, by decide⟩ (show vwCl[2]? = some (RX2, TX2, 6) from rfl) q_inX2 (f := 2) (by decide) (q_in_t1 (i := 159) (by first | rfl | decide +kernel) rfl) (Or.inl rfl) rfl hdg kk
theorem kv_X2_36 : q_okV RX2 36 RX5 yX5_copyFrom cX5_copyFrom 3 none 1 := ⟨(q_in_t4 (i := 146) (by first | rfl | decide +kernel) rfl), (q_in_t4 (i := 134) (by first | rfl | decide +kernel) rfl), (q_in_t4 (i := 135) (by first | rfl | decide +kernel) rfl), (q_in_t1 (i := 4) (by first | rfl | decide +kernel) rfl), (q_in_t4 (i := 136) (by first | rfl | decide +kernel) rfl), ⟨rfl, by decide, by decide, rfl⟩⟩
theorem gs_X2_27_3 (E : q_E p c cc s m args RX2 X) (hI : q_I X n σ0 H0 locs σ H) (ha : q_kd X a = 3) (hdg : decode cc pc = .ok (.getfield 27, 3)) (kk : W p l e R s m args below meth c H locs cells slots Q (F0 m (pc + 3) ls (.ref (q_rf X a 3) :: rest))) : W p l e R s m args below meth c H locs cells slots Q (F0 m pc ls (.ref a :: rest)) :=
  q_getf (ref := "CheatHeap$Pile") E hI ha ⟨rfl, by decide⟩ (show vwCl[2]? = some (RX2, TX2, 6) from rfl) q_inX2 (f := 3) (by decide) (q_in_t1 (i := 161) (by first | rfl | decide +kernel) rfl) (Or.inl rfl) rfl hdg kk
theorem gs_X2_30_3 (E : q_E p c cc s m args RX2 X) (hI : q_I X n σ0 H0 locs σ H) (ha : q_kd X a = 3) (hdg : decode cc pc = .ok (.getfield 30, 3)) (kk : W p l e R s m args below meth c H locs cells slots Q (F0 m (pc + 3) ls (.ref (q_rf X a 4) :: rest))) : W p l e R s m args below meth c H locs cells slots Q (F0 m pc ls (.ref a :: rest)) :=
  q_getf (ref := "CheatHeap$Pile") E hI ha ⟨rfl, by decide⟩ (show vwCl[2]? = some (RX2, TX2, 6) from rfl) q_inX2 (f := 4) (by decide) (q_in_t1 (i := 163) (by first | rfl | decide +kernel) rfl) (Or.inl rfl) rfl hdg kk
theorem gs_X2_33_3 (E : q_E p c cc s m args RX2 X) (hI : q_I X n σ0 H0 locs σ H) (ha : q_kd X a = 3) (hdg : decode cc pc = .ok (.getfield 33, 3)) (kk : W p l e R s m args below meth c H locs cells slots Q (F0 m (pc + 3) ls (.ref (q_rf X a 5) :: rest))) : W p l e R s m args below meth c H locs cells slots Q (F0 m pc ls (.ref a :: rest)) :=
  q_getf (ref := "CheatHeap$Pile") E hI ha ⟨rfl, by decide⟩ (show vwCl[2]? = some (RX2, TX2, 6) from rfl) q_inX2 (f := 5) (by decide) (q_in_t1 (i := 165) (by first | rfl | decide +kernel) rfl) (Or.inl rfl) rfl hdg kk
theorem gs_X8_11_8 (E : q_E p c cc s m args RX8 X) (hI : q_I X n σ0 H0 locs σ H) (ha : q_kd X a = 8) (hdg : decode cc pc = .ok (.getfield 11, 3)) (kk : W p l e R s m args below meth c H locs cells slots Q (F0 m (pc + 3) ls (.int (σ.1 a 0) :: rest))) : W p l e R s m args below meth c H locs cells slots Q (F0 m pc ls (.ref a :: rest)) :=
  q_getf (ref := "CheatHeap$Script") E hI ha ⟨rfl, by decide⟩ (show vwCl[7]? = some (RX8, TX8, 8) from rfl) q_inX8 (f := 0) (by decide) (q_in_t1 (i := 187) (by first | rfl | decide +kernel) rfl) (Or.inl rfl) rfl hdg kk
theorem gs_X8_15_8 (E : q_E p c cc s m args RX8 X) (hI : q_I X n σ0 H0 locs σ H) (ha : q_kd X a = 8) (hdg : decode cc pc = .ok (.getfield 15, 3)) (kk : W p l e R s m args below meth c H locs cells slots Q (F0 m (pc + 3) ls (.int (σ.1 a 1) :: rest))) : W p l e R s m args below meth c H locs cells slots Q (F0 m pc ls (.ref a :: rest)) :=
  q_getf (ref := "CheatHeap$Script") E hI ha ⟨rfl, by decide⟩ (show vwCl[7]? = some (RX8, TX8, 8) from rfl) q_inX8 (f := 1) (by decide) (q_in_t1 (i := 190) (by first | rfl | decide +kernel) rfl) (Or.inl rfl) rfl hdg kk
theorem gs_X8_19_8 (E : q_E p c cc s m args RX8 X) (hI : q_I X n σ0 H0 locs σ H) (ha : q_kd X a = 8) (hdg : decode cc pc = .ok (.getfield 19, 3)) (kk : W p l e R s m args below meth c H locs cells slots Q (F0 m (pc + 3) ls (.int (σ.1 a 2) :: rest))) : W p l e R s m args below meth c H locs cells slots Q (F0 m pc ls (.ref a :: rest)) :=
  q_getf (ref := "CheatHeap$Script") E hI ha ⟨rfl, by decide⟩ (show vwCl[7]? = some (RX8, TX8, 8) from rfl) q_inX8 (f := 2) (by decide) (q_in_t1 (i := 193) (by first | rfl | decide +kernel) rfl) (Or.inl rfl) rfl hdg kk
theorem gs_X8_27_8 (E : q_E p c cc s m args RX8 X) (hI : q_I X n σ0 H0 locs σ H) (ha : q_kd X a = 8) (hdg : decode cc pc = .ok (.getfield 27, 3)) (kk : W p l e R s m args below meth c H locs cells slots Q (F0 m (pc + 3) ls (.ref (q_rf X a 3) :: rest))) : W p l e R s m args below meth c H locs cells slots Q (F0 m pc ls (.ref a :: rest)) :=
  q_getf (ref := "CheatHeap$Script") E hI ha ⟨rfl, by decide⟩ (show vwCl[7]? = some (RX8, TX8, 8) from rfl) q_inX8 (f := 3) (by decide) (q_in_t1 (i := 195) (by first | rfl | decide +kernel) rfl) (Or.inl rfl) rfl hdg kk
theorem kv_X8_43 : q_okV RX8 43 RX5 yX5_copyFrom cX5_copyFrom 3 none 1 := ⟨(q_in_t4 (i := 151) (by first | rfl | decide +kernel) rfl), (q_in_t4 (i := 134) (by first | rfl | decide +kernel) rfl), (q_in_t4 (i := 135) (by first | rfl | decide +kernel) rfl), (q_in_t1 (i := 4) (by first | rfl | decide +kernel) rfl), (q_in_t4 (i := 136) (by first | rfl | decide +kernel) rfl), ⟨rfl, by decide, by decide, rfl⟩⟩
theorem gs_X8_31_8 (E : q_E p c cc s m args RX8 X) (hI : q_I X n σ0 H0 locs σ H) (ha : q_kd X a = 8) (hdg : decode cc pc = .ok (.getfield 31, 3)) (kk : W p l e R s m args below meth c H locs cells slots Q (F0 m (pc + 3) ls (.ref (q_rf X a 4) :: rest))) : W p l e R s m args below meth c H locs cells slots Q (F0 m pc ls (.ref a :: rest)) :=
  q_getf (ref := "CheatHeap$Script") E hI ha ⟨rfl, by decide⟩ (show vwCl[7]? = some (RX8, TX8, 8) from rfl) q_inX8 (f := 4) (by decide) (q_in_t1 (i := 198) (by first | rfl | decide +kernel) rfl) (Or.inl rfl) rfl hdg kk
theorem gs_X8_34_8 (E : q_E p c cc s m args RX8 X) (hI : q_I X n σ0 H0 locs σ H) (ha : q_kd X a = 8) (hdg : decode cc pc = .ok (.getfield 34, 3)) (kk : W p l e R s m args below meth c H locs cells slots Q (F0 m (pc + 3) ls (.ref (q_rf X a 5) :: rest))) : W p l e R s m args below meth c H locs cells slots Q (F0 m pc ls (.ref a :: rest)) :=
  q_getf (ref := "CheatHeap$Script") E hI ha ⟨rfl, by decide⟩ (show vwCl[7]? = some (RX8, TX8, 8) from rfl) q_inX8 (f := 5) (by decide) (q_in_t1 (i := 201) (by first | rfl | decide +kernel) rfl) (Or.inl rfl) rfl hdg kk
theorem gs_X8_37_8 (E : q_E p c cc s m args RX8 X) (hI : q_I X n σ0 H0 locs σ H) (ha : q_kd X a = 8) (hdg : decode cc pc = .ok (.getfield 37, 3)) (kk : W p l e R s m args below meth c H locs cells slots Q (F0 m (pc + 3) ls (.ref (q_rf X a 6) :: rest))) : W p l e R s m args below meth c H locs cells slots Q (F0 m pc ls (.ref a :: rest)) :=
  q_getf (ref := "CheatHeap$Script") E hI ha ⟨rfl, by decide⟩ (show vwCl[7]? = some (RX8, TX8, 8) from rfl) q_inX8 (f := 6) (by decide) (q_in_t1 (i := 204) (by first | rfl | decide +kernel) rfl) (Or.inl rfl) rfl hdg kk
theorem gs_X8_40_8 (E : q_E p c cc s m args RX8 X) (hI : q_I X n σ0 H0 locs σ H) (ha : q_kd X a = 8) (hdg : decode cc pc = .ok (.getfield 40, 3)) (kk : W p l e R s m args below meth c H locs cells slots Q (F0 m (pc + 3) ls (.ref (q_rf X a 7) :: rest))) : W p l e R s m args below meth c H locs cells slots Q (F0 m pc ls (.ref a :: rest)) :=
  q_getf (ref := "CheatHeap$Script") E hI ha ⟨rfl, by decide⟩ (show vwCl[7]? = some (RX8, TX8, 8) from rfl) q_inX8 (f := 7) (by decide) (q_in_t1 (i := 206) (by first | rfl | decide +kernel) rfl) (Or.inl rfl) rfl hdg kk
theorem kv_X8_47 : q_okV RX8 47 RX5 yX5_set cX5_set 3 none 2 := ⟨(q_in_t4 (i := 184) (by first | rfl | decide +kernel) rfl), (q_in_t4 (i := 83) (by first | rfl | decide +kernel) rfl), (q_in_t4 (i := 84) (by first | rfl | decide +kernel) rfl), (q_in_t1 (i := 4) (by first | rfl | decide +kernel) rfl), (q_in_t4 (i := 85) (by first | rfl | decide +kernel) rfl), ⟨rfl, by decide, by decide, rfl⟩⟩
theorem ks_X8_55 : q_okS RX8 55 yX8_isWhen cX8_isWhen 1 (some .boolean) 1 := ⟨(q_in_t4 (i := 230) (by first | rfl | decide +kernel) rfl), (q_in_t4 (i := 207) (by first | rfl | decide +kernel) rfl), (q_in_t1 (i := 8) (by first | rfl | decide +kernel) rfl), (q_in_t4 (i := 208) (by first | rfl | decide +kernel) rfl), ⟨by decide, by decide, rfl⟩⟩
theorem kv_X1_49 : q_okV RX1 49 RX5 yX5_sum cX5_sum 5 (some .int) 2 := ⟨(q_in_t5 (i := 23) (by first | rfl | decide +kernel) rfl), (q_in_t5 (i := 24) (by first | rfl | decide +kernel) rfl), (q_in_t5 (i := 25) (by first | rfl | decide +kernel) rfl), (q_in_t1 (i := 4) (by first | rfl | decide +kernel) rfl), (q_in_t5 (i := 26) (by first | rfl | decide +kernel) rfl), ⟨rfl, by decide, by decide, rfl⟩⟩
theorem kv_X1_45 : q_okV RX1 45 RX5 yX5_get cX5_get 2 (some .int) 1 := ⟨(q_in_t5 (i := 40) (by first | rfl | decide +kernel) rfl), (q_in_t4 (i := 73) (by first | rfl | decide +kernel) rfl), (q_in_t4 (i := 74) (by first | rfl | decide +kernel) rfl), (q_in_t1 (i := 4) (by first | rfl | decide +kernel) rfl), (q_in_t4 (i := 75) (by first | rfl | decide +kernel) rfl), ⟨rfl, by decide, by decide, rfl⟩⟩
theorem kv_X2_44 : q_okV RX2 44 RX5 yX5_get cX5_get 2 (some .int) 1 := ⟨(q_in_t5 (i := 53) (by first | rfl | decide +kernel) rfl), (q_in_t4 (i := 73) (by first | rfl | decide +kernel) rfl), (q_in_t4 (i := 74) (by first | rfl | decide +kernel) rfl), (q_in_t1 (i := 4) (by first | rfl | decide +kernel) rfl), (q_in_t4 (i := 75) (by first | rfl | decide +kernel) rfl), ⟨rfl, by decide, by decide, rfl⟩⟩
theorem kv_X2_40 : q_okV RX2 40 RX5 yX5_set cX5_set 3 none 2 := ⟨(q_in_t5 (i := 98) (by first | rfl | decide +kernel) rfl), (q_in_t4 (i := 83) (by first | rfl | decide +kernel) rfl), (q_in_t4 (i := 84) (by first | rfl | decide +kernel) rfl), (q_in_t1 (i := 4) (by first | rfl | decide +kernel) rfl), (q_in_t4 (i := 85) (by first | rfl | decide +kernel) rfl), ⟨rfl, by decide, by decide, rfl⟩⟩
theorem kv_X1_57 : q_okV RX1 57 RX1 yX1_deal cX1_deal 4 none 3 := ⟨(q_in_t5 (i := 103) (by first | rfl | decide +kernel) rfl), (q_in_t4 (i := 117) (by first | rfl | decide +kernel) rfl), (q_in_t4 (i := 118) (by first | rfl | decide +kernel) rfl), (q_in_t1 (i := 6) (by first | rfl | decide +kernel) rfl), (q_in_t4 (i := 119) (by first | rfl | decide +kernel) rfl), ⟨rfl, by decide, by decide, rfl⟩⟩
theorem kv_X2_48 : q_okV RX2 48 RX5 yX5_add cX5_add 3 none 2 := ⟨(q_in_t5 (i := 108) (by first | rfl | decide +kernel) rfl), (q_in_t4 (i := 113) (by first | rfl | decide +kernel) rfl), (q_in_t4 (i := 114) (by first | rfl | decide +kernel) rfl), (q_in_t1 (i := 4) (by first | rfl | decide +kernel) rfl), (q_in_t4 (i := 115) (by first | rfl | decide +kernel) rfl), ⟨rfl, by decide, by decide, rfl⟩⟩
theorem kv_X2_51 : q_okV RX2 51 RX2 yX2_truth cX2_truth 4 (some .int) 1 := ⟨(q_in_t5 (i := 148) (by first | rfl | decide +kernel) rfl), (q_in_t5 (i := 50) (by first | rfl | decide +kernel) rfl), (q_in_t5 (i := 51) (by first | rfl | decide +kernel) rfl), (q_in_t1 (i := 7) (by first | rfl | decide +kernel) rfl), (q_in_t5 (i := 52) (by first | rfl | decide +kernel) rfl), ⟨rfl, by decide, by decide, rfl⟩⟩
theorem kv_X1_61 : q_okV RX1 61 RX1 yX1_laidBy cX1_laidBy 3 (some .int) 2 := ⟨(q_in_t5 (i := 153) (by first | rfl | decide +kernel) rfl), (q_in_t5 (i := 154) (by first | rfl | decide +kernel) rfl), (q_in_t5 (i := 155) (by first | rfl | decide +kernel) rfl), (q_in_t1 (i := 6) (by first | rfl | decide +kernel) rfl), (q_in_t5 (i := 156) (by first | rfl | decide +kernel) rfl), ⟨rfl, by decide, by decide, rfl⟩⟩
theorem kv_X8_51 : q_okV RX8 51 RX5 yX5_get cX5_get 2 (some .int) 1 := ⟨(q_in_t6 (i := 190) (by first | rfl | decide +kernel) rfl), (q_in_t4 (i := 73) (by first | rfl | decide +kernel) rfl), (q_in_t4 (i := 74) (by first | rfl | decide +kernel) rfl), (q_in_t1 (i := 4) (by first | rfl | decide +kernel) rfl), (q_in_t4 (i := 75) (by first | rfl | decide +kernel) rfl), ⟨rfl, by decide, by decide, rfl⟩⟩
end QS
end
