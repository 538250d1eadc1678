section
set_option maxRecDepth 100000 in
set_option maxHeartbeats 4000000 in
theorem c_J9_min_7cf53 (l : Launch) (X : XW) (σ : ST) (v0 : Int32) (v1 : Int32) : Met l yJ9_min_7cf53 (q_ws yJ9_min_7cf53 cJ9_min_7cf53 2 (some .int)) (q_rm 0 0) (q_P X σ [.int v0, .int v1]) (q_Qi X 9 σ (fun (r : Int32) (σ' : ST) => σ' = σ ∧ (r.toInt = min v0.toInt v1.toInt) ∧ r = F_J9_min_7cf53 X σ v0 v1)) 0 0 (q_reg X) := by
  refine q_met 9 (by first | exact rfl | decide +kernel) rfl (Nat.le_of_ble_eq_true rfl) (fun p e s m below meth c E hml hr hlk hI ls hl => ?_)
  have hx := E.1
  have hb := E.2.1
  have hl : lv_has ls 2 [(0, .int v0), (1, .int v1)] := hl
  obtain ⟨out, hout⟩ : ∃ o, o = F_J9_min_7cf53 X σ v0 v1 := ⟨_, rfl⟩
  have hF := hout.symm
  unfold F_J9_min_7cf53 at hF
  refine lv_iload_n hx hb dJ9_min_7cf53_0 rfl (lv_at hl 0 rfl) ?_
  refine lv_iload_n hx hb dJ9_min_7cf53_1 rfl (lv_at hl 1 rfl) ?_
  refine q_icmp_gt (A := v0.toInt) (B := v1.toInt) E rfl rfl (tgt := 9) dJ9_min_7cf53_2 (by decide) (fun c_1 => ?_) (fun c_1 => ?_)
  · skip
    replace hF := q_ifp hF c_1
    refine lv_iload_n hx hb dJ9_min_7cf53_9 rfl (lv_at hl 1 rfl) ?_
    exact q_reti E hr hlk hI ⟨rfl, (by omega), (hF.trans hout)⟩ dJ9_min_7cf53_10
  · skip
    replace hF := q_ifn hF (Int.not_lt.mpr c_1)
    refine lv_iload_n hx hb dJ9_min_7cf53_5 rfl (lv_at hl 0 rfl) ?_
    refine lv_goto (tgt := 10) hx hb dJ9_min_7cf53_6 (by decide) ?_
    exact q_reti E hr hlk hI ⟨rfl, (by omega), (hF.trans hout)⟩ dJ9_min_7cf53_10

set_option maxRecDepth 100000 in
set_option maxHeartbeats 4000000 in
theorem c_J9_max_7cf53 (l : Launch) (X : XW) (σ : ST) (v0 : Int32) (v1 : Int32) : Met l yJ9_max_7cf53 (q_ws yJ9_max_7cf53 cJ9_max_7cf53 2 (some .int)) (q_rm 0 0) (q_P X σ [.int v0, .int v1]) (q_Qi X 9 σ (fun (r : Int32) (σ' : ST) => σ' = σ ∧ (r.toInt = max v0.toInt v1.toInt) ∧ r = F_J9_max_7cf53 X σ v0 v1)) 0 0 (q_reg X) := by
  refine q_met 9 (by first | exact rfl | decide +kernel) rfl (Nat.le_of_ble_eq_true rfl) (fun p e s m below meth c E hml hr hlk hI ls hl => ?_)
  have hx := E.1
  have hb := E.2.1
  have hl : lv_has ls 2 [(0, .int v0), (1, .int v1)] := hl
  obtain ⟨out, hout⟩ : ∃ o, o = F_J9_max_7cf53 X σ v0 v1 := ⟨_, rfl⟩
  have hF := hout.symm
  unfold F_J9_max_7cf53 at hF
  refine lv_iload_n hx hb dJ9_max_7cf53_0 rfl (lv_at hl 0 rfl) ?_
  refine lv_iload_n hx hb dJ9_max_7cf53_1 rfl (lv_at hl 1 rfl) ?_
  refine q_icmp_lt (A := v0.toInt) (B := v1.toInt) E rfl rfl (tgt := 9) dJ9_max_7cf53_2 (by decide) (fun c_1 => ?_) (fun c_1 => ?_)
  · skip
    replace hF := q_ifp hF c_1
    refine lv_iload_n hx hb dJ9_max_7cf53_9 rfl (lv_at hl 1 rfl) ?_
    exact q_reti E hr hlk hI ⟨rfl, (by omega), (hF.trans hout)⟩ dJ9_max_7cf53_10
  · skip
    replace hF := q_ifn hF (Int.not_lt.mpr c_1)
    refine lv_iload_n hx hb dJ9_max_7cf53_5 rfl (lv_at hl 0 rfl) ?_
    refine lv_goto (tgt := 10) hx hb dJ9_max_7cf53_6 (by decide) ?_
    exact q_reti E hr hlk hI ⟨rfl, (by omega), (hF.trans hout)⟩ dJ9_max_7cf53_10

set_option maxRecDepth 100000 in
set_option maxHeartbeats 4000000 in
theorem c_X10_make (l : Launch) (X : XW) (σ : ST) (a : Nat) (v1 : Int32) (v2 : Int32) (ha : q_kd X a = 10) (h0 : 0 ≤ v1.toInt) (h1 : v1.toInt ≤ 3) : Met l yX10_make (q_ws yX10_make cX10_make 4 none) (q_rm 1 21) (q_P X σ [.ref a, .int v1, .int v2]) (q_Qv X 0 σ (fun (σ' : ST) => (q_KS (fun b g => b = a ∧ g ≤ 1) 8 X σ σ') ∧ (σ'.1 a 0 = v1) ∧ ((σ'.1 a 1).toInt = max 0 (min v2.toInt 60)) ∧ σ' = F_X10_make X σ a v1 v2 ∧ q_ow [(10, 0), (10, 1)] [(21, 99)] X σ σ')) 0 0 (q_reg X) := by
  refine q_met 0 (by first | exact rfl | decide +kernel) rfl (Nat.le_of_ble_eq_true rfl) (fun p e s m below meth c E hml hr hlk hI ls hl => ?_)
  have hx := E.1
  have hb := E.2.1
  have hl : lv_has ls 4 [(0, .ref a), (1, .int v1), (2, .int v2)] := hl
  have ks_σ : q_KS (fun b g => b = a ∧ g ≤ 1) 8 X σ σ := q_KS.rf
  have fr_σ : q_ow [(10, 0), (10, 1)] [(21, 99)] X σ σ := q_ow.rf
  obtain ⟨out, hout⟩ : ∃ o, o = F_X10_make X σ a v1 v2 := ⟨_, rfl⟩
  have hF := hout.symm
  unfold F_X10_make at hF
  refine lv_aload_n hx hb dX10_make_0 rfl (lv_at hl 0 rfl) ?_
  refine lv_iload_n hx hb dX10_make_1 rfl (lv_at hl 1 rfl) ?_
  refine ps_X10_9_10 E hI ha (by decide) (by omega) (by omega) dX10_make_2 (fun H locs σ_1 hσ_1 hI => ?_)
  replace hF := q_letX hF hσ_1
  have fr_σ_1 := fr_σ.si hσ_1 ha rfl
  have ks_σ_1 : q_KS (fun b g => b = a ∧ g ≤ 1) 8 X σ σ_1 := ks_σ.siS hσ_1 ⟨rfl, by decide⟩
  have p0σ_1 : σ_1.1 a 0 = v1 := q_rd hσ_1
  refine lv_aload_n hx hb dX10_make_5 rfl (lv_at hl 0 rfl) ?_
  refine lv_iconst (v := 0) hx hb dX10_make_6 (by decide) ?_
  refine lv_iload_n hx hb dX10_make_7 rfl (lv_at hl 2 rfl) ?_
  refine lv_bipush (v := 60) hx hb dX10_make_8 (by decide) ?_
  have kc_2 : (60 : Int32).toInt = 60 := rfl
  refine q_ci (q_runS (As := [.int v2, .int 60]) (rest := [.int 0, .ref a]) E (hml.trans hl.1.symm) hI (c_J9_min_7cf53 l X σ_1 v2 (60 : Int32)) ks_X10_22 rfl ⟨Nat.le_of_ble_eq_true rfl, Nat.le_of_ble_eq_true rfl⟩ ⟨Nat.le_refl _, Nat.le_refl _⟩ rfl (Nat.le_of_ble_eq_true rfl) dX10_make_10) hI (by decide) (fun r_3 σ_4 H locs hpσ_4 hkσ_4 hI => ?_)
  obtain ⟨ahpσ_4, bhpσ_4, chpσ_4⟩ := hpσ_4
  rw [ahpσ_4] at hI
  replace hF := q_letX hF chpσ_4
  have kc_5 : (0 : Int32).toInt = 0 := rfl
  refine q_ci (q_runS (As := [.int 0, .int r_3]) (rest := [.ref a]) E (hml.trans hl.1.symm) hI (c_J9_max_7cf53 l X σ_1 (0 : Int32) r_3) ks_X10_28 rfl ⟨Nat.le_of_ble_eq_true rfl, Nat.le_of_ble_eq_true rfl⟩ ⟨Nat.le_refl _, Nat.le_refl _⟩ rfl (Nat.le_of_ble_eq_true rfl) dX10_make_13) hI (by decide) (fun r_6 σ_7 H locs hpσ_7 hkσ_7 hI => ?_)
  obtain ⟨ahpσ_7, bhpσ_7, chpσ_7⟩ := hpσ_7
  rw [ahpσ_7] at hI
  replace hF := q_letX hF chpσ_7
  refine ps_X10_15_10 E hI ha (by decide) (by omega) (by omega) dX10_make_16 (fun H locs σ_8 hσ_8 hI => ?_)
  replace hF := q_letX hF hσ_8
  have fr_σ_8 := fr_σ_1.si hσ_8 ha rfl
  have ks_σ_8 : q_KS (fun b g => b = a ∧ g ≤ 1) 8 X σ σ_8 := ks_σ_1.siS hσ_8 ⟨rfl, by decide⟩
  have p0σ_8 : σ_8.1 a 0 = v1 := (q_rdn hσ_8 (Or.inr (by decide))).trans p0σ_1
  have p1σ_8 : (σ_8.1 a 1).toInt = max 0 (min v2.toInt 60) := by rw [q_rd hσ_8]; omega
  refine lv_iconst (v := 0) hx hb dX10_make_19 (by decide) ?_
  refine lv_istore_n (lv' := [(3, .int 0), (0, .ref a), (1, .int v1), (2, .int v2)]) hx hb dX10_make_20 rfl hl (by decide) rfl (fun ls hl => ?_)
  have L_21_11 : ∀ (k_11 : Nat) (x_9 : Int32) (σ_10 : ST) (H : Heap) (locs : List Loc) (ls : Array Slot), (2147483647 - x_9.toInt).toNat < k_11 → (0 ≤ x_9.toInt) → (σ_10.1 a 0 = v1) → ((σ_10.1 a 1).toInt = max 0 (min v2.toInt 60)) → (q_KS (fun b g => b = a ∧ g ≤ 1) 8 X σ σ_10) → (q_ow [(10, 0), (10, 1)] [(21, 99)] X σ σ_10) → (F_X10_make_L21_1 X a k_11 x_9 σ_10 = out) → q_I X 0 σ s.heap locs σ_10 H → lv_has ls 4 [(0, .ref a), (1, .int v1), (2, .int v2), (3, .int x_9)] → W p l e (q_rm 1 21) s m ([.ref a, .int v1, .int v2] : List Value).toArray below meth c H locs 0 0 (MQ below (q_Qv X 0 σ (fun (σ' : ST) => (q_KS (fun b g => b = a ∧ g ≤ 1) 8 X σ σ') ∧ (σ'.1 a 0 = v1) ∧ ((σ'.1 a 1).toInt = max 0 (min v2.toInt 60)) ∧ σ' = F_X10_make X σ a v1 v2 ∧ q_ow [(10, 0), (10, 1)] [(21, 99)] X σ σ')) ([.ref a, .int v1, .int v2] : List Value).toArray s 0 0 (q_reg X)) (F0 m 21 ls []) := by
    clear hF
    intro k_11
    induction k_11 with
    | zero =>
      intro x_9 σ_10 H locs ls hms
      exact absurd hms (Nat.not_lt_zero _)
    | succ k_11 ih21 =>
      intro x_9 σ_10 H locs ls hm21 hge21 p0σ_10 p1σ_10 ks_σ_10 fr_σ_10 hF hI hl
      replace hF := (F_X10_make_L21_1_s).symm.trans hF
      unfold F_X10_make_B21_1 at hF
      refine lv_iload_n hx hb dX10_make_21 rfl (lv_at hl 3 rfl) ?_
      refine lv_bipush (v := 60) hx hb dX10_make_22 (by decide) ?_
      have gc_12_x_9 := q_rng x_9
      refine q_icmp_ge (A := x_9.toInt) (B := 60) E rfl (by decide) (tgt := 40) dX10_make_24 (by decide) (fun c_12 => ?_) (fun c_12 => ?_)
      · skip
        replace hF := q_ifn hF (Int.not_lt.mpr c_12)
        skip
        exact q_retv E hr hlk hI ⟨ks_σ_10, p0σ_10, p1σ_10, (hF.trans hout), fr_σ_10⟩ dX10_make_40
      · skip
        replace hF := q_ifp hF c_12
        refine lv_aload_n hx hb dX10_make_27 rfl (lv_at hl 0 rfl) ?_
        refine gs_X10_18_10 E hI ha dX10_make_28 ?_
        refine lv_iload_n hx hb dX10_make_31 rfl (lv_at hl 3 rfl) ?_
        refine lv_lconst (v := 0) hx hb dX10_make_32 (by decide) ?_
        refine q_lastN E hI (q_tk (k' := 21) hI ha rfl (by decide)) ⟨by decide, rfl⟩ (by omega) (by rw [q_lnk (v := 60) hI (q_tk (k' := 21) hI ha rfl (by decide)) rfl (by decide)]; omega) dX10_make_33 (fun H locs σ_13 hσ_13 hI => ?_)
        replace hF := q_letX hF hσ_13
        have fr_σ_13 := fr_σ_10.sl hσ_13 (q_tk (k' := 21) hI ha rfl (by decide)) rfl
        have ks_σ_13 : q_KS (fun b g => b = a ∧ g ≤ 1) 8 X σ σ_13 := ks_σ_10.sl hσ_13
        have p0σ_13 : σ_13.1 a 0 = v1 := (q_rdl hσ_13).trans p0σ_10
        have p1σ_13 : (σ_13.1 a 1).toInt = max 0 (min v2.toInt 60) := (congrArg Int32.toInt (q_rdl hσ_13)).trans p1σ_10
        obtain ⟨z_14, ez_14⟩ : ∃ y : Int32, y = x_9 + 1 := ⟨_, rfl⟩
        replace hF := q_letX hF ez_14
        refine lv_iinc (v := z_14) (lv' := [(3, .int z_14), (0, .ref a), (1, .int v1), (2, .int v2)]) hx hb dX10_make_34 hl (k := 3) rfl (by rw [ez_14]; rfl) (by decide) rfl (fun ls hl => ?_)
        have iz_14 : z_14.toInt = x_9.toInt + 1 := q_inc ez_14 (by omega)
        refine lv_goto (tgt := 21) hx hb dX10_make_37 (by decide) ?_
        exact ih21 z_14 σ_13 _ _ ls (by omega) (by omega) p0σ_13 p1σ_13 ks_σ_13 fr_σ_13 hF hI (lv_sub hl [1, 2, 3, 0] rfl)
  exact L_21_11 ((2147483647 - (0 : Int32).toInt).toNat + 1) 0 σ_8 _ _ ls (Nat.lt_succ_self _) (by decide) p0σ_8 p1σ_8 ks_σ_8 fr_σ_8 hF hI (lv_sub hl [1, 2, 3, 0] rfl)
end
