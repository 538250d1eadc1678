section
set_option maxRecDepth 100000 in
set_option maxHeartbeats 4000000 in
theorem c_J1_charAt_3b067 (l : Launch) (X : XW) (σ : ST) (r0 : Nat) (v1 : Int32) (hr0 : r0 < 22) (h0 : 0 ≤ v1.toInt) (h1 : v1.toInt < (q_slen.getD r0 0 : Nat)) : Met l yJ1_charAt_3b067 (q_ws yJ1_charAt_3b067 cJ1_charAt_3b067 2 (some .char)) (q_rm 2 43) (q_P X σ [.ref (q_sv X r0), .int v1]) (q_Qi X 9 σ (fun (r : Int32) (σ' : ST) => σ' = σ ∧ (narrow .char (.int r) = .int r) ∧ r = F_J1_charAt_3b067 X σ r0 v1)) 0 0 (q_reg X) := by
  refine q_met 9 (by first | exact rfl | decide +kernel) rfl (Nat.le_of_ble_eq_true rfl) (fun p e s m below meth c E hml hr hlk hI ls hl => ?_)
  have hx := E.1
  have hb := E.2.1
  have hl : lv_has ls 2 [(0, .ref (q_sv X r0)), (1, .int v1)] := hl
  obtain ⟨out, hout⟩ : ∃ o, o = F_J1_charAt_3b067 X σ r0 v1 := ⟨_, rfl⟩
  have hF := hout.symm
  unfold F_J1_charAt_3b067 at hF
  refine lv_iload_n hx hb dJ1_charAt_3b067_0 rfl (lv_at hl 1 rfl) ?_
  refine lv_aload_n hx hb dJ1_charAt_3b067_1 rfl (lv_at hl 0 rfl) ?_
  refine va_tlen hx hb (E.2.2.2.2.2.1.1 _ hr0).2.2.2 hI.S rfl dJ1_charAt_3b067_2 ?_
  refine lv_topi (fun n_1 en_1 => ?_)
  replace hF := q_letX hF en_1
  have hn_1 : n_1.toInt = (q_slen.getD r0 0 : Nat) := by rw [en_1]; exact nI_toInt (q_slen_lt r0)
  refine q_cv (q_runS (As := [.int v1, .int n_1]) (rest := []) E (hml.trans hl.1.symm) hI (c_J0_checkIndex_df160 l X σ v1 n_1 (by omega) (by omega)) ks_J1_9 rfl ⟨Nat.le_of_ble_eq_true rfl, Nat.le_of_ble_eq_true rfl⟩ ⟨Nat.le_refl _, Nat.le_refl _⟩ rfl (Nat.le_of_ble_eq_true rfl) dJ1_charAt_3b067_3) hI (by decide) (fun σ_3 H locs hpσ_3 hkσ_3 hI => ?_)
  have ahpσ_3 := hpσ_3
  rw [ahpσ_3] at hI
  refine lv_aload_n hx hb dJ1_charAt_3b067_6 rfl (lv_at hl 0 rfl) ?_
  refine lv_iload_n hx hb dJ1_charAt_3b067_7 rfl (lv_at hl 1 rfl) ?_
  refine va_tb hx hb (E.2.2.2.2.2.1.1 _ hr0).2.2.2 hI.S (vp_in_iff.mpr ⟨by omega, by omega⟩) rfl dJ1_charAt_3b067_8 ?_
  refine lv_topi (fun f_4 ef_4 => ?_)
  replace hF := q_letX hF ef_4
  refine lv_sipush (v := 255) hx hb dJ1_charAt_3b067_9 (by decide) ?_
  refine lv_iand hx hb dJ1_charAt_3b067_12 ?_
  refine lv_topi (fun z_5 ez_5 => ?_)
  replace hF := q_letX hF ez_5
  refine lv_i2c hx hb dJ1_charAt_3b067_13 rfl ?_
  refine lv_topi (fun z_6 ez_6 => ?_)
  replace hF := q_letX hF ez_6
  exact q_retn E hr hlk hI (by rw [ez_6]; exact pk_nc _) ⟨rfl, (by rw [ez_6]; exact pk_nc _), (hF.trans hout)⟩ dJ1_charAt_3b067_14

set_option maxRecDepth 100000 in
set_option maxHeartbeats 4000000 in
theorem c_J0_charAt_5068e (l : Launch) (X : XW) (σ : ST) (a : Nat) (v1 : Int32) (ha : a < 22) (h0 : 0 ≤ v1.toInt) (h1 : v1.toInt < (q_slen.getD a 0 : Nat)) : Met l yJ0_charAt_5068e (q_ws yJ0_charAt_5068e cJ0_charAt_5068e 2 (some .char)) (q_rm 3 64) (q_P X σ [.ref (q_sk X a), .int v1]) (q_Qi X 9 σ (fun (r : Int32) (σ' : ST) => σ' = σ ∧ r = F_J0_charAt_5068e X σ a v1)) 0 0 (q_reg X) := by
  refine q_met 9 (by first | exact rfl | decide +kernel) rfl (Nat.le_of_ble_eq_true rfl) (fun p e s m below meth c E hml hr hlk hI ls hl => ?_)
  have hx := E.1
  have hb := E.2.1
  have hl : lv_has ls 2 [(0, .ref (q_sk X a)), (1, .int v1)] := hl
  obtain ⟨out, hout⟩ : ∃ o, o = F_J0_charAt_5068e X σ a v1 := ⟨_, rfl⟩
  have hF := hout.symm
  unfold F_J0_charAt_5068e at hF
  refine lv_aload_n hx hb dJ0_charAt_5068e_0 rfl (lv_at hl 0 rfl) ?_
  refine q_ci (q_runT (As := []) (rest := []) E (hml.trans hl.1.symm) hI (c_J0_isLatin1_aae02 l X σ a ha) kt_J0_492 ha rfl ⟨Nat.le_of_ble_eq_true rfl, Nat.le_of_ble_eq_true rfl⟩ ⟨Nat.le_refl _, Nat.le_refl _⟩ rfl (Nat.le_of_ble_eq_true rfl) dJ0_charAt_5068e_1) hI (by decide) (fun r_1 σ_2 H locs hpσ_2 hkσ_2 hI => ?_)
  obtain ⟨ahpσ_2, bhpσ_2, chpσ_2, dhpσ_2⟩ := hpσ_2
  rw [ahpσ_2] at hI
  replace hF := q_letX hF dhpσ_2
  refine q_if_eq (A := r_1.toInt) E rfl (tgt := 16) dJ0_charAt_5068e_4 (by decide) (fun c_3 => ?_) (fun c_3 => ?_)
  · skip
    replace hF := q_ifp hF c_3
    exact absurd c_3 (by omega)
  · skip
    replace hF := q_ifn hF c_3
    refine lv_aload_n hx hb dJ0_charAt_5068e_7 rfl (lv_at hl 0 rfl) ?_
    refine vk_getf hx hb (E.2.2.2.2.2.1.1 _ ha).2.2.1 hI.S E.2.2.1 (E.2.2.2.1 _ (q_in_t9 (i := 210) (by first | rfl | decide +kernel) rfl)) (fun _ h => h) dJ0_charAt_5068e_8 ?_
    refine lv_iload_n hx hb dJ0_charAt_5068e_11 rfl (lv_at hl 1 rfl) ?_
    refine q_ci (q_runS (As := [.ref (q_sv X a), .int v1]) (rest := []) E (hml.trans hl.1.symm) hI (c_J1_charAt_3b067 l X σ a v1 ha (by omega) (by omega)) ks_J0_495 rfl ⟨Nat.le_of_ble_eq_true rfl, Nat.le_of_ble_eq_true rfl⟩ ⟨Nat.le_refl _, Nat.le_refl _⟩ rfl (Nat.le_of_ble_eq_true rfl) dJ0_charAt_5068e_12) hI (by decide) (fun r_4 σ_5 H locs hpσ_5 hkσ_5 hI => ?_)
    obtain ⟨ahpσ_5, bhpσ_5, chpσ_5⟩ := hpσ_5
    rw [ahpσ_5] at hI
    replace hF := q_letX hF chpσ_5
    exact q_retn E hr hlk hI bhpσ_5 ⟨rfl, (hF.trans hout)⟩ dJ0_charAt_5068e_15
end
