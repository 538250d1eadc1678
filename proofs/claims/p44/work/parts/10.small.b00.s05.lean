section
set_option maxRecDepth 100000 in
set_option maxHeartbeats 4000000 in
theorem c_J0_length_8abf5 (l : Launch) (X : XW) (σ : ST) (a : Nat) (ha : a < 22) : Met l yJ0_length_8abf5 (q_ws yJ0_length_8abf5 cJ0_length_8abf5 1 (some .int)) (q_rm 1 20) (q_P X σ [.ref (q_sk X a)]) (q_Qi X 9 σ (fun (r : Int32) (σ' : ST) => σ' = σ ∧ (r.toInt = (q_slen.getD a 0 : Nat)) ∧ r = F_J0_length_8abf5 X σ a)) 0 0 (q_reg X) := by
  refine q_met 9 (by first | exact rfl | decide +kernel) rfl (Nat.le_of_ble_eq_true rfl) (fun p e s m below meth c E hml hr hlk hI ls hl => ?_)
  have hx := E.1
  have hb := E.2.1
  have hl : lv_has ls 1 [(0, .ref (q_sk X a))] := hl
  obtain ⟨out, hout⟩ : ∃ o, o = F_J0_length_8abf5 X σ a := ⟨_, rfl⟩
  have hF := hout.symm
  unfold F_J0_length_8abf5 at hF
  refine lv_aload_n hx hb dJ0_length_8abf5_0 rfl (lv_at hl 0 rfl) ?_
  refine vk_getf hx hb (E.2.2.2.2.2.1.1 _ ha).2.2.1 hI.S E.2.2.1 (E.2.2.2.1 _ (q_in_t9 (i := 210) (by first | rfl | decide +kernel) rfl)) (fun _ h => h) dJ0_length_8abf5_1 ?_
  refine va_tlen hx hb (E.2.2.2.2.2.1.1 _ ha).2.2.2 hI.S rfl dJ0_length_8abf5_4 ?_
  refine lv_topi (fun n_1 en_1 => ?_)
  replace hF := q_letX hF en_1
  have hn_1 : n_1.toInt = (q_slen.getD a 0 : Nat) := by rw [en_1]; exact nI_toInt (q_slen_lt a)
  refine lv_aload_n hx hb dJ0_length_8abf5_5 rfl (lv_at hl 0 rfl) ?_
  refine q_ci (q_runT (As := []) (rest := [.int n_1]) E (hml.trans hl.1.symm) hI (c_J0_coder_7d493 l X σ a ha) kt_J0_335 ha rfl ⟨Nat.le_of_ble_eq_true rfl, Nat.le_of_ble_eq_true rfl⟩ ⟨Nat.le_refl _, Nat.le_refl _⟩ rfl (Nat.le_of_ble_eq_true rfl) dJ0_length_8abf5_6) hI (by decide) (fun r_2 σ_3 H locs hpσ_3 hkσ_3 hI => ?_)
  obtain ⟨ahpσ_3, bhpσ_3, chpσ_3⟩ := hpσ_3
  rw [ahpσ_3] at hI
  replace hF := q_letX hF chpσ_3
  refine lv_ishr hx hb dJ0_length_8abf5_9 ?_
  refine lv_topi (fun z_4 ez_4 => ?_)
  replace hF := q_letX hF ez_4
  have hr0 : r_2 = 0 := q_eqI.mpr (by rw [q_z0]; omega)
  have j_lenz_4 : (n_1 >>> (r_2 &&& 31)).toInt = (q_slen.getD a 0 : Nat) := by rw [hr0]; exact (congrArg Int32.toInt (sb_shr0 n_1)).trans hn_1
  exact q_reti E hr hlk hI ⟨rfl, (by rw [ez_4]; exact j_lenz_4), (hF.trans hout)⟩ dJ0_length_8abf5_10

set_option maxRecDepth 100000 in
set_option maxHeartbeats 4000000 in
theorem c_J0_isLatin1_aae02 (l : Launch) (X : XW) (σ : ST) (a : Nat) (ha : a < 22) : Met l yJ0_isLatin1_aae02 (q_ws yJ0_isLatin1_aae02 cJ0_isLatin1_aae02 1 (some .boolean)) (q_rm 0 0) (q_P X σ [.ref (q_sk X a)]) (q_Qi X 9 σ (fun (r : Int32) (σ' : ST) => σ' = σ ∧ (0 ≤ r.toInt ∧ r.toInt ≤ 1) ∧ (r.toInt = 1) ∧ r = F_J0_isLatin1_aae02 X σ a)) 0 0 (q_reg X) := by
  refine q_met 9 (by first | exact rfl | decide +kernel) rfl (Nat.le_of_ble_eq_true rfl) (fun p e s m below meth c E hml hr hlk hI ls hl => ?_)
  have hx := E.1
  have hb := E.2.1
  have hl : lv_has ls 1 [(0, .ref (q_sk X a))] := hl
  obtain ⟨out, hout⟩ : ∃ o, o = F_J0_isLatin1_aae02 X σ a := ⟨_, rfl⟩
  have hF := hout.symm
  unfold F_J0_isLatin1_aae02 at hF
  refine va_gets hx hb E.2.2.2.2.2.2.1 hI.S E.2.2.1 (E.2.2.2.1 _ (q_in_t3 (i := 194) (by first | rfl | decide +kernel) rfl)) (fun _ h => h) dJ0_isLatin1_aae02_0 ?_
  refine q_if_eq (A := 1) E (by decide) (tgt := 17) dJ0_isLatin1_aae02_3 (by decide) (fun c_1 => ?_) (fun c_1 => ?_)
  · skip
    replace hF := q_ifp hF c_1
    exact absurd c_1 (by omega)
  · skip
    replace hF := q_ifn hF c_1
    refine lv_aload_n hx hb dJ0_isLatin1_aae02_6 rfl (lv_at hl 0 rfl) ?_
    refine vk_getf hx hb (E.2.2.2.2.2.1.1 _ ha).2.1 hI.S E.2.2.1 (E.2.2.2.1 _ (q_in_t9 (i := 211) (by first | rfl | decide +kernel) rfl)) (fun _ h => h) dJ0_isLatin1_aae02_7 ?_
    refine q_if_ne (A := 0) E (by decide) (tgt := 17) dJ0_isLatin1_aae02_10 (by decide) (fun c_2 => ?_) (fun c_2 => ?_)
    · skip
      replace hF := q_ifn hF c_2
      exact absurd c_2 (by omega)
    · skip
      replace hF := q_ifp hF c_2
      refine lv_iconst (v := 1) hx hb dJ0_isLatin1_aae02_13 (by decide) ?_
      refine lv_goto (tgt := 18) hx hb dJ0_isLatin1_aae02_14 (by decide) ?_
      have hrv : (1 : Int32).toInt = 1 := rfl
      exact q_retz E hr hlk hI ⟨by decide, by decide⟩ ⟨rfl, ⟨by decide, by decide⟩, (by decide), (hF.trans hout)⟩ dJ0_isLatin1_aae02_18
end
