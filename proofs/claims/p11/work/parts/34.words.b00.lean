set_option maxRecDepth 100000 in
set_option maxHeartbeats 4000000 in
theorem c_X12_isKinds (l : Launch) (X : XW) (σ : ST) (a : Nat) (ha : q_kd X a = 12) : Met l yX12_isKinds (q_ws yX12_isKinds cX12_isKinds 1 (some .boolean)) (q_rm 1 27) (q_P X σ [.ref a]) (q_Qi X 9 σ (fun (r : Int32) (σ' : ST) => σ' = σ ∧ (0 ≤ r.toInt ∧ r.toInt ≤ 1) ∧ r = F_X12_isKinds X σ a)) 0 0 (q_reg X) := by
  refine q_met 9 (by decide +kernel) rfl (Nat.le_of_ble_eq_true rfl) (fun p e s m below meth c E hml hr hlk hI ls hl => ?_)
  have hx := E.1
  have hb := E.2.1
  have hl : lv_has ls 1 [(0, .ref a)] := hl
  obtain ⟨out, hout⟩ : ∃ o, o = F_X12_isKinds X σ a := ⟨_, rfl⟩
  have hF := hout.symm
  unfold F_X12_isKinds at hF
  refine lv_aload_n hx hb dX12_isKinds_0 rfl (lv_at hl 0 rfl) ?_
  refine lv_bipush (v := 107) hx hb dX12_isKinds_1 (by decide) ?_
  refine lv_bipush (v := 105) hx hb dX12_isKinds_3 (by decide) ?_
  refine lv_bipush (v := 110) hx hb dX12_isKinds_5 (by decide) ?_
  refine lv_bipush (v := 100) hx hb dX12_isKinds_7 (by decide) ?_
  refine lv_bipush (v := 115) hx hb dX12_isKinds_9 (by decide) ?_
  refine lv_iconst (v := 0) hx hb dX12_isKinds_11 (by decide) ?_
  have kc_1 : (107 : Int32).toInt = 107 := rfl
  have kc_2 : (105 : Int32).toInt = 105 := rfl
  have kc_3 : (110 : Int32).toInt = 110 := rfl
  have kc_4 : (100 : Int32).toInt = 100 := rfl
  have kc_5 : (115 : Int32).toInt = 115 := rfl
  have kc_6 : (0 : Int32).toInt = 0 := rfl
  refine q_cl_ (q_runS (As := [.int 107, .int 105, .int 110, .int 100, .int 115, .int 0]) (rest := [.ref a]) E (hml.trans hl.1.symm) hI (c_X12_spelled l X σ (107 : Int32) (105 : Int32) (110 : Int32) (100 : Int32) (115 : Int32) (0 : Int32)) ks_X12_135 rfl ⟨Nat.le_of_ble_eq_true rfl, Nat.le_of_ble_eq_true rfl⟩ ⟨Nat.le_refl _, Nat.le_refl _⟩ rfl (Nat.le_of_ble_eq_true rfl) dX12_isKinds_12) hI (by decide) (fun r_7 σ_8 H locs hpσ_8 hkσ_8 hI => ?_)
  obtain ⟨ahpσ_8, bhpσ_8⟩ := hpσ_8
  rw [ahpσ_8] at hI
  replace hF := q_letX hF bhpσ_8
  refine q_ci (q_runV (As := [.long r_7]) (rest := []) E (hml.trans hl.1.symm) hI (c_X12_isWord l X σ a r_7 ha) kv_X12_139 ha ⟨rfl, by decide⟩ (show vwCl[11]? = some (RX12, TX12, 46) from rfl) rfl ⟨Nat.le_of_ble_eq_true rfl, Nat.le_of_ble_eq_true rfl⟩ ⟨Nat.le_refl _, Nat.le_refl _⟩ rfl (Nat.le_of_ble_eq_true rfl) dX12_isKinds_15) hI (by decide) (fun r_9 σ_10 H locs hpσ_10 hkσ_10 hI => ?_)
  obtain ⟨ahpσ_10, bhpσ_10, chpσ_10, dhpσ_10⟩ := hpσ_10
  rw [ahpσ_10] at hI
  replace hF := q_letX hF dhpσ_10
  exact q_retz E hr hlk hI ⟨by omega, by omega⟩ ⟨rfl, ⟨by omega, by omega⟩, (hF.trans hout)⟩ dX12_isKinds_18

set_option maxRecDepth 100000 in
set_option maxHeartbeats 4000000 in
theorem c_X12_isEach (l : Launch) (X : XW) (σ : ST) (a : Nat) (ha : q_kd X a = 12) : Met l yX12_isEach (q_ws yX12_isEach cX12_isEach 1 (some .boolean)) (q_rm 1 27) (q_P X σ [.ref a]) (q_Qi X 9 σ (fun (r : Int32) (σ' : ST) => σ' = σ ∧ (0 ≤ r.toInt ∧ r.toInt ≤ 1) ∧ r = F_X12_isEach X σ a)) 0 0 (q_reg X) := by
  refine q_met 9 (by decide +kernel) rfl (Nat.le_of_ble_eq_true rfl) (fun p e s m below meth c E hml hr hlk hI ls hl => ?_)
  have hx := E.1
  have hb := E.2.1
  have hl : lv_has ls 1 [(0, .ref a)] := hl
  obtain ⟨out, hout⟩ : ∃ o, o = F_X12_isEach X σ a := ⟨_, rfl⟩
  have hF := hout.symm
  unfold F_X12_isEach at hF
  refine lv_aload_n hx hb dX12_isEach_0 rfl (lv_at hl 0 rfl) ?_
  refine lv_bipush (v := 101) hx hb dX12_isEach_1 (by decide) ?_
  refine lv_bipush (v := 97) hx hb dX12_isEach_3 (by decide) ?_
  refine lv_bipush (v := 99) hx hb dX12_isEach_5 (by decide) ?_
  refine lv_bipush (v := 104) hx hb dX12_isEach_7 (by decide) ?_
  refine lv_iconst (v := 0) hx hb dX12_isEach_9 (by decide) ?_
  refine lv_iconst (v := 0) hx hb dX12_isEach_10 (by decide) ?_
  have kc_1 : (101 : Int32).toInt = 101 := rfl
  have kc_2 : (97 : Int32).toInt = 97 := rfl
  have kc_3 : (99 : Int32).toInt = 99 := rfl
  have kc_4 : (104 : Int32).toInt = 104 := rfl
  have kc_5 : (0 : Int32).toInt = 0 := rfl
  have kc_6 : (0 : Int32).toInt = 0 := rfl
  refine q_cl_ (q_runS (As := [.int 101, .int 97, .int 99, .int 104, .int 0, .int 0]) (rest := [.ref a]) E (hml.trans hl.1.symm) hI (c_X12_spelled l X σ (101 : Int32) (97 : Int32) (99 : Int32) (104 : Int32) (0 : Int32) (0 : Int32)) ks_X12_135 rfl ⟨Nat.le_of_ble_eq_true rfl, Nat.le_of_ble_eq_true rfl⟩ ⟨Nat.le_refl _, Nat.le_refl _⟩ rfl (Nat.le_of_ble_eq_true rfl) dX12_isEach_11) hI (by decide) (fun r_7 σ_8 H locs hpσ_8 hkσ_8 hI => ?_)
  obtain ⟨ahpσ_8, bhpσ_8⟩ := hpσ_8
  rw [ahpσ_8] at hI
  replace hF := q_letX hF bhpσ_8
  refine q_ci (q_runV (As := [.long r_7]) (rest := []) E (hml.trans hl.1.symm) hI (c_X12_isWord l X σ a r_7 ha) kv_X12_139 ha ⟨rfl, by decide⟩ (show vwCl[11]? = some (RX12, TX12, 46) from rfl) rfl ⟨Nat.le_of_ble_eq_true rfl, Nat.le_of_ble_eq_true rfl⟩ ⟨Nat.le_refl _, Nat.le_refl _⟩ rfl (Nat.le_of_ble_eq_true rfl) dX12_isEach_14) hI (by decide) (fun r_9 σ_10 H locs hpσ_10 hkσ_10 hI => ?_)
  obtain ⟨ahpσ_10, bhpσ_10, chpσ_10, dhpσ_10⟩ := hpσ_10
  rw [ahpσ_10] at hI
  replace hF := q_letX hF dhpσ_10
  exact q_retz E hr hlk hI ⟨by omega, by omega⟩ ⟨rfl, ⟨by omega, by omega⟩, (hF.trans hout)⟩ dX12_isEach_17

set_option maxRecDepth 100000 in
set_option maxHeartbeats 4000000 in
theorem c_X12_isLaw (l : Launch) (X : XW) (σ : ST) (a : Nat) (ha : q_kd X a = 12) : Met l yX12_isLaw (q_ws yX12_isLaw cX12_isLaw 1 (some .boolean)) (q_rm 1 27) (q_P X σ [.ref a]) (q_Qi X 9 σ (fun (r : Int32) (σ' : ST) => σ' = σ ∧ (0 ≤ r.toInt ∧ r.toInt ≤ 1) ∧ r = F_X12_isLaw X σ a)) 0 0 (q_reg X) := by
  refine q_met 9 (by decide +kernel) rfl (Nat.le_of_ble_eq_true rfl) (fun p e s m below meth c E hml hr hlk hI ls hl => ?_)
  have hx := E.1
  have hb := E.2.1
  have hl : lv_has ls 1 [(0, .ref a)] := hl
  obtain ⟨out, hout⟩ : ∃ o, o = F_X12_isLaw X σ a := ⟨_, rfl⟩
  have hF := hout.symm
  unfold F_X12_isLaw at hF
  refine lv_aload_n hx hb dX12_isLaw_0 rfl (lv_at hl 0 rfl) ?_
  refine lv_bipush (v := 108) hx hb dX12_isLaw_1 (by decide) ?_
  refine lv_bipush (v := 97) hx hb dX12_isLaw_3 (by decide) ?_
  refine lv_bipush (v := 119) hx hb dX12_isLaw_5 (by decide) ?_
  refine lv_iconst (v := 0) hx hb dX12_isLaw_7 (by decide) ?_
  refine lv_iconst (v := 0) hx hb dX12_isLaw_8 (by decide) ?_
  refine lv_iconst (v := 0) hx hb dX12_isLaw_9 (by decide) ?_
  have kc_1 : (108 : Int32).toInt = 108 := rfl
  have kc_2 : (97 : Int32).toInt = 97 := rfl
  have kc_3 : (119 : Int32).toInt = 119 := rfl
  have kc_4 : (0 : Int32).toInt = 0 := rfl
  have kc_5 : (0 : Int32).toInt = 0 := rfl
  have kc_6 : (0 : Int32).toInt = 0 := rfl
  refine q_cl_ (q_runS (As := [.int 108, .int 97, .int 119, .int 0, .int 0, .int 0]) (rest := [.ref a]) E (hml.trans hl.1.symm) hI (c_X12_spelled l X σ (108 : Int32) (97 : Int32) (119 : Int32) (0 : Int32) (0 : Int32) (0 : Int32)) ks_X12_135 rfl ⟨Nat.le_of_ble_eq_true rfl, Nat.le_of_ble_eq_true rfl⟩ ⟨Nat.le_refl _, Nat.le_refl _⟩ rfl (Nat.le_of_ble_eq_true rfl) dX12_isLaw_10) hI (by decide) (fun r_7 σ_8 H locs hpσ_8 hkσ_8 hI => ?_)
  obtain ⟨ahpσ_8, bhpσ_8⟩ := hpσ_8
  rw [ahpσ_8] at hI
  replace hF := q_letX hF bhpσ_8
  refine q_ci (q_runV (As := [.long r_7]) (rest := []) E (hml.trans hl.1.symm) hI (c_X12_isWord l X σ a r_7 ha) kv_X12_139 ha ⟨rfl, by decide⟩ (show vwCl[11]? = some (RX12, TX12, 46) from rfl) rfl ⟨Nat.le_of_ble_eq_true rfl, Nat.le_of_ble_eq_true rfl⟩ ⟨Nat.le_refl _, Nat.le_refl _⟩ rfl (Nat.le_of_ble_eq_true rfl) dX12_isLaw_13) hI (by decide) (fun r_9 σ_10 H locs hpσ_10 hkσ_10 hI => ?_)
  obtain ⟨ahpσ_10, bhpσ_10, chpσ_10, dhpσ_10⟩ := hpσ_10
  rw [ahpσ_10] at hI
  replace hF := q_letX hF dhpσ_10
  exact q_retz E hr hlk hI ⟨by omega, by omega⟩ ⟨rfl, ⟨by omega, by omega⟩, (hF.trans hout)⟩ dX12_isLaw_16

set_option maxRecDepth 100000 in
set_option maxHeartbeats 4000000 in
theorem c_X12_isMost (l : Launch) (X : XW) (σ : ST) (a : Nat) (ha : q_kd X a = 12) : Met l yX12_isMost (q_ws yX12_isMost cX12_isMost 1 (some .boolean)) (q_rm 1 27) (q_P X σ [.ref a]) (q_Qi X 9 σ (fun (r : Int32) (σ' : ST) => σ' = σ ∧ (0 ≤ r.toInt ∧ r.toInt ≤ 1) ∧ r = F_X12_isMost X σ a)) 0 0 (q_reg X) := by
  refine q_met 9 (by decide +kernel) rfl (Nat.le_of_ble_eq_true rfl) (fun p e s m below meth c E hml hr hlk hI ls hl => ?_)
  have hx := E.1
  have hb := E.2.1
  have hl : lv_has ls 1 [(0, .ref a)] := hl
  obtain ⟨out, hout⟩ : ∃ o, o = F_X12_isMost X σ a := ⟨_, rfl⟩
  have hF := hout.symm
  unfold F_X12_isMost at hF
  refine lv_aload_n hx hb dX12_isMost_0 rfl (lv_at hl 0 rfl) ?_
  refine lv_bipush (v := 109) hx hb dX12_isMost_1 (by decide) ?_
  refine lv_bipush (v := 111) hx hb dX12_isMost_3 (by decide) ?_
  refine lv_bipush (v := 115) hx hb dX12_isMost_5 (by decide) ?_
  refine lv_bipush (v := 116) hx hb dX12_isMost_7 (by decide) ?_
  refine lv_iconst (v := 0) hx hb dX12_isMost_9 (by decide) ?_
  refine lv_iconst (v := 0) hx hb dX12_isMost_10 (by decide) ?_
  have kc_1 : (109 : Int32).toInt = 109 := rfl
  have kc_2 : (111 : Int32).toInt = 111 := rfl
  have kc_3 : (115 : Int32).toInt = 115 := rfl
  have kc_4 : (116 : Int32).toInt = 116 := rfl
  have kc_5 : (0 : Int32).toInt = 0 := rfl
  have kc_6 : (0 : Int32).toInt = 0 := rfl
  refine q_cl_ (q_runS (As := [.int 109, .int 111, .int 115, .int 116, .int 0, .int 0]) (rest := [.ref a]) E (hml.trans hl.1.symm) hI (c_X12_spelled l X σ (109 : Int32) (111 : Int32) (115 : Int32) (116 : Int32) (0 : Int32) (0 : Int32)) ks_X12_135 rfl ⟨Nat.le_of_ble_eq_true rfl, Nat.le_of_ble_eq_true rfl⟩ ⟨Nat.le_refl _, Nat.le_refl _⟩ rfl (Nat.le_of_ble_eq_true rfl) dX12_isMost_11) hI (by decide) (fun r_7 σ_8 H locs hpσ_8 hkσ_8 hI => ?_)
  obtain ⟨ahpσ_8, bhpσ_8⟩ := hpσ_8
  rw [ahpσ_8] at hI
  replace hF := q_letX hF bhpσ_8
  refine q_ci (q_runV (As := [.long r_7]) (rest := []) E (hml.trans hl.1.symm) hI (c_X12_isWord l X σ a r_7 ha) kv_X12_139 ha ⟨rfl, by decide⟩ (show vwCl[11]? = some (RX12, TX12, 46) from rfl) rfl ⟨Nat.le_of_ble_eq_true rfl, Nat.le_of_ble_eq_true rfl⟩ ⟨Nat.le_refl _, Nat.le_refl _⟩ rfl (Nat.le_of_ble_eq_true rfl) dX12_isMost_14) hI (by decide) (fun r_9 σ_10 H locs hpσ_10 hkσ_10 hI => ?_)
  obtain ⟨ahpσ_10, bhpσ_10, chpσ_10, dhpσ_10⟩ := hpσ_10
  rw [ahpσ_10] at hI
  replace hF := q_letX hF dhpσ_10
  exact q_retz E hr hlk hI ⟨by omega, by omega⟩ ⟨rfl, ⟨by omega, by omega⟩, (hF.trans hout)⟩ dX12_isMost_17

set_option maxRecDepth 100000 in
set_option maxHeartbeats 4000000 in
theorem c_X12_isPlayer (l : Launch) (X : XW) (σ : ST) (a : Nat) (ha : q_kd X a = 12) : Met l yX12_isPlayer (q_ws yX12_isPlayer cX12_isPlayer 1 (some .boolean)) (q_rm 1 27) (q_P X σ [.ref a]) (q_Qi X 9 σ (fun (r : Int32) (σ' : ST) => σ' = σ ∧ (0 ≤ r.toInt ∧ r.toInt ≤ 1) ∧ r = F_X12_isPlayer X σ a)) 0 0 (q_reg X) := by
  refine q_met 9 (by decide +kernel) rfl (Nat.le_of_ble_eq_true rfl) (fun p e s m below meth c E hml hr hlk hI ls hl => ?_)
  have hx := E.1
  have hb := E.2.1
  have hl : lv_has ls 1 [(0, .ref a)] := hl
  obtain ⟨out, hout⟩ : ∃ o, o = F_X12_isPlayer X σ a := ⟨_, rfl⟩
  have hF := hout.symm
  unfold F_X12_isPlayer at hF
  refine lv_aload_n hx hb dX12_isPlayer_0 rfl (lv_at hl 0 rfl) ?_
  refine lv_bipush (v := 112) hx hb dX12_isPlayer_1 (by decide) ?_
  refine lv_bipush (v := 108) hx hb dX12_isPlayer_3 (by decide) ?_
  refine lv_bipush (v := 97) hx hb dX12_isPlayer_5 (by decide) ?_
  refine lv_bipush (v := 121) hx hb dX12_isPlayer_7 (by decide) ?_
  refine lv_bipush (v := 101) hx hb dX12_isPlayer_9 (by decide) ?_
  refine lv_bipush (v := 114) hx hb dX12_isPlayer_11 (by decide) ?_
  have kc_1 : (112 : Int32).toInt = 112 := rfl
  have kc_2 : (108 : Int32).toInt = 108 := rfl
  have kc_3 : (97 : Int32).toInt = 97 := rfl
  have kc_4 : (121 : Int32).toInt = 121 := rfl
  have kc_5 : (101 : Int32).toInt = 101 := rfl
  have kc_6 : (114 : Int32).toInt = 114 := rfl
  refine q_cl_ (q_runS (As := [.int 112, .int 108, .int 97, .int 121, .int 101, .int 114]) (rest := [.ref a]) E (hml.trans hl.1.symm) hI (c_X12_spelled l X σ (112 : Int32) (108 : Int32) (97 : Int32) (121 : Int32) (101 : Int32) (114 : Int32)) ks_X12_135 rfl ⟨Nat.le_of_ble_eq_true rfl, Nat.le_of_ble_eq_true rfl⟩ ⟨Nat.le_refl _, Nat.le_refl _⟩ rfl (Nat.le_of_ble_eq_true rfl) dX12_isPlayer_13) hI (by decide) (fun r_7 σ_8 H locs hpσ_8 hkσ_8 hI => ?_)
  obtain ⟨ahpσ_8, bhpσ_8⟩ := hpσ_8
  rw [ahpσ_8] at hI
  replace hF := q_letX hF bhpσ_8
  refine q_ci (q_runV (As := [.long r_7]) (rest := []) E (hml.trans hl.1.symm) hI (c_X12_isWord l X σ a r_7 ha) kv_X12_139 ha ⟨rfl, by decide⟩ (show vwCl[11]? = some (RX12, TX12, 46) from rfl) rfl ⟨Nat.le_of_ble_eq_true rfl, Nat.le_of_ble_eq_true rfl⟩ ⟨Nat.le_refl _, Nat.le_refl _⟩ rfl (Nat.le_of_ble_eq_true rfl) dX12_isPlayer_16) hI (by decide) (fun r_9 σ_10 H locs hpσ_10 hkσ_10 hI => ?_)
  obtain ⟨ahpσ_10, bhpσ_10, chpσ_10, dhpσ_10⟩ := hpσ_10
  rw [ahpσ_10] at hI
  replace hF := q_letX hF dhpσ_10
  exact q_retz E hr hlk hI ⟨by omega, by omega⟩ ⟨rfl, ⟨by omega, by omega⟩, (hF.trans hout)⟩ dX12_isPlayer_19

set_option maxRecDepth 100000 in
set_option maxHeartbeats 4000000 in
theorem c_X12_isLies (l : Launch) (X : XW) (σ : ST) (a : Nat) (ha : q_kd X a = 12) : Met l yX12_isLies (q_ws yX12_isLies cX12_isLies 1 (some .boolean)) (q_rm 1 27) (q_P X σ [.ref a]) (q_Qi X 9 σ (fun (r : Int32) (σ' : ST) => σ' = σ ∧ (0 ≤ r.toInt ∧ r.toInt ≤ 1) ∧ (r.toInt = 1 → (σ.1 a 14).toInt = 1) ∧ r = F_X12_isLies X σ a)) 0 0 (q_reg X) := by
  refine q_met 9 (by decide +kernel) rfl (Nat.le_of_ble_eq_true rfl) (fun p e s m below meth c E hml hr hlk hI ls hl => ?_)
  have hx := E.1
  have hb := E.2.1
  have hl : lv_has ls 1 [(0, .ref a)] := hl
  obtain ⟨out, hout⟩ : ∃ o, o = F_X12_isLies X σ a := ⟨_, rfl⟩
  have hF := hout.symm
  unfold F_X12_isLies at hF
  refine lv_aload_n hx hb dX12_isLies_0 rfl (lv_at hl 0 rfl) ?_
  refine lv_bipush (v := 108) hx hb dX12_isLies_1 (by decide) ?_
  refine lv_bipush (v := 105) hx hb dX12_isLies_3 (by decide) ?_
  refine lv_bipush (v := 101) hx hb dX12_isLies_5 (by decide) ?_
  refine lv_bipush (v := 115) hx hb dX12_isLies_7 (by decide) ?_
  refine lv_iconst (v := 0) hx hb dX12_isLies_9 (by decide) ?_
  refine lv_iconst (v := 0) hx hb dX12_isLies_10 (by decide) ?_
  have kc_1 : (108 : Int32).toInt = 108 := rfl
  have kc_2 : (105 : Int32).toInt = 105 := rfl
  have kc_3 : (101 : Int32).toInt = 101 := rfl
  have kc_4 : (115 : Int32).toInt = 115 := rfl
  have kc_5 : (0 : Int32).toInt = 0 := rfl
  have kc_6 : (0 : Int32).toInt = 0 := rfl
  refine q_cl_ (q_runS (As := [.int 108, .int 105, .int 101, .int 115, .int 0, .int 0]) (rest := [.ref a]) E (hml.trans hl.1.symm) hI (c_X12_spelled l X σ (108 : Int32) (105 : Int32) (101 : Int32) (115 : Int32) (0 : Int32) (0 : Int32)) ks_X12_135 rfl ⟨Nat.le_of_ble_eq_true rfl, Nat.le_of_ble_eq_true rfl⟩ ⟨Nat.le_refl _, Nat.le_refl _⟩ rfl (Nat.le_of_ble_eq_true rfl) dX12_isLies_11) hI (by decide) (fun r_7 σ_8 H locs hpσ_8 hkσ_8 hI => ?_)
  obtain ⟨ahpσ_8, bhpσ_8⟩ := hpσ_8
  rw [ahpσ_8] at hI
  replace hF := q_letX hF bhpσ_8
  refine q_ci (q_runV (As := [.long r_7]) (rest := []) E (hml.trans hl.1.symm) hI (c_X12_isWord l X σ a r_7 ha) kv_X12_139 ha ⟨rfl, by decide⟩ (show vwCl[11]? = some (RX12, TX12, 46) from rfl) rfl ⟨Nat.le_of_ble_eq_true rfl, Nat.le_of_ble_eq_true rfl⟩ ⟨Nat.le_refl _, Nat.le_refl _⟩ rfl (Nat.le_of_ble_eq_true rfl) dX12_isLies_14) hI (by decide) (fun r_9 σ_10 H locs hpσ_10 hkσ_10 hI => ?_)
  obtain ⟨ahpσ_10, bhpσ_10, chpσ_10, dhpσ_10⟩ := hpσ_10
  rw [ahpσ_10] at hI
  replace hF := q_letX hF dhpσ_10
  exact q_retz E hr hlk hI ⟨by omega, by omega⟩ ⟨rfl, ⟨by omega, by omega⟩, (by omega), (hF.trans hout)⟩ dX12_isLies_17

set_option maxRecDepth 100000 in
set_option maxHeartbeats 4000000 in
theorem c_X12_isDoubts (l : Launch) (X : XW) (σ : ST) (a : Nat) (ha : q_kd X a = 12) : Met l yX12_isDoubts (q_ws yX12_isDoubts cX12_isDoubts 1 (some .boolean)) (q_rm 1 27) (q_P X σ [.ref a]) (q_Qi X 9 σ (fun (r : Int32) (σ' : ST) => σ' = σ ∧ (0 ≤ r.toInt ∧ r.toInt ≤ 1) ∧ (r.toInt = 1 → (σ.1 a 14).toInt = 1) ∧ r = F_X12_isDoubts X σ a)) 0 0 (q_reg X) := by
  refine q_met 9 (by decide +kernel) rfl (Nat.le_of_ble_eq_true rfl) (fun p e s m below meth c E hml hr hlk hI ls hl => ?_)
  have hx := E.1
  have hb := E.2.1
  have hl : lv_has ls 1 [(0, .ref a)] := hl
  obtain ⟨out, hout⟩ : ∃ o, o = F_X12_isDoubts X σ a := ⟨_, rfl⟩
  have hF := hout.symm
  unfold F_X12_isDoubts at hF
  refine lv_aload_n hx hb dX12_isDoubts_0 rfl (lv_at hl 0 rfl) ?_
  refine lv_bipush (v := 100) hx hb dX12_isDoubts_1 (by decide) ?_
  refine lv_bipush (v := 111) hx hb dX12_isDoubts_3 (by decide) ?_
  refine lv_bipush (v := 117) hx hb dX12_isDoubts_5 (by decide) ?_
  refine lv_bipush (v := 98) hx hb dX12_isDoubts_7 (by decide) ?_
  refine lv_bipush (v := 116) hx hb dX12_isDoubts_9 (by decide) ?_
  refine lv_bipush (v := 115) hx hb dX12_isDoubts_11 (by decide) ?_
  have kc_1 : (100 : Int32).toInt = 100 := rfl
  have kc_2 : (111 : Int32).toInt = 111 := rfl
  have kc_3 : (117 : Int32).toInt = 117 := rfl
  have kc_4 : (98 : Int32).toInt = 98 := rfl
  have kc_5 : (116 : Int32).toInt = 116 := rfl
  have kc_6 : (115 : Int32).toInt = 115 := rfl
  refine q_cl_ (q_runS (As := [.int 100, .int 111, .int 117, .int 98, .int 116, .int 115]) (rest := [.ref a]) E (hml.trans hl.1.symm) hI (c_X12_spelled l X σ (100 : Int32) (111 : Int32) (117 : Int32) (98 : Int32) (116 : Int32) (115 : Int32)) ks_X12_135 rfl ⟨Nat.le_of_ble_eq_true rfl, Nat.le_of_ble_eq_true rfl⟩ ⟨Nat.le_refl _, Nat.le_refl _⟩ rfl (Nat.le_of_ble_eq_true rfl) dX12_isDoubts_13) hI (by decide) (fun r_7 σ_8 H locs hpσ_8 hkσ_8 hI => ?_)
  obtain ⟨ahpσ_8, bhpσ_8⟩ := hpσ_8
  rw [ahpσ_8] at hI
  replace hF := q_letX hF bhpσ_8
  refine q_ci (q_runV (As := [.long r_7]) (rest := []) E (hml.trans hl.1.symm) hI (c_X12_isWord l X σ a r_7 ha) kv_X12_139 ha ⟨rfl, by decide⟩ (show vwCl[11]? = some (RX12, TX12, 46) from rfl) rfl ⟨Nat.le_of_ble_eq_true rfl, Nat.le_of_ble_eq_true rfl⟩ ⟨Nat.le_refl _, Nat.le_refl _⟩ rfl (Nat.le_of_ble_eq_true rfl) dX12_isDoubts_16) hI (by decide) (fun r_9 σ_10 H locs hpσ_10 hkσ_10 hI => ?_)
  obtain ⟨ahpσ_10, bhpσ_10, chpσ_10, dhpσ_10⟩ := hpσ_10
  rw [ahpσ_10] at hI
  replace hF := q_letX hF dhpσ_10
  exact q_retz E hr hlk hI ⟨by omega, by omega⟩ ⟨rfl, ⟨by omega, by omega⟩, (by omega), (hF.trans hout)⟩ dX12_isDoubts_19

set_option maxRecDepth 100000 in
set_option maxHeartbeats 4000000 in
theorem c_X12_isHand (l : Launch) (X : XW) (σ : ST) (a : Nat) (ha : q_kd X a = 12) : Met l yX12_isHand (q_ws yX12_isHand cX12_isHand 1 (some .boolean)) (q_rm 1 27) (q_P X σ [.ref a]) (q_Qi X 9 σ (fun (r : Int32) (σ' : ST) => σ' = σ ∧ (0 ≤ r.toInt ∧ r.toInt ≤ 1) ∧ r = F_X12_isHand X σ a)) 0 0 (q_reg X) := by
  refine q_met 9 (by decide +kernel) rfl (Nat.le_of_ble_eq_true rfl) (fun p e s m below meth c E hml hr hlk hI ls hl => ?_)
  have hx := E.1
  have hb := E.2.1
  have hl : lv_has ls 1 [(0, .ref a)] := hl
  obtain ⟨out, hout⟩ : ∃ o, o = F_X12_isHand X σ a := ⟨_, rfl⟩
  have hF := hout.symm
  unfold F_X12_isHand at hF
  refine lv_aload_n hx hb dX12_isHand_0 rfl (lv_at hl 0 rfl) ?_
  refine lv_bipush (v := 104) hx hb dX12_isHand_1 (by decide) ?_
  refine lv_bipush (v := 97) hx hb dX12_isHand_3 (by decide) ?_
  refine lv_bipush (v := 110) hx hb dX12_isHand_5 (by decide) ?_
  refine lv_bipush (v := 100) hx hb dX12_isHand_7 (by decide) ?_
  refine lv_iconst (v := 0) hx hb dX12_isHand_9 (by decide) ?_
  refine lv_iconst (v := 0) hx hb dX12_isHand_10 (by decide) ?_
  have kc_1 : (104 : Int32).toInt = 104 := rfl
  have kc_2 : (97 : Int32).toInt = 97 := rfl
  have kc_3 : (110 : Int32).toInt = 110 := rfl
  have kc_4 : (100 : Int32).toInt = 100 := rfl
  have kc_5 : (0 : Int32).toInt = 0 := rfl
  have kc_6 : (0 : Int32).toInt = 0 := rfl
  refine q_cl_ (q_runS (As := [.int 104, .int 97, .int 110, .int 100, .int 0, .int 0]) (rest := [.ref a]) E (hml.trans hl.1.symm) hI (c_X12_spelled l X σ (104 : Int32) (97 : Int32) (110 : Int32) (100 : Int32) (0 : Int32) (0 : Int32)) ks_X12_135 rfl ⟨Nat.le_of_ble_eq_true rfl, Nat.le_of_ble_eq_true rfl⟩ ⟨Nat.le_refl _, Nat.le_refl _⟩ rfl (Nat.le_of_ble_eq_true rfl) dX12_isHand_11) hI (by decide) (fun r_7 σ_8 H locs hpσ_8 hkσ_8 hI => ?_)
  obtain ⟨ahpσ_8, bhpσ_8⟩ := hpσ_8
  rw [ahpσ_8] at hI
  replace hF := q_letX hF bhpσ_8
  refine q_ci (q_runV (As := [.long r_7]) (rest := []) E (hml.trans hl.1.symm) hI (c_X12_isWord l X σ a r_7 ha) kv_X12_139 ha ⟨rfl, by decide⟩ (show vwCl[11]? = some (RX12, TX12, 46) from rfl) rfl ⟨Nat.le_of_ble_eq_true rfl, Nat.le_of_ble_eq_true rfl⟩ ⟨Nat.le_refl _, Nat.le_refl _⟩ rfl (Nat.le_of_ble_eq_true rfl) dX12_isHand_14) hI (by decide) (fun r_9 σ_10 H locs hpσ_10 hkσ_10 hI => ?_)
  obtain ⟨ahpσ_10, bhpσ_10, chpσ_10, dhpσ_10⟩ := hpσ_10
  rw [ahpσ_10] at hI
  replace hF := q_letX hF dhpσ_10
  exact q_retz E hr hlk hI ⟨by omega, by omega⟩ ⟨rfl, ⟨by omega, by omega⟩, (hF.trans hout)⟩ dX12_isHand_17

set_option maxRecDepth 100000 in
set_option maxHeartbeats 4000000 in
theorem c_X12_isOf (l : Launch) (X : XW) (σ : ST) (a : Nat) (ha : q_kd X a = 12) : Met l yX12_isOf (q_ws yX12_isOf cX12_isOf 1 (some .boolean)) (q_rm 1 27) (q_P X σ [.ref a]) (q_Qi X 9 σ (fun (r : Int32) (σ' : ST) => σ' = σ ∧ (0 ≤ r.toInt ∧ r.toInt ≤ 1) ∧ r = F_X12_isOf X σ a)) 0 0 (q_reg X) := by
  refine q_met 9 (by decide +kernel) rfl (Nat.le_of_ble_eq_true rfl) (fun p e s m below meth c E hml hr hlk hI ls hl => ?_)
  have hx := E.1
  have hb := E.2.1
  have hl : lv_has ls 1 [(0, .ref a)] := hl
  obtain ⟨out, hout⟩ : ∃ o, o = F_X12_isOf X σ a := ⟨_, rfl⟩
  have hF := hout.symm
  unfold F_X12_isOf at hF
  refine lv_aload_n hx hb dX12_isOf_0 rfl (lv_at hl 0 rfl) ?_
  refine lv_bipush (v := 111) hx hb dX12_isOf_1 (by decide) ?_
  refine lv_bipush (v := 102) hx hb dX12_isOf_3 (by decide) ?_
  refine lv_iconst (v := 0) hx hb dX12_isOf_5 (by decide) ?_
  refine lv_iconst (v := 0) hx hb dX12_isOf_6 (by decide) ?_
  refine lv_iconst (v := 0) hx hb dX12_isOf_7 (by decide) ?_
  refine lv_iconst (v := 0) hx hb dX12_isOf_8 (by decide) ?_
  have kc_1 : (111 : Int32).toInt = 111 := rfl
  have kc_2 : (102 : Int32).toInt = 102 := rfl
  have kc_3 : (0 : Int32).toInt = 0 := rfl
  have kc_4 : (0 : Int32).toInt = 0 := rfl
  have kc_5 : (0 : Int32).toInt = 0 := rfl
  have kc_6 : (0 : Int32).toInt = 0 := rfl
  refine q_cl_ (q_runS (As := [.int 111, .int 102, .int 0, .int 0, .int 0, .int 0]) (rest := [.ref a]) E (hml.trans hl.1.symm) hI (c_X12_spelled l X σ (111 : Int32) (102 : Int32) (0 : Int32) (0 : Int32) (0 : Int32) (0 : Int32)) ks_X12_135 rfl ⟨Nat.le_of_ble_eq_true rfl, Nat.le_of_ble_eq_true rfl⟩ ⟨Nat.le_refl _, Nat.le_refl _⟩ rfl (Nat.le_of_ble_eq_true rfl) dX12_isOf_9) hI (by decide) (fun r_7 σ_8 H locs hpσ_8 hkσ_8 hI => ?_)
  obtain ⟨ahpσ_8, bhpσ_8⟩ := hpσ_8
  rw [ahpσ_8] at hI
  replace hF := q_letX hF bhpσ_8
  refine q_ci (q_runV (As := [.long r_7]) (rest := []) E (hml.trans hl.1.symm) hI (c_X12_isWord l X σ a r_7 ha) kv_X12_139 ha ⟨rfl, by decide⟩ (show vwCl[11]? = some (RX12, TX12, 46) from rfl) rfl ⟨Nat.le_of_ble_eq_true rfl, Nat.le_of_ble_eq_true rfl⟩ ⟨Nat.le_refl _, Nat.le_refl _⟩ rfl (Nat.le_of_ble_eq_true rfl) dX12_isOf_12) hI (by decide) (fun r_9 σ_10 H locs hpσ_10 hkσ_10 hI => ?_)
  obtain ⟨ahpσ_10, bhpσ_10, chpσ_10, dhpσ_10⟩ := hpσ_10
  rw [ahpσ_10] at hI
  replace hF := q_letX hF dhpσ_10
  exact q_retz E hr hlk hI ⟨by omega, by omega⟩ ⟨rfl, ⟨by omega, by omega⟩, (hF.trans hout)⟩ dX12_isOf_15

set_option maxRecDepth 100000 in
set_option maxHeartbeats 4000000 in
theorem c_X12_isEnd (l : Launch) (X : XW) (σ : ST) (a : Nat) (ha : q_kd X a = 12) : Met l yX12_isEnd (q_ws yX12_isEnd cX12_isEnd 1 (some .boolean)) (q_rm 1 27) (q_P X σ [.ref a]) (q_Qi X 9 σ (fun (r : Int32) (σ' : ST) => σ' = σ ∧ (0 ≤ r.toInt ∧ r.toInt ≤ 1) ∧ r = F_X12_isEnd X σ a)) 0 0 (q_reg X) := by
  refine q_met 9 (by decide +kernel) rfl (Nat.le_of_ble_eq_true rfl) (fun p e s m below meth c E hml hr hlk hI ls hl => ?_)
  have hx := E.1
  have hb := E.2.1
  have hl : lv_has ls 1 [(0, .ref a)] := hl
  obtain ⟨out, hout⟩ : ∃ o, o = F_X12_isEnd X σ a := ⟨_, rfl⟩
  have hF := hout.symm
  unfold F_X12_isEnd at hF
  refine lv_aload_n hx hb dX12_isEnd_0 rfl (lv_at hl 0 rfl) ?_
  refine lv_bipush (v := 101) hx hb dX12_isEnd_1 (by decide) ?_
  refine lv_bipush (v := 110) hx hb dX12_isEnd_3 (by decide) ?_
  refine lv_bipush (v := 100) hx hb dX12_isEnd_5 (by decide) ?_
  refine lv_iconst (v := 0) hx hb dX12_isEnd_7 (by decide) ?_
  refine lv_iconst (v := 0) hx hb dX12_isEnd_8 (by decide) ?_
  refine lv_iconst (v := 0) hx hb dX12_isEnd_9 (by decide) ?_
  have kc_1 : (101 : Int32).toInt = 101 := rfl
  have kc_2 : (110 : Int32).toInt = 110 := rfl
  have kc_3 : (100 : Int32).toInt = 100 := rfl
  have kc_4 : (0 : Int32).toInt = 0 := rfl
  have kc_5 : (0 : Int32).toInt = 0 := rfl
  have kc_6 : (0 : Int32).toInt = 0 := rfl
  refine q_cl_ (q_runS (As := [.int 101, .int 110, .int 100, .int 0, .int 0, .int 0]) (rest := [.ref a]) E (hml.trans hl.1.symm) hI (c_X12_spelled l X σ (101 : Int32) (110 : Int32) (100 : Int32) (0 : Int32) (0 : Int32) (0 : Int32)) ks_X12_135 rfl ⟨Nat.le_of_ble_eq_true rfl, Nat.le_of_ble_eq_true rfl⟩ ⟨Nat.le_refl _, Nat.le_refl _⟩ rfl (Nat.le_of_ble_eq_true rfl) dX12_isEnd_10) hI (by decide) (fun r_7 σ_8 H locs hpσ_8 hkσ_8 hI => ?_)
  obtain ⟨ahpσ_8, bhpσ_8⟩ := hpσ_8
  rw [ahpσ_8] at hI
  replace hF := q_letX hF bhpσ_8
  refine q_ci (q_runV (As := [.long r_7]) (rest := []) E (hml.trans hl.1.symm) hI (c_X12_isWord l X σ a r_7 ha) kv_X12_139 ha ⟨rfl, by decide⟩ (show vwCl[11]? = some (RX12, TX12, 46) from rfl) rfl ⟨Nat.le_of_ble_eq_true rfl, Nat.le_of_ble_eq_true rfl⟩ ⟨Nat.le_refl _, Nat.le_refl _⟩ rfl (Nat.le_of_ble_eq_true rfl) dX12_isEnd_13) hI (by decide) (fun r_9 σ_10 H locs hpσ_10 hkσ_10 hI => ?_)
  obtain ⟨ahpσ_10, bhpσ_10, chpσ_10, dhpσ_10⟩ := hpσ_10
  rw [ahpσ_10] at hI
  replace hF := q_letX hF dhpσ_10
  exact q_retz E hr hlk hI ⟨by omega, by omega⟩ ⟨rfl, ⟨by omega, by omega⟩, (hF.trans hout)⟩ dX12_isEnd_16

set_option maxRecDepth 100000 in
set_option maxHeartbeats 4000000 in
theorem c_X12_lawWord (l : Launch) (X : XW) (σ : ST) (a : Nat) (ha : q_kd X a = 12) : Met l yX12_lawWord (q_ws yX12_lawWord cX12_lawWord 1 (some .int)) (q_rm 1 27) (q_P X σ [.ref a]) (q_Qi X 9 σ (fun (r : Int32) (σ' : ST) => σ' = σ ∧ (-1 ≤ r.toInt ∧ r.toInt ≤ 2) ∧ r = F_X12_lawWord X σ a)) 0 0 (q_reg X) := by
  refine q_met 9 (by decide +kernel) rfl (Nat.le_of_ble_eq_true rfl) (fun p e s m below meth c E hml hr hlk hI ls hl => ?_)
  have hx := E.1
  have hb := E.2.1
  have hl : lv_has ls 1 [(0, .ref a)] := hl
  obtain ⟨out, hout⟩ : ∃ o, o = F_X12_lawWord X σ a := ⟨_, rfl⟩
  have hF := hout.symm
  unfold F_X12_lawWord at hF
  refine lv_aload_n hx hb dX12_lawWord_0 rfl (lv_at hl 0 rfl) ?_
  refine lv_bipush (v := 117) hx hb dX12_lawWord_1 (by decide) ?_
  refine lv_bipush (v := 112) hx hb dX12_lawWord_3 (by decide) ?_
  refine lv_iconst (v := 0) hx hb dX12_lawWord_5 (by decide) ?_
  refine lv_iconst (v := 0) hx hb dX12_lawWord_6 (by decide) ?_
  refine lv_iconst (v := 0) hx hb dX12_lawWord_7 (by decide) ?_
  refine lv_iconst (v := 0) hx hb dX12_lawWord_8 (by decide) ?_
  have kc_1 : (117 : Int32).toInt = 117 := rfl
  have kc_2 : (112 : Int32).toInt = 112 := rfl
  have kc_3 : (0 : Int32).toInt = 0 := rfl
  have kc_4 : (0 : Int32).toInt = 0 := rfl
  have kc_5 : (0 : Int32).toInt = 0 := rfl
  have kc_6 : (0 : Int32).toInt = 0 := rfl
  refine q_cl_ (q_runS (As := [.int 117, .int 112, .int 0, .int 0, .int 0, .int 0]) (rest := [.ref a]) E (hml.trans hl.1.symm) hI (c_X12_spelled l X σ (117 : Int32) (112 : Int32) (0 : Int32) (0 : Int32) (0 : Int32) (0 : Int32)) ks_X12_135 rfl ⟨Nat.le_of_ble_eq_true rfl, Nat.le_of_ble_eq_true rfl⟩ ⟨Nat.le_refl _, Nat.le_refl _⟩ rfl (Nat.le_of_ble_eq_true rfl) dX12_lawWord_9) hI (by decide) (fun r_7 σ_8 H locs hpσ_8 hkσ_8 hI => ?_)
  obtain ⟨ahpσ_8, bhpσ_8⟩ := hpσ_8
  rw [ahpσ_8] at hI
  replace hF := q_letX hF bhpσ_8
  refine q_ci (q_runV (As := [.long r_7]) (rest := []) E (hml.trans hl.1.symm) hI (c_X12_isWord l X σ a r_7 ha) kv_X12_139 ha ⟨rfl, by decide⟩ (show vwCl[11]? = some (RX12, TX12, 46) from rfl) rfl ⟨Nat.le_of_ble_eq_true rfl, Nat.le_of_ble_eq_true rfl⟩ ⟨Nat.le_refl _, Nat.le_refl _⟩ rfl (Nat.le_of_ble_eq_true rfl) dX12_lawWord_12) hI (by decide) (fun r_9 σ_10 H locs hpσ_10 hkσ_10 hI => ?_)
  obtain ⟨ahpσ_10, bhpσ_10, chpσ_10, dhpσ_10⟩ := hpσ_10
  rw [ahpσ_10] at hI
  replace hF := q_letX hF dhpσ_10
  refine q_if_eq (A := r_9.toInt) E rfl (tgt := 20) dX12_lawWord_15 (by decide) (fun c_11 => ?_) (fun c_11 => ?_)
  · skip
    replace hF := q_ifp hF c_11
    refine lv_aload_n hx hb dX12_lawWord_20 rfl (lv_at hl 0 rfl) ?_
    refine lv_bipush (v := 100) hx hb dX12_lawWord_21 (by decide) ?_
    refine lv_bipush (v := 111) hx hb dX12_lawWord_23 (by decide) ?_
    refine lv_bipush (v := 119) hx hb dX12_lawWord_25 (by decide) ?_
    refine lv_bipush (v := 110) hx hb dX12_lawWord_27 (by decide) ?_
    refine lv_iconst (v := 0) hx hb dX12_lawWord_29 (by decide) ?_
    refine lv_iconst (v := 0) hx hb dX12_lawWord_30 (by decide) ?_
    have kc_12 : (100 : Int32).toInt = 100 := rfl
    have kc_13 : (111 : Int32).toInt = 111 := rfl
    have kc_14 : (119 : Int32).toInt = 119 := rfl
    have kc_15 : (110 : Int32).toInt = 110 := rfl
    have kc_16 : (0 : Int32).toInt = 0 := rfl
    have kc_17 : (0 : Int32).toInt = 0 := rfl
    refine q_cl_ (q_runS (As := [.int 100, .int 111, .int 119, .int 110, .int 0, .int 0]) (rest := [.ref a]) E (hml.trans hl.1.symm) hI (c_X12_spelled l X σ (100 : Int32) (111 : Int32) (119 : Int32) (110 : Int32) (0 : Int32) (0 : Int32)) ks_X12_135 rfl ⟨Nat.le_of_ble_eq_true rfl, Nat.le_of_ble_eq_true rfl⟩ ⟨Nat.le_refl _, Nat.le_refl _⟩ rfl (Nat.le_of_ble_eq_true rfl) dX12_lawWord_31) hI (by decide) (fun r_18 σ_19 H locs hpσ_19 hkσ_19 hI => ?_)
    obtain ⟨ahpσ_19, bhpσ_19⟩ := hpσ_19
    rw [ahpσ_19] at hI
    replace hF := q_letX hF bhpσ_19
    refine q_ci (q_runV (As := [.long r_18]) (rest := []) E (hml.trans hl.1.symm) hI (c_X12_isWord l X σ a r_18 ha) kv_X12_139 ha ⟨rfl, by decide⟩ (show vwCl[11]? = some (RX12, TX12, 46) from rfl) rfl ⟨Nat.le_of_ble_eq_true rfl, Nat.le_of_ble_eq_true rfl⟩ ⟨Nat.le_refl _, Nat.le_refl _⟩ rfl (Nat.le_of_ble_eq_true rfl) dX12_lawWord_34) hI (by decide) (fun r_20 σ_21 H locs hpσ_21 hkσ_21 hI => ?_)
    obtain ⟨ahpσ_21, bhpσ_21, chpσ_21, dhpσ_21⟩ := hpσ_21
    rw [ahpσ_21] at hI
    replace hF := q_letX hF dhpσ_21
    refine q_if_eq (A := r_20.toInt) E rfl (tgt := 42) dX12_lawWord_37 (by decide) (fun c_22 => ?_) (fun c_22 => ?_)
    · skip
      replace hF := q_ifp hF c_22
      refine lv_aload_n hx hb dX12_lawWord_42 rfl (lv_at hl 0 rfl) ?_
      refine lv_bipush (v := 115) hx hb dX12_lawWord_43 (by decide) ?_
      refine lv_bipush (v := 97) hx hb dX12_lawWord_45 (by decide) ?_
      refine lv_bipush (v := 109) hx hb dX12_lawWord_47 (by decide) ?_
      refine lv_bipush (v := 101) hx hb dX12_lawWord_49 (by decide) ?_
      refine lv_iconst (v := 0) hx hb dX12_lawWord_51 (by decide) ?_
      refine lv_iconst (v := 0) hx hb dX12_lawWord_52 (by decide) ?_
      have kc_23 : (115 : Int32).toInt = 115 := rfl
      have kc_24 : (97 : Int32).toInt = 97 := rfl
      have kc_25 : (109 : Int32).toInt = 109 := rfl
      have kc_26 : (101 : Int32).toInt = 101 := rfl
      have kc_27 : (0 : Int32).toInt = 0 := rfl
      have kc_28 : (0 : Int32).toInt = 0 := rfl
      refine q_cl_ (q_runS (As := [.int 115, .int 97, .int 109, .int 101, .int 0, .int 0]) (rest := [.ref a]) E (hml.trans hl.1.symm) hI (c_X12_spelled l X σ (115 : Int32) (97 : Int32) (109 : Int32) (101 : Int32) (0 : Int32) (0 : Int32)) ks_X12_135 rfl ⟨Nat.le_of_ble_eq_true rfl, Nat.le_of_ble_eq_true rfl⟩ ⟨Nat.le_refl _, Nat.le_refl _⟩ rfl (Nat.le_of_ble_eq_true rfl) dX12_lawWord_53) hI (by decide) (fun r_29 σ_30 H locs hpσ_30 hkσ_30 hI => ?_)
      obtain ⟨ahpσ_30, bhpσ_30⟩ := hpσ_30
      rw [ahpσ_30] at hI
      replace hF := q_letX hF bhpσ_30
      refine q_ci (q_runV (As := [.long r_29]) (rest := []) E (hml.trans hl.1.symm) hI (c_X12_isWord l X σ a r_29 ha) kv_X12_139 ha ⟨rfl, by decide⟩ (show vwCl[11]? = some (RX12, TX12, 46) from rfl) rfl ⟨Nat.le_of_ble_eq_true rfl, Nat.le_of_ble_eq_true rfl⟩ ⟨Nat.le_refl _, Nat.le_refl _⟩ rfl (Nat.le_of_ble_eq_true rfl) dX12_lawWord_56) hI (by decide) (fun r_31 σ_32 H locs hpσ_32 hkσ_32 hI => ?_)
      obtain ⟨ahpσ_32, bhpσ_32, chpσ_32, dhpσ_32⟩ := hpσ_32
      rw [ahpσ_32] at hI
      replace hF := q_letX hF dhpσ_32
      refine q_if_eq (A := r_31.toInt) E rfl (tgt := 66) dX12_lawWord_59 (by decide) (fun c_33 => ?_) (fun c_33 => ?_)
      · skip
        replace hF := q_ifp hF c_33
        refine lv_iconst (v := (-1)) hx hb dX12_lawWord_66 (by decide) ?_
        have hrv : ((-1) : Int32).toInt = (-1) := rfl
        exact q_reti E hr hlk hI ⟨rfl, (by omega), (hF.trans hout)⟩ dX12_lawWord_67
      · skip
        replace hF := q_ifn hF c_33
        refine lv_iconst (v := 2) hx hb dX12_lawWord_62 (by decide) ?_
        refine lv_goto (tgt := 67) hx hb dX12_lawWord_63 (by decide) ?_
        have hrv : (2 : Int32).toInt = 2 := rfl
        exact q_reti E hr hlk hI ⟨rfl, (by omega), (hF.trans hout)⟩ dX12_lawWord_67
    · skip
      replace hF := q_ifn hF c_22
      refine lv_iconst (v := 1) hx hb dX12_lawWord_40 (by decide) ?_
      have hrv : (1 : Int32).toInt = 1 := rfl
      exact q_reti E hr hlk hI ⟨rfl, (by omega), (hF.trans hout)⟩ dX12_lawWord_41
  · skip
    replace hF := q_ifn hF c_11
    refine lv_iconst (v := 0) hx hb dX12_lawWord_18 (by decide) ?_
    have hrv : (0 : Int32).toInt = 0 := rfl
    exact q_reti E hr hlk hI ⟨rfl, (by omega), (hF.trans hout)⟩ dX12_lawWord_19

set_option maxRecDepth 100000 in
set_option maxHeartbeats 4000000 in
theorem c_X12_stepWord (l : Launch) (X : XW) (σ : ST) (a : Nat) (ha : q_kd X a = 12) (ht : 0 ≤ (σ.1 a 14).toInt) : Met l yX12_stepWord (q_ws yX12_stepWord cX12_stepWord 1 (some .int)) (q_rm 2 47) (q_P X σ [.ref a]) (q_Qi X 9 σ (fun (r : Int32) (σ' : ST) => σ' = σ ∧ (-1 ≤ r.toInt ∧ r.toInt ≤ 5) ∧ (r.toInt + 1 ≤ 6 * (σ.1 a 14).toInt) ∧ r = F_X12_stepWord X σ a)) 0 0 (q_reg X) := by
  refine q_met 9 (by decide +kernel) rfl (Nat.le_of_ble_eq_true rfl) (fun p e s m below meth c E hml hr hlk hI ls hl => ?_)
  have hx := E.1
  have hb := E.2.1
  have hl : lv_has ls 1 [(0, .ref a)] := hl
  obtain ⟨out, hout⟩ : ∃ o, o = F_X12_stepWord X σ a := ⟨_, rfl⟩
  have hF := hout.symm
  unfold F_X12_stepWord at hF
  refine lv_aload_n hx hb dX12_stepWord_0 rfl (lv_at hl 0 rfl) ?_
  refine lv_bipush (v := 116) hx hb dX12_stepWord_1 (by decide) ?_
  refine lv_bipush (v := 117) hx hb dX12_stepWord_3 (by decide) ?_
  refine lv_bipush (v := 114) hx hb dX12_stepWord_5 (by decide) ?_
  refine lv_bipush (v := 110) hx hb dX12_stepWord_7 (by decide) ?_
  refine lv_iconst (v := 0) hx hb dX12_stepWord_9 (by decide) ?_
  refine lv_iconst (v := 0) hx hb dX12_stepWord_10 (by decide) ?_
  have kc_1 : (116 : Int32).toInt = 116 := rfl
  have kc_2 : (117 : Int32).toInt = 117 := rfl
  have kc_3 : (114 : Int32).toInt = 114 := rfl
  have kc_4 : (110 : Int32).toInt = 110 := rfl
  have kc_5 : (0 : Int32).toInt = 0 := rfl
  have kc_6 : (0 : Int32).toInt = 0 := rfl
  refine q_cl_ (q_runS (As := [.int 116, .int 117, .int 114, .int 110, .int 0, .int 0]) (rest := [.ref a]) E (hml.trans hl.1.symm) hI (c_X12_spelled l X σ (116 : Int32) (117 : Int32) (114 : Int32) (110 : Int32) (0 : Int32) (0 : Int32)) ks_X12_135 rfl ⟨Nat.le_of_ble_eq_true rfl, Nat.le_of_ble_eq_true rfl⟩ ⟨Nat.le_refl _, Nat.le_refl _⟩ rfl (Nat.le_of_ble_eq_true rfl) dX12_stepWord_11) hI (by decide) (fun r_7 σ_8 H locs hpσ_8 hkσ_8 hI => ?_)
  obtain ⟨ahpσ_8, bhpσ_8⟩ := hpσ_8
  rw [ahpσ_8] at hI
  replace hF := q_letX hF bhpσ_8
  refine q_ci (q_runV (As := [.long r_7]) (rest := []) E (hml.trans hl.1.symm) hI (c_X12_isWord l X σ a r_7 ha) kv_X12_139 ha ⟨rfl, by decide⟩ (show vwCl[11]? = some (RX12, TX12, 46) from rfl) rfl ⟨Nat.le_of_ble_eq_true rfl, Nat.le_of_ble_eq_true rfl⟩ ⟨Nat.le_refl _, Nat.le_refl _⟩ rfl (Nat.le_of_ble_eq_true rfl) dX12_stepWord_14) hI (by decide) (fun r_9 σ_10 H locs hpσ_10 hkσ_10 hI => ?_)
  obtain ⟨ahpσ_10, bhpσ_10, chpσ_10, dhpσ_10⟩ := hpσ_10
  rw [ahpσ_10] at hI
  replace hF := q_letX hF dhpσ_10
  refine q_if_eq (A := r_9.toInt) E rfl (tgt := 22) dX12_stepWord_17 (by decide) (fun c_11 => ?_) (fun c_11 => ?_)
  · skip
    replace hF := q_ifp hF c_11
    refine lv_aload_n hx hb dX12_stepWord_22 rfl (lv_at hl 0 rfl) ?_
    refine q_ci (q_runV (As := []) (rest := []) E (hml.trans hl.1.symm) hI (c_X12_isLies l X σ a ha) kv_X12_143 ha ⟨rfl, by decide⟩ (show vwCl[11]? = some (RX12, TX12, 46) from rfl) rfl ⟨Nat.le_of_ble_eq_true rfl, Nat.le_of_ble_eq_true rfl⟩ ⟨Nat.le_refl _, Nat.le_refl _⟩ rfl (Nat.le_of_ble_eq_true rfl) dX12_stepWord_23) hI (by decide) (fun r_12 σ_13 H locs hpσ_13 hkσ_13 hI => ?_)
    obtain ⟨ahpσ_13, bhpσ_13, chpσ_13, dhpσ_13⟩ := hpσ_13
    rw [ahpσ_13] at hI
    replace hF := q_letX hF dhpσ_13
    refine q_if_eq (A := r_12.toInt) E rfl (tgt := 31) dX12_stepWord_26 (by decide) (fun c_14 => ?_) (fun c_14 => ?_)
    · skip
      replace hF := q_ifp hF c_14
      refine lv_aload_n hx hb dX12_stepWord_31 rfl (lv_at hl 0 rfl) ?_
      refine q_ci (q_runV (As := []) (rest := []) E (hml.trans hl.1.symm) hI (c_X12_isDoubts l X σ a ha) kv_X12_147 ha ⟨rfl, by decide⟩ (show vwCl[11]? = some (RX12, TX12, 46) from rfl) rfl ⟨Nat.le_of_ble_eq_true rfl, Nat.le_of_ble_eq_true rfl⟩ ⟨Nat.le_refl _, Nat.le_refl _⟩ rfl (Nat.le_of_ble_eq_true rfl) dX12_stepWord_32) hI (by decide) (fun r_15 σ_16 H locs hpσ_16 hkσ_16 hI => ?_)
      obtain ⟨ahpσ_16, bhpσ_16, chpσ_16, dhpσ_16⟩ := hpσ_16
      rw [ahpσ_16] at hI
      replace hF := q_letX hF dhpσ_16
      refine q_if_eq (A := r_15.toInt) E rfl (tgt := 40) dX12_stepWord_35 (by decide) (fun c_17 => ?_) (fun c_17 => ?_)
      · skip
        replace hF := q_ifp hF c_17
        refine lv_aload_n hx hb dX12_stepWord_40 rfl (lv_at hl 0 rfl) ?_
        refine lv_bipush (v := 119) hx hb dX12_stepWord_41 (by decide) ?_
        refine lv_bipush (v := 104) hx hb dX12_stepWord_43 (by decide) ?_
        refine lv_bipush (v := 101) hx hb dX12_stepWord_45 (by decide) ?_
        refine lv_bipush (v := 110) hx hb dX12_stepWord_47 (by decide) ?_
        refine lv_iconst (v := 0) hx hb dX12_stepWord_49 (by decide) ?_
        refine lv_iconst (v := 0) hx hb dX12_stepWord_50 (by decide) ?_
        have kc_18 : (119 : Int32).toInt = 119 := rfl
        have kc_19 : (104 : Int32).toInt = 104 := rfl
        have kc_20 : (101 : Int32).toInt = 101 := rfl
        have kc_21 : (110 : Int32).toInt = 110 := rfl
        have kc_22 : (0 : Int32).toInt = 0 := rfl
        have kc_23 : (0 : Int32).toInt = 0 := rfl
        refine q_cl_ (q_runS (As := [.int 119, .int 104, .int 101, .int 110, .int 0, .int 0]) (rest := [.ref a]) E (hml.trans hl.1.symm) hI (c_X12_spelled l X σ (119 : Int32) (104 : Int32) (101 : Int32) (110 : Int32) (0 : Int32) (0 : Int32)) ks_X12_135 rfl ⟨Nat.le_of_ble_eq_true rfl, Nat.le_of_ble_eq_true rfl⟩ ⟨Nat.le_refl _, Nat.le_refl _⟩ rfl (Nat.le_of_ble_eq_true rfl) dX12_stepWord_51) hI (by decide) (fun r_24 σ_25 H locs hpσ_25 hkσ_25 hI => ?_)
        obtain ⟨ahpσ_25, bhpσ_25⟩ := hpσ_25
        rw [ahpσ_25] at hI
        replace hF := q_letX hF bhpσ_25
        refine q_ci (q_runV (As := [.long r_24]) (rest := []) E (hml.trans hl.1.symm) hI (c_X12_isWord l X σ a r_24 ha) kv_X12_139 ha ⟨rfl, by decide⟩ (show vwCl[11]? = some (RX12, TX12, 46) from rfl) rfl ⟨Nat.le_of_ble_eq_true rfl, Nat.le_of_ble_eq_true rfl⟩ ⟨Nat.le_refl _, Nat.le_refl _⟩ rfl (Nat.le_of_ble_eq_true rfl) dX12_stepWord_54) hI (by decide) (fun r_26 σ_27 H locs hpσ_27 hkσ_27 hI => ?_)
        obtain ⟨ahpσ_27, bhpσ_27, chpσ_27, dhpσ_27⟩ := hpσ_27
        rw [ahpσ_27] at hI
        replace hF := q_letX hF dhpσ_27
        refine q_if_eq (A := r_26.toInt) E rfl (tgt := 62) dX12_stepWord_57 (by decide) (fun c_28 => ?_) (fun c_28 => ?_)
        · skip
          replace hF := q_ifp hF c_28
          refine lv_aload_n hx hb dX12_stepWord_62 rfl (lv_at hl 0 rfl) ?_
          refine lv_bipush (v := 108) hx hb dX12_stepWord_63 (by decide) ?_
          refine lv_bipush (v := 111) hx hb dX12_stepWord_65 (by decide) ?_
          refine lv_bipush (v := 111) hx hb dX12_stepWord_67 (by decide) ?_
          refine lv_bipush (v := 112) hx hb dX12_stepWord_69 (by decide) ?_
          refine lv_iconst (v := 0) hx hb dX12_stepWord_71 (by decide) ?_
          refine lv_iconst (v := 0) hx hb dX12_stepWord_72 (by decide) ?_
          have kc_29 : (108 : Int32).toInt = 108 := rfl
          have kc_30 : (111 : Int32).toInt = 111 := rfl
          have kc_31 : (111 : Int32).toInt = 111 := rfl
          have kc_32 : (112 : Int32).toInt = 112 := rfl
          have kc_33 : (0 : Int32).toInt = 0 := rfl
          have kc_34 : (0 : Int32).toInt = 0 := rfl
          refine q_cl_ (q_runS (As := [.int 108, .int 111, .int 111, .int 112, .int 0, .int 0]) (rest := [.ref a]) E (hml.trans hl.1.symm) hI (c_X12_spelled l X σ (108 : Int32) (111 : Int32) (111 : Int32) (112 : Int32) (0 : Int32) (0 : Int32)) ks_X12_135 rfl ⟨Nat.le_of_ble_eq_true rfl, Nat.le_of_ble_eq_true rfl⟩ ⟨Nat.le_refl _, Nat.le_refl _⟩ rfl (Nat.le_of_ble_eq_true rfl) dX12_stepWord_73) hI (by decide) (fun r_35 σ_36 H locs hpσ_36 hkσ_36 hI => ?_)
          obtain ⟨ahpσ_36, bhpσ_36⟩ := hpσ_36
          rw [ahpσ_36] at hI
          replace hF := q_letX hF bhpσ_36
          refine q_ci (q_runV (As := [.long r_35]) (rest := []) E (hml.trans hl.1.symm) hI (c_X12_isWord l X σ a r_35 ha) kv_X12_139 ha ⟨rfl, by decide⟩ (show vwCl[11]? = some (RX12, TX12, 46) from rfl) rfl ⟨Nat.le_of_ble_eq_true rfl, Nat.le_of_ble_eq_true rfl⟩ ⟨Nat.le_refl _, Nat.le_refl _⟩ rfl (Nat.le_of_ble_eq_true rfl) dX12_stepWord_76) hI (by decide) (fun r_37 σ_38 H locs hpσ_38 hkσ_38 hI => ?_)
          obtain ⟨ahpσ_38, bhpσ_38, chpσ_38, dhpσ_38⟩ := hpσ_38
          rw [ahpσ_38] at hI
          replace hF := q_letX hF dhpσ_38
          refine q_if_eq (A := r_37.toInt) E rfl (tgt := 84) dX12_stepWord_79 (by decide) (fun c_39 => ?_) (fun c_39 => ?_)
          · skip
            replace hF := q_ifp hF c_39
            refine lv_aload_n hx hb dX12_stepWord_84 rfl (lv_at hl 0 rfl) ?_
            refine lv_bipush (v := 115) hx hb dX12_stepWord_85 (by decide) ?_
            refine lv_bipush (v := 116) hx hb dX12_stepWord_87 (by decide) ?_
            refine lv_bipush (v := 111) hx hb dX12_stepWord_89 (by decide) ?_
            refine lv_bipush (v := 112) hx hb dX12_stepWord_91 (by decide) ?_
            refine lv_iconst (v := 0) hx hb dX12_stepWord_93 (by decide) ?_
            refine lv_iconst (v := 0) hx hb dX12_stepWord_94 (by decide) ?_
            have kc_40 : (115 : Int32).toInt = 115 := rfl
            have kc_41 : (116 : Int32).toInt = 116 := rfl
            have kc_42 : (111 : Int32).toInt = 111 := rfl
            have kc_43 : (112 : Int32).toInt = 112 := rfl
            have kc_44 : (0 : Int32).toInt = 0 := rfl
            have kc_45 : (0 : Int32).toInt = 0 := rfl
            refine q_cl_ (q_runS (As := [.int 115, .int 116, .int 111, .int 112, .int 0, .int 0]) (rest := [.ref a]) E (hml.trans hl.1.symm) hI (c_X12_spelled l X σ (115 : Int32) (116 : Int32) (111 : Int32) (112 : Int32) (0 : Int32) (0 : Int32)) ks_X12_135 rfl ⟨Nat.le_of_ble_eq_true rfl, Nat.le_of_ble_eq_true rfl⟩ ⟨Nat.le_refl _, Nat.le_refl _⟩ rfl (Nat.le_of_ble_eq_true rfl) dX12_stepWord_95) hI (by decide) (fun r_46 σ_47 H locs hpσ_47 hkσ_47 hI => ?_)
            obtain ⟨ahpσ_47, bhpσ_47⟩ := hpσ_47
            rw [ahpσ_47] at hI
            replace hF := q_letX hF bhpσ_47
            refine q_ci (q_runV (As := [.long r_46]) (rest := []) E (hml.trans hl.1.symm) hI (c_X12_isWord l X σ a r_46 ha) kv_X12_139 ha ⟨rfl, by decide⟩ (show vwCl[11]? = some (RX12, TX12, 46) from rfl) rfl ⟨Nat.le_of_ble_eq_true rfl, Nat.le_of_ble_eq_true rfl⟩ ⟨Nat.le_refl _, Nat.le_refl _⟩ rfl (Nat.le_of_ble_eq_true rfl) dX12_stepWord_98) hI (by decide) (fun r_48 σ_49 H locs hpσ_49 hkσ_49 hI => ?_)
            obtain ⟨ahpσ_49, bhpσ_49, chpσ_49, dhpσ_49⟩ := hpσ_49
            rw [ahpσ_49] at hI
            replace hF := q_letX hF dhpσ_49
            refine q_if_eq (A := r_48.toInt) E rfl (tgt := 108) dX12_stepWord_101 (by decide) (fun c_50 => ?_) (fun c_50 => ?_)
            · skip
              replace hF := q_ifp hF c_50
              refine lv_iconst (v := (-1)) hx hb dX12_stepWord_108 (by decide) ?_
              have hrv : ((-1) : Int32).toInt = (-1) := rfl
              exact q_reti E hr hlk hI ⟨rfl, (by omega), (by omega), (hF.trans hout)⟩ dX12_stepWord_109
            · skip
              replace hF := q_ifn hF c_50
              refine lv_iconst (v := 5) hx hb dX12_stepWord_104 (by decide) ?_
              refine lv_goto (tgt := 109) hx hb dX12_stepWord_105 (by decide) ?_
              have hrv : (5 : Int32).toInt = 5 := rfl
              exact q_reti E hr hlk hI ⟨rfl, (by omega), (by omega), (hF.trans hout)⟩ dX12_stepWord_109
          · skip
            replace hF := q_ifn hF c_39
            refine lv_iconst (v := 4) hx hb dX12_stepWord_82 (by decide) ?_
            have hrv : (4 : Int32).toInt = 4 := rfl
            exact q_reti E hr hlk hI ⟨rfl, (by omega), (by omega), (hF.trans hout)⟩ dX12_stepWord_83
        · skip
          replace hF := q_ifn hF c_28
          refine lv_iconst (v := 3) hx hb dX12_stepWord_60 (by decide) ?_
          have hrv : (3 : Int32).toInt = 3 := rfl
          exact q_reti E hr hlk hI ⟨rfl, (by omega), (by omega), (hF.trans hout)⟩ dX12_stepWord_61
      · skip
        replace hF := q_ifn hF c_17
        refine lv_iconst (v := 2) hx hb dX12_stepWord_38 (by decide) ?_
        have hrv : (2 : Int32).toInt = 2 := rfl
        exact q_reti E hr hlk hI ⟨rfl, (by omega), (by omega), (hF.trans hout)⟩ dX12_stepWord_39
    · skip
      replace hF := q_ifn hF c_14
      refine lv_iconst (v := 1) hx hb dX12_stepWord_29 (by decide) ?_
      have hrv : (1 : Int32).toInt = 1 := rfl
      exact q_reti E hr hlk hI ⟨rfl, (by omega), (by omega), (hF.trans hout)⟩ dX12_stepWord_30
  · skip
    replace hF := q_ifn hF c_11
    refine lv_iconst (v := 0) hx hb dX12_stepWord_20 (by decide) ?_
    have hrv : (0 : Int32).toInt = 0 := rfl
    exact q_reti E hr hlk hI ⟨rfl, (by omega), (by omega), (hF.trans hout)⟩ dX12_stepWord_21

set_option maxRecDepth 100000 in
set_option maxHeartbeats 4000000 in
theorem c_X12_testWord (l : Launch) (X : XW) (σ : ST) (a : Nat) (ha : q_kd X a = 12) : Met l yX12_testWord (q_ws yX12_testWord cX12_testWord 1 (some .int)) (q_rm 1 27) (q_P X σ [.ref a]) (q_Qi X 9 σ (fun (r : Int32) (σ' : ST) => σ' = σ ∧ (-1 ≤ r.toInt ∧ r.toInt ≤ 3) ∧ r = F_X12_testWord X σ a)) 0 0 (q_reg X) := by
  refine q_met 9 (by decide +kernel) rfl (Nat.le_of_ble_eq_true rfl) (fun p e s m below meth c E hml hr hlk hI ls hl => ?_)
  have hx := E.1
  have hb := E.2.1
  have hl : lv_has ls 1 [(0, .ref a)] := hl
  obtain ⟨out, hout⟩ : ∃ o, o = F_X12_testWord X σ a := ⟨_, rfl⟩
  have hF := hout.symm
  unfold F_X12_testWord at hF
  refine lv_aload_n hx hb dX12_testWord_0 rfl (lv_at hl 0 rfl) ?_
  refine lv_bipush (v := 99) hx hb dX12_testWord_1 (by decide) ?_
  refine lv_bipush (v := 97) hx hb dX12_testWord_3 (by decide) ?_
  refine lv_bipush (v := 114) hx hb dX12_testWord_5 (by decide) ?_
  refine lv_bipush (v := 100) hx hb dX12_testWord_7 (by decide) ?_
  refine lv_bipush (v := 115) hx hb dX12_testWord_9 (by decide) ?_
  refine lv_iconst (v := 0) hx hb dX12_testWord_11 (by decide) ?_
  have kc_1 : (99 : Int32).toInt = 99 := rfl
  have kc_2 : (97 : Int32).toInt = 97 := rfl
  have kc_3 : (114 : Int32).toInt = 114 := rfl
  have kc_4 : (100 : Int32).toInt = 100 := rfl
  have kc_5 : (115 : Int32).toInt = 115 := rfl
  have kc_6 : (0 : Int32).toInt = 0 := rfl
  refine q_cl_ (q_runS (As := [.int 99, .int 97, .int 114, .int 100, .int 115, .int 0]) (rest := [.ref a]) E (hml.trans hl.1.symm) hI (c_X12_spelled l X σ (99 : Int32) (97 : Int32) (114 : Int32) (100 : Int32) (115 : Int32) (0 : Int32)) ks_X12_135 rfl ⟨Nat.le_of_ble_eq_true rfl, Nat.le_of_ble_eq_true rfl⟩ ⟨Nat.le_refl _, Nat.le_refl _⟩ rfl (Nat.le_of_ble_eq_true rfl) dX12_testWord_12) hI (by decide) (fun r_7 σ_8 H locs hpσ_8 hkσ_8 hI => ?_)
  obtain ⟨ahpσ_8, bhpσ_8⟩ := hpσ_8
  rw [ahpσ_8] at hI
  replace hF := q_letX hF bhpσ_8
  refine q_ci (q_runV (As := [.long r_7]) (rest := []) E (hml.trans hl.1.symm) hI (c_X12_isWord l X σ a r_7 ha) kv_X12_139 ha ⟨rfl, by decide⟩ (show vwCl[11]? = some (RX12, TX12, 46) from rfl) rfl ⟨Nat.le_of_ble_eq_true rfl, Nat.le_of_ble_eq_true rfl⟩ ⟨Nat.le_refl _, Nat.le_refl _⟩ rfl (Nat.le_of_ble_eq_true rfl) dX12_testWord_15) hI (by decide) (fun r_9 σ_10 H locs hpσ_10 hkσ_10 hI => ?_)
  obtain ⟨ahpσ_10, bhpσ_10, chpσ_10, dhpσ_10⟩ := hpσ_10
  rw [ahpσ_10] at hI
  replace hF := q_letX hF dhpσ_10
  refine q_if_eq (A := r_9.toInt) E rfl (tgt := 23) dX12_testWord_18 (by decide) (fun c_11 => ?_) (fun c_11 => ?_)
  · skip
    replace hF := q_ifp hF c_11
    refine lv_aload_n hx hb dX12_testWord_23 rfl (lv_at hl 0 rfl) ?_
    refine lv_bipush (v := 104) hx hb dX12_testWord_24 (by decide) ?_
    refine lv_bipush (v := 101) hx hb dX12_testWord_26 (by decide) ?_
    refine lv_bipush (v := 97) hx hb dX12_testWord_28 (by decide) ?_
    refine lv_bipush (v := 112) hx hb dX12_testWord_30 (by decide) ?_
    refine lv_iconst (v := 0) hx hb dX12_testWord_32 (by decide) ?_
    refine lv_iconst (v := 0) hx hb dX12_testWord_33 (by decide) ?_
    have kc_12 : (104 : Int32).toInt = 104 := rfl
    have kc_13 : (101 : Int32).toInt = 101 := rfl
    have kc_14 : (97 : Int32).toInt = 97 := rfl
    have kc_15 : (112 : Int32).toInt = 112 := rfl
    have kc_16 : (0 : Int32).toInt = 0 := rfl
    have kc_17 : (0 : Int32).toInt = 0 := rfl
    refine q_cl_ (q_runS (As := [.int 104, .int 101, .int 97, .int 112, .int 0, .int 0]) (rest := [.ref a]) E (hml.trans hl.1.symm) hI (c_X12_spelled l X σ (104 : Int32) (101 : Int32) (97 : Int32) (112 : Int32) (0 : Int32) (0 : Int32)) ks_X12_135 rfl ⟨Nat.le_of_ble_eq_true rfl, Nat.le_of_ble_eq_true rfl⟩ ⟨Nat.le_refl _, Nat.le_refl _⟩ rfl (Nat.le_of_ble_eq_true rfl) dX12_testWord_34) hI (by decide) (fun r_18 σ_19 H locs hpσ_19 hkσ_19 hI => ?_)
    obtain ⟨ahpσ_19, bhpσ_19⟩ := hpσ_19
    rw [ahpσ_19] at hI
    replace hF := q_letX hF bhpσ_19
    refine q_ci (q_runV (As := [.long r_18]) (rest := []) E (hml.trans hl.1.symm) hI (c_X12_isWord l X σ a r_18 ha) kv_X12_139 ha ⟨rfl, by decide⟩ (show vwCl[11]? = some (RX12, TX12, 46) from rfl) rfl ⟨Nat.le_of_ble_eq_true rfl, Nat.le_of_ble_eq_true rfl⟩ ⟨Nat.le_refl _, Nat.le_refl _⟩ rfl (Nat.le_of_ble_eq_true rfl) dX12_testWord_37) hI (by decide) (fun r_20 σ_21 H locs hpσ_21 hkσ_21 hI => ?_)
    obtain ⟨ahpσ_21, bhpσ_21, chpσ_21, dhpσ_21⟩ := hpσ_21
    rw [ahpσ_21] at hI
    replace hF := q_letX hF dhpσ_21
    refine q_if_eq (A := r_20.toInt) E rfl (tgt := 45) dX12_testWord_40 (by decide) (fun c_22 => ?_) (fun c_22 => ?_)
    · skip
      replace hF := q_ifp hF c_22
      refine lv_aload_n hx hb dX12_testWord_45 rfl (lv_at hl 0 rfl) ?_
      refine lv_bipush (v := 115) hx hb dX12_testWord_46 (by decide) ?_
      refine lv_bipush (v := 104) hx hb dX12_testWord_48 (by decide) ?_
      refine lv_bipush (v := 111) hx hb dX12_testWord_50 (by decide) ?_
      refine lv_bipush (v := 119) hx hb dX12_testWord_52 (by decide) ?_
      refine lv_bipush (v := 110) hx hb dX12_testWord_54 (by decide) ?_
      refine lv_iconst (v := 0) hx hb dX12_testWord_56 (by decide) ?_
      have kc_23 : (115 : Int32).toInt = 115 := rfl
      have kc_24 : (104 : Int32).toInt = 104 := rfl
      have kc_25 : (111 : Int32).toInt = 111 := rfl
      have kc_26 : (119 : Int32).toInt = 119 := rfl
      have kc_27 : (110 : Int32).toInt = 110 := rfl
      have kc_28 : (0 : Int32).toInt = 0 := rfl
      refine q_cl_ (q_runS (As := [.int 115, .int 104, .int 111, .int 119, .int 110, .int 0]) (rest := [.ref a]) E (hml.trans hl.1.symm) hI (c_X12_spelled l X σ (115 : Int32) (104 : Int32) (111 : Int32) (119 : Int32) (110 : Int32) (0 : Int32)) ks_X12_135 rfl ⟨Nat.le_of_ble_eq_true rfl, Nat.le_of_ble_eq_true rfl⟩ ⟨Nat.le_refl _, Nat.le_refl _⟩ rfl (Nat.le_of_ble_eq_true rfl) dX12_testWord_57) hI (by decide) (fun r_29 σ_30 H locs hpσ_30 hkσ_30 hI => ?_)
      obtain ⟨ahpσ_30, bhpσ_30⟩ := hpσ_30
      rw [ahpσ_30] at hI
      replace hF := q_letX hF bhpσ_30
      refine q_ci (q_runV (As := [.long r_29]) (rest := []) E (hml.trans hl.1.symm) hI (c_X12_isWord l X σ a r_29 ha) kv_X12_139 ha ⟨rfl, by decide⟩ (show vwCl[11]? = some (RX12, TX12, 46) from rfl) rfl ⟨Nat.le_of_ble_eq_true rfl, Nat.le_of_ble_eq_true rfl⟩ ⟨Nat.le_refl _, Nat.le_refl _⟩ rfl (Nat.le_of_ble_eq_true rfl) dX12_testWord_60) hI (by decide) (fun r_31 σ_32 H locs hpσ_32 hkσ_32 hI => ?_)
      obtain ⟨ahpσ_32, bhpσ_32, chpσ_32, dhpσ_32⟩ := hpσ_32
      rw [ahpσ_32] at hI
      replace hF := q_letX hF dhpσ_32
      refine q_if_eq (A := r_31.toInt) E rfl (tgt := 68) dX12_testWord_63 (by decide) (fun c_33 => ?_) (fun c_33 => ?_)
      · skip
        replace hF := q_ifp hF c_33
        refine lv_aload_n hx hb dX12_testWord_68 rfl (lv_at hl 0 rfl) ?_
        refine lv_bipush (v := 119) hx hb dX12_testWord_69 (by decide) ?_
        refine lv_bipush (v := 111) hx hb dX12_testWord_71 (by decide) ?_
        refine lv_bipush (v := 110) hx hb dX12_testWord_73 (by decide) ?_
        refine lv_iconst (v := 0) hx hb dX12_testWord_75 (by decide) ?_
        refine lv_iconst (v := 0) hx hb dX12_testWord_76 (by decide) ?_
        refine lv_iconst (v := 0) hx hb dX12_testWord_77 (by decide) ?_
        have kc_34 : (119 : Int32).toInt = 119 := rfl
        have kc_35 : (111 : Int32).toInt = 111 := rfl
        have kc_36 : (110 : Int32).toInt = 110 := rfl
        have kc_37 : (0 : Int32).toInt = 0 := rfl
        have kc_38 : (0 : Int32).toInt = 0 := rfl
        have kc_39 : (0 : Int32).toInt = 0 := rfl
        refine q_cl_ (q_runS (As := [.int 119, .int 111, .int 110, .int 0, .int 0, .int 0]) (rest := [.ref a]) E (hml.trans hl.1.symm) hI (c_X12_spelled l X σ (119 : Int32) (111 : Int32) (110 : Int32) (0 : Int32) (0 : Int32) (0 : Int32)) ks_X12_135 rfl ⟨Nat.le_of_ble_eq_true rfl, Nat.le_of_ble_eq_true rfl⟩ ⟨Nat.le_refl _, Nat.le_refl _⟩ rfl (Nat.le_of_ble_eq_true rfl) dX12_testWord_78) hI (by decide) (fun r_40 σ_41 H locs hpσ_41 hkσ_41 hI => ?_)
        obtain ⟨ahpσ_41, bhpσ_41⟩ := hpσ_41
        rw [ahpσ_41] at hI
        replace hF := q_letX hF bhpσ_41
        refine q_ci (q_runV (As := [.long r_40]) (rest := []) E (hml.trans hl.1.symm) hI (c_X12_isWord l X σ a r_40 ha) kv_X12_139 ha ⟨rfl, by decide⟩ (show vwCl[11]? = some (RX12, TX12, 46) from rfl) rfl ⟨Nat.le_of_ble_eq_true rfl, Nat.le_of_ble_eq_true rfl⟩ ⟨Nat.le_refl _, Nat.le_refl _⟩ rfl (Nat.le_of_ble_eq_true rfl) dX12_testWord_81) hI (by decide) (fun r_42 σ_43 H locs hpσ_43 hkσ_43 hI => ?_)
        obtain ⟨ahpσ_43, bhpσ_43, chpσ_43, dhpσ_43⟩ := hpσ_43
        rw [ahpσ_43] at hI
        replace hF := q_letX hF dhpσ_43
        refine q_if_eq (A := r_42.toInt) E rfl (tgt := 91) dX12_testWord_84 (by decide) (fun c_44 => ?_) (fun c_44 => ?_)
        · skip
          replace hF := q_ifp hF c_44
          refine lv_iconst (v := (-1)) hx hb dX12_testWord_91 (by decide) ?_
          have hrv : ((-1) : Int32).toInt = (-1) := rfl
          exact q_reti E hr hlk hI ⟨rfl, (by omega), (hF.trans hout)⟩ dX12_testWord_92
        · skip
          replace hF := q_ifn hF c_44
          refine lv_iconst (v := 3) hx hb dX12_testWord_87 (by decide) ?_
          refine lv_goto (tgt := 92) hx hb dX12_testWord_88 (by decide) ?_
          have hrv : (3 : Int32).toInt = 3 := rfl
          exact q_reti E hr hlk hI ⟨rfl, (by omega), (hF.trans hout)⟩ dX12_testWord_92
      · skip
        replace hF := q_ifn hF c_33
        refine lv_iconst (v := 2) hx hb dX12_testWord_66 (by decide) ?_
        have hrv : (2 : Int32).toInt = 2 := rfl
        exact q_reti E hr hlk hI ⟨rfl, (by omega), (hF.trans hout)⟩ dX12_testWord_67
    · skip
      replace hF := q_ifn hF c_22
      refine lv_iconst (v := 1) hx hb dX12_testWord_43 (by decide) ?_
      have hrv : (1 : Int32).toInt = 1 := rfl
      exact q_reti E hr hlk hI ⟨rfl, (by omega), (hF.trans hout)⟩ dX12_testWord_44
  · skip
    replace hF := q_ifn hF c_11
    refine lv_iconst (v := 0) hx hb dX12_testWord_21 (by decide) ?_
    have hrv : (0 : Int32).toInt = 0 := rfl
    exact q_reti E hr hlk hI ⟨rfl, (by omega), (hF.trans hout)⟩ dX12_testWord_22

set_option maxRecDepth 100000 in
set_option maxHeartbeats 4000000 in
theorem c_X12_isKept (l : Launch) (X : XW) (σ : ST) (a : Nat) (ha : q_kd X a = 12) (ht : 0 ≤ (σ.1 a 14).toInt) : Met l yX12_isKept (q_ws yX12_isKept cX12_isKept 1 (some .boolean)) (q_rm 3 67) (q_P X σ [.ref a]) (q_Qi X 9 σ (fun (r : Int32) (σ' : ST) => σ' = σ ∧ (0 ≤ r.toInt ∧ r.toInt ≤ 1) ∧ r = F_X12_isKept X σ a)) 0 0 (q_reg X) := by
  refine q_met 9 (by decide +kernel) rfl (Nat.le_of_ble_eq_true rfl) (fun p e s m below meth c E hml hr hlk hI ls hl => ?_)
  have hx := E.1
  have hb := E.2.1
  have hl : lv_has ls 1 [(0, .ref a)] := hl
  obtain ⟨out, hout⟩ : ∃ o, o = F_X12_isKept X σ a := ⟨_, rfl⟩
  have hF := hout.symm
  unfold F_X12_isKept at hF
  refine lv_aload_n hx hb dX12_isKept_0 rfl (lv_at hl 0 rfl) ?_
  refine q_ci (q_runV (As := []) (rest := []) E (hml.trans hl.1.symm) hI (c_X12_isKinds l X σ a ha) kv_X12_150 ha ⟨rfl, by decide⟩ (show vwCl[11]? = some (RX12, TX12, 46) from rfl) rfl ⟨Nat.le_of_ble_eq_true rfl, Nat.le_of_ble_eq_true rfl⟩ ⟨Nat.le_refl _, Nat.le_refl _⟩ rfl (Nat.le_of_ble_eq_true rfl) dX12_isKept_1) hI (by decide) (fun r_1 σ_2 H locs hpσ_2 hkσ_2 hI => ?_)
  obtain ⟨ahpσ_2, bhpσ_2, chpσ_2⟩ := hpσ_2
  rw [ahpσ_2] at hI
  replace hF := q_letX hF chpσ_2
  refine q_if_ne (A := r_1.toInt) E rfl (tgt := 56) dX12_isKept_4 (by decide) (fun c_3 => ?_) (fun c_3 => ?_)
  · skip
    replace hF := q_ifn hF c_3
    refine lv_iconst (v := 1) hx hb dX12_isKept_56 (by decide) ?_
    have hrv : (1 : Int32).toInt = 1 := rfl
    exact q_retz E hr hlk hI ⟨by decide, by decide⟩ ⟨rfl, ⟨by decide, by decide⟩, (hF.trans hout)⟩ dX12_isKept_57
  · skip
    replace hF := q_ifp hF c_3
    refine lv_aload_n hx hb dX12_isKept_7 rfl (lv_at hl 0 rfl) ?_
    refine q_ci (q_runV (As := []) (rest := []) E (hml.trans hl.1.symm) hI (c_X12_isEach l X σ a ha) kv_X12_153 ha ⟨rfl, by decide⟩ (show vwCl[11]? = some (RX12, TX12, 46) from rfl) rfl ⟨Nat.le_of_ble_eq_true rfl, Nat.le_of_ble_eq_true rfl⟩ ⟨Nat.le_refl _, Nat.le_refl _⟩ rfl (Nat.le_of_ble_eq_true rfl) dX12_isKept_8) hI (by decide) (fun r_4 σ_5 H locs hpσ_5 hkσ_5 hI => ?_)
    obtain ⟨ahpσ_5, bhpσ_5, chpσ_5⟩ := hpσ_5
    rw [ahpσ_5] at hI
    replace hF := q_letX hF chpσ_5
    refine q_if_ne (A := r_4.toInt) E rfl (tgt := 56) dX12_isKept_11 (by decide) (fun c_6 => ?_) (fun c_6 => ?_)
    · skip
      replace hF := q_ifn hF c_6
      refine lv_iconst (v := 1) hx hb dX12_isKept_56 (by decide) ?_
      have hrv : (1 : Int32).toInt = 1 := rfl
      exact q_retz E hr hlk hI ⟨by decide, by decide⟩ ⟨rfl, ⟨by decide, by decide⟩, (hF.trans hout)⟩ dX12_isKept_57
    · skip
      replace hF := q_ifp hF c_6
      refine lv_aload_n hx hb dX12_isKept_14 rfl (lv_at hl 0 rfl) ?_
      refine q_ci (q_runV (As := []) (rest := []) E (hml.trans hl.1.symm) hI (c_X12_isLaw l X σ a ha) kv_X12_156 ha ⟨rfl, by decide⟩ (show vwCl[11]? = some (RX12, TX12, 46) from rfl) rfl ⟨Nat.le_of_ble_eq_true rfl, Nat.le_of_ble_eq_true rfl⟩ ⟨Nat.le_refl _, Nat.le_refl _⟩ rfl (Nat.le_of_ble_eq_true rfl) dX12_isKept_15) hI (by decide) (fun r_7 σ_8 H locs hpσ_8 hkσ_8 hI => ?_)
      obtain ⟨ahpσ_8, bhpσ_8, chpσ_8⟩ := hpσ_8
      rw [ahpσ_8] at hI
      replace hF := q_letX hF chpσ_8
      refine q_if_ne (A := r_7.toInt) E rfl (tgt := 56) dX12_isKept_18 (by decide) (fun c_9 => ?_) (fun c_9 => ?_)
      · skip
        replace hF := q_ifn hF c_9
        refine lv_iconst (v := 1) hx hb dX12_isKept_56 (by decide) ?_
        have hrv : (1 : Int32).toInt = 1 := rfl
        exact q_retz E hr hlk hI ⟨by decide, by decide⟩ ⟨rfl, ⟨by decide, by decide⟩, (hF.trans hout)⟩ dX12_isKept_57
      · skip
        replace hF := q_ifp hF c_9
        refine lv_aload_n hx hb dX12_isKept_21 rfl (lv_at hl 0 rfl) ?_
        refine q_ci (q_runV (As := []) (rest := []) E (hml.trans hl.1.symm) hI (c_X12_isMost l X σ a ha) kv_X12_159 ha ⟨rfl, by decide⟩ (show vwCl[11]? = some (RX12, TX12, 46) from rfl) rfl ⟨Nat.le_of_ble_eq_true rfl, Nat.le_of_ble_eq_true rfl⟩ ⟨Nat.le_refl _, Nat.le_refl _⟩ rfl (Nat.le_of_ble_eq_true rfl) dX12_isKept_22) hI (by decide) (fun r_10 σ_11 H locs hpσ_11 hkσ_11 hI => ?_)
        obtain ⟨ahpσ_11, bhpσ_11, chpσ_11⟩ := hpσ_11
        rw [ahpσ_11] at hI
        replace hF := q_letX hF chpσ_11
        refine q_if_ne (A := r_10.toInt) E rfl (tgt := 56) dX12_isKept_25 (by decide) (fun c_12 => ?_) (fun c_12 => ?_)
        · skip
          replace hF := q_ifn hF c_12
          refine lv_iconst (v := 1) hx hb dX12_isKept_56 (by decide) ?_
          have hrv : (1 : Int32).toInt = 1 := rfl
          exact q_retz E hr hlk hI ⟨by decide, by decide⟩ ⟨rfl, ⟨by decide, by decide⟩, (hF.trans hout)⟩ dX12_isKept_57
        · skip
          replace hF := q_ifp hF c_12
          refine lv_aload_n hx hb dX12_isKept_28 rfl (lv_at hl 0 rfl) ?_
          refine q_ci (q_runV (As := []) (rest := []) E (hml.trans hl.1.symm) hI (c_X12_isPlayer l X σ a ha) kv_X12_162 ha ⟨rfl, by decide⟩ (show vwCl[11]? = some (RX12, TX12, 46) from rfl) rfl ⟨Nat.le_of_ble_eq_true rfl, Nat.le_of_ble_eq_true rfl⟩ ⟨Nat.le_refl _, Nat.le_refl _⟩ rfl (Nat.le_of_ble_eq_true rfl) dX12_isKept_29) hI (by decide) (fun r_13 σ_14 H locs hpσ_14 hkσ_14 hI => ?_)
          obtain ⟨ahpσ_14, bhpσ_14, chpσ_14⟩ := hpσ_14
          rw [ahpσ_14] at hI
          replace hF := q_letX hF chpσ_14
          refine q_if_ne (A := r_13.toInt) E rfl (tgt := 56) dX12_isKept_32 (by decide) (fun c_15 => ?_) (fun c_15 => ?_)
          · skip
            replace hF := q_ifn hF c_15
            refine lv_iconst (v := 1) hx hb dX12_isKept_56 (by decide) ?_
            have hrv : (1 : Int32).toInt = 1 := rfl
            exact q_retz E hr hlk hI ⟨by decide, by decide⟩ ⟨rfl, ⟨by decide, by decide⟩, (hF.trans hout)⟩ dX12_isKept_57
          · skip
            replace hF := q_ifp hF c_15
            refine lv_aload_n hx hb dX12_isKept_35 rfl (lv_at hl 0 rfl) ?_
            refine q_ci (q_runV (As := []) (rest := []) E (hml.trans hl.1.symm) hI (c_X12_isHand l X σ a ha) kv_X12_165 ha ⟨rfl, by decide⟩ (show vwCl[11]? = some (RX12, TX12, 46) from rfl) rfl ⟨Nat.le_of_ble_eq_true rfl, Nat.le_of_ble_eq_true rfl⟩ ⟨Nat.le_refl _, Nat.le_refl _⟩ rfl (Nat.le_of_ble_eq_true rfl) dX12_isKept_36) hI (by decide) (fun r_16 σ_17 H locs hpσ_17 hkσ_17 hI => ?_)
            obtain ⟨ahpσ_17, bhpσ_17, chpσ_17⟩ := hpσ_17
            rw [ahpσ_17] at hI
            replace hF := q_letX hF chpσ_17
            refine q_if_ne (A := r_16.toInt) E rfl (tgt := 56) dX12_isKept_39 (by decide) (fun c_18 => ?_) (fun c_18 => ?_)
            · skip
              replace hF := q_ifn hF c_18
              refine lv_iconst (v := 1) hx hb dX12_isKept_56 (by decide) ?_
              have hrv : (1 : Int32).toInt = 1 := rfl
              exact q_retz E hr hlk hI ⟨by decide, by decide⟩ ⟨rfl, ⟨by decide, by decide⟩, (hF.trans hout)⟩ dX12_isKept_57
            · skip
              replace hF := q_ifp hF c_18
              refine lv_aload_n hx hb dX12_isKept_42 rfl (lv_at hl 0 rfl) ?_
              refine q_ci (q_runV (As := []) (rest := []) E (hml.trans hl.1.symm) hI (c_X12_isOf l X σ a ha) kv_X12_168 ha ⟨rfl, by decide⟩ (show vwCl[11]? = some (RX12, TX12, 46) from rfl) rfl ⟨Nat.le_of_ble_eq_true rfl, Nat.le_of_ble_eq_true rfl⟩ ⟨Nat.le_refl _, Nat.le_refl _⟩ rfl (Nat.le_of_ble_eq_true rfl) dX12_isKept_43) hI (by decide) (fun r_19 σ_20 H locs hpσ_20 hkσ_20 hI => ?_)
              obtain ⟨ahpσ_20, bhpσ_20, chpσ_20⟩ := hpσ_20
              rw [ahpσ_20] at hI
              replace hF := q_letX hF chpσ_20
              refine q_if_ne (A := r_19.toInt) E rfl (tgt := 56) dX12_isKept_46 (by decide) (fun c_21 => ?_) (fun c_21 => ?_)
              · skip
                replace hF := q_ifn hF c_21
                refine lv_iconst (v := 1) hx hb dX12_isKept_56 (by decide) ?_
                have hrv : (1 : Int32).toInt = 1 := rfl
                exact q_retz E hr hlk hI ⟨by decide, by decide⟩ ⟨rfl, ⟨by decide, by decide⟩, (hF.trans hout)⟩ dX12_isKept_57
              · skip
                replace hF := q_ifp hF c_21
                refine lv_aload_n hx hb dX12_isKept_49 rfl (lv_at hl 0 rfl) ?_
                refine q_ci (q_runV (As := []) (rest := []) E (hml.trans hl.1.symm) hI (c_X12_lawWord l X σ a ha) kv_X12_171 ha ⟨rfl, by decide⟩ (show vwCl[11]? = some (RX12, TX12, 46) from rfl) rfl ⟨Nat.le_of_ble_eq_true rfl, Nat.le_of_ble_eq_true rfl⟩ ⟨Nat.le_refl _, Nat.le_refl _⟩ rfl (Nat.le_of_ble_eq_true rfl) dX12_isKept_50) hI (by decide) (fun r_22 σ_23 H locs hpσ_23 hkσ_23 hI => ?_)
                obtain ⟨ahpσ_23, bhpσ_23, chpσ_23⟩ := hpσ_23
                rw [ahpσ_23] at hI
                replace hF := q_letX hF chpσ_23
                refine q_if_lt (A := r_22.toInt) E rfl (tgt := 58) dX12_isKept_53 (by decide) (fun c_24 => ?_) (fun c_24 => ?_)
                · skip
                  replace hF := q_ifp hF c_24
                  refine lv_aload_n hx hb dX12_isKept_58 rfl (lv_at hl 0 rfl) ?_
                  refine q_ci (q_runV (As := []) (rest := []) E (hml.trans hl.1.symm) hI (c_X12_stepWord l X σ a ha ht) kv_X12_175 ha ⟨rfl, by decide⟩ (show vwCl[11]? = some (RX12, TX12, 46) from rfl) rfl ⟨Nat.le_of_ble_eq_true rfl, Nat.le_of_ble_eq_true rfl⟩ ⟨Nat.le_refl _, Nat.le_refl _⟩ rfl (Nat.le_of_ble_eq_true rfl) dX12_isKept_59) hI (by decide) (fun r_25 σ_26 H locs hpσ_26 hkσ_26 hI => ?_)
                  obtain ⟨ahpσ_26, bhpσ_26, chpσ_26, dhpσ_26⟩ := hpσ_26
                  rw [ahpσ_26] at hI
                  replace hF := q_letX hF dhpσ_26
                  refine q_if_ge (A := r_25.toInt) E rfl (tgt := 79) dX12_isKept_62 (by decide) (fun c_27 => ?_) (fun c_27 => ?_)
                  · skip
                    replace hF := q_ifn hF (Int.not_lt.mpr c_27)
                    refine lv_iconst (v := 1) hx hb dX12_isKept_79 (by decide) ?_
                    refine lv_goto (tgt := 84) hx hb dX12_isKept_80 (by decide) ?_
                    have hrv : (1 : Int32).toInt = 1 := rfl
                    exact q_retz E hr hlk hI ⟨by decide, by decide⟩ ⟨rfl, ⟨by decide, by decide⟩, (hF.trans hout)⟩ dX12_isKept_84
                  · skip
                    replace hF := q_ifp hF c_27
                    refine lv_aload_n hx hb dX12_isKept_65 rfl (lv_at hl 0 rfl) ?_
                    refine q_ci (q_runV (As := []) (rest := []) E (hml.trans hl.1.symm) hI (c_X12_testWord l X σ a ha) kv_X12_178 ha ⟨rfl, by decide⟩ (show vwCl[11]? = some (RX12, TX12, 46) from rfl) rfl ⟨Nat.le_of_ble_eq_true rfl, Nat.le_of_ble_eq_true rfl⟩ ⟨Nat.le_refl _, Nat.le_refl _⟩ rfl (Nat.le_of_ble_eq_true rfl) dX12_isKept_66) hI (by decide) (fun r_28 σ_29 H locs hpσ_29 hkσ_29 hI => ?_)
                    obtain ⟨ahpσ_29, bhpσ_29, chpσ_29⟩ := hpσ_29
                    rw [ahpσ_29] at hI
                    replace hF := q_letX hF chpσ_29
                    refine q_if_ge (A := r_28.toInt) E rfl (tgt := 79) dX12_isKept_69 (by decide) (fun c_30 => ?_) (fun c_30 => ?_)
                    · skip
                      replace hF := q_ifn hF (Int.not_lt.mpr c_30)
                      refine lv_iconst (v := 1) hx hb dX12_isKept_79 (by decide) ?_
                      refine lv_goto (tgt := 84) hx hb dX12_isKept_80 (by decide) ?_
                      have hrv : (1 : Int32).toInt = 1 := rfl
                      exact q_retz E hr hlk hI ⟨by decide, by decide⟩ ⟨rfl, ⟨by decide, by decide⟩, (hF.trans hout)⟩ dX12_isKept_84
                    · skip
                      replace hF := q_ifp hF c_30
                      refine lv_aload_n hx hb dX12_isKept_72 rfl (lv_at hl 0 rfl) ?_
                      refine q_ci (q_runV (As := []) (rest := []) E (hml.trans hl.1.symm) hI (c_X12_isEnd l X σ a ha) kv_X12_181 ha ⟨rfl, by decide⟩ (show vwCl[11]? = some (RX12, TX12, 46) from rfl) rfl ⟨Nat.le_of_ble_eq_true rfl, Nat.le_of_ble_eq_true rfl⟩ ⟨Nat.le_refl _, Nat.le_refl _⟩ rfl (Nat.le_of_ble_eq_true rfl) dX12_isKept_73) hI (by decide) (fun r_31 σ_32 H locs hpσ_32 hkσ_32 hI => ?_)
                      obtain ⟨ahpσ_32, bhpσ_32, chpσ_32⟩ := hpσ_32
                      rw [ahpσ_32] at hI
                      replace hF := q_letX hF chpσ_32
                      refine q_if_eq (A := r_31.toInt) E rfl (tgt := 83) dX12_isKept_76 (by decide) (fun c_33 => ?_) (fun c_33 => ?_)
                      · skip
                        replace hF := q_ifp hF c_33
                        refine lv_iconst (v := 0) hx hb dX12_isKept_83 (by decide) ?_
                        have hrv : (0 : Int32).toInt = 0 := rfl
                        exact q_retz E hr hlk hI ⟨by decide, by decide⟩ ⟨rfl, ⟨by decide, by decide⟩, (hF.trans hout)⟩ dX12_isKept_84
                      · skip
                        replace hF := q_ifn hF c_33
                        refine lv_iconst (v := 1) hx hb dX12_isKept_79 (by decide) ?_
                        refine lv_goto (tgt := 84) hx hb dX12_isKept_80 (by decide) ?_
                        have hrv : (1 : Int32).toInt = 1 := rfl
                        exact q_retz E hr hlk hI ⟨by decide, by decide⟩ ⟨rfl, ⟨by decide, by decide⟩, (hF.trans hout)⟩ dX12_isKept_84
                · skip
                  replace hF := q_ifn hF (Int.not_lt.mpr c_24)
                  refine lv_iconst (v := 1) hx hb dX12_isKept_56 (by decide) ?_
                  have hrv : (1 : Int32).toInt = 1 := rfl
                  exact q_retz E hr hlk hI ⟨by decide, by decide⟩ ⟨rfl, ⟨by decide, by decide⟩, (hF.trans hout)⟩ dX12_isKept_57

set_option maxRecDepth 100000 in
set_option maxHeartbeats 4000000 in
theorem c_X12_isName (l : Launch) (X : XW) (σ : ST) (a : Nat) (ha : q_kd X a = 12) (ht : 0 ≤ (σ.1 a 14).toInt) : Met l yX12_isName (q_ws yX12_isName cX12_isName 1 (some .boolean)) (q_rm 4 87) (q_P X σ [.ref a]) (q_Qi X 9 σ (fun (r : Int32) (σ' : ST) => σ' = σ ∧ (0 ≤ r.toInt ∧ r.toInt ≤ 1) ∧ r = F_X12_isName X σ a)) 0 0 (q_reg X) := by
  refine q_met 9 (by decide +kernel) rfl (Nat.le_of_ble_eq_true rfl) (fun p e s m below meth c E hml hr hlk hI ls hl => ?_)
  have hx := E.1
  have hb := E.2.1
  have hl : lv_has ls 1 [(0, .ref a)] := hl
  obtain ⟨out, hout⟩ : ∃ o, o = F_X12_isName X σ a := ⟨_, rfl⟩
  have hF := hout.symm
  unfold F_X12_isName at hF
  refine lv_aload_n hx hb dX12_isName_0 rfl (lv_at hl 0 rfl) ?_
  refine gs_X12_110_12 E hI ha dX12_isName_1 ?_
  refine lv_topi (fun f_1 ef_1 => ?_)
  replace hF := q_letX hF ef_1
  refine lv_iconst (v := 1) hx hb dX12_isName_4 (by decide) ?_
  refine q_icmp_ne (A := f_1.toInt) (B := 1) E rfl (by decide) (tgt := 28) dX12_isName_5 (by decide) (fun c_2 => ?_) (fun c_2 => ?_)
  · skip
    replace hF := q_ifn hF c_2
    refine lv_iconst (v := 0) hx hb dX12_isName_28 (by decide) ?_
    have hrv : (0 : Int32).toInt = 0 := rfl
    exact q_retz E hr hlk hI ⟨by decide, by decide⟩ ⟨rfl, ⟨by decide, by decide⟩, (hF.trans hout)⟩ dX12_isName_29
  · skip
    replace hF := q_ifp hF c_2
    refine lv_aload_n hx hb dX12_isName_8 rfl (lv_at hl 0 rfl) ?_
    refine gs_X12_123_12 E hI ha dX12_isName_9 ?_
    refine lv_topi (fun f_3 ef_3 => ?_)
    replace hF := q_letX hF ef_3
    refine lv_bipush (v := 8) hx hb dX12_isName_12 (by decide) ?_
    refine q_icmp_gt (A := f_3.toInt) (B := 8) E rfl (by decide) (tgt := 28) dX12_isName_14 (by decide) (fun c_4 => ?_) (fun c_4 => ?_)
    · skip
      replace hF := q_ifp hF c_4
      refine lv_iconst (v := 0) hx hb dX12_isName_28 (by decide) ?_
      have hrv : (0 : Int32).toInt = 0 := rfl
      exact q_retz E hr hlk hI ⟨by decide, by decide⟩ ⟨rfl, ⟨by decide, by decide⟩, (hF.trans hout)⟩ dX12_isName_29
    · skip
      replace hF := q_ifn hF (Int.not_lt.mpr c_4)
      refine lv_aload_n hx hb dX12_isName_17 rfl (lv_at hl 0 rfl) ?_
      refine q_ci (q_runV (As := []) (rest := []) E (hml.trans hl.1.symm) hI (c_X12_isKept l X σ a ha ht) kv_X12_184 ha ⟨rfl, by decide⟩ (show vwCl[11]? = some (RX12, TX12, 46) from rfl) rfl ⟨Nat.le_of_ble_eq_true rfl, Nat.le_of_ble_eq_true rfl⟩ ⟨Nat.le_refl _, Nat.le_refl _⟩ rfl (Nat.le_of_ble_eq_true rfl) dX12_isName_18) hI (by decide) (fun r_5 σ_6 H locs hpσ_6 hkσ_6 hI => ?_)
      obtain ⟨ahpσ_6, bhpσ_6, chpσ_6⟩ := hpσ_6
      rw [ahpσ_6] at hI
      replace hF := q_letX hF chpσ_6
      refine q_if_ne (A := r_5.toInt) E rfl (tgt := 28) dX12_isName_21 (by decide) (fun c_7 => ?_) (fun c_7 => ?_)
      · skip
        replace hF := q_ifn hF c_7
        refine lv_iconst (v := 0) hx hb dX12_isName_28 (by decide) ?_
        have hrv : (0 : Int32).toInt = 0 := rfl
        exact q_retz E hr hlk hI ⟨by decide, by decide⟩ ⟨rfl, ⟨by decide, by decide⟩, (hF.trans hout)⟩ dX12_isName_29
      · skip
        replace hF := q_ifp hF c_7
        refine lv_iconst (v := 1) hx hb dX12_isName_24 (by decide) ?_
        refine lv_goto (tgt := 29) hx hb dX12_isName_25 (by decide) ?_
        have hrv : (1 : Int32).toInt = 1 := rfl
        exact q_retz E hr hlk hI ⟨by decide, by decide⟩ ⟨rfl, ⟨by decide, by decide⟩, (hF.trans hout)⟩ dX12_isName_29
