/-! FROM 34.words.b00.lean.txt -/
section
set_option maxRecDepth 100000 in
set_option maxHeartbeats 4000000 in
theorem c_X12_isKinds (l : Launch) (X : XW) (σ : ST) (a : Nat) (ha : q_kd X a = 12) : Met l yX12_isKinds (q_ws yX12_isKinds cX12_isKinds 1 (some .boolean)) (q_rm 1 27) (q_P X σ [.ref a]) (q_Qi X 9 σ (fun (r : Int32) (σ' : ST) => σ' = σ ∧ (0 ≤ r.toInt ∧ r.toInt ≤ 1) ∧ r = F_X12_isKinds X σ a)) 0 0 (q_reg X) := by
  refine q_met 9 (by first | exact rfl | decide +kernel) rfl (Nat.le_of_ble_eq_true rfl) (fun p e s m below meth c E hml hr hlk hI ls hl => ?_)
  have hx := E.1
  have hb := E.2.1
  have hl : lv_has ls 1 [(0, .ref a)] := hl
  obtain ⟨out, hout⟩ : ∃ o, o = F_X12_isKinds X σ a := ⟨_, rfl⟩
  have hF := hout.symm
  unfold F_X12_isKinds at hF
  refine lv_aload_n hx hb dX12_isKinds_0 rfl (lv_at hl 0 rfl) ?_
  refine lv_bipush (v := 107) hx hb dX12_isKinds_1 (by decide) ?_
  refine lv_bipush (v := 105) hx hb dX12_isKinds_3 (by decide) ?_
  refine lv_bipush (v := 110) hx hb dX12_isKinds_5 (by decide) ?_
  refine lv_bipush (v := 100) hx hb dX12_isKinds_7 (by decide) ?_
  refine lv_bipush (v := 115) hx hb dX12_isKinds_9 (by decide) ?_
  refine lv_iconst (v := 0) hx hb dX12_isKinds_11 (by decide) ?_
  have kc_1 : (107 : Int32).toInt = 107 := rfl
  have kc_2 : (105 : Int32).toInt = 105 := rfl
  have kc_3 : (110 : Int32).toInt = 110 := rfl
  have kc_4 : (100 : Int32).toInt = 100 := rfl
  have kc_5 : (115 : Int32).toInt = 115 := rfl
  have kc_6 : (0 : Int32).toInt = 0 := rfl
  refine q_cl_ (q_runS (As := [.int 107, .int 105, .int 110, .int 100, .int 115, .int 0]) (rest := [.ref a]) E (hml.trans hl.1.symm) hI (c_X12_spelled l X σ (107 : Int32) (105 : Int32) (110 : Int32) (100 : Int32) (115 : Int32) (0 : Int32)) ks_X12_135 rfl ⟨Nat.le_of_ble_eq_true rfl, Nat.le_of_ble_eq_true rfl⟩ ⟨Nat.le_refl _, Nat.le_refl _⟩ rfl (Nat.le_of_ble_eq_true rfl) dX12_isKinds_12) hI (by decide) (fun r_7 σ_8 H locs hpσ_8 hkσ_8 hI => ?_)
  obtain ⟨ahpσ_8, bhpσ_8⟩ := hpσ_8
  rw [ahpσ_8] at hI
  replace hF := q_letX hF bhpσ_8
  refine q_ci (q_runV (As := [.long r_7]) (rest := []) E (hml.trans hl.1.symm) hI (c_X12_isWord l X σ a r_7 ha) kv_X12_139 ha ⟨rfl, by decide⟩ (show vwCl[11]? = some (RX12, TX12, 46) from rfl) rfl ⟨Nat.le_of_ble_eq_true rfl, Nat.le_of_ble_eq_true rfl⟩ ⟨Nat.le_refl _, Nat.le_refl _⟩ rfl (Nat.le_of_ble_eq_true rfl) dX12_isKinds_15) hI (by decide) (fun r_9 σ_10 H locs hpσ_10 hkσ_10 hI => ?_)
  obtain ⟨ahpσ_10, bhpσ_10, chpσ_10, dhpσ_10⟩ := hpσ_10
  rw [ahpσ_10] at hI
  replace hF := q_letX hF dhpσ_10
  exact q_retz E hr hlk hI ⟨by omega, by omega⟩ ⟨rfl, ⟨by omega, by omega⟩, (hF.trans hout)⟩ dX12_isKinds_18

set_option maxRecDepth 100000 in
set_option maxHeartbeats 4000000 in
theorem c_X12_isEach (l : Launch) (X : XW) (σ : ST) (a : Nat) (ha : q_kd X a = 12) : Met l yX12_isEach (q_ws yX12_isEach cX12_isEach 1 (some .boolean)) (q_rm 1 27) (q_P X σ [.ref a]) (q_Qi X 9 σ (fun (r : Int32) (σ' : ST) => σ' = σ ∧ (0 ≤ r.toInt ∧ r.toInt ≤ 1) ∧ r = F_X12_isEach X σ a)) 0 0 (q_reg X) := by
  refine q_met 9 (by first | exact rfl | decide +kernel) rfl (Nat.le_of_ble_eq_true rfl) (fun p e s m below meth c E hml hr hlk hI ls hl => ?_)
  have hx := E.1
  have hb := E.2.1
  have hl : lv_has ls 1 [(0, .ref a)] := hl
  obtain ⟨out, hout⟩ : ∃ o, o = F_X12_isEach X σ a := ⟨_, rfl⟩
  have hF := hout.symm
  unfold F_X12_isEach at hF
  refine lv_aload_n hx hb dX12_isEach_0 rfl (lv_at hl 0 rfl) ?_
  refine lv_bipush (v := 101) hx hb dX12_isEach_1 (by decide) ?_
  refine lv_bipush (v := 97) hx hb dX12_isEach_3 (by decide) ?_
  refine lv_bipush (v := 99) hx hb dX12_isEach_5 (by decide) ?_
  refine lv_bipush (v := 104) hx hb dX12_isEach_7 (by decide) ?_
  refine lv_iconst (v := 0) hx hb dX12_isEach_9 (by decide) ?_
  refine lv_iconst (v := 0) hx hb dX12_isEach_10 (by decide) ?_
  have kc_1 : (101 : Int32).toInt = 101 := rfl
  have kc_2 : (97 : Int32).toInt = 97 := rfl
  have kc_3 : (99 : Int32).toInt = 99 := rfl
  have kc_4 : (104 : Int32).toInt = 104 := rfl
  have kc_5 : (0 : Int32).toInt = 0 := rfl
  have kc_6 : (0 : Int32).toInt = 0 := rfl
  refine q_cl_ (q_runS (As := [.int 101, .int 97, .int 99, .int 104, .int 0, .int 0]) (rest := [.ref a]) E (hml.trans hl.1.symm) hI (c_X12_spelled l X σ (101 : Int32) (97 : Int32) (99 : Int32) (104 : Int32) (0 : Int32) (0 : Int32)) ks_X12_135 rfl ⟨Nat.le_of_ble_eq_true rfl, Nat.le_of_ble_eq_true rfl⟩ ⟨Nat.le_refl _, Nat.le_refl _⟩ rfl (Nat.le_of_ble_eq_true rfl) dX12_isEach_11) hI (by decide) (fun r_7 σ_8 H locs hpσ_8 hkσ_8 hI => ?_)
  obtain ⟨ahpσ_8, bhpσ_8⟩ := hpσ_8
  rw [ahpσ_8] at hI
  replace hF := q_letX hF bhpσ_8
  refine q_ci (q_runV (As := [.long r_7]) (rest := []) E (hml.trans hl.1.symm) hI (c_X12_isWord l X σ a r_7 ha) kv_X12_139 ha ⟨rfl, by decide⟩ (show vwCl[11]? = some (RX12, TX12, 46) from rfl) rfl ⟨Nat.le_of_ble_eq_true rfl, Nat.le_of_ble_eq_true rfl⟩ ⟨Nat.le_refl _, Nat.le_refl _⟩ rfl (Nat.le_of_ble_eq_true rfl) dX12_isEach_14) hI (by decide) (fun r_9 σ_10 H locs hpσ_10 hkσ_10 hI => ?_)
  obtain ⟨ahpσ_10, bhpσ_10, chpσ_10, dhpσ_10⟩ := hpσ_10
  rw [ahpσ_10] at hI
  replace hF := q_letX hF dhpσ_10
  exact q_retz E hr hlk hI ⟨by omega, by omega⟩ ⟨rfl, ⟨by omega, by omega⟩, (hF.trans hout)⟩ dX12_isEach_17

set_option maxRecDepth 100000 in
set_option maxHeartbeats 4000000 in
theorem c_X12_isLaw (l : Launch) (X : XW) (σ : ST) (a : Nat) (ha : q_kd X a = 12) : Met l yX12_isLaw (q_ws yX12_isLaw cX12_isLaw 1 (some .boolean)) (q_rm 1 27) (q_P X σ [.ref a]) (q_Qi X 9 σ (fun (r : Int32) (σ' : ST) => σ' = σ ∧ (0 ≤ r.toInt ∧ r.toInt ≤ 1) ∧ r = F_X12_isLaw X σ a)) 0 0 (q_reg X) := by
  refine q_met 9 (by first | exact rfl | decide +kernel) rfl (Nat.le_of_ble_eq_true rfl) (fun p e s m below meth c E hml hr hlk hI ls hl => ?_)
  have hx := E.1
  have hb := E.2.1
  have hl : lv_has ls 1 [(0, .ref a)] := hl
  obtain ⟨out, hout⟩ : ∃ o, o = F_X12_isLaw X σ a := ⟨_, rfl⟩
  have hF := hout.symm
  unfold F_X12_isLaw at hF
  refine lv_aload_n hx hb dX12_isLaw_0 rfl (lv_at hl 0 rfl) ?_
  refine lv_bipush (v := 108) hx hb dX12_isLaw_1 (by decide) ?_
  refine lv_bipush (v := 97) hx hb dX12_isLaw_3 (by decide) ?_
  refine lv_bipush (v := 119) hx hb dX12_isLaw_5 (by decide) ?_
  refine lv_iconst (v := 0) hx hb dX12_isLaw_7 (by decide) ?_
  refine lv_iconst (v := 0) hx hb dX12_isLaw_8 (by decide) ?_
  refine lv_iconst (v := 0) hx hb dX12_isLaw_9 (by decide) ?_
  have kc_1 : (108 : Int32).toInt = 108 := rfl
  have kc_2 : (97 : Int32).toInt = 97 := rfl
  have kc_3 : (119 : Int32).toInt = 119 := rfl
  have kc_4 : (0 : Int32).toInt = 0 := rfl
  have kc_5 : (0 : Int32).toInt = 0 := rfl
  have kc_6 : (0 : Int32).toInt = 0 := rfl
  refine q_cl_ (q_runS (As := [.int 108, .int 97, .int 119, .int 0, .int 0, .int 0]) (rest := [.ref a]) E (hml.trans hl.1.symm) hI (c_X12_spelled l X σ (108 : Int32) (97 : Int32) (119 : Int32) (0 : Int32) (0 : Int32) (0 : Int32)) ks_X12_135 rfl ⟨Nat.le_of_ble_eq_true rfl, Nat.le_of_ble_eq_true rfl⟩ ⟨Nat.le_refl _, Nat.le_refl _⟩ rfl (Nat.le_of_ble_eq_true rfl) dX12_isLaw_10) hI (by decide) (fun r_7 σ_8 H locs hpσ_8 hkσ_8 hI => ?_)
  obtain ⟨ahpσ_8, bhpσ_8⟩ := hpσ_8
  rw [ahpσ_8] at hI
  replace hF := q_letX hF bhpσ_8
  refine q_ci (q_runV (As := [.long r_7]) (rest := []) E (hml.trans hl.1.symm) hI (c_X12_isWord l X σ a r_7 ha) kv_X12_139 ha ⟨rfl, by decide⟩ (show vwCl[11]? = some (RX12, TX12, 46) from rfl) rfl ⟨Nat.le_of_ble_eq_true rfl, Nat.le_of_ble_eq_true rfl⟩ ⟨Nat.le_refl _, Nat.le_refl _⟩ rfl (Nat.le_of_ble_eq_true rfl) dX12_isLaw_13) hI (by decide) (fun r_9 σ_10 H locs hpσ_10 hkσ_10 hI => ?_)
  obtain ⟨ahpσ_10, bhpσ_10, chpσ_10, dhpσ_10⟩ := hpσ_10
  rw [ahpσ_10] at hI
  replace hF := q_letX hF dhpσ_10
  exact q_retz E hr hlk hI ⟨by omega, by omega⟩ ⟨rfl, ⟨by omega, by omega⟩, (hF.trans hout)⟩ dX12_isLaw_16

set_option maxRecDepth 100000 in
set_option maxHeartbeats 4000000 in
theorem c_X12_isMost (l : Launch) (X : XW) (σ : ST) (a : Nat) (ha : q_kd X a = 12) : Met l yX12_isMost (q_ws yX12_isMost cX12_isMost 1 (some .boolean)) (q_rm 1 27) (q_P X σ [.ref a]) (q_Qi X 9 σ (fun (r : Int32) (σ' : ST) => σ' = σ ∧ (0 ≤ r.toInt ∧ r.toInt ≤ 1) ∧ r = F_X12_isMost X σ a)) 0 0 (q_reg X) := by
  refine q_met 9 (by first | exact rfl | decide +kernel) rfl (Nat.le_of_ble_eq_true rfl) (fun p e s m below meth c E hml hr hlk hI ls hl => ?_)
  have hx := E.1
  have hb := E.2.1
  have hl : lv_has ls 1 [(0, .ref a)] := hl
  obtain ⟨out, hout⟩ : ∃ o, o = F_X12_isMost X σ a := ⟨_, rfl⟩
  have hF := hout.symm
  unfold F_X12_isMost at hF
  refine lv_aload_n hx hb dX12_isMost_0 rfl (lv_at hl 0 rfl) ?_
  refine lv_bipush (v := 109) hx hb dX12_isMost_1 (by decide) ?_
  refine lv_bipush (v := 111) hx hb dX12_isMost_3 (by decide) ?_
  refine lv_bipush (v := 115) hx hb dX12_isMost_5 (by decide) ?_
  refine lv_bipush (v := 116) hx hb dX12_isMost_7 (by decide) ?_
  refine lv_iconst (v := 0) hx hb dX12_isMost_9 (by decide) ?_
  refine lv_iconst (v := 0) hx hb dX12_isMost_10 (by decide) ?_
  have kc_1 : (109 : Int32).toInt = 109 := rfl
  have kc_2 : (111 : Int32).toInt = 111 := rfl
  have kc_3 : (115 : Int32).toInt = 115 := rfl
  have kc_4 : (116 : Int32).toInt = 116 := rfl
  have kc_5 : (0 : Int32).toInt = 0 := rfl
  have kc_6 : (0 : Int32).toInt = 0 := rfl
  refine q_cl_ (q_runS (As := [.int 109, .int 111, .int 115, .int 116, .int 0, .int 0]) (rest := [.ref a]) E (hml.trans hl.1.symm) hI (c_X12_spelled l X σ (109 : Int32) (111 : Int32) (115 : Int32) (116 : Int32) (0 : Int32) (0 : Int32)) ks_X12_135 rfl ⟨Nat.le_of_ble_eq_true rfl, Nat.le_of_ble_eq_true rfl⟩ ⟨Nat.le_refl _, Nat.le_refl _⟩ rfl (Nat.le_of_ble_eq_true rfl) dX12_isMost_11) hI (by decide) (fun r_7 σ_8 H locs hpσ_8 hkσ_8 hI => ?_)
  obtain ⟨ahpσ_8, bhpσ_8⟩ := hpσ_8
  rw [ahpσ_8] at hI
  replace hF := q_letX hF bhpσ_8
  refine q_ci (q_runV (As := [.long r_7]) (rest := []) E (hml.trans hl.1.symm) hI (c_X12_isWord l X σ a r_7 ha) kv_X12_139 ha ⟨rfl, by decide⟩ (show vwCl[11]? = some (RX12, TX12, 46) from rfl) rfl ⟨Nat.le_of_ble_eq_true rfl, Nat.le_of_ble_eq_true rfl⟩ ⟨Nat.le_refl _, Nat.le_refl _⟩ rfl (Nat.le_of_ble_eq_true rfl) dX12_isMost_14) hI (by decide) (fun r_9 σ_10 H locs hpσ_10 hkσ_10 hI => ?_)
  obtain ⟨ahpσ_10, bhpσ_10, chpσ_10, dhpσ_10⟩ := hpσ_10
  rw [ahpσ_10] at hI
  replace hF := q_letX hF dhpσ_10
  exact q_retz E hr hlk hI ⟨by omega, by omega⟩ ⟨rfl, ⟨by omega, by omega⟩, (hF.trans hout)⟩ dX12_isMost_17

set_option maxRecDepth 100000 in
set_option maxHeartbeats 4000000 in
theorem c_X12_isPlayer (l : Launch) (X : XW) (σ : ST) (a : Nat) (ha : q_kd X a = 12) : Met l yX12_isPlayer (q_ws yX12_isPlayer cX12_isPlayer 1 (some .boolean)) (q_rm 1 27) (q_P X σ [.ref a]) (q_Qi X 9 σ (fun (r : Int32) (σ' : ST) => σ' = σ ∧ (0 ≤ r.toInt ∧ r.toInt ≤ 1) ∧ r = F_X12_isPlayer X σ a)) 0 0 (q_reg X) := by
  refine q_met 9 (by first | exact rfl | decide +kernel) rfl (Nat.le_of_ble_eq_true rfl) (fun p e s m below meth c E hml hr hlk hI ls hl => ?_)
  have hx := E.1
  have hb := E.2.1
  have hl : lv_has ls 1 [(0, .ref a)] := hl
  obtain ⟨out, hout⟩ : ∃ o, o = F_X12_isPlayer X σ a := ⟨_, rfl⟩
  have hF := hout.symm
  unfold F_X12_isPlayer at hF
  refine lv_aload_n hx hb dX12_isPlayer_0 rfl (lv_at hl 0 rfl) ?_
  refine lv_bipush (v := 112) hx hb dX12_isPlayer_1 (by decide) ?_
  refine lv_bipush (v := 108) hx hb dX12_isPlayer_3 (by decide) ?_
  refine lv_bipush (v := 97) hx hb dX12_isPlayer_5 (by decide) ?_
  refine lv_bipush (v := 121) hx hb dX12_isPlayer_7 (by decide) ?_
  refine lv_bipush (v := 101) hx hb dX12_isPlayer_9 (by decide) ?_
  refine lv_bipush (v := 114) hx hb dX12_isPlayer_11 (by decide) ?_
  have kc_1 : (112 : Int32).toInt = 112 := rfl
  have kc_2 : (108 : Int32).toInt = 108 := rfl
  have kc_3 : (97 : Int32).toInt = 97 := rfl
  have kc_4 : (121 : Int32).toInt = 121 := rfl
  have kc_5 : (101 : Int32).toInt = 101 := rfl
  have kc_6 : (114 : Int32).toInt = 114 := rfl
  refine q_cl_ (q_runS (As := [.int 112, .int 108, .int 97, .int 121, .int 101, .int 114]) (rest := [.ref a]) E (hml.trans hl.1.symm) hI (c_X12_spelled l X σ (112 : Int32) (108 : Int32) (97 : Int32) (121 : Int32) (101 : Int32) (114 : Int32)) ks_X12_135 rfl ⟨Nat.le_of_ble_eq_true rfl, Nat.le_of_ble_eq_true rfl⟩ ⟨Nat.le_refl _, Nat.le_refl _⟩ rfl (Nat.le_of_ble_eq_true rfl) dX12_isPlayer_13) hI (by decide) (fun r_7 σ_8 H locs hpσ_8 hkσ_8 hI => ?_)
  obtain ⟨ahpσ_8, bhpσ_8⟩ := hpσ_8
  rw [ahpσ_8] at hI
  replace hF := q_letX hF bhpσ_8
  refine q_ci (q_runV (As := [.long r_7]) (rest := []) E (hml.trans hl.1.symm) hI (c_X12_isWord l X σ a r_7 ha) kv_X12_139 ha ⟨rfl, by decide⟩ (show vwCl[11]? = some (RX12, TX12, 46) from rfl) rfl ⟨Nat.le_of_ble_eq_true rfl, Nat.le_of_ble_eq_true rfl⟩ ⟨Nat.le_refl _, Nat.le_refl _⟩ rfl (Nat.le_of_ble_eq_true rfl) dX12_isPlayer_16) hI (by decide) (fun r_9 σ_10 H locs hpσ_10 hkσ_10 hI => ?_)
  obtain ⟨ahpσ_10, bhpσ_10, chpσ_10, dhpσ_10⟩ := hpσ_10
  rw [ahpσ_10] at hI
  replace hF := q_letX hF dhpσ_10
  exact q_retz E hr hlk hI ⟨by omega, by omega⟩ ⟨rfl, ⟨by omega, by omega⟩, (hF.trans hout)⟩ dX12_isPlayer_19

set_option maxRecDepth 100000 in
set_option maxHeartbeats 4000000 in
theorem c_X12_isLies (l : Launch) (X : XW) (σ : ST) (a : Nat) (ha : q_kd X a = 12) : Met l yX12_isLies (q_ws yX12_isLies cX12_isLies 1 (some .boolean)) (q_rm 1 27) (q_P X σ [.ref a]) (q_Qi X 9 σ (fun (r : Int32) (σ' : ST) => σ' = σ ∧ (0 ≤ r.toInt ∧ r.toInt ≤ 1) ∧ (r.toInt = 1 → (σ.1 a 14).toInt = 1) ∧ r = F_X12_isLies X σ a)) 0 0 (q_reg X) := by
  refine q_met 9 (by first | exact rfl | decide +kernel) rfl (Nat.le_of_ble_eq_true rfl) (fun p e s m below meth c E hml hr hlk hI ls hl => ?_)
  have hx := E.1
  have hb := E.2.1
  have hl : lv_has ls 1 [(0, .ref a)] := hl
  obtain ⟨out, hout⟩ : ∃ o, o = F_X12_isLies X σ a := ⟨_, rfl⟩
  have hF := hout.symm
  unfold F_X12_isLies at hF
  refine lv_aload_n hx hb dX12_isLies_0 rfl (lv_at hl 0 rfl) ?_
  refine lv_bipush (v := 108) hx hb dX12_isLies_1 (by decide) ?_
  refine lv_bipush (v := 105) hx hb dX12_isLies_3 (by decide) ?_
  refine lv_bipush (v := 101) hx hb dX12_isLies_5 (by decide) ?_
  refine lv_bipush (v := 115) hx hb dX12_isLies_7 (by decide) ?_
  refine lv_iconst (v := 0) hx hb dX12_isLies_9 (by decide) ?_
  refine lv_iconst (v := 0) hx hb dX12_isLies_10 (by decide) ?_
  have kc_1 : (108 : Int32).toInt = 108 := rfl
  have kc_2 : (105 : Int32).toInt = 105 := rfl
  have kc_3 : (101 : Int32).toInt = 101 := rfl
  have kc_4 : (115 : Int32).toInt = 115 := rfl
  have kc_5 : (0 : Int32).toInt = 0 := rfl
  have kc_6 : (0 : Int32).toInt = 0 := rfl
  refine q_cl_ (q_runS (As := [.int 108, .int 105, .int 101, .int 115, .int 0, .int 0]) (rest := [.ref a]) E (hml.trans hl.1.symm) hI (c_X12_spelled l X σ (108 : Int32) (105 : Int32) (101 : Int32) (115 : Int32) (0 : Int32) (0 : Int32)) ks_X12_135 rfl ⟨Nat.le_of_ble_eq_true rfl, Nat.le_of_ble_eq_true rfl⟩ ⟨Nat.le_refl _, Nat.le_refl _⟩ rfl (Nat.le_of_ble_eq_true rfl) dX12_isLies_11) hI (by decide) (fun r_7 σ_8 H locs hpσ_8 hkσ_8 hI => ?_)
  obtain ⟨ahpσ_8, bhpσ_8⟩ := hpσ_8
  rw [ahpσ_8] at hI
  replace hF := q_letX hF bhpσ_8
  refine q_ci (q_runV (As := [.long r_7]) (rest := []) E (hml.trans hl.1.symm) hI (c_X12_isWord l X σ a r_7 ha) kv_X12_139 ha ⟨rfl, by decide⟩ (show vwCl[11]? = some (RX12, TX12, 46) from rfl) rfl ⟨Nat.le_of_ble_eq_true rfl, Nat.le_of_ble_eq_true rfl⟩ ⟨Nat.le_refl _, Nat.le_refl _⟩ rfl (Nat.le_of_ble_eq_true rfl) dX12_isLies_14) hI (by decide) (fun r_9 σ_10 H locs hpσ_10 hkσ_10 hI => ?_)
  obtain ⟨ahpσ_10, bhpσ_10, chpσ_10, dhpσ_10⟩ := hpσ_10
  rw [ahpσ_10] at hI
  replace hF := q_letX hF dhpσ_10
  exact q_retz E hr hlk hI ⟨by omega, by omega⟩ ⟨rfl, ⟨by omega, by omega⟩, (by omega), (hF.trans hout)⟩ dX12_isLies_17

set_option maxRecDepth 100000 in
set_option maxHeartbeats 4000000 in
theorem c_X12_isDoubts (l : Launch) (X : XW) (σ : ST) (a : Nat) (ha : q_kd X a = 12) : Met l yX12_isDoubts (q_ws yX12_isDoubts cX12_isDoubts 1 (some .boolean)) (q_rm 1 27) (q_P X σ [.ref a]) (q_Qi X 9 σ (fun (r : Int32) (σ' : ST) => σ' = σ ∧ (0 ≤ r.toInt ∧ r.toInt ≤ 1) ∧ (r.toInt = 1 → (σ.1 a 14).toInt = 1) ∧ r = F_X12_isDoubts X σ a)) 0 0 (q_reg X) := by
  refine q_met 9 (by first | exact rfl | decide +kernel) rfl (Nat.le_of_ble_eq_true rfl) (fun p e s m below meth c E hml hr hlk hI ls hl => ?_)
  have hx := E.1
  have hb := E.2.1
  have hl : lv_has ls 1 [(0, .ref a)] := hl
  obtain ⟨out, hout⟩ : ∃ o, o = F_X12_isDoubts X σ a := ⟨_, rfl⟩
  have hF := hout.symm
  unfold F_X12_isDoubts at hF
  refine lv_aload_n hx hb dX12_isDoubts_0 rfl (lv_at hl 0 rfl) ?_
  refine lv_bipush (v := 100) hx hb dX12_isDoubts_1 (by decide) ?_
  refine lv_bipush (v := 111) hx hb dX12_isDoubts_3 (by decide) ?_
  refine lv_bipush (v := 117) hx hb dX12_isDoubts_5 (by decide) ?_
  refine lv_bipush (v := 98) hx hb dX12_isDoubts_7 (by decide) ?_
  refine lv_bipush (v := 116) hx hb dX12_isDoubts_9 (by decide) ?_
  refine lv_bipush (v := 115) hx hb dX12_isDoubts_11 (by decide) ?_
  have kc_1 : (100 : Int32).toInt = 100 := rfl
  have kc_2 : (111 : Int32).toInt = 111 := rfl
  have kc_3 : (117 : Int32).toInt = 117 := rfl
  have kc_4 : (98 : Int32).toInt = 98 := rfl
  have kc_5 : (116 : Int32).toInt = 116 := rfl
  have kc_6 : (115 : Int32).toInt = 115 := rfl
  refine q_cl_ (q_runS (As := [.int 100, .int 111, .int 117, .int 98, .int 116, .int 115]) (rest := [.ref a]) E (hml.trans hl.1.symm) hI (c_X12_spelled l X σ (100 : Int32) (111 : Int32) (117 : Int32) (98 : Int32) (116 : Int32) (115 : Int32)) ks_X12_135 rfl ⟨Nat.le_of_ble_eq_true rfl, Nat.le_of_ble_eq_true rfl⟩ ⟨Nat.le_refl _, Nat.le_refl _⟩ rfl (Nat.le_of_ble_eq_true rfl) dX12_isDoubts_13) hI (by decide) (fun r_7 σ_8 H locs hpσ_8 hkσ_8 hI => ?_)
  obtain ⟨ahpσ_8, bhpσ_8⟩ := hpσ_8
  rw [ahpσ_8] at hI
  replace hF := q_letX hF bhpσ_8
  refine q_ci (q_runV (As := [.long r_7]) (rest := []) E (hml.trans hl.1.symm) hI (c_X12_isWord l X σ a r_7 ha) kv_X12_139 ha ⟨rfl, by decide⟩ (show vwCl[11]? = some (RX12, TX12, 46) from rfl) rfl ⟨Nat.le_of_ble_eq_true rfl, Nat.le_of_ble_eq_true rfl⟩ ⟨Nat.le_refl _, Nat.le_refl _⟩ rfl (Nat.le_of_ble_eq_true rfl) dX12_isDoubts_16) hI (by decide) (fun r_9 σ_10 H locs hpσ_10 hkσ_10 hI => ?_)
  obtain ⟨ahpσ_10, bhpσ_10, chpσ_10, dhpσ_10⟩ := hpσ_10
  rw [ahpσ_10] at hI
  replace hF := q_letX hF dhpσ_10
  exact q_retz E hr hlk hI ⟨by omega, by omega⟩ ⟨rfl, ⟨by omega, by omega⟩, (by omega), (hF.trans hout)⟩ dX12_isDoubts_19

set_option maxRecDepth 100000 in
set_option maxHeartbeats 4000000 in
theorem c_X12_isHand (l : Launch) (X : XW) (σ : ST) (a : Nat) (ha : q_kd X a = 12) : Met l yX12_isHand (q_ws yX12_isHand cX12_isHand 1 (some .boolean)) (q_rm 1 27) (q_P X σ [.ref a]) (q_Qi X 9 σ (fun (r : Int32) (σ' : ST) => σ' = σ ∧ (0 ≤ r.toInt ∧ r.toInt ≤ 1) ∧ r = F_X12_isHand X σ a)) 0 0 (q_reg X) := by
  refine q_met 9 (by first | exact rfl | decide +kernel) rfl (Nat.le_of_ble_eq_true rfl) (fun p e s m below meth c E hml hr hlk hI ls hl => ?_)
  have hx := E.1
  have hb := E.2.1
  have hl : lv_has ls 1 [(0, .ref a)] := hl
  obtain ⟨out, hout⟩ : ∃ o, o = F_X12_isHand X σ a := ⟨_, rfl⟩
  have hF := hout.symm
  unfold F_X12_isHand at hF
  refine lv_aload_n hx hb dX12_isHand_0 rfl (lv_at hl 0 rfl) ?_
  refine lv_bipush (v := 104) hx hb dX12_isHand_1 (by decide) ?_
  refine lv_bipush (v := 97) hx hb dX12_isHand_3 (by decide) ?_
  refine lv_bipush (v := 110) hx hb dX12_isHand_5 (by decide) ?_
  refine lv_bipush (v := 100) hx hb dX12_isHand_7 (by decide) ?_
  refine lv_iconst (v := 0) hx hb dX12_isHand_9 (by decide) ?_
  refine lv_iconst (v := 0) hx hb dX12_isHand_10 (by decide) ?_
  have kc_1 : (104 : Int32).toInt = 104 := rfl
  have kc_2 : (97 : Int32).toInt = 97 := rfl
  have kc_3 : (110 : Int32).toInt = 110 := rfl
  have kc_4 : (100 : Int32).toInt = 100 := rfl
  have kc_5 : (0 : Int32).toInt = 0 := rfl
  have kc_6 : (0 : Int32).toInt = 0 := rfl
  refine q_cl_ (q_runS (As := [.int 104, .int 97, .int 110, .int 100, .int 0, .int 0]) (rest := [.ref a]) E (hml.trans hl.1.symm) hI (c_X12_spelled l X σ (104 : Int32) (97 : Int32) (110 : Int32) (100 : Int32) (0 : Int32) (0 : Int32)) ks_X12_135 rfl ⟨Nat.le_of_ble_eq_true rfl, Nat.le_of_ble_eq_true rfl⟩ ⟨Nat.le_refl _, Nat.le_refl _⟩ rfl (Nat.le_of_ble_eq_true rfl) dX12_isHand_11) hI (by decide) (fun r_7 σ_8 H locs hpσ_8 hkσ_8 hI => ?_)
  obtain ⟨ahpσ_8, bhpσ_8⟩ := hpσ_8
  rw [ahpσ_8] at hI
  replace hF := q_letX hF bhpσ_8
  refine q_ci (q_runV (As := [.long r_7]) (rest := []) E (hml.trans hl.1.symm) hI (c_X12_isWord l X σ a r_7 ha) kv_X12_139 ha ⟨rfl, by decide⟩ (show vwCl[11]? = some (RX12, TX12, 46) from rfl) rfl ⟨Nat.le_of_ble_eq_true rfl, Nat.le_of_ble_eq_true rfl⟩ ⟨Nat.le_refl _, Nat.le_refl _⟩ rfl (Nat.le_of_ble_eq_true rfl) dX12_isHand_14) hI (by decide) (fun r_9 σ_10 H locs hpσ_10 hkσ_10 hI => ?_)
  obtain ⟨ahpσ_10, bhpσ_10, chpσ_10, dhpσ_10⟩ := hpσ_10
  rw [ahpσ_10] at hI
  replace hF := q_letX hF dhpσ_10
  exact q_retz E hr hlk hI ⟨by omega, by omega⟩ ⟨rfl, ⟨by omega, by omega⟩, (hF.trans hout)⟩ dX12_isHand_17

set_option maxRecDepth 100000 in
set_option maxHeartbeats 4000000 in
theorem c_X12_isOf (l : Launch) (X : XW) (σ : ST) (a : Nat) (ha : q_kd X a = 12) : Met l yX12_isOf (q_ws yX12_isOf cX12_isOf 1 (some .boolean)) (q_rm 1 27) (q_P X σ [.ref a]) (q_Qi X 9 σ (fun (r : Int32) (σ' : ST) => σ' = σ ∧ (0 ≤ r.toInt ∧ r.toInt ≤ 1) ∧ r = F_X12_isOf X σ a)) 0 0 (q_reg X) := by
  refine q_met 9 (by first | exact rfl | decide +kernel) rfl (Nat.le_of_ble_eq_true rfl) (fun p e s m below meth c E hml hr hlk hI ls hl => ?_)
  have hx := E.1
  have hb := E.2.1
  have hl : lv_has ls 1 [(0, .ref a)] := hl
  obtain ⟨out, hout⟩ : ∃ o, o = F_X12_isOf X σ a := ⟨_, rfl⟩
  have hF := hout.symm
  unfold F_X12_isOf at hF
  refine lv_aload_n hx hb dX12_isOf_0 rfl (lv_at hl 0 rfl) ?_
  refine lv_bipush (v := 111) hx hb dX12_isOf_1 (by decide) ?_
  refine lv_bipush (v := 102) hx hb dX12_isOf_3 (by decide) ?_
  refine lv_iconst (v := 0) hx hb dX12_isOf_5 (by decide) ?_
  refine lv_iconst (v := 0) hx hb dX12_isOf_6 (by decide) ?_
  refine lv_iconst (v := 0) hx hb dX12_isOf_7 (by decide) ?_
  refine lv_iconst (v := 0) hx hb dX12_isOf_8 (by decide) ?_
  have kc_1 : (111 : Int32).toInt = 111 := rfl
  have kc_2 : (102 : Int32).toInt = 102 := rfl
  have kc_3 : (0 : Int32).toInt = 0 := rfl
  have kc_4 : (0 : Int32).toInt = 0 := rfl
  have kc_5 : (0 : Int32).toInt = 0 := rfl
  have kc_6 : (0 : Int32).toInt = 0 := rfl
  refine q_cl_ (q_runS (As := [.int 111, .int 102, .int 0, .int 0, .int 0, .int 0]) (rest := [.ref a]) E (hml.trans hl.1.symm) hI (c_X12_spelled l X σ (111 : Int32) (102 : Int32) (0 : Int32) (0 : Int32) (0 : Int32) (0 : Int32)) ks_X12_135 rfl ⟨Nat.le_of_ble_eq_true rfl, Nat.le_of_ble_eq_true rfl⟩ ⟨Nat.le_refl _, Nat.le_refl _⟩ rfl (Nat.le_of_ble_eq_true rfl) dX12_isOf_9) hI (by decide) (fun r_7 σ_8 H locs hpσ_8 hkσ_8 hI => ?_)
  obtain ⟨ahpσ_8, bhpσ_8⟩ := hpσ_8
  rw [ahpσ_8] at hI
  replace hF := q_letX hF bhpσ_8
  refine q_ci (q_runV (As := [.long r_7]) (rest := []) E (hml.trans hl.1.symm) hI (c_X12_isWord l X σ a r_7 ha) kv_X12_139 ha ⟨rfl, by decide⟩ (show vwCl[11]? = some (RX12, TX12, 46) from rfl) rfl ⟨Nat.le_of_ble_eq_true rfl, Nat.le_of_ble_eq_true rfl⟩ ⟨Nat.le_refl _, Nat.le_refl _⟩ rfl (Nat.le_of_ble_eq_true rfl) dX12_isOf_12) hI (by decide) (fun r_9 σ_10 H locs hpσ_10 hkσ_10 hI => ?_)
  obtain ⟨ahpσ_10, bhpσ_10, chpσ_10, dhpσ_10⟩ := hpσ_10
  rw [ahpσ_10] at hI
  replace hF := q_letX hF dhpσ_10
  exact q_retz E hr hlk hI ⟨by omega, by omega⟩ ⟨rfl, ⟨by omega, by omega⟩, (hF.trans hout)⟩ dX12_isOf_15

set_option maxRecDepth 100000 in
set_option maxHeartbeats 4000000 in
theorem c_X12_isEnd (l : Launch) (X : XW) (σ : ST) (a : Nat) (ha : q_kd X a = 12) : Met l yX12_isEnd (q_ws yX12_isEnd cX12_isEnd 1 (some .boolean)) (q_rm 1 27) (q_P X σ [.ref a]) (q_Qi X 9 σ (fun (r : Int32) (σ' : ST) => σ' = σ ∧ (0 ≤ r.toInt ∧ r.toInt ≤ 1) ∧ r = F_X12_isEnd X σ a)) 0 0 (q_reg X) := by
  refine q_met 9 (by first | exact rfl | decide +kernel) rfl (Nat.le_of_ble_eq_true rfl) (fun p e s m below meth c E hml hr hlk hI ls hl => ?_)
  have hx := E.1
  have hb := E.2.1
  have hl : lv_has ls 1 [(0, .ref a)] := hl
  obtain ⟨out, hout⟩ : ∃ o, o = F_X12_isEnd X σ a := ⟨_, rfl⟩
  have hF := hout.symm
  unfold F_X12_isEnd at hF
  refine lv_aload_n hx hb dX12_isEnd_0 rfl (lv_at hl 0 rfl) ?_
  refine lv_bipush (v := 101) hx hb dX12_isEnd_1 (by decide) ?_
  refine lv_bipush (v := 110) hx hb dX12_isEnd_3 (by decide) ?_
  refine lv_bipush (v := 100) hx hb dX12_isEnd_5 (by decide) ?_
  refine lv_iconst (v := 0) hx hb dX12_isEnd_7 (by decide) ?_
  refine lv_iconst (v := 0) hx hb dX12_isEnd_8 (by decide) ?_
  refine lv_iconst (v := 0) hx hb dX12_isEnd_9 (by decide) ?_
  have kc_1 : (101 : Int32).toInt = 101 := rfl
  have kc_2 : (110 : Int32).toInt = 110 := rfl
  have kc_3 : (100 : Int32).toInt = 100 := rfl
  have kc_4 : (0 : Int32).toInt = 0 := rfl
  have kc_5 : (0 : Int32).toInt = 0 := rfl
  have kc_6 : (0 : Int32).toInt = 0 := rfl
  refine q_cl_ (q_runS (As := [.int 101, .int 110, .int 100, .int 0, .int 0, .int 0]) (rest := [.ref a]) E (hml.trans hl.1.symm) hI (c_X12_spelled l X σ (101 : Int32) (110 : Int32) (100 : Int32) (0 : Int32) (0 : Int32) (0 : Int32)) ks_X12_135 rfl ⟨Nat.le_of_ble_eq_true rfl, Nat.le_of_ble_eq_true rfl⟩ ⟨Nat.le_refl _, Nat.le_refl _⟩ rfl (Nat.le_of_ble_eq_true rfl) dX12_isEnd_10) hI (by decide) (fun r_7 σ_8 H locs hpσ_8 hkσ_8 hI => ?_)
  obtain ⟨ahpσ_8, bhpσ_8⟩ := hpσ_8
  rw [ahpσ_8] at hI
  replace hF := q_letX hF bhpσ_8
  refine q_ci (q_runV (As := [.long r_7]) (rest := []) E (hml.trans hl.1.symm) hI (c_X12_isWord l X σ a r_7 ha) kv_X12_139 ha ⟨rfl, by decide⟩ (show vwCl[11]? = some (RX12, TX12, 46) from rfl) rfl ⟨Nat.le_of_ble_eq_true rfl, Nat.le_of_ble_eq_true rfl⟩ ⟨Nat.le_refl _, Nat.le_refl _⟩ rfl (Nat.le_of_ble_eq_true rfl) dX12_isEnd_13) hI (by decide) (fun r_9 σ_10 H locs hpσ_10 hkσ_10 hI => ?_)
  obtain ⟨ahpσ_10, bhpσ_10, chpσ_10, dhpσ_10⟩ := hpσ_10
  rw [ahpσ_10] at hI
  replace hF := q_letX hF dhpσ_10
  exact q_retz E hr hlk hI ⟨by omega, by omega⟩ ⟨rfl, ⟨by omega, by omega⟩, (hF.trans hout)⟩ dX12_isEnd_16

set_option maxRecDepth 100000 in
set_option maxHeartbeats 4000000 in
theorem c_X12_lawWord (l : Launch) (X : XW) (σ : ST) (a : Nat) (ha : q_kd X a = 12) : Met l yX12_lawWord (q_ws yX12_lawWord cX12_lawWord 1 (some .int)) (q_rm 1 27) (q_P X σ [.ref a]) (q_Qi X 9 σ (fun (r : Int32) (σ' : ST) => σ' = σ ∧ (-1 ≤ r.toInt ∧ r.toInt ≤ 2) ∧ r = F_X12_lawWord X σ a)) 0 0 (q_reg X) := by
  refine q_met 9 (by first | exact rfl | decide +kernel) rfl (Nat.le_of_ble_eq_true rfl) (fun p e s m below meth c E hml hr hlk hI ls hl => ?_)
  have hx := E.1
  have hb := E.2.1
  have hl : lv_has ls 1 [(0, .ref a)] := hl
  obtain ⟨out, hout⟩ : ∃ o, o = F_X12_lawWord X σ a := ⟨_, rfl⟩
  have hF := hout.symm
  unfold F_X12_lawWord at hF
  refine lv_aload_n hx hb dX12_lawWord_0 rfl (lv_at hl 0 rfl) ?_
  refine lv_bipush (v := 117) hx hb dX12_lawWord_1 (by decide) ?_
  refine lv_bipush (v := 112) hx hb dX12_lawWord_3 (by decide) ?_
  refine lv_iconst (v := 0) hx hb dX12_lawWord_5 (by decide) ?_
  refine lv_iconst (v := 0) hx hb dX12_lawWord_6 (by decide) ?_
  refine lv_iconst (v := 0) hx hb dX12_lawWord_7 (by decide) ?_
  refine lv_iconst (v := 0) hx hb dX12_lawWord_8 (by decide) ?_
  have kc_1 : (117 : Int32).toInt = 117 := rfl
  have kc_2 : (112 : Int32).toInt = 112 := rfl
  have kc_3 : (0 : Int32).toInt = 0 := rfl
  have kc_4 : (0 : Int32).toInt = 0 := rfl
  have kc_5 : (0 : Int32).toInt = 0 := rfl
  have kc_6 : (0 : Int32).toInt = 0 := rfl
  refine q_cl_ (q_runS (As := [.int 117, .int 112, .int 0, .int 0, .int 0, .int 0]) (rest := [.ref a]) E (hml.trans hl.1.symm) hI (c_X12_spelled l X σ (117 : Int32) (112 : Int32) (0 : Int32) (0 : Int32) (0 : Int32) (0 : Int32)) ks_X12_135 rfl ⟨Nat.le_of_ble_eq_true rfl, Nat.le_of_ble_eq_true rfl⟩ ⟨Nat.le_refl _, Nat.le_refl _⟩ rfl (Nat.le_of_ble_eq_true rfl) dX12_lawWord_9) hI (by decide) (fun r_7 σ_8 H locs hpσ_8 hkσ_8 hI => ?_)
  obtain ⟨ahpσ_8, bhpσ_8⟩ := hpσ_8
  rw [ahpσ_8] at hI
  replace hF := q_letX hF bhpσ_8
  refine q_ci (q_runV (As := [.long r_7]) (rest := []) E (hml.trans hl.1.symm) hI (c_X12_isWord l X σ a r_7 ha) kv_X12_139 ha ⟨rfl, by decide⟩ (show vwCl[11]? = some (RX12, TX12, 46) from rfl) rfl ⟨Nat.le_of_ble_eq_true rfl, Nat.le_of_ble_eq_true rfl⟩ ⟨Nat.le_refl _, Nat.le_refl _⟩ rfl (Nat.le_of_ble_eq_true rfl) dX12_lawWord_12) hI (by decide) (fun r_9 σ_10 H locs hpσ_10 hkσ_10 hI => ?_)
  obtain ⟨ahpσ_10, bhpσ_10, chpσ_10, dhpσ_10⟩ := hpσ_10
  rw [ahpσ_10] at hI
  replace hF := q_letX hF dhpσ_10
  refine q_if_eq (A := r_9.toInt) E rfl (tgt := 20) dX12_lawWord_15 (by decide) (fun c_11 => ?_) (fun c_11 => ?_)
  · skip
    replace hF := q_ifp hF c_11
    clear chpσ_10
    refine lv_aload_n hx hb dX12_lawWord_20 rfl (lv_at hl 0 rfl) ?_
    refine lv_bipush (v := 100) hx hb dX12_lawWord_21 (by decide) ?_
    refine lv_bipush (v := 111) hx hb dX12_lawWord_23 (by decide) ?_
    refine lv_bipush (v := 119) hx hb dX12_lawWord_25 (by decide) ?_
    refine lv_bipush (v := 110) hx hb dX12_lawWord_27 (by decide) ?_
    refine lv_iconst (v := 0) hx hb dX12_lawWord_29 (by decide) ?_
    refine lv_iconst (v := 0) hx hb dX12_lawWord_30 (by decide) ?_
    have kc_12 : (100 : Int32).toInt = 100 := rfl
    have kc_13 : (111 : Int32).toInt = 111 := rfl
    have kc_14 : (119 : Int32).toInt = 119 := rfl
    have kc_15 : (110 : Int32).toInt = 110 := rfl
    have kc_16 : (0 : Int32).toInt = 0 := rfl
    have kc_17 : (0 : Int32).toInt = 0 := rfl
    refine q_cl_ (q_runS (As := [.int 100, .int 111, .int 119, .int 110, .int 0, .int 0]) (rest := [.ref a]) E (hml.trans hl.1.symm) hI (c_X12_spelled l X σ (100 : Int32) (111 : Int32) (119 : Int32) (110 : Int32) (0 : Int32) (0 : Int32)) ks_X12_135 rfl ⟨Nat.le_of_ble_eq_true rfl, Nat.le_of_ble_eq_true rfl⟩ ⟨Nat.le_refl _, Nat.le_refl _⟩ rfl (Nat.le_of_ble_eq_true rfl) dX12_lawWord_31) hI (by decide) (fun r_18 σ_19 H locs hpσ_19 hkσ_19 hI => ?_)
    obtain ⟨ahpσ_19, bhpσ_19⟩ := hpσ_19
    rw [ahpσ_19] at hI
    replace hF := q_letX hF bhpσ_19
    refine q_ci (q_runV (As := [.long r_18]) (rest := []) E (hml.trans hl.1.symm) hI (c_X12_isWord l X σ a r_18 ha) kv_X12_139 ha ⟨rfl, by decide⟩ (show vwCl[11]? = some (RX12, TX12, 46) from rfl) rfl ⟨Nat.le_of_ble_eq_true rfl, Nat.le_of_ble_eq_true rfl⟩ ⟨Nat.le_refl _, Nat.le_refl _⟩ rfl (Nat.le_of_ble_eq_true rfl) dX12_lawWord_34) hI (by decide) (fun r_20 σ_21 H locs hpσ_21 hkσ_21 hI => ?_)
    obtain ⟨ahpσ_21, bhpσ_21, chpσ_21, dhpσ_21⟩ := hpσ_21
    rw [ahpσ_21] at hI
    replace hF := q_letX hF dhpσ_21
    refine q_if_eq (A := r_20.toInt) E rfl (tgt := 42) dX12_lawWord_37 (by decide) (fun c_22 => ?_) (fun c_22 => ?_)
    · skip
      replace hF := q_ifp hF c_22
      clear chpσ_21
      refine lv_aload_n hx hb dX12_lawWord_42 rfl (lv_at hl 0 rfl) ?_
      refine lv_bipush (v := 115) hx hb dX12_lawWord_43 (by decide) ?_
      refine lv_bipush (v := 97) hx hb dX12_lawWord_45 (by decide) ?_
      refine lv_bipush (v := 109) hx hb dX12_lawWord_47 (by decide) ?_
      refine lv_bipush (v := 101) hx hb dX12_lawWord_49 (by decide) ?_
      refine lv_iconst (v := 0) hx hb dX12_lawWord_51 (by decide) ?_
      refine lv_iconst (v := 0) hx hb dX12_lawWord_52 (by decide) ?_
      have kc_23 : (115 : Int32).toInt = 115 := rfl
      have kc_24 : (97 : Int32).toInt = 97 := rfl
      have kc_25 : (109 : Int32).toInt = 109 := rfl
      have kc_26 : (101 : Int32).toInt = 101 := rfl
      have kc_27 : (0 : Int32).toInt = 0 := rfl
      have kc_28 : (0 : Int32).toInt = 0 := rfl
      refine q_cl_ (q_runS (As := [.int 115, .int 97, .int 109, .int 101, .int 0, .int 0]) (rest := [.ref a]) E (hml.trans hl.1.symm) hI (c_X12_spelled l X σ (115 : Int32) (97 : Int32) (109 : Int32) (101 : Int32) (0 : Int32) (0 : Int32)) ks_X12_135 rfl ⟨Nat.le_of_ble_eq_true rfl, Nat.le_of_ble_eq_true rfl⟩ ⟨Nat.le_refl _, Nat.le_refl _⟩ rfl (Nat.le_of_ble_eq_true rfl) dX12_lawWord_53) hI (by decide) (fun r_29 σ_30 H locs hpσ_30 hkσ_30 hI => ?_)
      obtain ⟨ahpσ_30, bhpσ_30⟩ := hpσ_30
      rw [ahpσ_30] at hI
      replace hF := q_letX hF bhpσ_30
      refine q_ci (q_runV (As := [.long r_29]) (rest := []) E (hml.trans hl.1.symm) hI (c_X12_isWord l X σ a r_29 ha) kv_X12_139 ha ⟨rfl, by decide⟩ (show vwCl[11]? = some (RX12, TX12, 46) from rfl) rfl ⟨Nat.le_of_ble_eq_true rfl, Nat.le_of_ble_eq_true rfl⟩ ⟨Nat.le_refl _, Nat.le_refl _⟩ rfl (Nat.le_of_ble_eq_true rfl) dX12_lawWord_56) hI (by decide) (fun r_31 σ_32 H locs hpσ_32 hkσ_32 hI => ?_)
      obtain ⟨ahpσ_32, bhpσ_32, chpσ_32, dhpσ_32⟩ := hpσ_32
      rw [ahpσ_32] at hI
      replace hF := q_letX hF dhpσ_32
      refine q_if_eq (A := r_31.toInt) E rfl (tgt := 66) dX12_lawWord_59 (by decide) (fun c_33 => ?_) (fun c_33 => ?_)
      · skip
        replace hF := q_ifp hF c_33
        clear chpσ_32
        refine lv_iconst (v := (-1)) hx hb dX12_lawWord_66 (by decide) ?_
        have hrv : ((-1) : Int32).toInt = (-1) := rfl
        exact q_reti E hr hlk hI ⟨rfl, (by first | (clear kc_1 kc_2 kc_3 kc_4 kc_5 kc_6 ahpσ_8 bhpσ_8 ahpσ_10 bhpσ_10 dhpσ_10 c_11 kc_12 kc_13 kc_14 kc_15 kc_16 kc_17 ahpσ_19 bhpσ_19 ahpσ_21 bhpσ_21 dhpσ_21 c_22 kc_23 kc_24 kc_25 kc_26 kc_27 kc_28 ahpσ_30 bhpσ_30 ahpσ_32 bhpσ_32 dhpσ_32 c_33; omega) | omega), (hF.trans hout)⟩ dX12_lawWord_67
      · skip
        replace hF := q_ifn hF c_33
        replace c_33 := q_ifOne bhpσ_32 c_33
        replace chpσ_32 := chpσ_32 c_33
        refine lv_iconst (v := 2) hx hb dX12_lawWord_62 (by decide) ?_
        refine lv_goto (tgt := 67) hx hb dX12_lawWord_63 (by decide) ?_
        have hrv : (2 : Int32).toInt = 2 := rfl
        exact q_reti E hr hlk hI ⟨rfl, (by first | (clear kc_1 kc_2 kc_3 kc_4 kc_5 kc_6 ahpσ_8 bhpσ_8 ahpσ_10 bhpσ_10 dhpσ_10 c_11 kc_12 kc_13 kc_14 kc_15 kc_16 kc_17 ahpσ_19 bhpσ_19 ahpσ_21 bhpσ_21 dhpσ_21 c_22 kc_23 kc_24 kc_25 kc_26 kc_27 kc_28 ahpσ_30 bhpσ_30 ahpσ_32 bhpσ_32 dhpσ_32 c_33 chpσ_32; omega) | omega), (hF.trans hout)⟩ dX12_lawWord_67
    · skip
      replace hF := q_ifn hF c_22
      replace c_22 := q_ifOne bhpσ_21 c_22
      replace chpσ_21 := chpσ_21 c_22
      refine lv_iconst (v := 1) hx hb dX12_lawWord_40 (by decide) ?_
      have hrv : (1 : Int32).toInt = 1 := rfl
      exact q_reti E hr hlk hI ⟨rfl, (by first | (clear kc_1 kc_2 kc_3 kc_4 kc_5 kc_6 ahpσ_8 bhpσ_8 ahpσ_10 bhpσ_10 dhpσ_10 c_11 kc_12 kc_13 kc_14 kc_15 kc_16 kc_17 ahpσ_19 bhpσ_19 ahpσ_21 bhpσ_21 dhpσ_21 c_22 chpσ_21; omega) | omega), (hF.trans hout)⟩ dX12_lawWord_41
  · skip
    replace hF := q_ifn hF c_11
    replace c_11 := q_ifOne bhpσ_10 c_11
    replace chpσ_10 := chpσ_10 c_11
    refine lv_iconst (v := 0) hx hb dX12_lawWord_18 (by decide) ?_
    have hrv : (0 : Int32).toInt = 0 := rfl
    exact q_reti E hr hlk hI ⟨rfl, (by first | (clear kc_1 kc_2 kc_4 kc_5 kc_6 ahpσ_8 bhpσ_8 ahpσ_10 bhpσ_10 dhpσ_10 c_11 chpσ_10 hrv; omega) | omega), (hF.trans hout)⟩ dX12_lawWord_19

set_option maxRecDepth 100000 in
set_option maxHeartbeats 4000000 in
theorem c_X12_stepWord (l : Launch) (X : XW) (σ : ST) (a : Nat) (ha : q_kd X a = 12) (ht : 0 ≤ (σ.1 a 14).toInt) : Met l yX12_stepWord (q_ws yX12_stepWord cX12_stepWord 1 (some .int)) (q_rm 2 47) (q_P X σ [.ref a]) (q_Qi X 9 σ (fun (r : Int32) (σ' : ST) => σ' = σ ∧ (-1 ≤ r.toInt ∧ r.toInt ≤ 5) ∧ (r.toInt + 1 ≤ 6 * (σ.1 a 14).toInt) ∧ r = F_X12_stepWord X σ a)) 0 0 (q_reg X) := by
  refine q_met 9 (by first | exact rfl | decide +kernel) rfl (Nat.le_of_ble_eq_true rfl) (fun p e s m below meth c E hml hr hlk hI ls hl => ?_)
  have hx := E.1
  have hb := E.2.1
  have hl : lv_has ls 1 [(0, .ref a)] := hl
  obtain ⟨out, hout⟩ : ∃ o, o = F_X12_stepWord X σ a := ⟨_, rfl⟩
  have hF := hout.symm
  unfold F_X12_stepWord at hF
  refine lv_aload_n hx hb dX12_stepWord_0 rfl (lv_at hl 0 rfl) ?_
  refine lv_bipush (v := 116) hx hb dX12_stepWord_1 (by decide) ?_
  refine lv_bipush (v := 117) hx hb dX12_stepWord_3 (by decide) ?_
  refine lv_bipush (v := 114) hx hb dX12_stepWord_5 (by decide) ?_
  refine lv_bipush (v := 110) hx hb dX12_stepWord_7 (by decide) ?_
  refine lv_iconst (v := 0) hx hb dX12_stepWord_9 (by decide) ?_
  refine lv_iconst (v := 0) hx hb dX12_stepWord_10 (by decide) ?_
  have kc_1 : (116 : Int32).toInt = 116 := rfl
  have kc_2 : (117 : Int32).toInt = 117 := rfl
  have kc_3 : (114 : Int32).toInt = 114 := rfl
  have kc_4 : (110 : Int32).toInt = 110 := rfl
  have kc_5 : (0 : Int32).toInt = 0 := rfl
  have kc_6 : (0 : Int32).toInt = 0 := rfl
  refine q_cl_ (q_runS (As := [.int 116, .int 117, .int 114, .int 110, .int 0, .int 0]) (rest := [.ref a]) E (hml.trans hl.1.symm) hI (c_X12_spelled l X σ (116 : Int32) (117 : Int32) (114 : Int32) (110 : Int32) (0 : Int32) (0 : Int32)) ks_X12_135 rfl ⟨Nat.le_of_ble_eq_true rfl, Nat.le_of_ble_eq_true rfl⟩ ⟨Nat.le_refl _, Nat.le_refl _⟩ rfl (Nat.le_of_ble_eq_true rfl) dX12_stepWord_11) hI (by decide) (fun r_7 σ_8 H locs hpσ_8 hkσ_8 hI => ?_)
  obtain ⟨ahpσ_8, bhpσ_8⟩ := hpσ_8
  rw [ahpσ_8] at hI
  replace hF := q_letX hF bhpσ_8
  refine q_ci (q_runV (As := [.long r_7]) (rest := []) E (hml.trans hl.1.symm) hI (c_X12_isWord l X σ a r_7 ha) kv_X12_139 ha ⟨rfl, by decide⟩ (show vwCl[11]? = some (RX12, TX12, 46) from rfl) rfl ⟨Nat.le_of_ble_eq_true rfl, Nat.le_of_ble_eq_true rfl⟩ ⟨Nat.le_refl _, Nat.le_refl _⟩ rfl (Nat.le_of_ble_eq_true rfl) dX12_stepWord_14) hI (by decide) (fun r_9 σ_10 H locs hpσ_10 hkσ_10 hI => ?_)
  obtain ⟨ahpσ_10, bhpσ_10, chpσ_10, dhpσ_10⟩ := hpσ_10
  rw [ahpσ_10] at hI
  replace hF := q_letX hF dhpσ_10
  refine q_if_eq (A := r_9.toInt) E rfl (tgt := 22) dX12_stepWord_17 (by decide) (fun c_11 => ?_) (fun c_11 => ?_)
  · skip
    replace hF := q_ifp hF c_11
    clear chpσ_10
    refine lv_aload_n hx hb dX12_stepWord_22 rfl (lv_at hl 0 rfl) ?_
    refine q_ci (q_runV (As := []) (rest := []) E (hml.trans hl.1.symm) hI (c_X12_isLies l X σ a ha) kv_X12_143 ha ⟨rfl, by decide⟩ (show vwCl[11]? = some (RX12, TX12, 46) from rfl) rfl ⟨Nat.le_of_ble_eq_true rfl, Nat.le_of_ble_eq_true rfl⟩ ⟨Nat.le_refl _, Nat.le_refl _⟩ rfl (Nat.le_of_ble_eq_true rfl) dX12_stepWord_23) hI (by decide) (fun r_12 σ_13 H locs hpσ_13 hkσ_13 hI => ?_)
    obtain ⟨ahpσ_13, bhpσ_13, chpσ_13, dhpσ_13⟩ := hpσ_13
    rw [ahpσ_13] at hI
    replace hF := q_letX hF dhpσ_13
    refine q_if_eq (A := r_12.toInt) E rfl (tgt := 31) dX12_stepWord_26 (by decide) (fun c_14 => ?_) (fun c_14 => ?_)
    · skip
      replace hF := q_ifp hF c_14
      clear chpσ_13
      refine lv_aload_n hx hb dX12_stepWord_31 rfl (lv_at hl 0 rfl) ?_
      refine q_ci (q_runV (As := []) (rest := []) E (hml.trans hl.1.symm) hI (c_X12_isDoubts l X σ a ha) kv_X12_147 ha ⟨rfl, by decide⟩ (show vwCl[11]? = some (RX12, TX12, 46) from rfl) rfl ⟨Nat.le_of_ble_eq_true rfl, Nat.le_of_ble_eq_true rfl⟩ ⟨Nat.le_refl _, Nat.le_refl _⟩ rfl (Nat.le_of_ble_eq_true rfl) dX12_stepWord_32) hI (by decide) (fun r_15 σ_16 H locs hpσ_16 hkσ_16 hI => ?_)
      obtain ⟨ahpσ_16, bhpσ_16, chpσ_16, dhpσ_16⟩ := hpσ_16
      rw [ahpσ_16] at hI
      replace hF := q_letX hF dhpσ_16
      refine q_if_eq (A := r_15.toInt) E rfl (tgt := 40) dX12_stepWord_35 (by decide) (fun c_17 => ?_) (fun c_17 => ?_)
      · skip
        replace hF := q_ifp hF c_17
        clear chpσ_16
        refine lv_aload_n hx hb dX12_stepWord_40 rfl (lv_at hl 0 rfl) ?_
        refine lv_bipush (v := 119) hx hb dX12_stepWord_41 (by decide) ?_
        refine lv_bipush (v := 104) hx hb dX12_stepWord_43 (by decide) ?_
        refine lv_bipush (v := 101) hx hb dX12_stepWord_45 (by decide) ?_
        refine lv_bipush (v := 110) hx hb dX12_stepWord_47 (by decide) ?_
        refine lv_iconst (v := 0) hx hb dX12_stepWord_49 (by decide) ?_
        refine lv_iconst (v := 0) hx hb dX12_stepWord_50 (by decide) ?_
        have kc_18 : (119 : Int32).toInt = 119 := rfl
        have kc_19 : (104 : Int32).toInt = 104 := rfl
        have kc_20 : (101 : Int32).toInt = 101 := rfl
        have kc_21 : (110 : Int32).toInt = 110 := rfl
        have kc_22 : (0 : Int32).toInt = 0 := rfl
        have kc_23 : (0 : Int32).toInt = 0 := rfl
        refine q_cl_ (q_runS (As := [.int 119, .int 104, .int 101, .int 110, .int 0, .int 0]) (rest := [.ref a]) E (hml.trans hl.1.symm) hI (c_X12_spelled l X σ (119 : Int32) (104 : Int32) (101 : Int32) (110 : Int32) (0 : Int32) (0 : Int32)) ks_X12_135 rfl ⟨Nat.le_of_ble_eq_true rfl, Nat.le_of_ble_eq_true rfl⟩ ⟨Nat.le_refl _, Nat.le_refl _⟩ rfl (Nat.le_of_ble_eq_true rfl) dX12_stepWord_51) hI (by decide) (fun r_24 σ_25 H locs hpσ_25 hkσ_25 hI => ?_)
        obtain ⟨ahpσ_25, bhpσ_25⟩ := hpσ_25
        rw [ahpσ_25] at hI
        replace hF := q_letX hF bhpσ_25
        refine q_ci (q_runV (As := [.long r_24]) (rest := []) E (hml.trans hl.1.symm) hI (c_X12_isWord l X σ a r_24 ha) kv_X12_139 ha ⟨rfl, by decide⟩ (show vwCl[11]? = some (RX12, TX12, 46) from rfl) rfl ⟨Nat.le_of_ble_eq_true rfl, Nat.le_of_ble_eq_true rfl⟩ ⟨Nat.le_refl _, Nat.le_refl _⟩ rfl (Nat.le_of_ble_eq_true rfl) dX12_stepWord_54) hI (by decide) (fun r_26 σ_27 H locs hpσ_27 hkσ_27 hI => ?_)
        obtain ⟨ahpσ_27, bhpσ_27, chpσ_27, dhpσ_27⟩ := hpσ_27
        rw [ahpσ_27] at hI
        replace hF := q_letX hF dhpσ_27
        refine q_if_eq (A := r_26.toInt) E rfl (tgt := 62) dX12_stepWord_57 (by decide) (fun c_28 => ?_) (fun c_28 => ?_)
        · skip
          replace hF := q_ifp hF c_28
          clear chpσ_27
          refine lv_aload_n hx hb dX12_stepWord_62 rfl (lv_at hl 0 rfl) ?_
          refine lv_bipush (v := 108) hx hb dX12_stepWord_63 (by decide) ?_
          refine lv_bipush (v := 111) hx hb dX12_stepWord_65 (by decide) ?_
          refine lv_bipush (v := 111) hx hb dX12_stepWord_67 (by decide) ?_
          refine lv_bipush (v := 112) hx hb dX12_stepWord_69 (by decide) ?_
          refine lv_iconst (v := 0) hx hb dX12_stepWord_71 (by decide) ?_
          refine lv_iconst (v := 0) hx hb dX12_stepWord_72 (by decide) ?_
          have kc_29 : (108 : Int32).toInt = 108 := rfl
          have kc_30 : (111 : Int32).toInt = 111 := rfl
          have kc_31 : (111 : Int32).toInt = 111 := rfl
          have kc_32 : (112 : Int32).toInt = 112 := rfl
          have kc_33 : (0 : Int32).toInt = 0 := rfl
          have kc_34 : (0 : Int32).toInt = 0 := rfl
          refine q_cl_ (q_runS (As := [.int 108, .int 111, .int 111, .int 112, .int 0, .int 0]) (rest := [.ref a]) E (hml.trans hl.1.symm) hI (c_X12_spelled l X σ (108 : Int32) (111 : Int32) (111 : Int32) (112 : Int32) (0 : Int32) (0 : Int32)) ks_X12_135 rfl ⟨Nat.le_of_ble_eq_true rfl, Nat.le_of_ble_eq_true rfl⟩ ⟨Nat.le_refl _, Nat.le_refl _⟩ rfl (Nat.le_of_ble_eq_true rfl) dX12_stepWord_73) hI (by decide) (fun r_35 σ_36 H locs hpσ_36 hkσ_36 hI => ?_)
          obtain ⟨ahpσ_36, bhpσ_36⟩ := hpσ_36
          rw [ahpσ_36] at hI
          replace hF := q_letX hF bhpσ_36
          refine q_ci (q_runV (As := [.long r_35]) (rest := []) E (hml.trans hl.1.symm) hI (c_X12_isWord l X σ a r_35 ha) kv_X12_139 ha ⟨rfl, by decide⟩ (show vwCl[11]? = some (RX12, TX12, 46) from rfl) rfl ⟨Nat.le_of_ble_eq_true rfl, Nat.le_of_ble_eq_true rfl⟩ ⟨Nat.le_refl _, Nat.le_refl _⟩ rfl (Nat.le_of_ble_eq_true rfl) dX12_stepWord_76) hI (by decide) (fun r_37 σ_38 H locs hpσ_38 hkσ_38 hI => ?_)
          obtain ⟨ahpσ_38, bhpσ_38, chpσ_38, dhpσ_38⟩ := hpσ_38
          rw [ahpσ_38] at hI
          replace hF := q_letX hF dhpσ_38
          refine q_if_eq (A := r_37.toInt) E rfl (tgt := 84) dX12_stepWord_79 (by decide) (fun c_39 => ?_) (fun c_39 => ?_)
          · skip
            replace hF := q_ifp hF c_39
            clear chpσ_38
            refine lv_aload_n hx hb dX12_stepWord_84 rfl (lv_at hl 0 rfl) ?_
            refine lv_bipush (v := 115) hx hb dX12_stepWord_85 (by decide) ?_
            refine lv_bipush (v := 116) hx hb dX12_stepWord_87 (by decide) ?_
            refine lv_bipush (v := 111) hx hb dX12_stepWord_89 (by decide) ?_
            refine lv_bipush (v := 112) hx hb dX12_stepWord_91 (by decide) ?_
            refine lv_iconst (v := 0) hx hb dX12_stepWord_93 (by decide) ?_
            refine lv_iconst (v := 0) hx hb dX12_stepWord_94 (by decide) ?_
            have kc_40 : (115 : Int32).toInt = 115 := rfl
            have kc_41 : (116 : Int32).toInt = 116 := rfl
            have kc_42 : (111 : Int32).toInt = 111 := rfl
            have kc_43 : (112 : Int32).toInt = 112 := rfl
            have kc_44 : (0 : Int32).toInt = 0 := rfl
            have kc_45 : (0 : Int32).toInt = 0 := rfl
            refine q_cl_ (q_runS (As := [.int 115, .int 116, .int 111, .int 112, .int 0, .int 0]) (rest := [.ref a]) E (hml.trans hl.1.symm) hI (c_X12_spelled l X σ (115 : Int32) (116 : Int32) (111 : Int32) (112 : Int32) (0 : Int32) (0 : Int32)) ks_X12_135 rfl ⟨Nat.le_of_ble_eq_true rfl, Nat.le_of_ble_eq_true rfl⟩ ⟨Nat.le_refl _, Nat.le_refl _⟩ rfl (Nat.le_of_ble_eq_true rfl) dX12_stepWord_95) hI (by decide) (fun r_46 σ_47 H locs hpσ_47 hkσ_47 hI => ?_)
            obtain ⟨ahpσ_47, bhpσ_47⟩ := hpσ_47
            rw [ahpσ_47] at hI
            replace hF := q_letX hF bhpσ_47
            refine q_ci (q_runV (As := [.long r_46]) (rest := []) E (hml.trans hl.1.symm) hI (c_X12_isWord l X σ a r_46 ha) kv_X12_139 ha ⟨rfl, by decide⟩ (show vwCl[11]? = some (RX12, TX12, 46) from rfl) rfl ⟨Nat.le_of_ble_eq_true rfl, Nat.le_of_ble_eq_true rfl⟩ ⟨Nat.le_refl _, Nat.le_refl _⟩ rfl (Nat.le_of_ble_eq_true rfl) dX12_stepWord_98) hI (by decide) (fun r_48 σ_49 H locs hpσ_49 hkσ_49 hI => ?_)
            obtain ⟨ahpσ_49, bhpσ_49, chpσ_49, dhpσ_49⟩ := hpσ_49
            rw [ahpσ_49] at hI
            replace hF := q_letX hF dhpσ_49
            refine q_if_eq (A := r_48.toInt) E rfl (tgt := 108) dX12_stepWord_101 (by decide) (fun c_50 => ?_) (fun c_50 => ?_)
            · skip
              replace hF := q_ifp hF c_50
              clear chpσ_49
              refine lv_iconst (v := (-1)) hx hb dX12_stepWord_108 (by decide) ?_
              have hrv : ((-1) : Int32).toInt = (-1) := rfl
              exact q_reti E hr hlk hI ⟨rfl, (by first | (clear ht kc_1 kc_2 kc_3 kc_4 kc_5 kc_6 ahpσ_8 bhpσ_8 ahpσ_10 bhpσ_10 dhpσ_10 c_11 ahpσ_13 bhpσ_13 dhpσ_13 c_14 ahpσ_16 bhpσ_16 dhpσ_16 c_17 kc_18 kc_19 kc_20 kc_21 kc_22 kc_23 ahpσ_25 bhpσ_25 ahpσ_27 bhpσ_27 dhpσ_27 c_28 kc_29 kc_30 kc_31 kc_32 kc_33 kc_34 ahpσ_36 bhpσ_36 ahpσ_38 bhpσ_38 dhpσ_38 c_39 kc_40 kc_41 kc_42 kc_43 kc_44 kc_45 ahpσ_47 bhpσ_47 ahpσ_49 bhpσ_49 dhpσ_49 c_50; omega) | omega), (by first | (clear kc_1 kc_2 kc_3 kc_4 kc_5 kc_6 ahpσ_8 bhpσ_8 ahpσ_10 bhpσ_10 dhpσ_10 c_11 ahpσ_13 bhpσ_13 dhpσ_13 c_14 ahpσ_16 bhpσ_16 dhpσ_16 c_17 kc_18 kc_19 kc_20 kc_21 kc_22 kc_23 ahpσ_25 bhpσ_25 ahpσ_27 bhpσ_27 dhpσ_27 c_28 kc_29 kc_30 kc_31 kc_32 kc_33 kc_34 ahpσ_36 bhpσ_36 ahpσ_38 bhpσ_38 dhpσ_38 c_39 kc_40 kc_41 kc_42 kc_43 kc_44 kc_45 ahpσ_47 bhpσ_47 ahpσ_49 bhpσ_49 dhpσ_49 c_50; omega) | omega), (hF.trans hout)⟩ dX12_stepWord_109
            · skip
              replace hF := q_ifn hF c_50
              replace c_50 := q_ifOne bhpσ_49 c_50
              replace chpσ_49 := chpσ_49 c_50
              refine lv_iconst (v := 5) hx hb dX12_stepWord_104 (by decide) ?_
              refine lv_goto (tgt := 109) hx hb dX12_stepWord_105 (by decide) ?_
              have hrv : (5 : Int32).toInt = 5 := rfl
              exact q_reti E hr hlk hI ⟨rfl, (by first | (clear ht kc_1 kc_2 kc_3 kc_4 kc_5 kc_6 ahpσ_8 bhpσ_8 ahpσ_10 bhpσ_10 dhpσ_10 c_11 ahpσ_13 bhpσ_13 dhpσ_13 c_14 ahpσ_16 bhpσ_16 dhpσ_16 c_17 kc_18 kc_19 kc_20 kc_21 kc_22 kc_23 ahpσ_25 bhpσ_25 ahpσ_27 bhpσ_27 dhpσ_27 c_28 kc_29 kc_30 kc_31 kc_32 kc_33 kc_34 ahpσ_36 bhpσ_36 ahpσ_38 bhpσ_38 dhpσ_38 c_39 kc_40 kc_41 kc_42 kc_43 kc_44 kc_45 ahpσ_47 bhpσ_47 ahpσ_49 bhpσ_49 dhpσ_49 c_50 chpσ_49; omega) | omega), (by first | (clear ht kc_1 kc_2 kc_3 kc_4 kc_5 kc_6 ahpσ_8 bhpσ_8 ahpσ_10 bhpσ_10 dhpσ_10 c_11 ahpσ_13 bhpσ_13 dhpσ_13 c_14 ahpσ_16 bhpσ_16 dhpσ_16 c_17 kc_18 kc_19 kc_20 kc_21 kc_22 kc_23 ahpσ_25 bhpσ_25 ahpσ_27 bhpσ_27 dhpσ_27 c_28 kc_29 kc_30 kc_31 kc_32 kc_33 kc_34 ahpσ_36 bhpσ_36 ahpσ_38 bhpσ_38 dhpσ_38 c_39 kc_40 kc_41 kc_42 kc_43 kc_44 kc_45 ahpσ_47 bhpσ_47 ahpσ_49 bhpσ_49 dhpσ_49 c_50; omega) | omega), (hF.trans hout)⟩ dX12_stepWord_109
          · skip
            replace hF := q_ifn hF c_39
            replace c_39 := q_ifOne bhpσ_38 c_39
            replace chpσ_38 := chpσ_38 c_39
            refine lv_iconst (v := 4) hx hb dX12_stepWord_82 (by decide) ?_
            have hrv : (4 : Int32).toInt = 4 := rfl
            exact q_reti E hr hlk hI ⟨rfl, (by first | (clear ht kc_1 kc_2 kc_3 kc_4 kc_5 kc_6 ahpσ_8 bhpσ_8 ahpσ_10 bhpσ_10 dhpσ_10 c_11 ahpσ_13 bhpσ_13 dhpσ_13 c_14 ahpσ_16 bhpσ_16 dhpσ_16 c_17 kc_18 kc_19 kc_20 kc_21 kc_22 kc_23 ahpσ_25 bhpσ_25 ahpσ_27 bhpσ_27 dhpσ_27 c_28 kc_29 kc_30 kc_31 kc_32 kc_33 kc_34 ahpσ_36 bhpσ_36 ahpσ_38 bhpσ_38 dhpσ_38 c_39 chpσ_38; omega) | omega), (by first | (clear ht kc_1 kc_2 kc_3 kc_4 kc_5 kc_6 ahpσ_8 bhpσ_8 ahpσ_10 bhpσ_10 dhpσ_10 c_11 ahpσ_13 bhpσ_13 dhpσ_13 c_14 ahpσ_16 bhpσ_16 dhpσ_16 c_17 kc_18 kc_19 kc_20 kc_21 kc_22 kc_23 ahpσ_25 bhpσ_25 ahpσ_27 bhpσ_27 dhpσ_27 c_28 kc_29 kc_30 kc_31 kc_32 kc_33 kc_34 ahpσ_36 bhpσ_36 ahpσ_38 bhpσ_38 dhpσ_38 c_39; omega) | omega), (hF.trans hout)⟩ dX12_stepWord_83
        · skip
          replace hF := q_ifn hF c_28
          replace c_28 := q_ifOne bhpσ_27 c_28
          replace chpσ_27 := chpσ_27 c_28
          refine lv_iconst (v := 3) hx hb dX12_stepWord_60 (by decide) ?_
          have hrv : (3 : Int32).toInt = 3 := rfl
          exact q_reti E hr hlk hI ⟨rfl, (by first | (clear ht kc_1 kc_2 kc_3 kc_4 kc_5 kc_6 ahpσ_8 bhpσ_8 ahpσ_10 bhpσ_10 dhpσ_10 c_11 ahpσ_13 bhpσ_13 dhpσ_13 c_14 ahpσ_16 bhpσ_16 dhpσ_16 c_17 kc_18 kc_19 kc_20 kc_21 kc_22 kc_23 ahpσ_25 bhpσ_25 ahpσ_27 bhpσ_27 dhpσ_27 c_28 chpσ_27; omega) | omega), (by first | (clear ht kc_1 kc_2 kc_3 kc_4 kc_5 kc_6 ahpσ_8 bhpσ_8 ahpσ_10 bhpσ_10 dhpσ_10 c_11 ahpσ_13 bhpσ_13 dhpσ_13 c_14 ahpσ_16 bhpσ_16 dhpσ_16 c_17 kc_18 kc_19 kc_20 kc_21 kc_22 kc_23 ahpσ_25 bhpσ_25 ahpσ_27 bhpσ_27 dhpσ_27 c_28; omega) | omega), (hF.trans hout)⟩ dX12_stepWord_61
      · skip
        replace hF := q_ifn hF c_17
        replace c_17 := q_ifOne bhpσ_16 c_17
        replace chpσ_16 := chpσ_16 c_17
        refine lv_iconst (v := 2) hx hb dX12_stepWord_38 (by decide) ?_
        have hrv : (2 : Int32).toInt = 2 := rfl
        exact q_reti E hr hlk hI ⟨rfl, (by first | (clear ht kc_1 kc_2 kc_3 kc_4 kc_5 kc_6 ahpσ_8 bhpσ_8 ahpσ_10 bhpσ_10 dhpσ_10 c_11 ahpσ_13 bhpσ_13 dhpσ_13 c_14 ahpσ_16 bhpσ_16 dhpσ_16 c_17 chpσ_16; omega) | omega), (by first | (clear ht kc_1 kc_2 kc_3 kc_4 kc_5 kc_6 ahpσ_8 bhpσ_8 ahpσ_10 bhpσ_10 dhpσ_10 c_11 ahpσ_13 bhpσ_13 dhpσ_13 c_14 ahpσ_16 bhpσ_16 dhpσ_16 c_17; omega) | omega), (hF.trans hout)⟩ dX12_stepWord_39
    · skip
      replace hF := q_ifn hF c_14
      replace c_14 := q_ifOne bhpσ_13 c_14
      replace chpσ_13 := chpσ_13 c_14
      refine lv_iconst (v := 1) hx hb dX12_stepWord_29 (by decide) ?_
      have hrv : (1 : Int32).toInt = 1 := rfl
      exact q_reti E hr hlk hI ⟨rfl, (by first | (clear ht kc_1 kc_2 kc_3 kc_4 kc_5 kc_6 ahpσ_8 bhpσ_8 ahpσ_10 bhpσ_10 dhpσ_10 c_11 ahpσ_13 bhpσ_13 dhpσ_13 c_14 chpσ_13; omega) | omega), (by first | (clear ht kc_1 kc_2 kc_3 kc_4 kc_5 kc_6 ahpσ_8 bhpσ_8 ahpσ_10 bhpσ_10 dhpσ_10 c_11 ahpσ_13 bhpσ_13 dhpσ_13 c_14; omega) | omega), (hF.trans hout)⟩ dX12_stepWord_30
  · skip
    replace hF := q_ifn hF c_11
    replace c_11 := q_ifOne bhpσ_10 c_11
    replace chpσ_10 := chpσ_10 c_11
    refine lv_iconst (v := 0) hx hb dX12_stepWord_20 (by decide) ?_
    have hrv : (0 : Int32).toInt = 0 := rfl
    exact q_reti E hr hlk hI ⟨rfl, (by first | (clear ht kc_1 kc_2 kc_3 kc_4 kc_6 ahpσ_8 bhpσ_8 ahpσ_10 bhpσ_10 dhpσ_10 c_11 chpσ_10 hrv; omega) | omega), (by first | (clear ht kc_1 kc_2 kc_3 kc_4 kc_6 ahpσ_8 bhpσ_8 ahpσ_10 bhpσ_10 dhpσ_10 c_11 hrv; omega) | omega), (hF.trans hout)⟩ dX12_stepWord_21

set_option maxRecDepth 100000 in
set_option maxHeartbeats 4000000 in
theorem c_X12_testWord (l : Launch) (X : XW) (σ : ST) (a : Nat) (ha : q_kd X a = 12) : Met l yX12_testWord (q_ws yX12_testWord cX12_testWord 1 (some .int)) (q_rm 1 27) (q_P X σ [.ref a]) (q_Qi X 9 σ (fun (r : Int32) (σ' : ST) => σ' = σ ∧ (-1 ≤ r.toInt ∧ r.toInt ≤ 3) ∧ r = F_X12_testWord X σ a)) 0 0 (q_reg X) := by
  refine q_met 9 (by first | exact rfl | decide +kernel) rfl (Nat.le_of_ble_eq_true rfl) (fun p e s m below meth c E hml hr hlk hI ls hl => ?_)
  have hx := E.1
  have hb := E.2.1
  have hl : lv_has ls 1 [(0, .ref a)] := hl
  obtain ⟨out, hout⟩ : ∃ o, o = F_X12_testWord X σ a := ⟨_, rfl⟩
  have hF := hout.symm
  unfold F_X12_testWord at hF
  refine lv_aload_n hx hb dX12_testWord_0 rfl (lv_at hl 0 rfl) ?_
  refine lv_bipush (v := 99) hx hb dX12_testWord_1 (by decide) ?_
  refine lv_bipush (v := 97) hx hb dX12_testWord_3 (by decide) ?_
  refine lv_bipush (v := 114) hx hb dX12_testWord_5 (by decide) ?_
  refine lv_bipush (v := 100) hx hb dX12_testWord_7 (by decide) ?_
  refine lv_bipush (v := 115) hx hb dX12_testWord_9 (by decide) ?_
  refine lv_iconst (v := 0) hx hb dX12_testWord_11 (by decide) ?_
  have kc_1 : (99 : Int32).toInt = 99 := rfl
  have kc_2 : (97 : Int32).toInt = 97 := rfl
  have kc_3 : (114 : Int32).toInt = 114 := rfl
  have kc_4 : (100 : Int32).toInt = 100 := rfl
  have kc_5 : (115 : Int32).toInt = 115 := rfl
  have kc_6 : (0 : Int32).toInt = 0 := rfl
  refine q_cl_ (q_runS (As := [.int 99, .int 97, .int 114, .int 100, .int 115, .int 0]) (rest := [.ref a]) E (hml.trans hl.1.symm) hI (c_X12_spelled l X σ (99 : Int32) (97 : Int32) (114 : Int32) (100 : Int32) (115 : Int32) (0 : Int32)) ks_X12_135 rfl ⟨Nat.le_of_ble_eq_true rfl, Nat.le_of_ble_eq_true rfl⟩ ⟨Nat.le_refl _, Nat.le_refl _⟩ rfl (Nat.le_of_ble_eq_true rfl) dX12_testWord_12) hI (by decide) (fun r_7 σ_8 H locs hpσ_8 hkσ_8 hI => ?_)
  obtain ⟨ahpσ_8, bhpσ_8⟩ := hpσ_8
  rw [ahpσ_8] at hI
  replace hF := q_letX hF bhpσ_8
  refine q_ci (q_runV (As := [.long r_7]) (rest := []) E (hml.trans hl.1.symm) hI (c_X12_isWord l X σ a r_7 ha) kv_X12_139 ha ⟨rfl, by decide⟩ (show vwCl[11]? = some (RX12, TX12, 46) from rfl) rfl ⟨Nat.le_of_ble_eq_true rfl, Nat.le_of_ble_eq_true rfl⟩ ⟨Nat.le_refl _, Nat.le_refl _⟩ rfl (Nat.le_of_ble_eq_true rfl) dX12_testWord_15) hI (by decide) (fun r_9 σ_10 H locs hpσ_10 hkσ_10 hI => ?_)
  obtain ⟨ahpσ_10, bhpσ_10, chpσ_10, dhpσ_10⟩ := hpσ_10
  rw [ahpσ_10] at hI
  replace hF := q_letX hF dhpσ_10
  refine q_if_eq (A := r_9.toInt) E rfl (tgt := 23) dX12_testWord_18 (by decide) (fun c_11 => ?_) (fun c_11 => ?_)
  · skip
    replace hF := q_ifp hF c_11
    clear chpσ_10
    refine lv_aload_n hx hb dX12_testWord_23 rfl (lv_at hl 0 rfl) ?_
    refine lv_bipush (v := 104) hx hb dX12_testWord_24 (by decide) ?_
    refine lv_bipush (v := 101) hx hb dX12_testWord_26 (by decide) ?_
    refine lv_bipush (v := 97) hx hb dX12_testWord_28 (by decide) ?_
    refine lv_bipush (v := 112) hx hb dX12_testWord_30 (by decide) ?_
    refine lv_iconst (v := 0) hx hb dX12_testWord_32 (by decide) ?_
    refine lv_iconst (v := 0) hx hb dX12_testWord_33 (by decide) ?_
    have kc_12 : (104 : Int32).toInt = 104 := rfl
    have kc_13 : (101 : Int32).toInt = 101 := rfl
    have kc_14 : (97 : Int32).toInt = 97 := rfl
    have kc_15 : (112 : Int32).toInt = 112 := rfl
    have kc_16 : (0 : Int32).toInt = 0 := rfl
    have kc_17 : (0 : Int32).toInt = 0 := rfl
    refine q_cl_ (q_runS (As := [.int 104, .int 101, .int 97, .int 112, .int 0, .int 0]) (rest := [.ref a]) E (hml.trans hl.1.symm) hI (c_X12_spelled l X σ (104 : Int32) (101 : Int32) (97 : Int32) (112 : Int32) (0 : Int32) (0 : Int32)) ks_X12_135 rfl ⟨Nat.le_of_ble_eq_true rfl, Nat.le_of_ble_eq_true rfl⟩ ⟨Nat.le_refl _, Nat.le_refl _⟩ rfl (Nat.le_of_ble_eq_true rfl) dX12_testWord_34) hI (by decide) (fun r_18 σ_19 H locs hpσ_19 hkσ_19 hI => ?_)
    obtain ⟨ahpσ_19, bhpσ_19⟩ := hpσ_19
    rw [ahpσ_19] at hI
    replace hF := q_letX hF bhpσ_19
    refine q_ci (q_runV (As := [.long r_18]) (rest := []) E (hml.trans hl.1.symm) hI (c_X12_isWord l X σ a r_18 ha) kv_X12_139 ha ⟨rfl, by decide⟩ (show vwCl[11]? = some (RX12, TX12, 46) from rfl) rfl ⟨Nat.le_of_ble_eq_true rfl, Nat.le_of_ble_eq_true rfl⟩ ⟨Nat.le_refl _, Nat.le_refl _⟩ rfl (Nat.le_of_ble_eq_true rfl) dX12_testWord_37) hI (by decide) (fun r_20 σ_21 H locs hpσ_21 hkσ_21 hI => ?_)
    obtain ⟨ahpσ_21, bhpσ_21, chpσ_21, dhpσ_21⟩ := hpσ_21
    rw [ahpσ_21] at hI
    replace hF := q_letX hF dhpσ_21
    refine q_if_eq (A := r_20.toInt) E rfl (tgt := 45) dX12_testWord_40 (by decide) (fun c_22 => ?_) (fun c_22 => ?_)
    · skip
      replace hF := q_ifp hF c_22
      clear chpσ_21
      refine lv_aload_n hx hb dX12_testWord_45 rfl (lv_at hl 0 rfl) ?_
      refine lv_bipush (v := 115) hx hb dX12_testWord_46 (by decide) ?_
      refine lv_bipush (v := 104) hx hb dX12_testWord_48 (by decide) ?_
      refine lv_bipush (v := 111) hx hb dX12_testWord_50 (by decide) ?_
      refine lv_bipush (v := 119) hx hb dX12_testWord_52 (by decide) ?_
      refine lv_bipush (v := 110) hx hb dX12_testWord_54 (by decide) ?_
      refine lv_iconst (v := 0) hx hb dX12_testWord_56 (by decide) ?_
      have kc_23 : (115 : Int32).toInt = 115 := rfl
      have kc_24 : (104 : Int32).toInt = 104 := rfl
      have kc_25 : (111 : Int32).toInt = 111 := rfl
      have kc_26 : (119 : Int32).toInt = 119 := rfl
      have kc_27 : (110 : Int32).toInt = 110 := rfl
      have kc_28 : (0 : Int32).toInt = 0 := rfl
      refine q_cl_ (q_runS (As := [.int 115, .int 104, .int 111, .int 119, .int 110, .int 0]) (rest := [.ref a]) E (hml.trans hl.1.symm) hI (c_X12_spelled l X σ (115 : Int32) (104 : Int32) (111 : Int32) (119 : Int32) (110 : Int32) (0 : Int32)) ks_X12_135 rfl ⟨Nat.le_of_ble_eq_true rfl, Nat.le_of_ble_eq_true rfl⟩ ⟨Nat.le_refl _, Nat.le_refl _⟩ rfl (Nat.le_of_ble_eq_true rfl) dX12_testWord_57) hI (by decide) (fun r_29 σ_30 H locs hpσ_30 hkσ_30 hI => ?_)
      obtain ⟨ahpσ_30, bhpσ_30⟩ := hpσ_30
      rw [ahpσ_30] at hI
      replace hF := q_letX hF bhpσ_30
      refine q_ci (q_runV (As := [.long r_29]) (rest := []) E (hml.trans hl.1.symm) hI (c_X12_isWord l X σ a r_29 ha) kv_X12_139 ha ⟨rfl, by decide⟩ (show vwCl[11]? = some (RX12, TX12, 46) from rfl) rfl ⟨Nat.le_of_ble_eq_true rfl, Nat.le_of_ble_eq_true rfl⟩ ⟨Nat.le_refl _, Nat.le_refl _⟩ rfl (Nat.le_of_ble_eq_true rfl) dX12_testWord_60) hI (by decide) (fun r_31 σ_32 H locs hpσ_32 hkσ_32 hI => ?_)
      obtain ⟨ahpσ_32, bhpσ_32, chpσ_32, dhpσ_32⟩ := hpσ_32
      rw [ahpσ_32] at hI
      replace hF := q_letX hF dhpσ_32
      refine q_if_eq (A := r_31.toInt) E rfl (tgt := 68) dX12_testWord_63 (by decide) (fun c_33 => ?_) (fun c_33 => ?_)
      · skip
        replace hF := q_ifp hF c_33
        clear chpσ_32
        refine lv_aload_n hx hb dX12_testWord_68 rfl (lv_at hl 0 rfl) ?_
        refine lv_bipush (v := 119) hx hb dX12_testWord_69 (by decide) ?_
        refine lv_bipush (v := 111) hx hb dX12_testWord_71 (by decide) ?_
        refine lv_bipush (v := 110) hx hb dX12_testWord_73 (by decide) ?_
        refine lv_iconst (v := 0) hx hb dX12_testWord_75 (by decide) ?_
        refine lv_iconst (v := 0) hx hb dX12_testWord_76 (by decide) ?_
        refine lv_iconst (v := 0) hx hb dX12_testWord_77 (by decide) ?_
        have kc_34 : (119 : Int32).toInt = 119 := rfl
        have kc_35 : (111 : Int32).toInt = 111 := rfl
        have kc_36 : (110 : Int32).toInt = 110 := rfl
        have kc_37 : (0 : Int32).toInt = 0 := rfl
        have kc_38 : (0 : Int32).toInt = 0 := rfl
        have kc_39 : (0 : Int32).toInt = 0 := rfl
        refine q_cl_ (q_runS (As := [.int 119, .int 111, .int 110, .int 0, .int 0, .int 0]) (rest := [.ref a]) E (hml.trans hl.1.symm) hI (c_X12_spelled l X σ (119 : Int32) (111 : Int32) (110 : Int32) (0 : Int32) (0 : Int32) (0 : Int32)) ks_X12_135 rfl ⟨Nat.le_of_ble_eq_true rfl, Nat.le_of_ble_eq_true rfl⟩ ⟨Nat.le_refl _, Nat.le_refl _⟩ rfl (Nat.le_of_ble_eq_true rfl) dX12_testWord_78) hI (by decide) (fun r_40 σ_41 H locs hpσ_41 hkσ_41 hI => ?_)
        obtain ⟨ahpσ_41, bhpσ_41⟩ := hpσ_41
        rw [ahpσ_41] at hI
        replace hF := q_letX hF bhpσ_41
        refine q_ci (q_runV (As := [.long r_40]) (rest := []) E (hml.trans hl.1.symm) hI (c_X12_isWord l X σ a r_40 ha) kv_X12_139 ha ⟨rfl, by decide⟩ (show vwCl[11]? = some (RX12, TX12, 46) from rfl) rfl ⟨Nat.le_of_ble_eq_true rfl, Nat.le_of_ble_eq_true rfl⟩ ⟨Nat.le_refl _, Nat.le_refl _⟩ rfl (Nat.le_of_ble_eq_true rfl) dX12_testWord_81) hI (by decide) (fun r_42 σ_43 H locs hpσ_43 hkσ_43 hI => ?_)
        obtain ⟨ahpσ_43, bhpσ_43, chpσ_43, dhpσ_43⟩ := hpσ_43
        rw [ahpσ_43] at hI
        replace hF := q_letX hF dhpσ_43
        refine q_if_eq (A := r_42.toInt) E rfl (tgt := 91) dX12_testWord_84 (by decide) (fun c_44 => ?_) (fun c_44 => ?_)
        · skip
          replace hF := q_ifp hF c_44
          clear chpσ_43
          refine lv_iconst (v := (-1)) hx hb dX12_testWord_91 (by decide) ?_
          have hrv : ((-1) : Int32).toInt = (-1) := rfl
          exact q_reti E hr hlk hI ⟨rfl, (by first | (clear kc_1 kc_2 kc_3 kc_4 kc_5 kc_6 ahpσ_8 bhpσ_8 ahpσ_10 bhpσ_10 dhpσ_10 c_11 kc_12 kc_13 kc_14 kc_15 kc_16 kc_17 ahpσ_19 bhpσ_19 ahpσ_21 bhpσ_21 dhpσ_21 c_22 kc_23 kc_24 kc_25 kc_26 kc_27 kc_28 ahpσ_30 bhpσ_30 ahpσ_32 bhpσ_32 dhpσ_32 c_33 kc_34 kc_35 kc_36 kc_37 kc_38 kc_39 ahpσ_41 bhpσ_41 ahpσ_43 bhpσ_43 dhpσ_43 c_44; omega) | omega), (hF.trans hout)⟩ dX12_testWord_92
        · skip
          replace hF := q_ifn hF c_44
          replace c_44 := q_ifOne bhpσ_43 c_44
          replace chpσ_43 := chpσ_43 c_44
          refine lv_iconst (v := 3) hx hb dX12_testWord_87 (by decide) ?_
          refine lv_goto (tgt := 92) hx hb dX12_testWord_88 (by decide) ?_
          have hrv : (3 : Int32).toInt = 3 := rfl
          exact q_reti E hr hlk hI ⟨rfl, (by first | (clear kc_1 kc_2 kc_3 kc_4 kc_5 kc_6 ahpσ_8 bhpσ_8 ahpσ_10 bhpσ_10 dhpσ_10 c_11 kc_12 kc_13 kc_14 kc_15 kc_16 kc_17 ahpσ_19 bhpσ_19 ahpσ_21 bhpσ_21 dhpσ_21 c_22 kc_23 kc_24 kc_25 kc_26 kc_27 kc_28 ahpσ_30 bhpσ_30 ahpσ_32 bhpσ_32 dhpσ_32 c_33 kc_34 kc_35 kc_36 kc_37 kc_38 kc_39 ahpσ_41 bhpσ_41 ahpσ_43 bhpσ_43 dhpσ_43 c_44 chpσ_43; omega) | omega), (hF.trans hout)⟩ dX12_testWord_92
      · skip
        replace hF := q_ifn hF c_33
        replace c_33 := q_ifOne bhpσ_32 c_33
        replace chpσ_32 := chpσ_32 c_33
        refine lv_iconst (v := 2) hx hb dX12_testWord_66 (by decide) ?_
        have hrv : (2 : Int32).toInt = 2 := rfl
        exact q_reti E hr hlk hI ⟨rfl, (by first | (clear kc_1 kc_2 kc_3 kc_4 kc_5 kc_6 ahpσ_8 bhpσ_8 ahpσ_10 bhpσ_10 dhpσ_10 c_11 kc_12 kc_13 kc_14 kc_15 kc_16 kc_17 ahpσ_19 bhpσ_19 ahpσ_21 bhpσ_21 dhpσ_21 c_22 kc_23 kc_24 kc_25 kc_26 kc_27 kc_28 ahpσ_30 bhpσ_30 ahpσ_32 bhpσ_32 dhpσ_32 c_33 chpσ_32; omega) | omega), (hF.trans hout)⟩ dX12_testWord_67
    · skip
      replace hF := q_ifn hF c_22
      replace c_22 := q_ifOne bhpσ_21 c_22
      replace chpσ_21 := chpσ_21 c_22
      refine lv_iconst (v := 1) hx hb dX12_testWord_43 (by decide) ?_
      have hrv : (1 : Int32).toInt = 1 := rfl
      exact q_reti E hr hlk hI ⟨rfl, (by first | (clear kc_1 kc_2 kc_3 kc_4 kc_5 kc_6 ahpσ_8 bhpσ_8 ahpσ_10 bhpσ_10 dhpσ_10 c_11 kc_12 kc_13 kc_14 kc_15 kc_16 kc_17 ahpσ_19 bhpσ_19 ahpσ_21 bhpσ_21 dhpσ_21 c_22 chpσ_21; omega) | omega), (hF.trans hout)⟩ dX12_testWord_44
  · skip
    replace hF := q_ifn hF c_11
    replace c_11 := q_ifOne bhpσ_10 c_11
    replace chpσ_10 := chpσ_10 c_11
    refine lv_iconst (v := 0) hx hb dX12_testWord_21 (by decide) ?_
    have hrv : (0 : Int32).toInt = 0 := rfl
    exact q_reti E hr hlk hI ⟨rfl, (by first | (clear kc_1 kc_2 kc_3 kc_4 kc_5 ahpσ_8 bhpσ_8 ahpσ_10 bhpσ_10 dhpσ_10 c_11 chpσ_10 hrv; omega) | omega), (hF.trans hout)⟩ dX12_testWord_22

set_option maxRecDepth 100000 in
set_option maxHeartbeats 4000000 in
theorem c_X12_isKept (l : Launch) (X : XW) (σ : ST) (a : Nat) (ha : q_kd X a = 12) (ht : 0 ≤ (σ.1 a 14).toInt) : Met l yX12_isKept (q_ws yX12_isKept cX12_isKept 1 (some .boolean)) (q_rm 3 67) (q_P X σ [.ref a]) (q_Qi X 9 σ (fun (r : Int32) (σ' : ST) => σ' = σ ∧ (0 ≤ r.toInt ∧ r.toInt ≤ 1) ∧ r = F_X12_isKept X σ a)) 0 0 (q_reg X) := by
  refine q_met 9 (by first | exact rfl | decide +kernel) rfl (Nat.le_of_ble_eq_true rfl) (fun p e s m below meth c E hml hr hlk hI ls hl => ?_)
  have hx := E.1
  have hb := E.2.1
  have hl : lv_has ls 1 [(0, .ref a)] := hl
  obtain ⟨out, hout⟩ : ∃ o, o = F_X12_isKept X σ a := ⟨_, rfl⟩
  have hF := hout.symm
  unfold F_X12_isKept at hF
  refine lv_aload_n hx hb dX12_isKept_0 rfl (lv_at hl 0 rfl) ?_
  refine q_ci (q_runV (As := []) (rest := []) E (hml.trans hl.1.symm) hI (c_X12_isKinds l X σ a ha) kv_X12_150 ha ⟨rfl, by decide⟩ (show vwCl[11]? = some (RX12, TX12, 46) from rfl) rfl ⟨Nat.le_of_ble_eq_true rfl, Nat.le_of_ble_eq_true rfl⟩ ⟨Nat.le_refl _, Nat.le_refl _⟩ rfl (Nat.le_of_ble_eq_true rfl) dX12_isKept_1) hI (by decide) (fun r_1 σ_2 H locs hpσ_2 hkσ_2 hI => ?_)
  obtain ⟨ahpσ_2, bhpσ_2, chpσ_2⟩ := hpσ_2
  rw [ahpσ_2] at hI
  replace hF := q_letX hF chpσ_2
  refine q_if_ne (A := r_1.toInt) E rfl (tgt := 56) dX12_isKept_4 (by decide) (fun c_3 => ?_) (fun c_3 => ?_)
  · skip
    replace hF := q_ifn hF c_3
    replace c_3 := q_ifOne bhpσ_2 c_3
    refine lv_iconst (v := 1) hx hb dX12_isKept_56 (by decide) ?_
    have hrv : (1 : Int32).toInt = 1 := rfl
    exact q_retz E hr hlk hI ⟨by decide, by decide⟩ ⟨rfl, ⟨by decide, by decide⟩, (hF.trans hout)⟩ dX12_isKept_57
  · skip
    replace hF := q_ifp hF c_3
    refine lv_aload_n hx hb dX12_isKept_7 rfl (lv_at hl 0 rfl) ?_
    refine q_ci (q_runV (As := []) (rest := []) E (hml.trans hl.1.symm) hI (c_X12_isEach l X σ a ha) kv_X12_153 ha ⟨rfl, by decide⟩ (show vwCl[11]? = some (RX12, TX12, 46) from rfl) rfl ⟨Nat.le_of_ble_eq_true rfl, Nat.le_of_ble_eq_true rfl⟩ ⟨Nat.le_refl _, Nat.le_refl _⟩ rfl (Nat.le_of_ble_eq_true rfl) dX12_isKept_8) hI (by decide) (fun r_4 σ_5 H locs hpσ_5 hkσ_5 hI => ?_)
    obtain ⟨ahpσ_5, bhpσ_5, chpσ_5⟩ := hpσ_5
    rw [ahpσ_5] at hI
    replace hF := q_letX hF chpσ_5
    refine q_if_ne (A := r_4.toInt) E rfl (tgt := 56) dX12_isKept_11 (by decide) (fun c_6 => ?_) (fun c_6 => ?_)
    · skip
      replace hF := q_ifn hF c_6
      replace c_6 := q_ifOne bhpσ_5 c_6
      refine lv_iconst (v := 1) hx hb dX12_isKept_56 (by decide) ?_
      have hrv : (1 : Int32).toInt = 1 := rfl
      exact q_retz E hr hlk hI ⟨by decide, by decide⟩ ⟨rfl, ⟨by decide, by decide⟩, (hF.trans hout)⟩ dX12_isKept_57
    · skip
      replace hF := q_ifp hF c_6
      refine lv_aload_n hx hb dX12_isKept_14 rfl (lv_at hl 0 rfl) ?_
      refine q_ci (q_runV (As := []) (rest := []) E (hml.trans hl.1.symm) hI (c_X12_isLaw l X σ a ha) kv_X12_156 ha ⟨rfl, by decide⟩ (show vwCl[11]? = some (RX12, TX12, 46) from rfl) rfl ⟨Nat.le_of_ble_eq_true rfl, Nat.le_of_ble_eq_true rfl⟩ ⟨Nat.le_refl _, Nat.le_refl _⟩ rfl (Nat.le_of_ble_eq_true rfl) dX12_isKept_15) hI (by decide) (fun r_7 σ_8 H locs hpσ_8 hkσ_8 hI => ?_)
      obtain ⟨ahpσ_8, bhpσ_8, chpσ_8⟩ := hpσ_8
      rw [ahpσ_8] at hI
      replace hF := q_letX hF chpσ_8
      refine q_if_ne (A := r_7.toInt) E rfl (tgt := 56) dX12_isKept_18 (by decide) (fun c_9 => ?_) (fun c_9 => ?_)
      · skip
        replace hF := q_ifn hF c_9
        replace c_9 := q_ifOne bhpσ_8 c_9
        refine lv_iconst (v := 1) hx hb dX12_isKept_56 (by decide) ?_
        have hrv : (1 : Int32).toInt = 1 := rfl
        exact q_retz E hr hlk hI ⟨by decide, by decide⟩ ⟨rfl, ⟨by decide, by decide⟩, (hF.trans hout)⟩ dX12_isKept_57
      · skip
        replace hF := q_ifp hF c_9
        refine lv_aload_n hx hb dX12_isKept_21 rfl (lv_at hl 0 rfl) ?_
        refine q_ci (q_runV (As := []) (rest := []) E (hml.trans hl.1.symm) hI (c_X12_isMost l X σ a ha) kv_X12_159 ha ⟨rfl, by decide⟩ (show vwCl[11]? = some (RX12, TX12, 46) from rfl) rfl ⟨Nat.le_of_ble_eq_true rfl, Nat.le_of_ble_eq_true rfl⟩ ⟨Nat.le_refl _, Nat.le_refl _⟩ rfl (Nat.le_of_ble_eq_true rfl) dX12_isKept_22) hI (by decide) (fun r_10 σ_11 H locs hpσ_11 hkσ_11 hI => ?_)
        obtain ⟨ahpσ_11, bhpσ_11, chpσ_11⟩ := hpσ_11
        rw [ahpσ_11] at hI
        replace hF := q_letX hF chpσ_11
        refine q_if_ne (A := r_10.toInt) E rfl (tgt := 56) dX12_isKept_25 (by decide) (fun c_12 => ?_) (fun c_12 => ?_)
        · skip
          replace hF := q_ifn hF c_12
          replace c_12 := q_ifOne bhpσ_11 c_12
          refine lv_iconst (v := 1) hx hb dX12_isKept_56 (by decide) ?_
          have hrv : (1 : Int32).toInt = 1 := rfl
          exact q_retz E hr hlk hI ⟨by decide, by decide⟩ ⟨rfl, ⟨by decide, by decide⟩, (hF.trans hout)⟩ dX12_isKept_57
        · skip
          replace hF := q_ifp hF c_12
          refine lv_aload_n hx hb dX12_isKept_28 rfl (lv_at hl 0 rfl) ?_
          refine q_ci (q_runV (As := []) (rest := []) E (hml.trans hl.1.symm) hI (c_X12_isPlayer l X σ a ha) kv_X12_162 ha ⟨rfl, by decide⟩ (show vwCl[11]? = some (RX12, TX12, 46) from rfl) rfl ⟨Nat.le_of_ble_eq_true rfl, Nat.le_of_ble_eq_true rfl⟩ ⟨Nat.le_refl _, Nat.le_refl _⟩ rfl (Nat.le_of_ble_eq_true rfl) dX12_isKept_29) hI (by decide) (fun r_13 σ_14 H locs hpσ_14 hkσ_14 hI => ?_)
          obtain ⟨ahpσ_14, bhpσ_14, chpσ_14⟩ := hpσ_14
          rw [ahpσ_14] at hI
          replace hF := q_letX hF chpσ_14
          refine q_if_ne (A := r_13.toInt) E rfl (tgt := 56) dX12_isKept_32 (by decide) (fun c_15 => ?_) (fun c_15 => ?_)
          · skip
            replace hF := q_ifn hF c_15
            replace c_15 := q_ifOne bhpσ_14 c_15
            refine lv_iconst (v := 1) hx hb dX12_isKept_56 (by decide) ?_
            have hrv : (1 : Int32).toInt = 1 := rfl
            exact q_retz E hr hlk hI ⟨by decide, by decide⟩ ⟨rfl, ⟨by decide, by decide⟩, (hF.trans hout)⟩ dX12_isKept_57
          · skip
            replace hF := q_ifp hF c_15
            refine lv_aload_n hx hb dX12_isKept_35 rfl (lv_at hl 0 rfl) ?_
            refine q_ci (q_runV (As := []) (rest := []) E (hml.trans hl.1.symm) hI (c_X12_isHand l X σ a ha) kv_X12_165 ha ⟨rfl, by decide⟩ (show vwCl[11]? = some (RX12, TX12, 46) from rfl) rfl ⟨Nat.le_of_ble_eq_true rfl, Nat.le_of_ble_eq_true rfl⟩ ⟨Nat.le_refl _, Nat.le_refl _⟩ rfl (Nat.le_of_ble_eq_true rfl) dX12_isKept_36) hI (by decide) (fun r_16 σ_17 H locs hpσ_17 hkσ_17 hI => ?_)
            obtain ⟨ahpσ_17, bhpσ_17, chpσ_17⟩ := hpσ_17
            rw [ahpσ_17] at hI
            replace hF := q_letX hF chpσ_17
            refine q_if_ne (A := r_16.toInt) E rfl (tgt := 56) dX12_isKept_39 (by decide) (fun c_18 => ?_) (fun c_18 => ?_)
            · skip
              replace hF := q_ifn hF c_18
              replace c_18 := q_ifOne bhpσ_17 c_18
              refine lv_iconst (v := 1) hx hb dX12_isKept_56 (by decide) ?_
              have hrv : (1 : Int32).toInt = 1 := rfl
              exact q_retz E hr hlk hI ⟨by decide, by decide⟩ ⟨rfl, ⟨by decide, by decide⟩, (hF.trans hout)⟩ dX12_isKept_57
            · skip
              replace hF := q_ifp hF c_18
              refine lv_aload_n hx hb dX12_isKept_42 rfl (lv_at hl 0 rfl) ?_
              refine q_ci (q_runV (As := []) (rest := []) E (hml.trans hl.1.symm) hI (c_X12_isOf l X σ a ha) kv_X12_168 ha ⟨rfl, by decide⟩ (show vwCl[11]? = some (RX12, TX12, 46) from rfl) rfl ⟨Nat.le_of_ble_eq_true rfl, Nat.le_of_ble_eq_true rfl⟩ ⟨Nat.le_refl _, Nat.le_refl _⟩ rfl (Nat.le_of_ble_eq_true rfl) dX12_isKept_43) hI (by decide) (fun r_19 σ_20 H locs hpσ_20 hkσ_20 hI => ?_)
              obtain ⟨ahpσ_20, bhpσ_20, chpσ_20⟩ := hpσ_20
              rw [ahpσ_20] at hI
              replace hF := q_letX hF chpσ_20
              refine q_if_ne (A := r_19.toInt) E rfl (tgt := 56) dX12_isKept_46 (by decide) (fun c_21 => ?_) (fun c_21 => ?_)
              · skip
                replace hF := q_ifn hF c_21
                replace c_21 := q_ifOne bhpσ_20 c_21
                refine lv_iconst (v := 1) hx hb dX12_isKept_56 (by decide) ?_
                have hrv : (1 : Int32).toInt = 1 := rfl
                exact q_retz E hr hlk hI ⟨by decide, by decide⟩ ⟨rfl, ⟨by decide, by decide⟩, (hF.trans hout)⟩ dX12_isKept_57
              · skip
                replace hF := q_ifp hF c_21
                refine lv_aload_n hx hb dX12_isKept_49 rfl (lv_at hl 0 rfl) ?_
                refine q_ci (q_runV (As := []) (rest := []) E (hml.trans hl.1.symm) hI (c_X12_lawWord l X σ a ha) kv_X12_171 ha ⟨rfl, by decide⟩ (show vwCl[11]? = some (RX12, TX12, 46) from rfl) rfl ⟨Nat.le_of_ble_eq_true rfl, Nat.le_of_ble_eq_true rfl⟩ ⟨Nat.le_refl _, Nat.le_refl _⟩ rfl (Nat.le_of_ble_eq_true rfl) dX12_isKept_50) hI (by decide) (fun r_22 σ_23 H locs hpσ_23 hkσ_23 hI => ?_)
                obtain ⟨ahpσ_23, bhpσ_23, chpσ_23⟩ := hpσ_23
                rw [ahpσ_23] at hI
                replace hF := q_letX hF chpσ_23
                refine q_if_lt (A := r_22.toInt) E rfl (tgt := 58) dX12_isKept_53 (by decide) (fun c_24 => ?_) (fun c_24 => ?_)
                · skip
                  replace hF := q_ifp hF c_24
                  refine lv_aload_n hx hb dX12_isKept_58 rfl (lv_at hl 0 rfl) ?_
                  refine q_ci (q_runV (As := []) (rest := []) E (hml.trans hl.1.symm) hI (c_X12_stepWord l X σ a ha ht) kv_X12_175 ha ⟨rfl, by decide⟩ (show vwCl[11]? = some (RX12, TX12, 46) from rfl) rfl ⟨Nat.le_of_ble_eq_true rfl, Nat.le_of_ble_eq_true rfl⟩ ⟨Nat.le_refl _, Nat.le_refl _⟩ rfl (Nat.le_of_ble_eq_true rfl) dX12_isKept_59) hI (by decide) (fun r_25 σ_26 H locs hpσ_26 hkσ_26 hI => ?_)
                  obtain ⟨ahpσ_26, bhpσ_26, chpσ_26, dhpσ_26⟩ := hpσ_26
                  rw [ahpσ_26] at hI
                  replace hF := q_letX hF dhpσ_26
                  refine q_if_ge (A := r_25.toInt) E rfl (tgt := 79) dX12_isKept_62 (by decide) (fun c_27 => ?_) (fun c_27 => ?_)
                  · skip
                    replace hF := q_ifn hF (Int.not_lt.mpr c_27)
                    refine lv_iconst (v := 1) hx hb dX12_isKept_79 (by decide) ?_
                    refine lv_goto (tgt := 84) hx hb dX12_isKept_80 (by decide) ?_
                    have hrv : (1 : Int32).toInt = 1 := rfl
                    exact q_retz E hr hlk hI ⟨by decide, by decide⟩ ⟨rfl, ⟨by decide, by decide⟩, (hF.trans hout)⟩ dX12_isKept_84
                  · skip
                    replace hF := q_ifp hF c_27
                    refine lv_aload_n hx hb dX12_isKept_65 rfl (lv_at hl 0 rfl) ?_
                    refine q_ci (q_runV (As := []) (rest := []) E (hml.trans hl.1.symm) hI (c_X12_testWord l X σ a ha) kv_X12_178 ha ⟨rfl, by decide⟩ (show vwCl[11]? = some (RX12, TX12, 46) from rfl) rfl ⟨Nat.le_of_ble_eq_true rfl, Nat.le_of_ble_eq_true rfl⟩ ⟨Nat.le_refl _, Nat.le_refl _⟩ rfl (Nat.le_of_ble_eq_true rfl) dX12_isKept_66) hI (by decide) (fun r_28 σ_29 H locs hpσ_29 hkσ_29 hI => ?_)
                    obtain ⟨ahpσ_29, bhpσ_29, chpσ_29⟩ := hpσ_29
                    rw [ahpσ_29] at hI
                    replace hF := q_letX hF chpσ_29
                    refine q_if_ge (A := r_28.toInt) E rfl (tgt := 79) dX12_isKept_69 (by decide) (fun c_30 => ?_) (fun c_30 => ?_)
                    · skip
                      replace hF := q_ifn hF (Int.not_lt.mpr c_30)
                      refine lv_iconst (v := 1) hx hb dX12_isKept_79 (by decide) ?_
                      refine lv_goto (tgt := 84) hx hb dX12_isKept_80 (by decide) ?_
                      have hrv : (1 : Int32).toInt = 1 := rfl
                      exact q_retz E hr hlk hI ⟨by decide, by decide⟩ ⟨rfl, ⟨by decide, by decide⟩, (hF.trans hout)⟩ dX12_isKept_84
                    · skip
                      replace hF := q_ifp hF c_30
                      refine lv_aload_n hx hb dX12_isKept_72 rfl (lv_at hl 0 rfl) ?_
                      refine q_ci (q_runV (As := []) (rest := []) E (hml.trans hl.1.symm) hI (c_X12_isEnd l X σ a ha) kv_X12_181 ha ⟨rfl, by decide⟩ (show vwCl[11]? = some (RX12, TX12, 46) from rfl) rfl ⟨Nat.le_of_ble_eq_true rfl, Nat.le_of_ble_eq_true rfl⟩ ⟨Nat.le_refl _, Nat.le_refl _⟩ rfl (Nat.le_of_ble_eq_true rfl) dX12_isKept_73) hI (by decide) (fun r_31 σ_32 H locs hpσ_32 hkσ_32 hI => ?_)
                      obtain ⟨ahpσ_32, bhpσ_32, chpσ_32⟩ := hpσ_32
                      rw [ahpσ_32] at hI
                      replace hF := q_letX hF chpσ_32
                      refine q_if_eq (A := r_31.toInt) E rfl (tgt := 83) dX12_isKept_76 (by decide) (fun c_33 => ?_) (fun c_33 => ?_)
                      · skip
                        replace hF := q_ifp hF c_33
                        refine lv_iconst (v := 0) hx hb dX12_isKept_83 (by decide) ?_
                        have hrv : (0 : Int32).toInt = 0 := rfl
                        exact q_retz E hr hlk hI ⟨by decide, by decide⟩ ⟨rfl, ⟨by decide, by decide⟩, (hF.trans hout)⟩ dX12_isKept_84
                      · skip
                        replace hF := q_ifn hF c_33
                        replace c_33 := q_ifOne bhpσ_32 c_33
                        refine lv_iconst (v := 1) hx hb dX12_isKept_79 (by decide) ?_
                        refine lv_goto (tgt := 84) hx hb dX12_isKept_80 (by decide) ?_
                        have hrv : (1 : Int32).toInt = 1 := rfl
                        exact q_retz E hr hlk hI ⟨by decide, by decide⟩ ⟨rfl, ⟨by decide, by decide⟩, (hF.trans hout)⟩ dX12_isKept_84
                · skip
                  replace hF := q_ifn hF (Int.not_lt.mpr c_24)
                  refine lv_iconst (v := 1) hx hb dX12_isKept_56 (by decide) ?_
                  have hrv : (1 : Int32).toInt = 1 := rfl
                  exact q_retz E hr hlk hI ⟨by decide, by decide⟩ ⟨rfl, ⟨by decide, by decide⟩, (hF.trans hout)⟩ dX12_isKept_57

set_option maxRecDepth 100000 in
set_option maxHeartbeats 4000000 in
theorem c_X12_isName (l : Launch) (X : XW) (σ : ST) (a : Nat) (ha : q_kd X a = 12) (ht : 0 ≤ (σ.1 a 14).toInt) : Met l yX12_isName (q_ws yX12_isName cX12_isName 1 (some .boolean)) (q_rm 4 87) (q_P X σ [.ref a]) (q_Qi X 9 σ (fun (r : Int32) (σ' : ST) => σ' = σ ∧ (0 ≤ r.toInt ∧ r.toInt ≤ 1) ∧ r = F_X12_isName X σ a)) 0 0 (q_reg X) := by
  refine q_met 9 (by first | exact rfl | decide +kernel) rfl (Nat.le_of_ble_eq_true rfl) (fun p e s m below meth c E hml hr hlk hI ls hl => ?_)
  have hx := E.1
  have hb := E.2.1
  have hl : lv_has ls 1 [(0, .ref a)] := hl
  obtain ⟨out, hout⟩ : ∃ o, o = F_X12_isName X σ a := ⟨_, rfl⟩
  have hF := hout.symm
  unfold F_X12_isName at hF
  refine lv_aload_n hx hb dX12_isName_0 rfl (lv_at hl 0 rfl) ?_
  refine gs_X12_110_12 E hI ha dX12_isName_1 ?_
  refine lv_topi (fun f_1 ef_1 => ?_)
  replace hF := q_letX hF ef_1
  refine lv_iconst (v := 1) hx hb dX12_isName_4 (by decide) ?_
  refine q_icmp_ne (A := f_1.toInt) (B := 1) E rfl (by decide) (tgt := 28) dX12_isName_5 (by decide) (fun c_2 => ?_) (fun c_2 => ?_)
  · skip
    replace hF := q_ifn hF c_2
    refine lv_iconst (v := 0) hx hb dX12_isName_28 (by decide) ?_
    have hrv : (0 : Int32).toInt = 0 := rfl
    exact q_retz E hr hlk hI ⟨by decide, by decide⟩ ⟨rfl, ⟨by decide, by decide⟩, (hF.trans hout)⟩ dX12_isName_29
  · skip
    replace hF := q_ifp hF c_2
    refine lv_aload_n hx hb dX12_isName_8 rfl (lv_at hl 0 rfl) ?_
    refine gs_X12_123_12 E hI ha dX12_isName_9 ?_
    refine lv_topi (fun f_3 ef_3 => ?_)
    replace hF := q_letX hF ef_3
    refine lv_bipush (v := 8) hx hb dX12_isName_12 (by decide) ?_
    refine q_icmp_gt (A := f_3.toInt) (B := 8) E rfl (by decide) (tgt := 28) dX12_isName_14 (by decide) (fun c_4 => ?_) (fun c_4 => ?_)
    · skip
      replace hF := q_ifp hF c_4
      refine lv_iconst (v := 0) hx hb dX12_isName_28 (by decide) ?_
      have hrv : (0 : Int32).toInt = 0 := rfl
      exact q_retz E hr hlk hI ⟨by decide, by decide⟩ ⟨rfl, ⟨by decide, by decide⟩, (hF.trans hout)⟩ dX12_isName_29
    · skip
      replace hF := q_ifn hF (Int.not_lt.mpr c_4)
      refine lv_aload_n hx hb dX12_isName_17 rfl (lv_at hl 0 rfl) ?_
      refine q_ci (q_runV (As := []) (rest := []) E (hml.trans hl.1.symm) hI (c_X12_isKept l X σ a ha ht) kv_X12_184 ha ⟨rfl, by decide⟩ (show vwCl[11]? = some (RX12, TX12, 46) from rfl) rfl ⟨Nat.le_of_ble_eq_true rfl, Nat.le_of_ble_eq_true rfl⟩ ⟨Nat.le_refl _, Nat.le_refl _⟩ rfl (Nat.le_of_ble_eq_true rfl) dX12_isName_18) hI (by decide) (fun r_5 σ_6 H locs hpσ_6 hkσ_6 hI => ?_)
      obtain ⟨ahpσ_6, bhpσ_6, chpσ_6⟩ := hpσ_6
      rw [ahpσ_6] at hI
      replace hF := q_letX hF chpσ_6
      refine q_if_ne (A := r_5.toInt) E rfl (tgt := 28) dX12_isName_21 (by decide) (fun c_7 => ?_) (fun c_7 => ?_)
      · skip
        replace hF := q_ifn hF c_7
        replace c_7 := q_ifOne bhpσ_6 c_7
        refine lv_iconst (v := 0) hx hb dX12_isName_28 (by decide) ?_
        have hrv : (0 : Int32).toInt = 0 := rfl
        exact q_retz E hr hlk hI ⟨by decide, by decide⟩ ⟨rfl, ⟨by decide, by decide⟩, (hF.trans hout)⟩ dX12_isName_29
      · skip
        replace hF := q_ifp hF c_7
        refine lv_iconst (v := 1) hx hb dX12_isName_24 (by decide) ?_
        refine lv_goto (tgt := 29) hx hb dX12_isName_25 (by decide) ?_
        have hrv : (1 : Int32).toInt = 1 := rfl
        exact q_retz E hr hlk hI ⟨by decide, by decide⟩ ⟨rfl, ⟨by decide, by decide⟩, (hF.trans hout)⟩ dX12_isName_29
end
/-! FROM 35.told.a.lean.txt -/
section
section QS
variable {p : Program} {l : Launch} {e : Env} {R : Room} {s : State} {m : MethodId} {args : Array Value} {below : List Frame} {meth : Method} {c : Code} {H : Heap} {locs : List Loc} {cells slots : Nat} {Q : State → Prop} {cc : ByteArray} {X : XW} {n : Nat} {σ0 σ : ST} {H0 : Heap} {pc : Nat} {ls : Array Slot} {rest : List Value} {a : Nat}
theorem gs_X12_35_12 (E : q_E p c cc s m args RX12 X) (hI : q_I X n σ0 H0 locs σ H) (ha : q_kd X a = 12) (hdg : decode cc pc = .ok (.getfield 35, 3)) (kk : W p l e R s m args below meth c H locs cells slots Q (F0 m (pc + 3) ls (.ref (q_rf X a 20) :: rest))) : W p l e R s m args below meth c H locs cells slots Q (F0 m pc ls (.ref a :: rest)) :=
  q_getf (ref := "CheatHeapModel") E hI ha ⟨rfl, by decide⟩ (show vwCl[11]? = some (RX12, TX12, 46) from rfl) q_inX12 (f := 20) (by decide) (q_in_t7 (i := 5) (by first | rfl | decide +kernel) rfl) (Or.inl rfl) rfl hdg kk
theorem gs_X12_44_12 (E : q_E p c cc s m args RX12 X) (hI : q_I X n σ0 H0 locs σ H) (ha : q_kd X a = 12) (hdg : decode cc pc = .ok (.getfield 44, 3)) (kk : W p l e R s m args below meth c H locs cells slots Q (F0 m (pc + 3) ls (.ref (q_rf X a 23) :: rest))) : W p l e R s m args below meth c H locs cells slots Q (F0 m pc ls (.ref a :: rest)) :=
  q_getf (ref := "CheatHeapModel") E hI ha ⟨rfl, by decide⟩ (show vwCl[11]? = some (RX12, TX12, 46) from rfl) q_inX12 (f := 23) (by decide) (q_in_t7 (i := 8) (by first | rfl | decide +kernel) rfl) (Or.inl rfl) rfl hdg kk
theorem kv_X12_216 : q_okV RX12 216 RX12 yX12_must cX12_must 2 none 1 := ⟨(q_in_t7 (i := 219) (by first | rfl | decide +kernel) rfl), (q_in_t7 (i := 221) (by first | rfl | decide +kernel) rfl), (q_in_p (i := 47) (by decide +kernel) rfl), (q_in_t1 (i := 14) (by first | rfl | decide +kernel) rfl), (q_in_t7 (i := 222) (by first | rfl | decide +kernel) rfl), ⟨rfl, by decide, by decide, rfl⟩⟩
theorem ks_X12_220 : q_okS RX12 220 yJ9_max_7cf53 cJ9_max_7cf53 2 (some .int) 2 := ⟨(q_in_t8 (i := 18) (by first | rfl | decide +kernel) rfl), (q_in_t1 (i := 49) (by first | rfl | decide +kernel) rfl), (q_in_t1 (i := 5) (by first | rfl | decide +kernel) rfl), (q_in_t1 (i := 50) (by first | rfl | decide +kernel) rfl), ⟨by decide, by decide, rfl⟩⟩
theorem kv_X12_213 : q_okV RX12 213 RX12 yX12_named cX12_named 3 (some .int) 1 := ⟨(q_in_t8 (i := 71) (by first | rfl | decide +kernel) rfl), (q_in_t8 (i := 73) (by first | rfl | decide +kernel) rfl), (q_in_p (i := 69) (by decide +kernel) rfl), (q_in_t1 (i := 14) (by first | rfl | decide +kernel) rfl), (q_in_t8 (i := 74) (by first | rfl | decide +kernel) rfl), ⟨rfl, by decide, by decide, rfl⟩⟩
theorem kv_X12_210 : q_okV RX12 210 RX12 yX12_isName cX12_isName 1 (some .boolean) 0 := ⟨(q_in_t8 (i := 35) (by first | rfl | decide +kernel) rfl), (q_in_t8 (i := 37) (by first | rfl | decide +kernel) rfl), (q_in_p (i := 60) (by decide +kernel) rfl), (q_in_t1 (i := 14) (by first | rfl | decide +kernel) rfl), (q_in_t8 (i := 38) (by first | rfl | decide +kernel) rfl), ⟨rfl, by decide, by decide, rfl⟩⟩
end QS
end
/-! FROM 35.told.b00.lean.txt -/
section
set_option maxRecDepth 100000 in
set_option maxHeartbeats 4000000 in
theorem c_X12_named (l : Launch) (X : XW) (σ : ST) (a : Nat) (v1 : Int32) (ha : q_kd X a = 12) (hq : v1.toInt = 0 ∨ v1.toInt = 4) (hm : m_c X σ a (930 * v1.toInt + 2) ≤ 6) : Met l yX12_named (q_ws yX12_named cX12_named 3 (some .int)) (q_rm 0 0) (q_P X σ [.ref a, .int v1]) (q_Qi X 9 σ (fun (r : Int32) (σ' : ST) => σ' = σ ∧ (-1 ≤ r.toInt ∧ r.toInt ≤ 5) ∧ r = F_X12_named X σ a v1)) 0 0 (q_reg X) := by
  refine q_met 9 (by first | exact rfl | decide +kernel) rfl (Nat.le_of_ble_eq_true rfl) (fun p e s m below meth c E hml hr hlk hI ls hl => ?_)
  have hx := E.1
  have hb := E.2.1
  have hl : lv_has ls 3 [(0, .ref a), (1, .int v1)] := hl
  obtain ⟨out, hout⟩ : ∃ o, o = F_X12_named X σ a v1 := ⟨_, rfl⟩
  have hF := hout.symm
  unfold F_X12_named at hF
  refine lv_iconst (v := 0) hx hb dX12_named_0 (by decide) ?_
  refine lv_istore_n (lv' := [(2, .int 0), (0, .ref a), (1, .int v1)]) hx hb dX12_named_1 rfl hl (by decide) rfl (fun ls hl => ?_)
  have L_2_2 : ∀ (k_2 : Nat) (x_1 : Int32) (H : Heap) (locs : List Loc) (ls : Array Slot), (2147483647 - x_1.toInt).toNat < k_2 → (0 ≤ x_1.toInt) → (F_X12_named_L2_1 X v1 σ a k_2 x_1 = out) → q_I X 9 σ s.heap locs σ H → lv_has ls 3 [(0, .ref a), (1, .int v1), (2, .int x_1)] → W p l e (q_rm 0 0) s m ([.ref a, .int v1] : List Value).toArray below meth c H locs 0 0 (MQ below (q_Qi X 9 σ (fun (r : Int32) (σ' : ST) => σ' = σ ∧ (-1 ≤ r.toInt ∧ r.toInt ≤ 5) ∧ r = F_X12_named X σ a v1)) ([.ref a, .int v1] : List Value).toArray s 0 0 (q_reg X)) (F0 m 2 ls []) := by
    clear hF
    intro k_2
    induction k_2 with
    | zero =>
      intro x_1 H locs ls hms
      exact absurd hms (Nat.not_lt_zero _)
    | succ k_2 ih2 =>
      intro x_1 H locs ls hm2 hge2 hF hI hl
      replace hF := (F_X12_named_L2_1_s).symm.trans hF
      unfold F_X12_named_B2_1 at hF
      refine lv_iload_n hx hb dX12_named_2 rfl (lv_at hl 2 rfl) ?_
      refine lv_aload_n hx hb dX12_named_3 rfl (lv_at hl 0 rfl) ?_
      refine gs_X12_35_12 E hI ha dX12_named_4 ?_
      refine lv_sipush (v := 930) hx hb dX12_named_7 (by decide) ?_
      refine lv_iload_n hx hb dX12_named_10 rfl (lv_at hl 1 rfl) ?_
      refine lv_imul hx hb dX12_named_11 ?_
      refine lv_topi (fun z_3 ez_3 => ?_)
      replace hF := q_letX hF ez_3
      have iz_3 := q_mulI (A := 930) (B := v1.toInt) ez_3 (by decide) rfl (by first | (clear hm hm2 hge2; omega) | omega) (by first | (clear hm hm2 hge2; omega) | omega)
      refine lv_iconst (v := 2) hx hb dX12_named_12 (by decide) ?_
      refine lv_iadd hx hb dX12_named_13 ?_
      refine lv_topi (fun z_4 ez_4 => ?_)
      replace hF := q_letX hF ez_4
      have iz_4 := q_addI (A := (930 * v1.toInt)) (B := 2) ez_4 iz_3 (by decide) (by first | (clear hm hm2 hge2 iz_3; omega) | omega) (by first | (clear hm hm2 hge2 iz_3; omega) | omega)
      refine q_iald E hI (q_tk (k' := 34) hI ha rfl (by decide)) ⟨by decide, rfl⟩ (by first | (clear hm hm2 hge2 iz_3; omega) | omega) (by rw [q_lnk (v := 4650) hI (q_tk (k' := 34) hI ha rfl (by decide)) rfl (by decide)]; omega) dX12_named_14 ?_
      refine lv_topi (fun f_5 ef_5 => ?_)
      replace hF := q_letX hF ef_5
      have if_5 : f_5.toInt = m_c X σ a ((930 * v1.toInt) + 2) := m_rd ef_5 iz_4
      have gc_6_x_1 := q_rng x_1
      have gc_6_f_5 := q_rng f_5
      refine q_icmp_ge (A := x_1.toInt) (B := f_5.toInt) E rfl rfl (tgt := 45) dX12_named_15 (by decide) (fun c_6 => ?_) (fun c_6 => ?_)
      · skip
        replace hF := q_ifn hF (Int.not_lt.mpr c_6)
        skip
        refine lv_iconst (v := (-1)) hx hb dX12_named_45 (by decide) ?_
        have hrv : ((-1) : Int32).toInt = (-1) := rfl
        exact q_reti E hr hlk hI ⟨rfl, (by first | (clear hq hm hm2 hge2 iz_3 iz_4 if_5 gc_6_x_1 gc_6_f_5 c_6; omega) | omega), (hF.trans hout)⟩ dX12_named_46
      · skip
        replace hF := q_ifp hF c_6
        refine lv_aload_n hx hb dX12_named_18 rfl (lv_at hl 0 rfl) ?_
        refine gs_X12_44_12 E hI ha dX12_named_19 ?_
        refine lv_bipush (v := 6) hx hb dX12_named_22 (by decide) ?_
        refine lv_iload_n hx hb dX12_named_24 rfl (lv_at hl 1 rfl) ?_
        refine lv_imul hx hb dX12_named_25 ?_
        refine lv_topi (fun z_7 ez_7 => ?_)
        replace hF := q_letX hF ez_7
        have iz_7 := q_mulI (A := 6) (B := v1.toInt) ez_7 (by decide) rfl (by first | (clear hm2 iz_3 iz_4; omega) | omega) (by first | (clear hm2 iz_3 iz_4; omega) | omega)
        refine lv_iload_n hx hb dX12_named_26 rfl (lv_at hl 2 rfl) ?_
        refine lv_iadd hx hb dX12_named_27 ?_
        refine lv_topi (fun z_8 ez_8 => ?_)
        replace hF := q_letX hF ez_8
        have iz_8 := q_addI (A := (6 * v1.toInt)) (B := x_1.toInt) ez_8 iz_7 rfl (by first | (clear hm2 iz_3 iz_4 iz_7; omega) | omega) (by first | (clear hm2 iz_3 iz_4 iz_7; omega) | omega)
        refine q_lald E hI (q_tk (k' := 37) hI ha rfl (by decide)) ⟨by decide, rfl⟩ (by first | (clear hm2 iz_3 iz_4 iz_7; omega) | omega) (by rw [q_lnk (v := 30) hI (q_tk (k' := 37) hI ha rfl (by decide)) rfl (by decide)]; omega) dX12_named_28 ?_
        refine lv_topl (fun g_9 eg_9 => ?_)
        replace hF := q_letX hF eg_9
        refine lv_aload_n hx hb dX12_named_29 rfl (lv_at hl 0 rfl) ?_
        refine gs_X12_116_12 E hI ha dX12_named_30 ?_
        refine lv_topl (fun g_10 eg_10 => ?_)
        replace hF := q_letX hF eg_10
        refine q_lcmpX E dX12_named_33 (fun z_11 ez_11 hz_11 => ?_)
        replace hF := q_letX hF ez_11
        refine q_if_ne (A := z_11.toInt) E rfl (tgt := 39) dX12_named_34 (by decide) (fun c_12 => ?_) (fun c_12 => ?_)
        · skip
          replace hF := q_ifn hF c_12
          obtain ⟨z_13, ez_13⟩ : ∃ y : Int32, y = x_1 + 1 := ⟨_, rfl⟩
          replace hF := q_letX hF ez_13
          refine lv_iinc (v := z_13) (lv' := [(2, .int z_13), (0, .ref a), (1, .int v1)]) hx hb dX12_named_39 hl (k := 2) rfl (by rw [ez_13]; rfl) (by decide) rfl (fun ls hl => ?_)
          have iz_13 : z_13.toInt = x_1.toInt + 1 := q_inc ez_13 (by first | (clear hq hm2 iz_3 iz_4 iz_7 hz_11 c_12; omega) | omega)
          refine lv_goto (tgt := 2) hx hb dX12_named_42 (by decide) ?_
          exact ih2 z_13 _ _ ls (by first | (clear hq iz_3 iz_4 iz_7; omega) | omega) (by first | (clear hq hm hm2 iz_3 iz_4 if_5 gc_6_f_5 c_6 iz_7 hz_11 c_12; omega) | omega) hF hI (lv_sub hl [1, 2, 0] rfl)
        · skip
          replace hF := q_ifp hF c_12
          skip
          refine lv_iload_n hx hb dX12_named_37 rfl (lv_at hl 2 rfl) ?_
          exact q_reti E hr hlk hI ⟨rfl, (by first | (clear hq hm2 iz_3 iz_4 iz_7 hz_11 c_12; omega) | omega), (hF.trans hout)⟩ dX12_named_38
  exact L_2_2 ((2147483647 - (0 : Int32).toInt).toNat + 1) 0 _ _ ls (Nat.lt_succ_self _) (by decide) hF hI (lv_sub hl [1, 2, 0] rfl)

set_option maxRecDepth 100000 in
set_option maxHeartbeats 4000000 in
theorem c_X12_readTold (l : Launch) (X : XW) (σ : ST) (a : Nat) (v1 : Int32) (ha : q_kd X a = 12) (hs : 0 ≤ (σ.1 a 15).toInt ∧ (σ.1 a 15).toInt ≤ (σ.1 a 16).toInt ∧ (σ.1 a 16).toInt ≤ (σ.1 a 9).toInt ∧ (σ.1 a 9).toInt ≤ 900 ∧ 0 ≤ (σ.1 a 14).toInt ∧ (σ.1 a 14).toInt ≤ 4 ∧ (σ.1 a 14).toInt ≤ 4 * ((σ.1 a 16).toInt - (σ.1 a 15).toInt) ∧ (σ.1 a 14).toInt ≤ 4 * ((σ.1 a 9).toInt - (σ.1 a 15).toInt) ∧ 0 ≤ (σ.1 a 12).toInt) (hq : v1.toInt = 0 ∨ v1.toInt = 4) (hm : m_c X σ a (930 * v1.toInt + 2) ≤ 6) : Met l yX12_readTold (q_ws yX12_readTold cX12_readTold 3 (some .int)) (q_rm 5 107) (q_P X σ [.ref a, .int v1]) (q_Qi X 2 σ (fun (r : Int32) (σ' : ST) => (q_KS (fun b g => b = a ∧ 12 ≤ g ∧ g ≤ 18) 9 X σ σ') ∧ (0 ≤ (σ'.1 a 15).toInt ∧ (σ'.1 a 15).toInt ≤ (σ'.1 a 16).toInt ∧ (σ'.1 a 16).toInt ≤ (σ'.1 a 9).toInt ∧ (σ'.1 a 9).toInt ≤ 900 ∧ 0 ≤ (σ'.1 a 14).toInt ∧ (σ'.1 a 14).toInt ≤ 4 ∧ (σ'.1 a 14).toInt ≤ 4 * ((σ'.1 a 16).toInt - (σ'.1 a 15).toInt) ∧ (σ'.1 a 14).toInt ≤ 4 * ((σ'.1 a 9).toInt - (σ'.1 a 15).toInt) ∧ 0 ≤ (σ'.1 a 12).toInt ∧ (σ'.1 a 9).toInt = (σ.1 a 9).toInt ∧ (σ.1 a 15).toInt ≤ (σ'.1 a 15).toInt ∧ (σ.1 a 12).toInt ≤ (σ'.1 a 12).toInt) ∧ ((σ.1 a 16).toInt ≤ (σ'.1 a 15).toInt + 1000 * (σ'.1 a 12).toInt ∧ 0 ≤ r.toInt ∧ r.toInt ≤ 5) ∧ (r, σ') = F_X12_readTold X σ a v1 ∧ q_ow [(12, 12), (12, 13), (12, 14), (12, 15), (12, 16), (12, 17), (12, 18)] [(12, 19)] X σ σ')) 0 0 (q_reg X) := by
  refine q_met 2 (by first | exact rfl | decide +kernel) rfl (Nat.le_of_ble_eq_true rfl) (fun p e s m below meth c E hml hr hlk hI ls hl => ?_)
  have hx := E.1
  have hb := E.2.1
  have hl : lv_has ls 3 [(0, .ref a), (1, .int v1)] := hl
  have ks_σ : q_KS (fun b g => b = a ∧ 12 ≤ g ∧ g ≤ 18) 9 X σ σ := q_KS.rf
  have fr_σ : q_ow [(12, 12), (12, 13), (12, 14), (12, 15), (12, 16), (12, 17), (12, 18)] [(12, 19)] X σ σ := q_ow.rf
  obtain ⟨out, hout⟩ : ∃ o, o = F_X12_readTold X σ a v1 := ⟨_, rfl⟩
  have hF := hout.symm
  unfold F_X12_readTold at hF
  refine lv_aload_n hx hb dX12_readTold_0 rfl (lv_at hl 0 rfl) ?_
  refine gs_X12_187_12 E hI ha dX12_readTold_1 ?_
  refine lv_topi (fun f_1 ef_1 => ?_)
  replace hF := q_letX hF ef_1
  have if_1 : f_1.toInt = (σ.1 a 12).toInt := congrArg Int32.toInt ef_1
  have J_18_2 : ∀  (σ_2 : ST) (H : Heap) (locs : List Loc) (ls : Array Slot), (0 ≤ (σ_2.1 a 15).toInt ∧ (σ_2.1 a 15).toInt ≤ (σ_2.1 a 16).toInt ∧ (σ_2.1 a 16).toInt ≤ (σ_2.1 a 9).toInt ∧ (σ_2.1 a 9).toInt ≤ 900 ∧ 0 ≤ (σ_2.1 a 14).toInt ∧ (σ_2.1 a 14).toInt ≤ 4 ∧ (σ_2.1 a 14).toInt ≤ 4 * ((σ_2.1 a 16).toInt - (σ_2.1 a 15).toInt) ∧ (σ_2.1 a 14).toInt ≤ 4 * ((σ_2.1 a 9).toInt - (σ_2.1 a 15).toInt) ∧ 0 ≤ (σ_2.1 a 12).toInt ∧ (σ_2.1 a 9).toInt = (σ.1 a 9).toInt ∧ (σ_2.1 a 15).toInt = (σ.1 a 15).toInt ∧ (σ_2.1 a 16).toInt = (σ.1 a 16).toInt ∧ (σ.1 a 12).toInt ≤ (σ_2.1 a 12).toInt) → (q_KS (fun b g => b = a ∧ 12 ≤ g ∧ g ≤ 18) 9 X σ σ_2) → (q_ow [(12, 12), (12, 13), (12, 14), (12, 15), (12, 16), (12, 17), (12, 18)] [(12, 19)] X σ σ_2) → (F_X12_readTold_J18_1 X a v1 σ_2 = out) → q_I X 2 σ s.heap locs σ_2 H → lv_has ls 3 [(0, .ref a), (1, .int v1)] → W p l e (q_rm 5 107) s m ([.ref a, .int v1] : List Value).toArray below meth c H locs 0 0 (MQ below (q_Qi X 2 σ (fun (r : Int32) (σ' : ST) => (q_KS (fun b g => b = a ∧ 12 ≤ g ∧ g ≤ 18) 9 X σ σ') ∧ (0 ≤ (σ'.1 a 15).toInt ∧ (σ'.1 a 15).toInt ≤ (σ'.1 a 16).toInt ∧ (σ'.1 a 16).toInt ≤ (σ'.1 a 9).toInt ∧ (σ'.1 a 9).toInt ≤ 900 ∧ 0 ≤ (σ'.1 a 14).toInt ∧ (σ'.1 a 14).toInt ≤ 4 ∧ (σ'.1 a 14).toInt ≤ 4 * ((σ'.1 a 16).toInt - (σ'.1 a 15).toInt) ∧ (σ'.1 a 14).toInt ≤ 4 * ((σ'.1 a 9).toInt - (σ'.1 a 15).toInt) ∧ 0 ≤ (σ'.1 a 12).toInt ∧ (σ'.1 a 9).toInt = (σ.1 a 9).toInt ∧ (σ.1 a 15).toInt ≤ (σ'.1 a 15).toInt ∧ (σ.1 a 12).toInt ≤ (σ'.1 a 12).toInt) ∧ ((σ.1 a 16).toInt ≤ (σ'.1 a 15).toInt + 1000 * (σ'.1 a 12).toInt ∧ 0 ≤ r.toInt ∧ r.toInt ≤ 5) ∧ (r, σ') = F_X12_readTold X σ a v1 ∧ q_ow [(12, 12), (12, 13), (12, 14), (12, 15), (12, 16), (12, 17), (12, 18)] [(12, 19)] X σ σ')) ([.ref a, .int v1] : List Value).toArray s 0 0 (q_reg X)) (F0 m 18 ls []) := by
    clear hF
    intro σ_2 H locs ls j18σ_2 ks_σ_2 fr_σ_2 hF hI hl
    try clear fr_σ
    unfold F_X12_readTold_J18_1 at hF
    refine lv_aload_n hx hb dX12_readTold_18 rfl (lv_at hl 0 rfl) ?_
    refine gs_X12_187_12 E hI ha dX12_readTold_19 ?_
    refine lv_topi (fun f_3 ef_3 => ?_)
    replace hF := q_letX hF ef_3
    have if_3 : f_3.toInt = (σ_2.1 a 12).toInt := congrArg Int32.toInt ef_3
    refine q_if_ne (A := f_3.toInt) E rfl (tgt := 33) dX12_readTold_22 (by decide) (fun c_4 => ?_) (fun c_4 => ?_)
    · skip
      replace hF := q_ifn hF c_4
      refine lv_iconst (v := 0) hx hb dX12_readTold_33 (by decide) ?_
      refine lv_istore_n (lv' := [(2, .int 0), (0, .ref a), (1, .int v1)]) hx hb dX12_readTold_34 rfl hl (by decide) rfl (fun ls hl => ?_)
      refine lv_aload_n hx hb dX12_readTold_35 rfl (lv_at hl 1 rfl) ?_
      refine gs_X12_187_12 E hI ha dX12_readTold_36 ?_
      refine lv_topi (fun f_5 ef_5 => ?_)
      replace hF := q_letX hF ef_5
      have if_5 : f_5.toInt = (σ_2.1 a 12).toInt := congrArg Int32.toInt ef_5
      refine q_if_ne (A := f_5.toInt) E rfl (tgt := 55) dX12_readTold_39 (by decide) (fun c_6 => ?_) (fun c_6 => ?_)
      · skip
        replace hF := q_ifn hF c_6
        refine lv_aload_n hx hb dX12_readTold_55 rfl (lv_at hl 1 rfl) ?_
        refine lv_iconst (v := 1) hx hb dX12_readTold_56 (by decide) ?_
        have kc_7 : (1 : Int32).toInt = 1 := rfl
        refine q_cv (q_runV (As := [.int 1]) (rest := []) E (hml.trans hl.1.symm) hI (c_X12_must l X σ_2 a (1 : Int32) ha (by first | (clear hq hm if_1 c_4 c_6 kc_7; omega) | omega) (by first | (clear hs hq hm if_1 j18σ_2 if_3 c_4 if_5 c_6; omega) | omega)) kv_X12_216 ha ⟨rfl, by decide⟩ (show vwCl[11]? = some (RX12, TX12, 46) from rfl) rfl ⟨Nat.le_of_ble_eq_true rfl, Nat.le_of_ble_eq_true rfl⟩ ⟨Nat.le_refl _, Nat.le_refl _⟩ rfl (Nat.le_of_ble_eq_true rfl) dX12_readTold_57) hI (by decide) (fun σ_9 H locs hpσ_9 hkσ_9 hI => ?_)
        obtain ⟨ahpσ_9, bhpσ_9, chpσ_9, dhpσ_9, ehpσ_9⟩ := hpσ_9
        have fr_σ_9 := fr_σ_2.call ehpσ_9 rfl rfl
        replace hF := q_letX hF dhpσ_9
        have ks_σ_9 : q_KS (fun b g => b = a ∧ 12 ≤ g ∧ g ≤ 18) 9 X σ σ_9 := ks_σ_2.KS ahpσ_9 (by decide) (fun _ _ h => h)
        refine lv_iconst (v := 0) hx hb dX12_readTold_60 (by decide) ?_
        refine lv_iload_n hx hb dX12_readTold_61 rfl (lv_at hl 0 rfl) ?_
        have kc_10 : (0 : Int32).toInt = 0 := rfl
        have kc_11 : (0 : Int32).toInt = 0 := rfl
        refine q_ci (q_runS (As := [.int 0, .int 0]) (rest := []) E (hml.trans hl.1.symm) hI (c_J9_max_7cf53 l X σ_9 (0 : Int32) (0 : Int32)) ks_X12_220 rfl ⟨Nat.le_of_ble_eq_true rfl, Nat.le_of_ble_eq_true rfl⟩ ⟨Nat.le_refl _, Nat.le_refl _⟩ rfl (Nat.le_of_ble_eq_true rfl) dX12_readTold_62) hI (by decide) (fun r_12 σ_13 H locs hpσ_13 hkσ_13 hI => ?_)
        obtain ⟨ahpσ_13, bhpσ_13, chpσ_13⟩ := hpσ_13
        rw [ahpσ_13] at hI
        replace hF := q_letX hF chpσ_13
        exact q_reti E hr hlk hI ⟨ks_σ_9, (by first | (clear hq hm c_4 c_6 kc_7 ahpσ_9 chpσ_9 dhpσ_9 ehpσ_9 kc_10 kc_11 ahpσ_13 bhpσ_13 chpσ_13; omega) | omega), (by first | (clear hs hq hm if_1 if_3 c_4 if_5 c_6 kc_7 ahpσ_9 bhpσ_9 dhpσ_9 ehpσ_9 kc_11 ahpσ_13 chpσ_13; omega) | omega), (hF.trans hout), fr_σ_9⟩ dX12_readTold_65
      · skip
        replace hF := q_ifp hF c_6
        refine lv_iload_n hx hb dX12_readTold_42 rfl (lv_at hl 0 rfl) ?_
        refine q_if_ge (A := 0) E (by decide) (tgt := 55) dX12_readTold_43 (by decide) (fun c_14 => ?_) (fun c_14 => ?_)
        · skip
          replace hF := q_ifn hF (Int.not_lt.mpr c_14)
          refine lv_aload_n hx hb dX12_readTold_55 rfl (lv_at hl 1 rfl) ?_
          refine lv_iconst (v := 1) hx hb dX12_readTold_56 (by decide) ?_
          have kc_15 : (1 : Int32).toInt = 1 := rfl
          refine q_cv (q_runV (As := [.int 1]) (rest := []) E (hml.trans hl.1.symm) hI (c_X12_must l X σ_2 a (1 : Int32) ha (by first | (clear hq hm if_1 c_4 c_14 kc_15; omega) | omega) (by first | (clear hs hq hm if_1 j18σ_2 if_3 c_4 if_5 c_6 c_14; omega) | omega)) kv_X12_216 ha ⟨rfl, by decide⟩ (show vwCl[11]? = some (RX12, TX12, 46) from rfl) rfl ⟨Nat.le_of_ble_eq_true rfl, Nat.le_of_ble_eq_true rfl⟩ ⟨Nat.le_refl _, Nat.le_refl _⟩ rfl (Nat.le_of_ble_eq_true rfl) dX12_readTold_57) hI (by decide) (fun σ_17 H locs hpσ_17 hkσ_17 hI => ?_)
          obtain ⟨ahpσ_17, bhpσ_17, chpσ_17, dhpσ_17, ehpσ_17⟩ := hpσ_17
          have fr_σ_17 := fr_σ_2.call ehpσ_17 rfl rfl
          replace hF := q_letX hF dhpσ_17
          have ks_σ_17 : q_KS (fun b g => b = a ∧ 12 ≤ g ∧ g ≤ 18) 9 X σ σ_17 := ks_σ_2.KS ahpσ_17 (by decide) (fun _ _ h => h)
          refine lv_iconst (v := 0) hx hb dX12_readTold_60 (by decide) ?_
          refine lv_iload_n hx hb dX12_readTold_61 rfl (lv_at hl 0 rfl) ?_
          have kc_18 : (0 : Int32).toInt = 0 := rfl
          have kc_19 : (0 : Int32).toInt = 0 := rfl
          refine q_ci (q_runS (As := [.int 0, .int 0]) (rest := []) E (hml.trans hl.1.symm) hI (c_J9_max_7cf53 l X σ_17 (0 : Int32) (0 : Int32)) ks_X12_220 rfl ⟨Nat.le_of_ble_eq_true rfl, Nat.le_of_ble_eq_true rfl⟩ ⟨Nat.le_refl _, Nat.le_refl _⟩ rfl (Nat.le_of_ble_eq_true rfl) dX12_readTold_62) hI (by decide) (fun r_20 σ_21 H locs hpσ_21 hkσ_21 hI => ?_)
          obtain ⟨ahpσ_21, bhpσ_21, chpσ_21⟩ := hpσ_21
          rw [ahpσ_21] at hI
          replace hF := q_letX hF chpσ_21
          exact q_reti E hr hlk hI ⟨ks_σ_17, (by first | (clear hq hm c_4 c_14 kc_15 ahpσ_17 chpσ_17 dhpσ_17 ehpσ_17 kc_18 kc_19 ahpσ_21 bhpσ_21 chpσ_21; omega) | omega), (by first | (clear hs hq hm if_1 if_3 c_4 if_5 c_6 c_14 kc_15 ahpσ_17 bhpσ_17 dhpσ_17 ehpσ_17 kc_19 ahpσ_21 chpσ_21; omega) | omega), (hF.trans hout), fr_σ_17⟩ dX12_readTold_65
        · skip
          replace hF := q_ifp hF c_14
          refine lv_aload_n hx hb dX12_readTold_46 rfl (lv_at hl 1 rfl) ?_
          refine lv_iconst (v := 3) hx hb dX12_readTold_47 (by decide) ?_
          refine lv_aload_n hx hb dX12_readTold_48 rfl (lv_at hl 1 rfl) ?_
          refine gs_X12_104_12 E hI ha dX12_readTold_49 ?_
          refine lv_topi (fun f_22 ef_22 => ?_)
          replace hF := q_letX hF ef_22
          have if_22 : f_22.toInt = (σ_2.1 a 15).toInt := congrArg Int32.toInt ef_22
          have kc_23 : (3 : Int32).toInt = 3 := rfl
          refine q_cv (q_runV (As := [.int 3, .int f_22]) (rest := []) E (hml.trans hl.1.symm) hI (c_X12_fail l X σ_2 a (3 : Int32) f_22 ha (by first | (clear hs hq hm if_1 j18σ_2 if_3 c_4 if_5 c_6 if_22 kc_23; omega) | omega) (by first | (clear hs hq hm if_1 j18σ_2 if_3 c_4 if_5 c_6 if_22 kc_23; omega) | omega)) kv_X12_193 ha ⟨rfl, by decide⟩ (show vwCl[11]? = some (RX12, TX12, 46) from rfl) rfl ⟨Nat.le_of_ble_eq_true rfl, Nat.le_of_ble_eq_true rfl⟩ ⟨Nat.le_refl _, Nat.le_refl _⟩ rfl (Nat.le_of_ble_eq_true rfl) dX12_readTold_52) hI (by decide) (fun σ_25 H locs hpσ_25 hkσ_25 hI => ?_)
          obtain ⟨ahpσ_25, bhpσ_25, chpσ_25, dhpσ_25, ehpσ_25⟩ := hpσ_25
          have fr_σ_25 := fr_σ_2.call ehpσ_25 rfl rfl
          replace hF := q_letX hF dhpσ_25
          have ks_σ_25 : q_KS (fun b g => b = a ∧ 12 ≤ g ∧ g ≤ 18) 9 X σ σ_25 := ks_σ_2.KS ahpσ_25 (by decide) (fun _ _ h => h)
          refine lv_aload_n hx hb dX12_readTold_55 rfl (lv_at hl 1 rfl) ?_
          refine lv_iconst (v := 1) hx hb dX12_readTold_56 (by decide) ?_
          have kc_26 : (1 : Int32).toInt = 1 := rfl
          refine q_cv (q_runV (As := [.int 1]) (rest := []) E (hml.trans hl.1.symm) hI (c_X12_must l X σ_25 a (1 : Int32) ha (by first | (clear hs hq hm if_1 j18σ_2 if_3 c_4 if_5 c_6 if_22 kc_23 ahpσ_25 bhpσ_25 chpσ_25 dhpσ_25 ehpσ_25 kc_26; omega) | omega) (by first | (clear hs hq hm if_1 j18σ_2 if_3 c_4 if_5 c_6 if_22 kc_23 ahpσ_25 bhpσ_25 chpσ_25 dhpσ_25 ehpσ_25 kc_26; omega) | omega)) kv_X12_216 ha ⟨rfl, by decide⟩ (show vwCl[11]? = some (RX12, TX12, 46) from rfl) rfl ⟨Nat.le_of_ble_eq_true rfl, Nat.le_of_ble_eq_true rfl⟩ ⟨Nat.le_refl _, Nat.le_refl _⟩ rfl (Nat.le_of_ble_eq_true rfl) dX12_readTold_57) hI (by decide) (fun σ_28 H locs hpσ_28 hkσ_28 hI => ?_)
          obtain ⟨ahpσ_28, bhpσ_28, chpσ_28, dhpσ_28, ehpσ_28⟩ := hpσ_28
          have fr_σ_28 := fr_σ_25.call ehpσ_28 rfl rfl
          replace hF := q_letX hF dhpσ_28
          have ks_σ_28 : q_KS (fun b g => b = a ∧ 12 ≤ g ∧ g ≤ 18) 9 X σ σ_28 := ks_σ_25.KS ahpσ_28 (by decide) (fun _ _ h => h)
          refine lv_iconst (v := 0) hx hb dX12_readTold_60 (by decide) ?_
          refine lv_iload_n hx hb dX12_readTold_61 rfl (lv_at hl 0 rfl) ?_
          have kc_29 : (0 : Int32).toInt = 0 := rfl
          have kc_30 : (0 : Int32).toInt = 0 := rfl
          refine q_ci (q_runS (As := [.int 0, .int 0]) (rest := []) E (hml.trans hl.1.symm) hI (c_J9_max_7cf53 l X σ_28 (0 : Int32) (0 : Int32)) ks_X12_220 rfl ⟨Nat.le_of_ble_eq_true rfl, Nat.le_of_ble_eq_true rfl⟩ ⟨Nat.le_refl _, Nat.le_refl _⟩ rfl (Nat.le_of_ble_eq_true rfl) dX12_readTold_62) hI (by decide) (fun r_31 σ_32 H locs hpσ_32 hkσ_32 hI => ?_)
          obtain ⟨ahpσ_32, bhpσ_32, chpσ_32⟩ := hpσ_32
          rw [ahpσ_32] at hI
          replace hF := q_letX hF chpσ_32
          exact q_reti E hr hlk hI ⟨ks_σ_28, (by first | (clear hs hq hm if_1 j18σ_2 if_3 c_4 if_5 c_6 if_22 kc_23 ahpσ_25 bhpσ_25 chpσ_25 dhpσ_25 ehpσ_25 kc_26 ahpσ_28 bhpσ_28 chpσ_28 dhpσ_28 ehpσ_28 kc_29 kc_30 ahpσ_32 bhpσ_32 chpσ_32; omega) | omega), (by first | (clear hs hq hm if_1 j18σ_2 if_3 c_4 if_5 c_6 if_22 kc_23 ahpσ_25 bhpσ_25 chpσ_25 dhpσ_25 ehpσ_25 kc_26 ahpσ_28 bhpσ_28 chpσ_28 dhpσ_28 ehpσ_28 kc_29 kc_30 ahpσ_32 bhpσ_32 chpσ_32; omega) | omega), (hF.trans hout), fr_σ_28⟩ dX12_readTold_65
    · skip
      replace hF := q_ifp hF c_4
      refine lv_aload_n hx hb dX12_readTold_25 rfl (lv_at hl 0 rfl) ?_
      refine lv_iload_n hx hb dX12_readTold_26 rfl (lv_at hl 1 rfl) ?_
      refine q_ci (q_runV (As := [.int v1]) (rest := []) E (hml.trans hl.1.symm) hI (c_X12_named l X σ_2 a v1 ha hq (by rw [m_cK hI.2.2.2.2.2 hI.1 ha (by decide)]; exact hm)) kv_X12_213 ha ⟨rfl, by decide⟩ (show vwCl[11]? = some (RX12, TX12, 46) from rfl) rfl ⟨Nat.le_of_ble_eq_true rfl, Nat.le_of_ble_eq_true rfl⟩ ⟨Nat.le_refl _, Nat.le_refl _⟩ rfl (Nat.le_of_ble_eq_true rfl) dX12_readTold_27) hI (by decide) (fun r_33 σ_34 H locs hpσ_34 hkσ_34 hI => ?_)
      obtain ⟨ahpσ_34, bhpσ_34, chpσ_34⟩ := hpσ_34
      rw [ahpσ_34] at hI
      replace hF := q_letX hF chpσ_34
      refine lv_goto (tgt := 34) hx hb dX12_readTold_30 (by decide) ?_
      refine lv_istore_n (lv' := [(2, .int r_33), (0, .ref a), (1, .int v1)]) hx hb dX12_readTold_34 rfl hl (by decide) rfl (fun ls hl => ?_)
      refine lv_aload_n hx hb dX12_readTold_35 rfl (lv_at hl 1 rfl) ?_
      refine gs_X12_187_12 E hI ha dX12_readTold_36 ?_
      refine lv_topi (fun f_35 ef_35 => ?_)
      replace hF := q_letX hF ef_35
      have if_35 : f_35.toInt = (σ_2.1 a 12).toInt := congrArg Int32.toInt ef_35
      refine q_if_ne (A := f_35.toInt) E rfl (tgt := 55) dX12_readTold_39 (by decide) (fun c_36 => ?_) (fun c_36 => ?_)
      · skip
        replace hF := q_ifn hF c_36
        refine lv_aload_n hx hb dX12_readTold_55 rfl (lv_at hl 1 rfl) ?_
        refine lv_iconst (v := 1) hx hb dX12_readTold_56 (by decide) ?_
        have kc_37 : (1 : Int32).toInt = 1 := rfl
        refine q_cv (q_runV (As := [.int 1]) (rest := []) E (hml.trans hl.1.symm) hI (c_X12_must l X σ_2 a (1 : Int32) ha (by first | (clear hq hm if_1 ahpσ_34 bhpσ_34 chpσ_34 if_35 c_36 kc_37; omega) | omega) (by first | (clear hs hq hm if_1 j18σ_2 if_3 c_4 ahpσ_34 bhpσ_34 chpσ_34 if_35 c_36; omega) | omega)) kv_X12_216 ha ⟨rfl, by decide⟩ (show vwCl[11]? = some (RX12, TX12, 46) from rfl) rfl ⟨Nat.le_of_ble_eq_true rfl, Nat.le_of_ble_eq_true rfl⟩ ⟨Nat.le_refl _, Nat.le_refl _⟩ rfl (Nat.le_of_ble_eq_true rfl) dX12_readTold_57) hI (by decide) (fun σ_39 H locs hpσ_39 hkσ_39 hI => ?_)
        obtain ⟨ahpσ_39, bhpσ_39, chpσ_39, dhpσ_39, ehpσ_39⟩ := hpσ_39
        have fr_σ_39 := fr_σ_2.call ehpσ_39 rfl rfl
        replace hF := q_letX hF dhpσ_39
        have ks_σ_39 : q_KS (fun b g => b = a ∧ 12 ≤ g ∧ g ≤ 18) 9 X σ σ_39 := ks_σ_2.KS ahpσ_39 (by decide) (fun _ _ h => h)
        refine lv_iconst (v := 0) hx hb dX12_readTold_60 (by decide) ?_
        refine lv_iload_n hx hb dX12_readTold_61 rfl (lv_at hl 0 rfl) ?_
        have kc_40 : (0 : Int32).toInt = 0 := rfl
        refine q_ci (q_runS (As := [.int 0, .int r_33]) (rest := []) E (hml.trans hl.1.symm) hI (c_J9_max_7cf53 l X σ_39 (0 : Int32) r_33) ks_X12_220 rfl ⟨Nat.le_of_ble_eq_true rfl, Nat.le_of_ble_eq_true rfl⟩ ⟨Nat.le_refl _, Nat.le_refl _⟩ rfl (Nat.le_of_ble_eq_true rfl) dX12_readTold_62) hI (by decide) (fun r_41 σ_42 H locs hpσ_42 hkσ_42 hI => ?_)
        obtain ⟨ahpσ_42, bhpσ_42, chpσ_42⟩ := hpσ_42
        rw [ahpσ_42] at hI
        replace hF := q_letX hF chpσ_42
        exact q_reti E hr hlk hI ⟨ks_σ_39, (by first | (clear hq hm ahpσ_34 bhpσ_34 chpσ_34 if_35 c_36 kc_37 ahpσ_39 chpσ_39 dhpσ_39 ehpσ_39 kc_40 ahpσ_42 bhpσ_42 chpσ_42; omega) | omega), (by first | (clear hs hq hm if_1 if_3 c_4 ahpσ_34 chpσ_34 if_35 c_36 kc_37 ahpσ_39 bhpσ_39 dhpσ_39 ehpσ_39 ahpσ_42 chpσ_42; omega) | omega), (hF.trans hout), fr_σ_39⟩ dX12_readTold_65
      · skip
        replace hF := q_ifp hF c_36
        refine lv_iload_n hx hb dX12_readTold_42 rfl (lv_at hl 0 rfl) ?_
        refine q_if_ge (A := r_33.toInt) E rfl (tgt := 55) dX12_readTold_43 (by decide) (fun c_43 => ?_) (fun c_43 => ?_)
        · skip
          replace hF := q_ifn hF (Int.not_lt.mpr c_43)
          refine lv_aload_n hx hb dX12_readTold_55 rfl (lv_at hl 1 rfl) ?_
          refine lv_iconst (v := 1) hx hb dX12_readTold_56 (by decide) ?_
          have kc_44 : (1 : Int32).toInt = 1 := rfl
          refine q_cv (q_runV (As := [.int 1]) (rest := []) E (hml.trans hl.1.symm) hI (c_X12_must l X σ_2 a (1 : Int32) ha (by first | (clear hq hm if_1 ahpσ_34 bhpσ_34 chpσ_34 if_35 c_36 c_43 kc_44; omega) | omega) (by first | (clear hs hq hm if_1 j18σ_2 if_3 c_4 ahpσ_34 bhpσ_34 chpσ_34 if_35 c_36 c_43; omega) | omega)) kv_X12_216 ha ⟨rfl, by decide⟩ (show vwCl[11]? = some (RX12, TX12, 46) from rfl) rfl ⟨Nat.le_of_ble_eq_true rfl, Nat.le_of_ble_eq_true rfl⟩ ⟨Nat.le_refl _, Nat.le_refl _⟩ rfl (Nat.le_of_ble_eq_true rfl) dX12_readTold_57) hI (by decide) (fun σ_46 H locs hpσ_46 hkσ_46 hI => ?_)
          obtain ⟨ahpσ_46, bhpσ_46, chpσ_46, dhpσ_46, ehpσ_46⟩ := hpσ_46
          have fr_σ_46 := fr_σ_2.call ehpσ_46 rfl rfl
          replace hF := q_letX hF dhpσ_46
          have ks_σ_46 : q_KS (fun b g => b = a ∧ 12 ≤ g ∧ g ≤ 18) 9 X σ σ_46 := ks_σ_2.KS ahpσ_46 (by decide) (fun _ _ h => h)
          refine lv_iconst (v := 0) hx hb dX12_readTold_60 (by decide) ?_
          refine lv_iload_n hx hb dX12_readTold_61 rfl (lv_at hl 0 rfl) ?_
          have kc_47 : (0 : Int32).toInt = 0 := rfl
          refine q_ci (q_runS (As := [.int 0, .int r_33]) (rest := []) E (hml.trans hl.1.symm) hI (c_J9_max_7cf53 l X σ_46 (0 : Int32) r_33) ks_X12_220 rfl ⟨Nat.le_of_ble_eq_true rfl, Nat.le_of_ble_eq_true rfl⟩ ⟨Nat.le_refl _, Nat.le_refl _⟩ rfl (Nat.le_of_ble_eq_true rfl) dX12_readTold_62) hI (by decide) (fun r_48 σ_49 H locs hpσ_49 hkσ_49 hI => ?_)
          obtain ⟨ahpσ_49, bhpσ_49, chpσ_49⟩ := hpσ_49
          rw [ahpσ_49] at hI
          replace hF := q_letX hF chpσ_49
          exact q_reti E hr hlk hI ⟨ks_σ_46, (by first | (clear hq hm ahpσ_34 bhpσ_34 chpσ_34 if_35 c_36 c_43 kc_44 ahpσ_46 chpσ_46 dhpσ_46 ehpσ_46 kc_47 ahpσ_49 bhpσ_49 chpσ_49; omega) | omega), (by first | (clear hs hq hm if_1 if_3 c_4 ahpσ_34 chpσ_34 if_35 c_36 kc_44 ahpσ_46 bhpσ_46 dhpσ_46 ehpσ_46 ahpσ_49 chpσ_49; omega) | omega), (hF.trans hout), fr_σ_46⟩ dX12_readTold_65
        · skip
          replace hF := q_ifp hF c_43
          refine lv_aload_n hx hb dX12_readTold_46 rfl (lv_at hl 1 rfl) ?_
          refine lv_iconst (v := 3) hx hb dX12_readTold_47 (by decide) ?_
          refine lv_aload_n hx hb dX12_readTold_48 rfl (lv_at hl 1 rfl) ?_
          refine gs_X12_104_12 E hI ha dX12_readTold_49 ?_
          refine lv_topi (fun f_50 ef_50 => ?_)
          replace hF := q_letX hF ef_50
          have if_50 : f_50.toInt = (σ_2.1 a 15).toInt := congrArg Int32.toInt ef_50
          have kc_51 : (3 : Int32).toInt = 3 := rfl
          refine q_cv (q_runV (As := [.int 3, .int f_50]) (rest := []) E (hml.trans hl.1.symm) hI (c_X12_fail l X σ_2 a (3 : Int32) f_50 ha (by first | (clear hs hq hm if_1 j18σ_2 ahpσ_34 bhpσ_34 chpσ_34 if_35 c_36 c_43 if_50 kc_51; omega) | omega) (by first | (clear hs hq hm if_1 j18σ_2 if_3 c_4 ahpσ_34 bhpσ_34 chpσ_34 if_35 c_36 c_43 if_50; omega) | omega)) kv_X12_193 ha ⟨rfl, by decide⟩ (show vwCl[11]? = some (RX12, TX12, 46) from rfl) rfl ⟨Nat.le_of_ble_eq_true rfl, Nat.le_of_ble_eq_true rfl⟩ ⟨Nat.le_refl _, Nat.le_refl _⟩ rfl (Nat.le_of_ble_eq_true rfl) dX12_readTold_52) hI (by decide) (fun σ_53 H locs hpσ_53 hkσ_53 hI => ?_)
          obtain ⟨ahpσ_53, bhpσ_53, chpσ_53, dhpσ_53, ehpσ_53⟩ := hpσ_53
          have fr_σ_53 := fr_σ_2.call ehpσ_53 rfl rfl
          replace hF := q_letX hF dhpσ_53
          have ks_σ_53 : q_KS (fun b g => b = a ∧ 12 ≤ g ∧ g ≤ 18) 9 X σ σ_53 := ks_σ_2.KS ahpσ_53 (by decide) (fun _ _ h => h)
          refine lv_aload_n hx hb dX12_readTold_55 rfl (lv_at hl 1 rfl) ?_
          refine lv_iconst (v := 1) hx hb dX12_readTold_56 (by decide) ?_
          have kc_54 : (1 : Int32).toInt = 1 := rfl
          refine q_cv (q_runV (As := [.int 1]) (rest := []) E (hml.trans hl.1.symm) hI (c_X12_must l X σ_53 a (1 : Int32) ha (by first | (clear hq hm if_1 if_3 c_4 ahpσ_34 bhpσ_34 chpσ_34 if_35 c_36 c_43 kc_51 ahpσ_53 dhpσ_53 ehpσ_53 kc_54; omega) | omega) (by first | (clear hs hq hm if_1 j18σ_2 if_3 c_4 ahpσ_34 bhpσ_34 chpσ_34 if_35 c_36 c_43 if_50 kc_51 ahpσ_53 bhpσ_53 chpσ_53 dhpσ_53 ehpσ_53; omega) | omega)) kv_X12_216 ha ⟨rfl, by decide⟩ (show vwCl[11]? = some (RX12, TX12, 46) from rfl) rfl ⟨Nat.le_of_ble_eq_true rfl, Nat.le_of_ble_eq_true rfl⟩ ⟨Nat.le_refl _, Nat.le_refl _⟩ rfl (Nat.le_of_ble_eq_true rfl) dX12_readTold_57) hI (by decide) (fun σ_56 H locs hpσ_56 hkσ_56 hI => ?_)
          obtain ⟨ahpσ_56, bhpσ_56, chpσ_56, dhpσ_56, ehpσ_56⟩ := hpσ_56
          have fr_σ_56 := fr_σ_53.call ehpσ_56 rfl rfl
          replace hF := q_letX hF dhpσ_56
          have ks_σ_56 : q_KS (fun b g => b = a ∧ 12 ≤ g ∧ g ≤ 18) 9 X σ σ_56 := ks_σ_53.KS ahpσ_56 (by decide) (fun _ _ h => h)
          refine lv_iconst (v := 0) hx hb dX12_readTold_60 (by decide) ?_
          refine lv_iload_n hx hb dX12_readTold_61 rfl (lv_at hl 0 rfl) ?_
          have kc_57 : (0 : Int32).toInt = 0 := rfl
          refine q_ci (q_runS (As := [.int 0, .int r_33]) (rest := []) E (hml.trans hl.1.symm) hI (c_J9_max_7cf53 l X σ_56 (0 : Int32) r_33) ks_X12_220 rfl ⟨Nat.le_of_ble_eq_true rfl, Nat.le_of_ble_eq_true rfl⟩ ⟨Nat.le_refl _, Nat.le_refl _⟩ rfl (Nat.le_of_ble_eq_true rfl) dX12_readTold_62) hI (by decide) (fun r_58 σ_59 H locs hpσ_59 hkσ_59 hI => ?_)
          obtain ⟨ahpσ_59, bhpσ_59, chpσ_59⟩ := hpσ_59
          rw [ahpσ_59] at hI
          replace hF := q_letX hF chpσ_59
          exact q_reti E hr hlk hI ⟨ks_σ_56, (by first | (clear hs hq hm ahpσ_34 bhpσ_34 chpσ_34 if_35 c_36 c_43 kc_51 ahpσ_53 dhpσ_53 ehpσ_53 kc_54 ahpσ_56 chpσ_56 dhpσ_56 ehpσ_56 kc_57 ahpσ_59 bhpσ_59 chpσ_59; omega) | omega), (by first | (clear hs hq hm if_1 if_3 c_4 ahpσ_34 chpσ_34 if_35 c_36 if_50 kc_51 ahpσ_53 chpσ_53 dhpσ_53 ehpσ_53 kc_54 ahpσ_56 bhpσ_56 dhpσ_56 ehpσ_56 ahpσ_59 chpσ_59; omega) | omega), (hF.trans hout), fr_σ_56⟩ dX12_readTold_65
  refine q_if_ne (A := f_1.toInt) E rfl (tgt := 18) dX12_readTold_4 (by decide) (fun c_60 => ?_) (fun c_60 => ?_)
  · skip
    replace hF := q_ifn hF c_60
    exact J_18_2 σ _ _ ls (by first | (clear hq hm c_60; omega) | omega) ks_σ fr_σ hF hI (lv_sub hl [0, 1] rfl)
  · skip
    replace hF := q_ifp hF c_60
    refine lv_aload_n hx hb dX12_readTold_7 rfl (lv_at hl 0 rfl) ?_
    refine q_ci (q_runV (As := []) (rest := []) E (hml.trans hl.1.symm) hI (c_X12_isName l X σ a ha (by first | (clear hq hm if_1 c_60; omega) | omega)) kv_X12_210 ha ⟨rfl, by decide⟩ (show vwCl[11]? = some (RX12, TX12, 46) from rfl) rfl ⟨Nat.le_of_ble_eq_true rfl, Nat.le_of_ble_eq_true rfl⟩ ⟨Nat.le_refl _, Nat.le_refl _⟩ rfl (Nat.le_of_ble_eq_true rfl) dX12_readTold_8) hI (by decide) (fun r_61 σ_62 H locs hpσ_62 hkσ_62 hI => ?_)
    obtain ⟨ahpσ_62, bhpσ_62, chpσ_62⟩ := hpσ_62
    rw [ahpσ_62] at hI
    replace hF := q_letX hF chpσ_62
    refine q_if_ne (A := r_61.toInt) E rfl (tgt := 18) dX12_readTold_11 (by decide) (fun c_63 => ?_) (fun c_63 => ?_)
    · skip
      replace hF := q_ifn hF c_63
      replace c_63 := q_ifOne bhpσ_62 c_63
      exact J_18_2 σ _ _ ls (by first | (clear hq hm ahpσ_62 bhpσ_62 chpσ_62 c_63; omega) | omega) ks_σ fr_σ hF hI (lv_sub hl [0, 1] rfl)
    · skip
      replace hF := q_ifp hF c_63
      refine lv_aload_n hx hb dX12_readTold_14 rfl (lv_at hl 0 rfl) ?_
      refine q_cv (q_runV (As := []) (rest := []) E (hml.trans hl.1.symm) hI (c_X12_wrong l X σ a ha (by first | (clear hs hq hm ahpσ_62 bhpσ_62 chpσ_62 c_63; omega) | omega)) kv_X12_200 ha ⟨rfl, by decide⟩ (show vwCl[11]? = some (RX12, TX12, 46) from rfl) rfl ⟨Nat.le_of_ble_eq_true rfl, Nat.le_of_ble_eq_true rfl⟩ ⟨Nat.le_refl _, Nat.le_refl _⟩ rfl (Nat.le_of_ble_eq_true rfl) dX12_readTold_15) hI (by decide) (fun σ_65 H locs hpσ_65 hkσ_65 hI => ?_)
      obtain ⟨ahpσ_65, bhpσ_65, chpσ_65, dhpσ_65, ehpσ_65⟩ := hpσ_65
      have fr_σ_65 := fr_σ.call ehpσ_65 rfl rfl
      replace hF := q_letX hF dhpσ_65
      have ks_σ_65 : q_KS (fun b g => b = a ∧ 12 ≤ g ∧ g ≤ 18) 9 X σ σ_65 := ks_σ.KS ahpσ_65 (by decide) (fun _ _ h => h)
      exact J_18_2 σ_65 _ _ ls (by first | (clear hq hm ahpσ_62 bhpσ_62 chpσ_62 c_63 ahpσ_65 dhpσ_65 ehpσ_65; omega) | omega) ks_σ_65 fr_σ_65 hF hI (lv_sub hl [0, 1] rfl)
end
/-! FROM 36.read.a.lean.txt -/
section
section QS
variable {p : Program} {l : Launch} {e : Env} {R : Room} {s : State} {m : MethodId} {args : Array Value} {below : List Frame} {meth : Method} {c : Code} {H : Heap} {locs : List Loc} {cells slots : Nat} {Q : State → Prop} {cc : ByteArray} {X : XW} {n : Nat} {σ0 σ : ST} {H0 : Heap} {pc : Nat} {ls : Array Slot} {rest : List Value} {a : Nat}
theorem gs_X12_232_12 (E : q_E p c cc s m args RX12 X) (hI : q_I X n σ0 H0 locs σ H) (ha : q_kd X a = 12) (hdg : decode cc pc = .ok (.getfield 232, 3)) (kk : W p l e R s m args below meth c H locs cells slots Q (F0 m (pc + 3) ls (.int (σ.1 a 25) :: rest))) : W p l e R s m args below meth c H locs cells slots Q (F0 m pc ls (.ref a :: rest)) :=
  q_getf (ref := "CheatHeapModel") E hI ha ⟨rfl, by decide⟩ (show vwCl[11]? = some (RX12, TX12, 46) from rfl) q_inX12 (f := 25) (by decide) (q_in_t7 (i := 10) (by first | rfl | decide +kernel) rfl) (Or.inl rfl) rfl hdg kk
theorem ps_X12_232_12 (E : q_E p c cc s m args RX12 X) (hI : q_I X n σ0 H0 locs σ H) (ha : q_kd X a = 12) {v : Int32} (hcl : n < 3) (h1 : 0 ≤ v.toInt) (h2 : v.toInt ≤ 1) (hdg : decode cc pc = .ok (.putfield 232, 3)) (kk : ∀ (H1 : Heap) (locs1 : List Loc) (σ1 : ST), σ1 = q_si σ a 25 v → q_I X n σ0 H0 locs1 σ1 H1 → W p l e R s m args below meth c H1 locs1 cells slots Q (F0 m (pc + 3) ls rest)) : W p l e R s m args below meth c H locs cells slots Q (F0 m pc ls (.int v :: .ref a :: rest)) :=
  q_puti (ref := "CheatHeapModel") E hI ha ⟨rfl, by decide⟩ (show vwCl[11]? = some (RX12, TX12, 46) from rfl) q_inX12 tyX12_ok nmX12 (f := 25) (by decide) (q_in_t7 (i := 10) (by first | rfl | decide +kernel) rfl) (Or.inl rfl) rfl rfl hcl hdg (q_inB rfl h1 h2) (Or.inr ⟨rfl, h1, h2⟩) (fun H1 l1 h => kk H1 l1 _ rfl h)
theorem gs_X12_236_12 (E : q_E p c cc s m args RX12 X) (hI : q_I X n σ0 H0 locs σ H) (ha : q_kd X a = 12) (hdg : decode cc pc = .ok (.getfield 236, 3)) (kk : W p l e R s m args below meth c H locs cells slots Q (F0 m (pc + 3) ls (.int (σ.1 a 26) :: rest))) : W p l e R s m args below meth c H locs cells slots Q (F0 m pc ls (.ref a :: rest)) :=
  q_getf (ref := "CheatHeapModel") E hI ha ⟨rfl, by decide⟩ (show vwCl[11]? = some (RX12, TX12, 46) from rfl) q_inX12 (f := 26) (by decide) (q_in_t7 (i := 11) (by first | rfl | decide +kernel) rfl) (Or.inl rfl) rfl hdg kk
theorem ps_X12_236_12 (E : q_E p c cc s m args RX12 X) (hI : q_I X n σ0 H0 locs σ H) (ha : q_kd X a = 12) {v : Int32} (hcl : n < 3) (h1 : 0 ≤ v.toInt) (h2 : v.toInt ≤ 1) (hdg : decode cc pc = .ok (.putfield 236, 3)) (kk : ∀ (H1 : Heap) (locs1 : List Loc) (σ1 : ST), σ1 = q_si σ a 26 v → q_I X n σ0 H0 locs1 σ1 H1 → W p l e R s m args below meth c H1 locs1 cells slots Q (F0 m (pc + 3) ls rest)) : W p l e R s m args below meth c H locs cells slots Q (F0 m pc ls (.int v :: .ref a :: rest)) :=
  q_puti (ref := "CheatHeapModel") E hI ha ⟨rfl, by decide⟩ (show vwCl[11]? = some (RX12, TX12, 46) from rfl) q_inX12 tyX12_ok nmX12 (f := 26) (by decide) (q_in_t7 (i := 11) (by first | rfl | decide +kernel) rfl) (Or.inl rfl) rfl rfl hcl hdg (q_inB rfl h1 h2) (Or.inr ⟨rfl, h1, h2⟩) (fun H1 l1 h => kk H1 l1 _ rfl h)
theorem kv_X12_223 : q_okV RX12 223 RX12 yX12_count cX12_count 4 (some .int) 2 := ⟨(q_in_t7 (i := 231) (by first | rfl | decide +kernel) rfl), (q_in_t7 (i := 233) (by first | rfl | decide +kernel) rfl), (q_in_p (i := 50) (by decide +kernel) rfl), (q_in_t1 (i := 14) (by first | rfl | decide +kernel) rfl), (q_in_t7 (i := 234) (by first | rfl | decide +kernel) rfl), ⟨rfl, by decide, by decide, rfl⟩⟩
theorem kv_X12_226 : q_okV RX12 226 RX12 yX12_readTold cX12_readTold 3 (some .int) 1 := ⟨(q_in_t8 (i := 79) (by first | rfl | decide +kernel) rfl), (q_in_t8 (i := 81) (by first | rfl | decide +kernel) rfl), (q_in_p (i := 71) (by decide +kernel) rfl), (q_in_t1 (i := 14) (by first | rfl | decide +kernel) rfl), (q_in_t8 (i := 82) (by first | rfl | decide +kernel) rfl), ⟨rfl, by decide, by decide, rfl⟩⟩
theorem gs_X12_41_12 (E : q_E p c cc s m args RX12 X) (hI : q_I X n σ0 H0 locs σ H) (ha : q_kd X a = 12) (hdg : decode cc pc = .ok (.getfield 41, 3)) (kk : W p l e R s m args below meth c H locs cells slots Q (F0 m (pc + 3) ls (.ref (q_rf X a 22) :: rest))) : W p l e R s m args below meth c H locs cells slots Q (F0 m pc ls (.ref a :: rest)) :=
  q_getf (ref := "CheatHeapModel") E hI ha ⟨rfl, by decide⟩ (show vwCl[11]? = some (RX12, TX12, 46) from rfl) q_inX12 (f := 22) (by decide) (q_in_t7 (i := 7) (by first | rfl | decide +kernel) rfl) (Or.inl rfl) rfl hdg kk
theorem kv_X12_229 : q_okV RX12 229 RX12 yX12_toldOf cX12_toldOf 4 (some .int) 1 := ⟨(q_in_t8 (i := 83) (by first | rfl | decide +kernel) rfl), (q_in_t8 (i := 85) (by first | rfl | decide +kernel) rfl), (q_in_p (i := 72) (by decide +kernel) rfl), (q_in_t1 (i := 14) (by first | rfl | decide +kernel) rfl), (q_in_t8 (i := 86) (by first | rfl | decide +kernel) rfl), ⟨rfl, by decide, by decide, rfl⟩⟩
end QS
end
