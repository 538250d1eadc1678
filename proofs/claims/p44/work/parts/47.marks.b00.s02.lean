section
set_option maxRecDepth 100000 in
set_option maxHeartbeats 4000000 in
theorem c_X12_wins (l : Launch) (X : XW) (σ : ST) (a : Nat) (v1 : Int32) (v2 : Int32) (v3 : Int32) (n : Int) (ha : q_kd X a = 12) (hG : m_G (m_c X σ a)) (hW : m_W (m_c X σ a) n) (hn : 0 ≤ n ∧ n ≤ 199000) : Met l yX12_wins (q_ws yX12_wins cX12_wins 4 (some .boolean)) (q_rm 70 1639) (q_P X σ [.ref a, .int v1, .int v2, .int v3]) (q_Qi X 1 σ (fun (r : Int32) (σ' : ST) => (0 ≤ r.toInt ∧ r.toInt ≤ 1) ∧ (m_c X σ' a = m_c X σ a) ∧ (r, σ') = F_X12_wins X σ a v1 v2 v3 ∧ q_ow [(12, 0), (12, 1), (12, 38), (12, 39), (12, 40), (12, 41), (12, 42), (12, 43), (12, 44), (12, 45), (34, 99), (35, 99), (39, 99)] [(12, 2), (12, 3)] X σ σ')) 0 0 (q_reg X) := by
  refine q_met 1 (by first | exact rfl | decide +kernel) rfl (Nat.le_of_ble_eq_true rfl) (fun p e s m below meth c E hml hr hlk hI ls hl => ?_)
  have hx := E.1
  have hb := E.2.1
  have hl : lv_has ls 4 [(0, .ref a), (1, .int v1), (2, .int v2), (3, .int v3)] := hl
  have fr_σ : q_ow [(12, 0), (12, 1), (12, 38), (12, 39), (12, 40), (12, 41), (12, 42), (12, 43), (12, 44), (12, 45), (34, 99), (35, 99), (39, 99)] [(12, 2), (12, 3)] X σ σ := q_ow.rf
  obtain ⟨out, hout⟩ : ∃ o, o = F_X12_wins X σ a v1 v2 v3 := ⟨_, rfl⟩
  have hF := hout.symm
  unfold F_X12_wins at hF
  refine lv_aload_n hx hb dX12_wins_0 rfl (lv_at hl 0 rfl) ?_
  refine lv_iload_n hx hb dX12_wins_1 rfl (lv_at hl 1 rfl) ?_
  refine lv_iload_n hx hb dX12_wins_2 rfl (lv_at hl 2 rfl) ?_
  refine lv_iload_n hx hb dX12_wins_3 rfl (lv_at hl 3 rfl) ?_
  refine lv_iconst (v := 1) hx hb dX12_wins_4 (by decide) ?_
  have kc_1 : (1 : Int32).toInt = 1 := rfl
  refine q_ci (q_runV (As := [.int v1, .int v2, .int v3, .int 1]) (rest := []) E (hml.trans hl.1.symm) hI (c_X12_tries l X σ a v1 v2 v3 (1 : Int32) n ha hG hW hn) kv_X12_451 ha ⟨rfl, by decide⟩ (show vwCl[11]? = some (RX12, TX12, 46) from rfl) rfl ⟨Nat.le_of_ble_eq_true rfl, Nat.le_of_ble_eq_true rfl⟩ ⟨Nat.le_refl _, Nat.le_refl _⟩ rfl (Nat.le_of_ble_eq_true rfl) dX12_wins_5) hI (by decide) (fun r_2 σ_3 H locs hpσ_3 hkσ_3 hI => ?_)
  obtain ⟨ahpσ_3, bhpσ_3, chpσ_3, dhpσ_3⟩ := hpσ_3
  have fr_σ_3 := fr_σ.call dhpσ_3 rfl rfl
  replace hF := q_biX hF chpσ_3
  have tqσ_3 := bhpσ_3
  exact q_retz E hr hlk hI ⟨by omega, by omega⟩ ⟨⟨by omega, by omega⟩, tqσ_3, (hF.trans hout), fr_σ_3⟩ dX12_wins_8

set_option maxRecDepth 100000 in
set_option maxHeartbeats 4000000 in
theorem c_X12_left (l : Launch) (X : XW) (σ : ST) (a : Nat) (v1 : Int32) (v2 : Int32) (v3 : Int32) (n : Int) (ha : q_kd X a = 12) (hG : m_G (m_c X σ a)) (hW : m_W (m_c X σ a) n) (hn : 0 ≤ n ∧ n ≤ 199000) : Met l yX12_left (q_ws yX12_left cX12_left 4 (some .boolean)) (q_rm 70 1639) (q_P X σ [.ref a, .int v1, .int v2, .int v3]) (q_Qi X 1 σ (fun (r : Int32) (σ' : ST) => (0 ≤ r.toInt ∧ r.toInt ≤ 1) ∧ (m_c X σ' a = m_c X σ a) ∧ (r, σ') = F_X12_left X σ a v1 v2 v3 ∧ q_ow [(12, 0), (12, 1), (12, 38), (12, 39), (12, 40), (12, 41), (12, 42), (12, 43), (12, 44), (12, 45), (34, 99), (35, 99), (39, 99)] [(12, 2), (12, 3)] X σ σ')) 0 0 (q_reg X) := by
  refine q_met 1 (by first | exact rfl | decide +kernel) rfl (Nat.le_of_ble_eq_true rfl) (fun p e s m below meth c E hml hr hlk hI ls hl => ?_)
  have hx := E.1
  have hb := E.2.1
  have hl : lv_has ls 4 [(0, .ref a), (1, .int v1), (2, .int v2), (3, .int v3)] := hl
  have fr_σ : q_ow [(12, 0), (12, 1), (12, 38), (12, 39), (12, 40), (12, 41), (12, 42), (12, 43), (12, 44), (12, 45), (34, 99), (35, 99), (39, 99)] [(12, 2), (12, 3)] X σ σ := q_ow.rf
  obtain ⟨out, hout⟩ : ∃ o, o = F_X12_left X σ a v1 v2 v3 := ⟨_, rfl⟩
  have hF := hout.symm
  unfold F_X12_left at hF
  refine lv_aload_n hx hb dX12_left_0 rfl (lv_at hl 0 rfl) ?_
  refine lv_iload_n hx hb dX12_left_1 rfl (lv_at hl 1 rfl) ?_
  refine lv_iload_n hx hb dX12_left_2 rfl (lv_at hl 2 rfl) ?_
  refine lv_iload_n hx hb dX12_left_3 rfl (lv_at hl 3 rfl) ?_
  refine lv_iconst (v := 0) hx hb dX12_left_4 (by decide) ?_
  have kc_1 : (0 : Int32).toInt = 0 := rfl
  refine q_ci (q_runV (As := [.int v1, .int v2, .int v3, .int 0]) (rest := []) E (hml.trans hl.1.symm) hI (c_X12_tries l X σ a v1 v2 v3 (0 : Int32) n ha hG hW hn) kv_X12_451 ha ⟨rfl, by decide⟩ (show vwCl[11]? = some (RX12, TX12, 46) from rfl) rfl ⟨Nat.le_of_ble_eq_true rfl, Nat.le_of_ble_eq_true rfl⟩ ⟨Nat.le_refl _, Nat.le_refl _⟩ rfl (Nat.le_of_ble_eq_true rfl) dX12_left_5) hI (by decide) (fun r_2 σ_3 H locs hpσ_3 hkσ_3 hI => ?_)
  obtain ⟨ahpσ_3, bhpσ_3, chpσ_3, dhpσ_3⟩ := hpσ_3
  have fr_σ_3 := fr_σ.call dhpσ_3 rfl rfl
  replace hF := q_biX hF chpσ_3
  have tqσ_3 := bhpσ_3
  exact q_retz E hr hlk hI ⟨by omega, by omega⟩ ⟨⟨by omega, by omega⟩, tqσ_3, (hF.trans hout), fr_σ_3⟩ dX12_left_8
end
