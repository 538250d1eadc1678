section
set_option maxRecDepth 100000 in
set_option maxHeartbeats 4000000 in
theorem c_X12_doAll_z (l : Launch) (X : XW) (σ : ST) (a : Nat) (v1 : Int32) (v2 : Int32) (n : Int) (ha : q_kd X a = 12) (hG : m_G (m_c X σ a)) (hW : m_W (m_c X σ a) (n + (σ.1 a 40).toInt)) (hn : 0 ≤ n ∧ n ≤ 199500) (hd : 0 ≤ (σ.1 a 40).toInt ∧ (σ.1 a 40).toInt ≤ 300) (hf : 30 ≤ v1.toInt ∧ 0 ≤ v1.toInt) (ht : v2.toInt ≤ m_c X σ a 655) : Met l yX12_doAll (q_ws yX12_doAll cX12_doAll 4 none) (q_rm 7 158) (q_P X σ [.ref a, .int v1, .int v2]) (q_Qv X 1 σ (fun (σ' : ST) => (m_G (m_c X σ' a)) ∧ (m_W (m_c X σ' a) (n + (σ'.1 a 40).toInt)) ∧ (∀ j, 654 ≤ j → m_c X σ' a j = m_c X σ a j) ∧ ((σ.1 a 40).toInt ≤ (σ'.1 a 40).toInt ∧ (σ'.1 a 40).toInt ≤ 300) ∧ (∀ b g, q_kd X b = 35 → σ'.1 b g = σ.1 b g) ∧ σ' = F_X12_doAll_z X σ a v1 v2 ∧ q_ow [(12, 38), (12, 39), (12, 40), (12, 41), (12, 42), (12, 43), (12, 44), (12, 45), (34, 99), (39, 99)] [] X σ σ')) 0 0 (q_reg X) := by
  refine q_met 1 (by first | exact rfl | decide +kernel) rfl (Nat.le_of_ble_eq_true rfl) (fun p e s m below meth c E hml hr hlk hI ls hl => ?_)
  have hx := E.1
  have hb := E.2.1
  have hl : lv_has ls 4 [(0, .ref a), (1, .int v1), (2, .int v2)] := hl
  have gσ : m_G (m_c X σ a) := hG
  have wσ : m_W (m_c X σ a) (n + (σ.1 a 40).toInt) := hW
  have kqσ : ∀ j, 654 ≤ j → m_c X σ a j = m_c X σ a j := fun _ _ => rfl
  have dnσ : (σ.1 a 40).toInt ≤ (σ.1 a 40).toInt ∧ (σ.1 a 40).toInt ≤ 300 := (by omega)
  have k5σ : ∀ b g, q_kd X b = 35 → σ.1 b g = σ.1 b g := fun _ _ _ => rfl
  have fr_σ : q_ow [(12, 38), (12, 39), (12, 40), (12, 41), (12, 42), (12, 43), (12, 44), (12, 45), (34, 99), (39, 99)] [] X σ σ := q_ow.rf
  have hh := hG.hd
  have hQ := hG.2.2.2.2.2.1
  obtain ⟨out, hout⟩ : ∃ o, o = F_X12_doAll_z X σ a v1 v2 := ⟨_, rfl⟩
  have hF := hout.symm
  unfold F_X12_doAll_z at hF
  refine lv_iload_n hx hb dX12_doAll_0 rfl (lv_at hl 1 rfl) ?_
  refine lv_istore_n (lv' := [(3, .int v1), (0, .ref a), (1, .int v1), (2, .int v2)]) hx hb dX12_doAll_1 rfl hl (by decide) rfl (fun ls hl => ?_)
  have L_2_3 : ∀ (k_3 : Nat) (x_1 : Int32) (σ_2 : ST) (H : Heap) (locs : List Loc) (ls : Array Slot), (31 - x_1.toInt).toNat < k_3 → (30 ≤ x_1.toInt) → (q_ow [(12, 38), (12, 39), (12, 40), (12, 41), (12, 42), (12, 43), (12, 44), (12, 45), (34, 99), (39, 99)] [] X σ σ_2) → (m_G (m_c X σ_2 a)) → (m_W (m_c X σ_2 a) (n + (σ_2.1 a 40).toInt)) → (∀ j, 654 ≤ j → m_c X σ_2 a j = m_c X σ a j) → ((σ.1 a 40).toInt ≤ (σ_2.1 a 40).toInt ∧ (σ_2.1 a 40).toInt ≤ 300) → (∀ b g, q_kd X b = 35 → σ_2.1 b g = σ.1 b g) → (F_X12_doAll_z_L2_1 X v2 k_3 x_1 σ_2 = out) → q_I X 1 σ s.heap locs σ_2 H → lv_has ls 4 [(0, .ref a), (1, .int v1), (2, .int v2), (3, .int x_1)] → W p l e (q_rm 7 158) s m ([.ref a, .int v1, .int v2] : List Value).toArray below meth c H locs 0 0 (MQ below (q_Qv X 1 σ (fun (σ' : ST) => (m_G (m_c X σ' a)) ∧ (m_W (m_c X σ' a) (n + (σ'.1 a 40).toInt)) ∧ (∀ j, 654 ≤ j → m_c X σ' a j = m_c X σ a j) ∧ ((σ.1 a 40).toInt ≤ (σ'.1 a 40).toInt ∧ (σ'.1 a 40).toInt ≤ 300) ∧ (∀ b g, q_kd X b = 35 → σ'.1 b g = σ.1 b g) ∧ σ' = F_X12_doAll_z X σ a v1 v2 ∧ q_ow [(12, 38), (12, 39), (12, 40), (12, 41), (12, 42), (12, 43), (12, 44), (12, 45), (34, 99), (39, 99)] [] X σ σ')) ([.ref a, .int v1, .int v2] : List Value).toArray s 0 0 (q_reg X)) (F0 m 2 ls []) := by
    clear hF
    intro k_3
    induction k_3 with
    | zero =>
      intro x_1 σ_2 H locs ls hms
      try clear kqσ; try clear dnσ; try clear fr_σ
      exact absurd hms (Nat.not_lt_zero _)
    | succ k_3 ih2 =>
      intro x_1 σ_2 H locs ls hm2 hge2 fr_σ_2 gσ_2 wσ_2 kqσ_2 dnσ_2 k5σ_2 hF hI hl
      replace hF := (F_X12_doAll_z_L2_1_s).symm.trans hF
      unfold F_X12_doAll_z_B2_1 at hF
      have q5 := kqσ_2 655 (by decide)
      refine lv_iload_n hx hb dX12_doAll_2 rfl (lv_at hl 3 rfl) ?_
      refine lv_iload_n hx hb dX12_doAll_3 rfl (lv_at hl 2 rfl) ?_
      have gc_4_x_1 := q_rng x_1
      have gc_4_v2 := q_rng v2
      refine q_icmp_ge (A := x_1.toInt) (B := v2.toInt) E rfl rfl (tgt := 39) dX12_doAll_4 (by decide) (fun c_4 => ?_) (fun c_4 => ?_)
      · skip
        replace hF := q_ifn hF (Int.not_lt.mpr c_4)
        skip
        exact q_retv E hr hlk hI ⟨gσ_2, (by first | exact wσ_2 | exact m_W.le w0σ_2 (by omega)), kqσ_2, dnσ_2, k5σ_2, (hF.trans hout), fr_σ_2⟩ dX12_doAll_39
      · skip
        replace hF := q_ifp hF c_4
        exact absurd c_4 (by omega)
  exact L_2_3 ((31 - v1.toInt).toNat + 1) v1 σ _ _ ls (Nat.lt_succ_self _) (by omega) fr_σ gσ wσ kqσ dnσ k5σ hF hI (lv_sub hl [1, 2, 3, 0] rfl)
end
