section
/-- all depths -/
theorem c_X12_doAllN (l : Launch) (X : XW) (a : Nat) (n : Int) (ha : q_kd X a = 12) (d : Nat) (hd30 : d ≤ 30) : ∀ (σ : ST) (v1 v2 : Int32) (hG : m_G (m_c X σ a)) (hW : m_W (m_c X σ a) (n + (σ.1 a 40).toInt)) (hn : 0 ≤ n ∧ n ≤ 199500) (hd : 0 ≤ (σ.1 a 40).toInt ∧ (σ.1 a 40).toInt ≤ 300) (hf : 30 - (d : Int) ≤ v1.toInt ∧ 0 ≤ v1.toInt) (ht : v2.toInt ≤ m_c X σ a 655), Met l yX12_doAll (q_ws yX12_doAll cX12_doAll 4 none) (q_rm (7 + 2 * d) (158 + 47 * d)) (q_P X σ [.ref a, .int v1, .int v2]) (q_Qv X 1 σ (fun (σ' : ST) => (m_G (m_c X σ' a)) ∧ (m_W (m_c X σ' a) (n + (σ'.1 a 40).toInt)) ∧ (∀ j, 654 ≤ j → m_c X σ' a j = m_c X σ a j) ∧ ((σ.1 a 40).toInt ≤ (σ'.1 a 40).toInt ∧ (σ'.1 a 40).toInt ≤ 300) ∧ (∀ b g, q_kd X b = 35 → σ'.1 b g = σ.1 b g) ∧ σ' = F_X12_doAllN X a d σ v1 v2 ∧ q_ow [(12, 38), (12, 39), (12, 40), (12, 41), (12, 42), (12, 43), (12, 44), (12, 45), (34, 99), (39, 99)] [] X σ σ')) 0 0 (q_reg X) := by
  induction d with
  | zero =>
    intro σ v1 v2 hG hW hn hd hf ht
    exact c_X12_doAll_z l X σ a v1 v2 n ha hG hW hn hd (by omega) ht
  | succ d ih =>
    intro σ v1 v2 hG hW hn hd hf ht
    have hO : ∀ (σ : ST) (v1 : Int32) (hG : m_G (m_c X σ a)) (hW : m_W (m_c X σ a) (n + (σ.1 a 40).toInt)) (hn : 0 ≤ n ∧ n ≤ 199500) (hd : 0 ≤ (σ.1 a 40).toInt ∧ (σ.1 a 40).toInt ≤ 300) (hs : 29 - (d : Int) ≤ v1.toInt ∧ 0 ≤ v1.toInt ∧ v1.toInt < m_c X σ a 655), Met l yX12_doOne (q_ws yX12_doOne cX12_doOne 5 none) (q_rm (8 + 2 * d) (181 + 47 * d)) (q_P X σ [.ref a, .int v1]) (q_Qv X 1 σ (fun (σ' : ST) => (m_G (m_c X σ' a)) ∧ (m_W (m_c X σ' a) (n + (σ'.1 a 40).toInt)) ∧ (∀ j, 654 ≤ j → m_c X σ' a j = m_c X σ a j) ∧ ((σ.1 a 40).toInt ≤ (σ'.1 a 40).toInt ∧ (σ'.1 a 40).toInt ≤ 300) ∧ (∀ b g, q_kd X b = 35 → σ'.1 b g = σ.1 b g) ∧ σ' = (fun τ w => F_X12_doOne_s X τ a w (F_X12_doAllN X a d)) σ v1 ∧ q_ow [(12, 38), (12, 39), (12, 40), (12, 41), (12, 42), (12, 43), (12, 44), (12, 45), (34, 99), (39, 99)] [] X σ σ')) 0 0 (q_reg X) := fun σ v1 hG hW hn hd hs => c_X12_doOne_s l X σ a v1 n d (F_X12_doAllN X a d) (ih (by omega)) ha hG hW hn hd hs
    exact c_X12_doAll_s l X σ a v1 v2 n d (fun τ w => F_X12_doOne_s X τ a w (F_X12_doAllN X a d)) hO ha hG hW hn hd (by omega) ht

set_option maxRecDepth 100000 in
set_option maxHeartbeats 4000000 in
theorem c_X12_plays (l : Launch) (X : XW) (σ : ST) (a : Nat) (v1 : Int32) (n : Int) (ha : q_kd X a = 12) (hG : m_G (m_c X σ a)) (hW : m_W (m_c X σ a) n) (hn : 0 ≤ n ∧ n ≤ 199500) : Met l yX12_plays (q_ws yX12_plays cX12_plays 2 none) (q_rm 68 1591) (q_P X σ [.ref a, .int v1]) (q_Qv X 1 σ (fun (σ' : ST) => (m_G (m_c X σ' a)) ∧ (m_W (m_c X σ' a) (n + 300)) ∧ (∀ j, 654 ≤ j → m_c X σ' a j = m_c X σ a j) ∧ (∀ b g, q_kd X b = 35 → σ'.1 b g = σ.1 b g) ∧ σ' = F_X12_plays X σ a v1 ∧ q_ow [(12, 38), (12, 39), (12, 40), (12, 41), (12, 42), (12, 43), (12, 44), (12, 45), (34, 99), (39, 99)] [] X σ σ')) 0 0 (q_reg X) := by
  refine q_met 1 (by first | exact rfl | decide +kernel) rfl (Nat.le_of_ble_eq_true rfl) (fun p e s m below meth c E hml hr hlk hI ls hl => ?_)
  have hx := E.1
  have hb := E.2.1
  have hl : lv_has ls 2 [(0, .ref a), (1, .int v1)] := hl
  have gσ : m_G (m_c X σ a) := hG
  have w0σ : m_W (m_c X σ a) n := hW
  have kqσ : ∀ j, 654 ≤ j → m_c X σ a j = m_c X σ a j := fun _ _ => rfl
  have k5σ : ∀ b g, q_kd X b = 35 → σ.1 b g = σ.1 b g := fun _ _ _ => rfl
  have fr_σ : q_ow [(12, 38), (12, 39), (12, 40), (12, 41), (12, 42), (12, 43), (12, 44), (12, 45), (34, 99), (39, 99)] [] X σ σ := q_ow.rf
  have hh := hG.hd
  have hQ := hG.2.2.2.2.2.1
  obtain ⟨out, hout⟩ : ∃ o, o = F_X12_plays X σ a v1 := ⟨_, rfl⟩
  have hF := hout.symm
  unfold F_X12_plays at hF
  refine lv_aload_n hx hb dX12_plays_0 rfl (lv_at hl 0 rfl) ?_
  refine lv_iload_n hx hb dX12_plays_1 rfl (lv_at hl 1 rfl) ?_
  refine ps_X12_395_12 E hI ha (by decide) dX12_plays_2 (fun H locs σ_1 hσ_1 hI => ?_)
  replace hF := q_letX hF hσ_1
  have fr_σ_1 := fr_σ.si hσ_1 ha rfl
  have mv40_σ_1 : (σ_1.1 a 40).toInt = (σ.1 a 40).toInt := congrArg Int32.toInt (q_rdn hσ_1 (Or.inr (by decide)))
  have mcσ_1 := m_wo hσ_1 (m_ne ha (q_tk (f := 20) (k' := 34) hI ha rfl (by decide)) (by decide))
  have gσ_1 : m_G (m_c X σ_1 a) := m_G.ext (fun j _ _ => mcσ_1 j) gσ
  have w0σ_1 : m_W (m_c X σ_1 a) n := m_W.ext (fun j _ _ => mcσ_1 j) w0σ
  have kqσ_1 : ∀ j, 654 ≤ j → m_c X σ_1 a j = m_c X σ a j := fun j h => (mcσ_1 j).trans (kqσ j h)
  have k5σ_1 : ∀ b g, q_kd X b = 35 → σ_1.1 b g = σ.1 b g := (fun b g q => (q_rdn hσ_1 (Or.inl (m_ne q ha (by decide)))).trans (k5σ b g q))
  refine lv_aload_n hx hb dX12_plays_5 rfl (lv_at hl 0 rfl) ?_
  refine lv_iconst (v := 0) hx hb dX12_plays_6 (by decide) ?_
  refine ps_X12_417_12 E hI ha (by decide) dX12_plays_7 (fun H locs σ_2 hσ_2 hI => ?_)
  replace hF := q_letX hF hσ_2
  have fr_σ_2 := fr_σ_1.si hσ_2 ha rfl
  have mv40_σ_2 : (σ_2.1 a 40).toInt = 0 := by rw [q_rd hσ_2]; rfl
  have mcσ_2 := m_wo hσ_2 (m_ne ha (q_tk (f := 20) (k' := 34) hI ha rfl (by decide)) (by decide))
  have gσ_2 : m_G (m_c X σ_2 a) := m_G.ext (fun j _ _ => mcσ_2 j) gσ_1
  have w0σ_2 : m_W (m_c X σ_2 a) n := m_W.ext (fun j _ _ => mcσ_2 j) w0σ_1
  have kqσ_2 : ∀ j, 654 ≤ j → m_c X σ_2 a j = m_c X σ a j := fun j h => (mcσ_2 j).trans (kqσ_1 j h)
  have deσ_2 : 0 ≤ (σ_2.1 a 40).toInt ∧ (σ_2.1 a 40).toInt ≤ 300 := (by first | (clear mv40_σ_1; omega) | omega)
  have k5σ_2 : ∀ b g, q_kd X b = 35 → σ_2.1 b g = σ.1 b g := (fun b g q => (q_rdn hσ_2 (Or.inl (m_ne q ha (by decide)))).trans (k5σ_1 b g q))
  refine lv_aload_n hx hb dX12_plays_10 rfl (lv_at hl 0 rfl) ?_
  refine lv_iconst (v := 0) hx hb dX12_plays_11 (by decide) ?_
  refine ps_X12_426_12 E hI ha (by decide) dX12_plays_12 (fun H locs σ_3 hσ_3 hI => ?_)
  replace hF := q_letX hF hσ_3
  have fr_σ_3 := fr_σ_2.si hσ_3 ha rfl
  have mv40_σ_3 : (σ_3.1 a 40).toInt = (σ_2.1 a 40).toInt := congrArg Int32.toInt (q_rdn hσ_3 (Or.inr (by decide)))
  have mcσ_3 := m_wo hσ_3 (m_ne ha (q_tk (f := 20) (k' := 34) hI ha rfl (by decide)) (by decide))
  have gσ_3 : m_G (m_c X σ_3 a) := m_G.ext (fun j _ _ => mcσ_3 j) gσ_2
  have w0σ_3 : m_W (m_c X σ_3 a) n := m_W.ext (fun j _ _ => mcσ_3 j) w0σ_2
  have kqσ_3 : ∀ j, 654 ≤ j → m_c X σ_3 a j = m_c X σ a j := fun j h => (mcσ_3 j).trans (kqσ_2 j h)
  have deσ_3 : 0 ≤ (σ_3.1 a 40).toInt ∧ (σ_3.1 a 40).toInt ≤ 300 := (by first | (clear mv40_σ_1 mv40_σ_2; omega) | omega)
  have k5σ_3 : ∀ b g, q_kd X b = 35 → σ_3.1 b g = σ.1 b g := (fun b g q => (q_rdn hσ_3 (Or.inl (m_ne q ha (by decide)))).trans (k5σ_2 b g q))
  refine lv_aload_n hx hb dX12_plays_15 rfl (lv_at hl 0 rfl) ?_
  refine lv_iconst (v := 0) hx hb dX12_plays_16 (by decide) ?_
  refine ps_X12_405_12 E hI ha (by decide) dX12_plays_17 (fun H locs σ_4 hσ_4 hI => ?_)
  replace hF := q_letX hF hσ_4
  have fr_σ_4 := fr_σ_3.si hσ_4 ha rfl
  have mv40_σ_4 : (σ_4.1 a 40).toInt = (σ_2.1 a 40).toInt := (congrArg Int32.toInt (q_rdn hσ_4 (Or.inr (by decide)))).trans mv40_σ_3
  have mcσ_4 := m_wo hσ_4 (m_ne ha (q_tk (f := 20) (k' := 34) hI ha rfl (by decide)) (by decide))
  have gσ_4 : m_G (m_c X σ_4 a) := m_G.ext (fun j _ _ => mcσ_4 j) gσ_3
  have w0σ_4 : m_W (m_c X σ_4 a) n := m_W.ext (fun j _ _ => mcσ_4 j) w0σ_3
  have kqσ_4 : ∀ j, 654 ≤ j → m_c X σ_4 a j = m_c X σ a j := fun j h => (mcσ_4 j).trans (kqσ_3 j h)
  have deσ_4 : 0 ≤ (σ_4.1 a 40).toInt ∧ (σ_4.1 a 40).toInt ≤ 300 := (by first | (clear mv40_σ_1 mv40_σ_2 mv40_σ_3; omega) | omega)
  have k5σ_4 : ∀ b g, q_kd X b = 35 → σ_4.1 b g = σ.1 b g := (fun b g q => (q_rdn hσ_4 (Or.inl (m_ne q ha (by decide)))).trans (k5σ_3 b g q))
  refine lv_aload_n hx hb dX12_plays_20 rfl (lv_at hl 0 rfl) ?_
  refine lv_iconst (v := 0) hx hb dX12_plays_21 (by decide) ?_
  refine ps_X12_408_12 E hI ha (by decide) dX12_plays_22 (fun H locs σ_5 hσ_5 hI => ?_)
  replace hF := q_letX hF hσ_5
  have fr_σ_5 := fr_σ_4.si hσ_5 ha rfl
  have mv40_σ_5 : (σ_5.1 a 40).toInt = (σ_2.1 a 40).toInt := (congrArg Int32.toInt (q_rdn hσ_5 (Or.inr (by decide)))).trans mv40_σ_4
  have mcσ_5 := m_wo hσ_5 (m_ne ha (q_tk (f := 20) (k' := 34) hI ha rfl (by decide)) (by decide))
  have gσ_5 : m_G (m_c X σ_5 a) := m_G.ext (fun j _ _ => mcσ_5 j) gσ_4
  have w0σ_5 : m_W (m_c X σ_5 a) n := m_W.ext (fun j _ _ => mcσ_5 j) w0σ_4
  have kqσ_5 : ∀ j, 654 ≤ j → m_c X σ_5 a j = m_c X σ a j := fun j h => (mcσ_5 j).trans (kqσ_4 j h)
  have deσ_5 : 0 ≤ (σ_5.1 a 40).toInt ∧ (σ_5.1 a 40).toInt ≤ 300 := (by first | (clear mv40_σ_1 mv40_σ_2 mv40_σ_3 mv40_σ_4; omega) | omega)
  have k5σ_5 : ∀ b g, q_kd X b = 35 → σ_5.1 b g = σ.1 b g := (fun b g q => (q_rdn hσ_5 (Or.inl (m_ne q ha (by decide)))).trans (k5σ_4 b g q))
  refine lv_aload_n hx hb dX12_plays_25 rfl (lv_at hl 0 rfl) ?_
  refine lv_iconst (v := 0) hx hb dX12_plays_26 (by decide) ?_
  refine ps_X12_411_12 E hI ha (by decide) dX12_plays_27 (fun H locs σ_6 hσ_6 hI => ?_)
  replace hF := q_letX hF hσ_6
  have fr_σ_6 := fr_σ_5.si hσ_6 ha rfl
  have mv40_σ_6 : (σ_6.1 a 40).toInt = (σ_2.1 a 40).toInt := (congrArg Int32.toInt (q_rdn hσ_6 (Or.inr (by decide)))).trans mv40_σ_5
  have mcσ_6 := m_wo hσ_6 (m_ne ha (q_tk (f := 20) (k' := 34) hI ha rfl (by decide)) (by decide))
  have gσ_6 : m_G (m_c X σ_6 a) := m_G.ext (fun j _ _ => mcσ_6 j) gσ_5
  have w0σ_6 : m_W (m_c X σ_6 a) n := m_W.ext (fun j _ _ => mcσ_6 j) w0σ_5
  have kqσ_6 : ∀ j, 654 ≤ j → m_c X σ_6 a j = m_c X σ a j := fun j h => (mcσ_6 j).trans (kqσ_5 j h)
  have deσ_6 : 0 ≤ (σ_6.1 a 40).toInt ∧ (σ_6.1 a 40).toInt ≤ 300 := (by first | (clear mv40_σ_1 mv40_σ_2 mv40_σ_3 mv40_σ_4 mv40_σ_5; omega) | omega)
  have k5σ_6 : ∀ b g, q_kd X b = 35 → σ_6.1 b g = σ.1 b g := (fun b g q => (q_rdn hσ_6 (Or.inl (m_ne q ha (by decide)))).trans (k5σ_5 b g q))
  refine lv_aload_n hx hb dX12_plays_30 rfl (lv_at hl 0 rfl) ?_
  refine lv_iconst (v := 0) hx hb dX12_plays_31 (by decide) ?_
  refine ps_X12_423_12 E hI ha (by decide) dX12_plays_32 (fun H locs σ_7 hσ_7 hI => ?_)
  replace hF := q_letX hF hσ_7
  have fr_σ_7 := fr_σ_6.si hσ_7 ha rfl
  have mv40_σ_7 : (σ_7.1 a 40).toInt = (σ_2.1 a 40).toInt := (congrArg Int32.toInt (q_rdn hσ_7 (Or.inr (by decide)))).trans mv40_σ_6
  have mcσ_7 := m_wo hσ_7 (m_ne ha (q_tk (f := 20) (k' := 34) hI ha rfl (by decide)) (by decide))
  have gσ_7 : m_G (m_c X σ_7 a) := m_G.ext (fun j _ _ => mcσ_7 j) gσ_6
  have w0σ_7 : m_W (m_c X σ_7 a) n := m_W.ext (fun j _ _ => mcσ_7 j) w0σ_6
  have kqσ_7 : ∀ j, 654 ≤ j → m_c X σ_7 a j = m_c X σ a j := fun j h => (mcσ_7 j).trans (kqσ_6 j h)
  have deσ_7 : 0 ≤ (σ_7.1 a 40).toInt ∧ (σ_7.1 a 40).toInt ≤ 300 := (by first | (clear mv40_σ_1 mv40_σ_2 mv40_σ_3 mv40_σ_4 mv40_σ_5 mv40_σ_6; omega) | omega)
  have k5σ_7 : ∀ b g, q_kd X b = 35 → σ_7.1 b g = σ.1 b g := (fun b g q => (q_rdn hσ_7 (Or.inl (m_ne q ha (by decide)))).trans (k5σ_6 b g q))
  refine lv_aload_n hx hb dX12_plays_35 rfl (lv_at hl 0 rfl) ?_
  refine lv_iconst (v := 0) hx hb dX12_plays_36 (by decide) ?_
  refine ps_X12_420_12 E hI ha (by decide) (by decide) (by decide) dX12_plays_37 (fun H locs σ_8 hσ_8 hI => ?_)
  replace hF := q_letX hF hσ_8
  have fr_σ_8 := fr_σ_7.si hσ_8 ha rfl
  have mv40_σ_8 : (σ_8.1 a 40).toInt = (σ_2.1 a 40).toInt := (congrArg Int32.toInt (q_rdn hσ_8 (Or.inr (by decide)))).trans mv40_σ_7
  have mcσ_8 := m_wo hσ_8 (m_ne ha (q_tk (f := 20) (k' := 34) hI ha rfl (by decide)) (by decide))
  have gσ_8 : m_G (m_c X σ_8 a) := m_G.ext (fun j _ _ => mcσ_8 j) gσ_7
  have w0σ_8 : m_W (m_c X σ_8 a) n := m_W.ext (fun j _ _ => mcσ_8 j) w0σ_7
  have kqσ_8 : ∀ j, 654 ≤ j → m_c X σ_8 a j = m_c X σ a j := fun j h => (mcσ_8 j).trans (kqσ_7 j h)
  have deσ_8 : 0 ≤ (σ_8.1 a 40).toInt ∧ (σ_8.1 a 40).toInt ≤ 300 := (by first | (clear mv40_σ_1 mv40_σ_2 mv40_σ_3 mv40_σ_4 mv40_σ_5 mv40_σ_6 mv40_σ_7; omega) | omega)
  have k5σ_8 : ∀ b g, q_kd X b = 35 → σ_8.1 b g = σ.1 b g := (fun b g q => (q_rdn hσ_8 (Or.inl (m_ne q ha (by decide)))).trans (k5σ_7 b g q))
  refine lv_aload_n hx hb dX12_plays_40 rfl (lv_at hl 0 rfl) ?_
  refine lv_iconst (v := 0) hx hb dX12_plays_41 (by decide) ?_
  refine lv_aload_n hx hb dX12_plays_42 rfl (lv_at hl 0 rfl) ?_
  refine gs_X12_35_12 E hI ha dX12_plays_43 ?_
  refine lv_sipush (v := 655) hx hb dX12_plays_46 (by decide) ?_
  refine q_iald E hI (q_tk (k' := 34) hI ha rfl (by decide)) ⟨by decide, rfl⟩ (by decide) (by rw [q_lnk (v := 4650) hI (q_tk (k' := 34) hI ha rfl (by decide)) rfl (by decide)]; decide) dX12_plays_49 ?_
  refine lv_topi (fun f_9 ef_9 => ?_)
  replace hF := q_letX hF ef_9
  have if_9 : f_9.toInt = m_c X σ_8 a 655 := m_rd ef_9 (by decide)
  have kc_10 : (0 : Int32).toInt = 0 := rfl
  refine q_cv (q_runV (As := [.int 0, .int f_9]) (rest := []) E (hml.trans hl.1.symm) hI (c_X12_doAllN l X a n ha 30 (by decide) σ_8 (0 : Int32) f_9 gσ_8 (m_W.le w0σ_8 (by first | (clear mv40_σ_1 mv40_σ_2 mv40_σ_3 mv40_σ_4 mv40_σ_5 mv40_σ_6 mv40_σ_7; omega) | omega)) (by first | (clear mv40_σ_1 mv40_σ_2 mv40_σ_3 mv40_σ_4 mv40_σ_5 mv40_σ_6 mv40_σ_7; omega) | omega) (by first | (clear mv40_σ_1 mv40_σ_2 mv40_σ_3 mv40_σ_4 mv40_σ_5 mv40_σ_6 mv40_σ_7; omega) | omega) (by first | (clear mv40_σ_1 mv40_σ_2 mv40_σ_3 mv40_σ_4 mv40_σ_5 mv40_σ_6 mv40_σ_7; omega) | omega) (by first | (clear mv40_σ_1 mv40_σ_2 mv40_σ_3 mv40_σ_4 mv40_σ_5 mv40_σ_6 mv40_σ_7; omega) | omega)) kv_X12_435 ha ⟨rfl, by decide⟩ (show vwCl[11]? = some (RX12, TX12, 46) from rfl) rfl ⟨Nat.le_of_ble_eq_true rfl, Nat.le_of_ble_eq_true rfl⟩ ⟨Nat.le_refl _, Nat.le_refl _⟩ rfl (Nat.le_of_ble_eq_true rfl) dX12_plays_50) hI (by decide) (fun σ_12 H locs hpσ_12 hkσ_12 hI => ?_)
  obtain ⟨ahpσ_12, bhpσ_12, chpσ_12, dhpσ_12, ehpσ_12, fhpσ_12, ghpσ_12⟩ := hpσ_12
  have fr_σ_12 := fr_σ_8.call ghpσ_12 rfl rfl
  replace hF := q_letX hF fhpσ_12
  have gσ_12 : m_G (m_c X σ_12 a) := ahpσ_12
  have wσ_12 : m_W (m_c X σ_12 a) (n + (σ_12.1 a 40).toInt) := bhpσ_12
  have kqσ_12 : ∀ j, 654 ≤ j → m_c X σ_12 a j = m_c X σ a j := (fun j h => (chpσ_12 j h).trans (kqσ_8 j h))
  have deσ_12 : 0 ≤ (σ_12.1 a 40).toInt ∧ (σ_12.1 a 40).toInt ≤ 300 := (by first | (clear mv40_σ_1 mv40_σ_2 mv40_σ_3 mv40_σ_4 mv40_σ_5 mv40_σ_6 mv40_σ_7; omega) | omega)
  have k5σ_12 : ∀ b g, q_kd X b = 35 → σ_12.1 b g = σ.1 b g := (fun b g q => (ehpσ_12 b g q).trans (k5σ_8 b g q))
  exact q_retv E hr hlk hI ⟨gσ_12, (m_W.le wσ_12 (by first | (clear mv40_σ_1 mv40_σ_2 mv40_σ_3 mv40_σ_4 mv40_σ_5 mv40_σ_6 mv40_σ_7; omega) | omega)), kqσ_12, k5σ_12, (hF.trans hout), fr_σ_12⟩ dX12_plays_53
end
