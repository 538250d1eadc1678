section
theorem rm_f {x f w : Nat} (h : 9 ≤ f) (k : x ≤ 10) : x ≤ (q_rm (f + 1) (24 + w)).frames := Nat.le_trans k (Nat.succ_le_succ h)
theorem rm_w {x f w : Nat} (h : 197 ≤ w) (k : x ≤ 221) : x ≤ (q_rm (f + 1) (24 + w)).locals := Nat.le_trans k (Nat.add_le_add_left h 24)
set_option maxRecDepth 100000 in
set_option maxHeartbeats 4000000 in
theorem c_X12_readStep_g (l : Launch) (X : XW) (a : Nat) (ha : q_kd X a = 12) (rmf rmw : Nat) (hrf : 9 ≤ rmf) (hrw : 197 ≤ rmw) (kd : Int) (hkd : 0 ≤ kd ∧ kd ≤ 2) (G_D : XW → ST → Nat → Int32 → ST) (G_E168_6 : XW → Int32 → Int32 → ST → Nat → ST) (G_E168_7 : XW → Int32 → Int32 → ST → Nat → ST) (G_E168_8 : XW → Int32 → Int32 → ST → Nat → ST) (G_B140_5 : XW → Int32 → Int32 → Nat → Int32 → (ST → ST) → ST → ST) (G_L140_5 : XW → Int32 → Int32 → Nat → Int32 → Nat → ST → ST) (G_J81_4 : XW → Nat → Int32 → Int32 → Int32 → ST → ST) (G_J55_3 : XW → Nat → Int32 → Int32 → Int32 → ST → ST) (G_J29_2 : XW → Nat → Int32 → Int32 → Int32 → ST → ST) (G_J20_1 : XW → Int32 → ST → Nat → Int32 → Int32 → ST) (G_F : XW → ST → Nat → Int32 → ST) (eG_E168_6 : ∀ (X : XW) (x_3 : Int32) (z_13 : Int32) (σ_27 : ST) (a : Nat), G_E168_6 X x_3 z_13 σ_27 a = if x_3.toInt = 0 then q_let (z_13 + (8 : Int32) : Int32) (fun z_31 => q_let (σ_27.1 a 27 : Int32) (fun f_32 => q_let (q_si σ_27 (q_rf X a 20) z_31.toNatClampNeg f_32 : ST) (fun σ_33 => σ_33))) else q_let (F_X12_isEnd X σ_27 a : Int32) (fun r_34 => q_let (F_X12_must X σ_27 a r_34 : ST) (fun σ_37 => q_let (F_X12_isSign X σ_37 a (59 : Int32) : Int32) (fun r_39 => q_let (F_X12_must X σ_37 a r_39 : ST) (fun σ_42 => q_let (z_13 + (8 : Int32) : Int32) (fun z_43 => q_let (σ_42.1 a 27 : Int32) (fun f_44 => q_let (q_si σ_42 (q_rf X a 20) z_43.toNatClampNeg f_44 : ST) (fun σ_45 => σ_45)))))))) (eG_E168_7 : ∀ (X : XW) (x_3 : Int32) (z_13 : Int32) (σ_27 : ST) (a : Nat), G_E168_7 X x_3 z_13 σ_27 a = if x_3.toInt = 0 then q_let (z_13 + (8 : Int32) : Int32) (fun z_49 => q_let (σ_27.1 a 27 : Int32) (fun f_50 => q_let (q_si σ_27 (q_rf X a 20) z_49.toNatClampNeg f_50 : ST) (fun σ_51 => σ_51))) else q_let (F_X12_isEnd X σ_27 a : Int32) (fun r_52 => q_let (F_X12_must X σ_27 a r_52 : ST) (fun σ_55 => q_let (F_X12_isSign X σ_55 a (59 : Int32) : Int32) (fun r_57 => q_let (F_X12_must X σ_55 a r_57 : ST) (fun σ_60 => q_let (z_13 + (8 : Int32) : Int32) (fun z_61 => q_let (σ_60.1 a 27 : Int32) (fun f_62 => q_let (q_si σ_60 (q_rf X a 20) z_61.toNatClampNeg f_62 : ST) (fun σ_63 => σ_63)))))))) (eG_E168_8 : ∀ (X : XW) (x_3 : Int32) (z_13 : Int32) (σ_27 : ST) (a : Nat), G_E168_8 X x_3 z_13 σ_27 a = if x_3.toInt = 0 then q_let (z_13 + (8 : Int32) : Int32) (fun z_68 => q_let (σ_27.1 a 27 : Int32) (fun f_69 => q_let (q_si σ_27 (q_rf X a 20) z_68.toNatClampNeg f_69 : ST) (fun σ_70 => σ_70))) else q_let (F_X12_isEnd X σ_27 a : Int32) (fun r_71 => q_let (F_X12_must X σ_27 a r_71 : ST) (fun σ_74 => q_let (F_X12_isSign X σ_74 a (59 : Int32) : Int32) (fun r_76 => q_let (F_X12_must X σ_74 a r_76 : ST) (fun σ_79 => q_let (z_13 + (8 : Int32) : Int32) (fun z_80 => q_let (σ_79.1 a 27 : Int32) (fun f_81 => q_let (q_si σ_79 (q_rf X a 20) z_80.toNatClampNeg f_81 : ST) (fun σ_82 => σ_82)))))))) (eG_B140_5 : ∀ (X : XW) (x_3 : Int32) (z_13 : Int32) (a : Nat) (v1 : Int32) (B140_5 : ST → ST) (σ_27 : ST), G_B140_5 X x_3 z_13 a v1 B140_5 σ_27 = if x_3.toInt = 0 then G_E168_6 X x_3 z_13 σ_27 a else q_let (σ_27.1 a 12 : Int32) (fun f_46 => if f_46.toInt = 0 then q_let (F_X12_isEnd X σ_27 a : Int32) (fun r_64 => if r_64.toInt = 0 then q_let (v1 + (1 : Int32) : Int32) (fun z_83 => q_let (G_D X σ_27 a z_83 : ST) (fun σ_85 => B140_5 σ_85)) else G_E168_8 X x_3 z_13 σ_27 a) else G_E168_7 X x_3 z_13 σ_27 a)) (eG_L140_5_s : ∀ (X : XW) (x_3 : Int32) (z_13 : Int32) (a : Nat) (v1 : Int32) (k_ : Nat) (σ_27 : ST), G_L140_5 X x_3 z_13 a v1 (k_ + 1) σ_27 = G_B140_5 X x_3 z_13 a v1 (G_L140_5 X x_3 z_13 a v1 k_) σ_27) (eG_J81_4 : ∀ (X : XW) (a : Nat) (r_1 : Int32) (x_3 : Int32) (v1 : Int32) (σ_8 : ST), G_J81_4 X a r_1 x_3 v1 σ_8 = q_let (σ_8.1 a 12 : Int32) (fun f_9 => if 0 < f_9.toInt then σ_8 else q_let (σ_8.1 a 27 : Int32) (fun f_11 => q_let ((9 : Int32) * f_11 : Int32) (fun z_12 => q_let ((4376 : Int32) + z_12 : Int32) (fun z_13 => q_let (σ_8.1 a 27 : Int32) (fun f_14 => q_let (f_14 + (1 : Int32) : Int32) (fun z_15 => q_let (q_si σ_8 a 27 z_15 : ST) (fun σ_16 => q_let (F_X12_next X σ_16 a : ST) (fun σ_18 => q_let (q_si σ_18 (q_rf X a 20) z_13.toNatClampNeg r_1 : ST) (fun σ_19 => q_let (F_X12_readRest X σ_19 a z_13 : ST) (fun σ_21 => q_let (F_X12_isSign X σ_21 a (59 : Int32) : Int32) (fun r_23 => q_let (F_X12_must X σ_21 a r_23 : ST) (fun σ_26 => G_L140_5 X x_3 z_13 a v1 ((901 - (σ_26.1 a 15).toInt).toNat + (1 - (σ_26.1 a 12).toInt).toNat + 1) σ_26))))))))))))) (eG_J55_3 : ∀ (X : XW) (a : Nat) (x_3 : Int32) (r_1 : Int32) (v1 : Int32) (σ_6 : ST), G_J55_3 X a x_3 r_1 v1 σ_6 = q_let (σ_6.1 a 12 : Int32) (fun f_7 => if f_7.toInt = 0 then if x_3.toInt = 0 then G_J81_4 X a r_1 x_3 v1 σ_6 else if v1.toInt = 3 then q_let (σ_6.1 a 15 : Int32) (fun f_89 => q_let (F_X12_fail X σ_6 a (7 : Int32) f_89 : ST) (fun σ_92 => G_J81_4 X a r_1 x_3 v1 σ_92)) else G_J81_4 X a r_1 x_3 v1 σ_6 else G_J81_4 X a r_1 x_3 v1 σ_6)) (eG_J29_2 : ∀ (X : XW) (a : Nat) (x_3 : Int32) (r_1 : Int32) (v1 : Int32) (σ_4 : ST), G_J29_2 X a x_3 r_1 v1 σ_4 = q_let (σ_4.1 a 12 : Int32) (fun f_5 => if f_5.toInt = 0 then q_let (σ_4.1 a 27 : Int32) (fun f_94 => if f_94.toInt = 30 then q_let (σ_4.1 a 15 : Int32) (fun f_96 => q_let (F_X12_fail X σ_4 a (6 : Int32) f_96 : ST) (fun σ_99 => G_J55_3 X a x_3 r_1 v1 σ_99)) else G_J55_3 X a x_3 r_1 v1 σ_4) else G_J55_3 X a x_3 r_1 v1 σ_4)) (eG_J20_1 : ∀ (X : XW) (r_1 : Int32) (σ : ST) (a : Nat) (v1 : Int32) (x_3 : Int32), G_J20_1 X r_1 σ a v1 x_3 = if r_1.toInt < 0 then q_let (F_X12_wrong X σ a : ST) (fun σ_102 => G_J29_2 X a x_3 r_1 v1 σ_102) else G_J29_2 X a x_3 r_1 v1 σ) (eG_F : ∀ (X : XW) (σ : ST) (a : Nat) (v1 : Int32), G_F X σ a v1 = q_let (F_X12_stepWord X σ a : Int32) (fun r_1 => if r_1.toInt = 3 then G_J20_1 X r_1 σ a v1 (1 : Int32) else if r_1.toInt = 4 then G_J20_1 X r_1 σ a v1 (1 : Int32) else G_J20_1 X r_1 σ a v1 (0 : Int32))) (hC : ∀ (σ : ST) (v1 : Int32) (hs : 0 ≤ (σ.1 a 15).toInt ∧ (σ.1 a 15).toInt ≤ (σ.1 a 16).toInt ∧ (σ.1 a 16).toInt ≤ (σ.1 a 9).toInt ∧ (σ.1 a 9).toInt ≤ 900 ∧ 0 ≤ (σ.1 a 14).toInt ∧ (σ.1 a 14).toInt ≤ 4 ∧ (σ.1 a 14).toInt ≤ 4 * ((σ.1 a 16).toInt - (σ.1 a 15).toInt) ∧ (σ.1 a 14).toInt ≤ 4 * ((σ.1 a 9).toInt - (σ.1 a 15).toInt) ∧ 0 ≤ (σ.1 a 12).toInt) (hz : (σ.1 a 12).toInt = 0) (hc2 : m_c X σ a 2 ≤ 6) (hn : 0 ≤ (σ.1 a 27).toInt ∧ (σ.1 a 27).toInt ≤ 30) (hd : v1.toInt = kd + 1), Met l yX12_readStep (q_ws yX12_readStep cX12_readStep 5 none) (q_rm rmf rmw) (q_P X σ [.ref a, .int v1]) (q_Qv X 1 σ (fun (σ' : ST) => (∀ j, 0 ≤ j → j < 4376 + 9 * (σ.1 a 27).toInt → m_c X σ' a j = m_c X σ a j) ∧ (0 ≤ (σ'.1 a 15).toInt ∧ (σ'.1 a 15).toInt ≤ (σ'.1 a 16).toInt ∧ (σ'.1 a 16).toInt ≤ (σ'.1 a 9).toInt ∧ (σ'.1 a 9).toInt ≤ 900 ∧ 0 ≤ (σ'.1 a 14).toInt ∧ (σ'.1 a 14).toInt ≤ 4 ∧ (σ'.1 a 14).toInt ≤ 4 * ((σ'.1 a 16).toInt - (σ'.1 a 15).toInt) ∧ (σ'.1 a 14).toInt ≤ 4 * ((σ'.1 a 9).toInt - (σ'.1 a 15).toInt) ∧ 0 ≤ (σ'.1 a 12).toInt ∧ (σ'.1 a 9).toInt = (σ.1 a 9).toInt ∧ (σ.1 a 15).toInt ≤ (σ'.1 a 15).toInt ∧ (σ.1 a 12).toInt ≤ (σ'.1 a 12).toInt) ∧ ((σ.1 a 15).toInt + 1 ≤ (σ'.1 a 15).toInt + 1000 * (σ'.1 a 12).toInt) ∧ ((σ.1 a 27).toInt ≤ (σ'.1 a 27).toInt ∧ (σ'.1 a 27).toInt ≤ 30) ∧ (m_oz (σ'.1 a 12).toInt (∀ t, (σ.1 a 27).toInt ≤ t → t < (σ'.1 a 27).toInt → m_stp (m_c X σ' a) (4376 + 9 * t) t (σ'.1 a 27).toInt)) ∧ σ' = G_D X σ a v1 ∧ q_ow [(12, 12), (12, 13), (12, 14), (12, 15), (12, 16), (12, 17), (12, 18), (12, 27), (34, 99)] [(12, 19)] X σ σ')) 0 0 (q_reg X)) (σ : ST) (v1 : Int32) (hs : 0 ≤ (σ.1 a 15).toInt ∧ (σ.1 a 15).toInt ≤ (σ.1 a 16).toInt ∧ (σ.1 a 16).toInt ≤ (σ.1 a 9).toInt ∧ (σ.1 a 9).toInt ≤ 900 ∧ 0 ≤ (σ.1 a 14).toInt ∧ (σ.1 a 14).toInt ≤ 4 ∧ (σ.1 a 14).toInt ≤ 4 * ((σ.1 a 16).toInt - (σ.1 a 15).toInt) ∧ (σ.1 a 14).toInt ≤ 4 * ((σ.1 a 9).toInt - (σ.1 a 15).toInt) ∧ 0 ≤ (σ.1 a 12).toInt) (hz : (σ.1 a 12).toInt = 0) (hc2 : m_c X σ a 2 ≤ 6) (hn : 0 ≤ (σ.1 a 27).toInt ∧ (σ.1 a 27).toInt ≤ 30) (hd : v1.toInt = kd) : Met l yX12_readStep (q_ws yX12_readStep cX12_readStep 5 none) (q_rm (rmf + 1) (24 + rmw)) (q_P X σ [.ref a, .int v1]) (q_Qv X 1 σ (fun (σ' : ST) => (∀ j, 0 ≤ j → j < 4376 + 9 * (σ.1 a 27).toInt → m_c X σ' a j = m_c X σ a j) ∧ (0 ≤ (σ'.1 a 15).toInt ∧ (σ'.1 a 15).toInt ≤ (σ'.1 a 16).toInt ∧ (σ'.1 a 16).toInt ≤ (σ'.1 a 9).toInt ∧ (σ'.1 a 9).toInt ≤ 900 ∧ 0 ≤ (σ'.1 a 14).toInt ∧ (σ'.1 a 14).toInt ≤ 4 ∧ (σ'.1 a 14).toInt ≤ 4 * ((σ'.1 a 16).toInt - (σ'.1 a 15).toInt) ∧ (σ'.1 a 14).toInt ≤ 4 * ((σ'.1 a 9).toInt - (σ'.1 a 15).toInt) ∧ 0 ≤ (σ'.1 a 12).toInt ∧ (σ'.1 a 9).toInt = (σ.1 a 9).toInt ∧ (σ.1 a 15).toInt ≤ (σ'.1 a 15).toInt ∧ (σ.1 a 12).toInt ≤ (σ'.1 a 12).toInt) ∧ ((σ.1 a 15).toInt + 1 ≤ (σ'.1 a 15).toInt + 1000 * (σ'.1 a 12).toInt) ∧ ((σ.1 a 27).toInt ≤ (σ'.1 a 27).toInt ∧ (σ'.1 a 27).toInt ≤ 30) ∧ (m_oz (σ'.1 a 12).toInt (∀ t, (σ.1 a 27).toInt ≤ t → t < (σ'.1 a 27).toInt → m_stp (m_c X σ' a) (4376 + 9 * t) t (σ'.1 a 27).toInt)) ∧ σ' = G_F X σ a v1 ∧ q_ow [(12, 12), (12, 13), (12, 14), (12, 15), (12, 16), (12, 17), (12, 18), (12, 27), (34, 99)] [(12, 19)] X σ σ')) 0 0 (q_reg X) := by
  refine q_metQ 1 (by first | exact rfl | decide +kernel) rfl (Nat.le_of_ble_eq_true rfl) (fun QQ hQQ p e s m below meth c E hml hr hlk hI ls hl => ?_)
  have hx := E.1
  have hb := E.2.1
  have hl : lv_has ls 5 [(0, .ref a), (1, .int v1)] := hl
  have klσ : ∀ j, 0 ≤ j → j < 4376 + 9 * (σ.1 a 27).toInt → m_c X σ a j = m_c X σ a j := fun _ _ _ => rfl
  have smσ : 0 ≤ (σ.1 a 15).toInt ∧ (σ.1 a 15).toInt ≤ (σ.1 a 16).toInt ∧ (σ.1 a 16).toInt ≤ (σ.1 a 9).toInt ∧ (σ.1 a 9).toInt ≤ 900 ∧ 0 ≤ (σ.1 a 14).toInt ∧ (σ.1 a 14).toInt ≤ 4 ∧ (σ.1 a 14).toInt ≤ 4 * ((σ.1 a 16).toInt - (σ.1 a 15).toInt) ∧ (σ.1 a 14).toInt ≤ 4 * ((σ.1 a 9).toInt - (σ.1 a 15).toInt) ∧ 0 ≤ (σ.1 a 12).toInt ∧ (σ.1 a 9).toInt = (σ.1 a 9).toInt ∧ (σ.1 a 15).toInt ≤ (σ.1 a 15).toInt ∧ (σ.1 a 12).toInt ≤ (σ.1 a 12).toInt := (by omega)
  have beσ : (σ.1 a 16).toInt = (σ.1 a 16).toInt := rfl
  have nsσ : (σ.1 a 27).toInt = (σ.1 a 27).toInt := rfl
  have fr_σ : q_ow [(12, 12), (12, 13), (12, 14), (12, 15), (12, 16), (12, 17), (12, 18), (12, 27), (34, 99)] [(12, 19)] X σ σ := q_ow.rf
  obtain ⟨out, hout⟩ : ∃ o, o = G_F X σ a v1 := ⟨_, rfl⟩
  have hF := hout.symm
  rewrite [eG_F] at hF
  refine lv_aload_n hx hb dX12_readStep_0 rfl (lv_at hl 0 rfl) ?_
  refine q_ci (q_runV (As := []) (rest := []) E (hml.trans hl.1.symm) hI (c_X12_stepWord l X σ a ha (by omega)) kv_X12_175 ha ⟨rfl, by decide⟩ (show vwCl[11]? = some (RX12, TX12, 46) from rfl) rfl ⟨rm_f hrf (Nat.le_of_ble_eq_true rfl), rm_w hrw (Nat.le_of_ble_eq_true rfl)⟩ ⟨Nat.le_refl _, Nat.le_refl _⟩ rfl (Nat.le_of_ble_eq_true rfl) dX12_readStep_1) hI (by decide) (fun r_1 σ_2 H locs hpσ_2 hkσ_2 hI => ?_)
  obtain ⟨ahpσ_2, bhpσ_2, chpσ_2, dhpσ_2⟩ := hpσ_2
  rw [ahpσ_2] at hI
  replace hF := q_letX hF dhpσ_2
  refine lv_istore_n (lv' := [(2, .int r_1), (0, .ref a), (1, .int v1)]) hx hb dX12_readStep_4 rfl hl (by decide) rfl (fun ls hl => ?_)
  refine lv_iload_n hx hb dX12_readStep_5 rfl (lv_at hl 0 rfl) ?_
  refine lv_iconst (v := 3) hx hb dX12_readStep_6 (by decide) ?_
  have J_20_3 : ∀ (x_3 : Int32) (H : Heap) (locs : List Loc) (ls : Array Slot), (0 ≤ x_3.toInt ∧ x_3.toInt ≤ 1) → (G_J20_1 X r_1 σ a v1 x_3 = out) → q_I X 1 σ s.heap locs σ H → lv_has ls 5 [(0, .ref a), (1, .int v1), (2, .int r_1)] → W p l e (q_rm (rmf + 1) (24 + rmw)) s m ([.ref a, .int v1] : List Value).toArray below meth c H locs 0 0 (MQ below QQ ([.ref a, .int v1] : List Value).toArray s 0 0 (q_reg X)) (F0 m 20 ls [.int x_3]) := by
    clear hF
    intro x_3 H locs ls j20 hF hI hl
    rewrite [eG_J20_1] at hF
    refine lv_istore_n (lv' := [(3, .int x_3), (0, .ref a), (1, .int v1), (2, .int r_1)]) hx hb dX12_readStep_20 rfl hl (by decide) rfl (fun ls hl => ?_)
    refine lv_iload_n hx hb dX12_readStep_21 rfl (lv_at hl 3 rfl) ?_
    have J_29_4 : ∀  (σ_4 : ST) (H : Heap) (locs : List Loc) (ls : Array Slot), (0 ≤ r_1.toInt + (σ_4.1 a 12).toInt) → (q_ow [(12, 12), (12, 13), (12, 14), (12, 15), (12, 16), (12, 17), (12, 18), (12, 27), (34, 99)] [(12, 19)] X σ σ_4) → (∀ j, 0 ≤ j → j < 4376 + 9 * (σ.1 a 27).toInt → m_c X σ_4 a j = m_c X σ a j) → (0 ≤ (σ_4.1 a 15).toInt ∧ (σ_4.1 a 15).toInt ≤ (σ_4.1 a 16).toInt ∧ (σ_4.1 a 16).toInt ≤ (σ_4.1 a 9).toInt ∧ (σ_4.1 a 9).toInt ≤ 900 ∧ 0 ≤ (σ_4.1 a 14).toInt ∧ (σ_4.1 a 14).toInt ≤ 4 ∧ (σ_4.1 a 14).toInt ≤ 4 * ((σ_4.1 a 16).toInt - (σ_4.1 a 15).toInt) ∧ (σ_4.1 a 14).toInt ≤ 4 * ((σ_4.1 a 9).toInt - (σ_4.1 a 15).toInt) ∧ 0 ≤ (σ_4.1 a 12).toInt ∧ (σ_4.1 a 9).toInt = (σ.1 a 9).toInt ∧ (σ.1 a 15).toInt ≤ (σ_4.1 a 15).toInt ∧ (σ.1 a 12).toInt ≤ (σ_4.1 a 12).toInt) → ((σ_4.1 a 16).toInt = (σ.1 a 16).toInt) → ((σ_4.1 a 27).toInt = (σ.1 a 27).toInt) → (G_J29_2 X a x_3 r_1 v1 σ_4 = out) → q_I X 1 σ s.heap locs σ_4 H → lv_has ls 5 [(0, .ref a), (1, .int v1), (2, .int r_1), (3, .int x_3)] → W p l e (q_rm (rmf + 1) (24 + rmw)) s m ([.ref a, .int v1] : List Value).toArray below meth c H locs 0 0 (MQ below QQ ([.ref a, .int v1] : List Value).toArray s 0 0 (q_reg X)) (F0 m 29 ls []) := by
      clear hF
      intro σ_4 H locs ls taσ_4 fr_σ_4 klσ_4 smσ_4 beσ_4 nsσ_4 hF hI hl
      try clear klσ; try clear smσ; try clear beσ; try clear nsσ; try clear fr_σ; try clear ahpσ_2
      rewrite [eG_J29_2] at hF
      refine lv_aload_n hx hb dX12_readStep_29 rfl (lv_at hl 0 rfl) ?_
      refine gs_X12_187_12 E hI ha dX12_readStep_30 ?_
      refine lv_topi (fun f_5 ef_5 => ?_)
      replace hF := q_letX hF ef_5
      have if_5 : f_5.toInt = (σ_4.1 a 12).toInt := congrArg Int32.toInt ef_5
      have J_55_6 : ∀  (σ_6 : ST) (H : Heap) (locs : List Loc) (ls : Array Slot), ((σ.1 a 27).toInt ≤ 29 + (σ_6.1 a 12).toInt) → (q_ow [(12, 12), (12, 13), (12, 14), (12, 15), (12, 16), (12, 17), (12, 18), (12, 27), (34, 99)] [(12, 19)] X σ σ_6) → (∀ j, 0 ≤ j → j < 4376 + 9 * (σ.1 a 27).toInt → m_c X σ_6 a j = m_c X σ a j) → (0 ≤ (σ_6.1 a 15).toInt ∧ (σ_6.1 a 15).toInt ≤ (σ_6.1 a 16).toInt ∧ (σ_6.1 a 16).toInt ≤ (σ_6.1 a 9).toInt ∧ (σ_6.1 a 9).toInt ≤ 900 ∧ 0 ≤ (σ_6.1 a 14).toInt ∧ (σ_6.1 a 14).toInt ≤ 4 ∧ (σ_6.1 a 14).toInt ≤ 4 * ((σ_6.1 a 16).toInt - (σ_6.1 a 15).toInt) ∧ (σ_6.1 a 14).toInt ≤ 4 * ((σ_6.1 a 9).toInt - (σ_6.1 a 15).toInt) ∧ 0 ≤ (σ_6.1 a 12).toInt ∧ (σ_6.1 a 9).toInt = (σ.1 a 9).toInt ∧ (σ.1 a 15).toInt ≤ (σ_6.1 a 15).toInt ∧ (σ.1 a 12).toInt ≤ (σ_6.1 a 12).toInt) → ((σ_6.1 a 16).toInt = (σ.1 a 16).toInt) → ((σ_6.1 a 27).toInt = (σ.1 a 27).toInt) → (0 ≤ r_1.toInt + (σ_6.1 a 12).toInt) → (G_J55_3 X a x_3 r_1 v1 σ_6 = out) → q_I X 1 σ s.heap locs σ_6 H → lv_has ls 5 [(0, .ref a), (1, .int v1), (2, .int r_1), (3, .int x_3)] → W p l e (q_rm (rmf + 1) (24 + rmw)) s m ([.ref a, .int v1] : List Value).toArray below meth c H locs 0 0 (MQ below QQ ([.ref a, .int v1] : List Value).toArray s 0 0 (q_reg X)) (F0 m 55 ls []) := by
        clear hF
        intro σ_6 H locs ls tbσ_6 fr_σ_6 klσ_6 smσ_6 beσ_6 nsσ_6 taσ_6 hF hI hl
        try clear taσ_4; try clear fr_σ_4; try clear klσ_4; try clear smσ_4; try clear beσ_4; try clear nsσ_4
        rewrite [eG_J55_3] at hF
        refine lv_aload_n hx hb dX12_readStep_55 rfl (lv_at hl 0 rfl) ?_
        refine gs_X12_187_12 E hI ha dX12_readStep_56 ?_
        refine lv_topi (fun f_7 ef_7 => ?_)
        replace hF := q_letX hF ef_7
        have if_7 : f_7.toInt = (σ_6.1 a 12).toInt := congrArg Int32.toInt ef_7
        have J_81_8 : ∀  (σ_8 : ST) (H : Heap) (locs : List Loc) (ls : Array Slot), (q_ow [(12, 12), (12, 13), (12, 14), (12, 15), (12, 16), (12, 17), (12, 18), (12, 27), (34, 99)] [(12, 19)] X σ σ_8) → (∀ j, 0 ≤ j → j < 4376 + 9 * (σ.1 a 27).toInt → m_c X σ_8 a j = m_c X σ a j) → (0 ≤ (σ_8.1 a 15).toInt ∧ (σ_8.1 a 15).toInt ≤ (σ_8.1 a 16).toInt ∧ (σ_8.1 a 16).toInt ≤ (σ_8.1 a 9).toInt ∧ (σ_8.1 a 9).toInt ≤ 900 ∧ 0 ≤ (σ_8.1 a 14).toInt ∧ (σ_8.1 a 14).toInt ≤ 4 ∧ (σ_8.1 a 14).toInt ≤ 4 * ((σ_8.1 a 16).toInt - (σ_8.1 a 15).toInt) ∧ (σ_8.1 a 14).toInt ≤ 4 * ((σ_8.1 a 9).toInt - (σ_8.1 a 15).toInt) ∧ 0 ≤ (σ_8.1 a 12).toInt ∧ (σ_8.1 a 9).toInt = (σ.1 a 9).toInt ∧ (σ.1 a 15).toInt ≤ (σ_8.1 a 15).toInt ∧ (σ.1 a 12).toInt ≤ (σ_8.1 a 12).toInt) → ((σ_8.1 a 16).toInt = (σ.1 a 16).toInt) → ((σ_8.1 a 27).toInt = (σ.1 a 27).toInt) → (0 ≤ r_1.toInt + (σ_8.1 a 12).toInt) → ((σ.1 a 27).toInt ≤ 29 + (σ_8.1 a 12).toInt) → (G_J81_4 X a r_1 x_3 v1 σ_8 = out) → q_I X 1 σ s.heap locs σ_8 H → lv_has ls 5 [(0, .ref a), (1, .int v1), (2, .int r_1), (3, .int x_3)] → W p l e (q_rm (rmf + 1) (24 + rmw)) s m ([.ref a, .int v1] : List Value).toArray below meth c H locs 0 0 (MQ below QQ ([.ref a, .int v1] : List Value).toArray s 0 0 (q_reg X)) (F0 m 81 ls []) := by
          clear hF
          intro σ_8 H locs ls fr_σ_8 klσ_8 smσ_8 beσ_8 nsσ_8 taσ_8 tbσ_8 hF hI hl
          try clear tbσ_6; try clear fr_σ_6; try clear klσ_6; try clear smσ_6; try clear beσ_6; try clear nsσ_6; try clear taσ_6
          rewrite [eG_J81_4] at hF
          refine lv_aload_n hx hb dX12_readStep_81 rfl (lv_at hl 0 rfl) ?_
          refine gs_X12_187_12 E hI ha dX12_readStep_82 ?_
          refine lv_topi (fun f_9 ef_9 => ?_)
          replace hF := q_letX hF ef_9
          have if_9 : f_9.toInt = (σ_8.1 a 12).toInt := congrArg Int32.toInt ef_9
          refine q_if_le (A := f_9.toInt) E rfl (tgt := 89) dX12_readStep_85 (by decide) (fun c_10 => ?_) (fun c_10 => ?_)
          · skip
            replace hF := q_ifn hF (Int.not_lt.mpr c_10)
            have kk0 : 0 ≤ r_1.toInt ∧ (σ.1 a 27).toInt ≤ 29 ∧ (σ_8.1 a 12).toInt = 0 := (by omega)
            refine lv_sipush (v := 4376) hx hb dX12_readStep_89 (by decide) ?_
            refine lv_bipush (v := 9) hx hb dX12_readStep_92 (by decide) ?_
            refine lv_aload_n hx hb dX12_readStep_94 rfl (lv_at hl 0 rfl) ?_
            refine gs_X12_267_12 E hI ha dX12_readStep_95 ?_
            refine lv_topi (fun f_11 ef_11 => ?_)
            replace hF := q_letX hF ef_11
            have if_11 : f_11.toInt = (σ_8.1 a 27).toInt := congrArg Int32.toInt ef_11
            refine lv_imul hx hb dX12_readStep_98 ?_
            refine lv_topi (fun z_12 ez_12 => ?_)
            replace hF := q_letX hF ez_12
            have iz_12 := q_mulI (A := 9) (B := f_11.toInt) ez_12 (by decide) rfl (by omega) (by omega)
            refine lv_iadd hx hb dX12_readStep_99 ?_
            refine lv_topi (fun z_13 ez_13 => ?_)
            replace hF := q_letX hF ez_13
            have iz_13 := q_addI (A := 4376) (B := (9 * f_11.toInt)) ez_13 (by decide) iz_12 (by omega) (by omega)
            refine lv_istore (lv' := [(4, .int z_13), (0, .ref a), (1, .int v1), (2, .int r_1), (3, .int x_3)]) hx hb dX12_readStep_100 hl (by decide) rfl (fun ls hl => ?_)
            refine lv_aload_n hx hb dX12_readStep_102 rfl (lv_at hl 1 rfl) ?_
            refine lv_dup hx hb dX12_readStep_103 rfl ?_
            refine gs_X12_267_12 E hI ha dX12_readStep_104 ?_
            refine lv_topi (fun f_14 ef_14 => ?_)
            replace hF := q_letX hF ef_14
            have if_14 : f_14.toInt = (σ_8.1 a 27).toInt := congrArg Int32.toInt ef_14
            refine lv_iconst (v := 1) hx hb dX12_readStep_107 (by decide) ?_
            refine lv_iadd hx hb dX12_readStep_108 ?_
            refine lv_topi (fun z_15 ez_15 => ?_)
            replace hF := q_letX hF ez_15
            have iz_15 := q_addI (A := f_14.toInt) (B := 1) ez_15 rfl (by decide) (by omega) (by omega)
            refine ps_X12_267_12 E hI ha (by decide) dX12_readStep_109 (fun H locs σ_16 hσ_16 hI => ?_)
            replace hF := q_letX hF hσ_16
            have fr_σ_16 := fr_σ_8.si hσ_16 ha rfl
            have mv9_σ_16 : (σ_16.1 a 9).toInt = (σ_8.1 a 9).toInt := congrArg Int32.toInt (q_rdn hσ_16 (Or.inr (by decide)))
            have mv12_σ_16 : (σ_16.1 a 12).toInt = (σ_8.1 a 12).toInt := congrArg Int32.toInt (q_rdn hσ_16 (Or.inr (by decide)))
            have mv14_σ_16 : (σ_16.1 a 14).toInt = (σ_8.1 a 14).toInt := congrArg Int32.toInt (q_rdn hσ_16 (Or.inr (by decide)))
            have mv15_σ_16 : (σ_16.1 a 15).toInt = (σ_8.1 a 15).toInt := congrArg Int32.toInt (q_rdn hσ_16 (Or.inr (by decide)))
            have mv16_σ_16 : (σ_16.1 a 16).toInt = (σ_8.1 a 16).toInt := congrArg Int32.toInt (q_rdn hσ_16 (Or.inr (by decide)))
            have mv27_σ_16 : (σ_16.1 a 27).toInt = z_15.toInt := congrArg Int32.toInt (q_rd hσ_16)
            have mcσ_16 := m_wo hσ_16 (m_ne ha (q_tk (f := 20) (k' := 34) hI ha rfl (by decide)) (by decide))
            have klσ_16 : ∀ j, 0 ≤ j → j < 4376 + 9 * (σ.1 a 27).toInt → m_c X σ_16 a j = m_c X σ a j := fun j h0 h1 => (mcσ_16 j).trans (klσ_8 j h0 h1)
            have smσ_16 : 0 ≤ (σ_16.1 a 15).toInt ∧ (σ_16.1 a 15).toInt ≤ (σ_16.1 a 16).toInt ∧ (σ_16.1 a 16).toInt ≤ (σ_16.1 a 9).toInt ∧ (σ_16.1 a 9).toInt ≤ 900 ∧ 0 ≤ (σ_16.1 a 14).toInt ∧ (σ_16.1 a 14).toInt ≤ 4 ∧ (σ_16.1 a 14).toInt ≤ 4 * ((σ_16.1 a 16).toInt - (σ_16.1 a 15).toInt) ∧ (σ_16.1 a 14).toInt ≤ 4 * ((σ_16.1 a 9).toInt - (σ_16.1 a 15).toInt) ∧ 0 ≤ (σ_16.1 a 12).toInt ∧ (σ_16.1 a 9).toInt = (σ.1 a 9).toInt ∧ (σ.1 a 15).toInt ≤ (σ_16.1 a 15).toInt ∧ (σ.1 a 12).toInt ≤ (σ_16.1 a 12).toInt := (by first | (rw [mv12_σ_16, mv14_σ_16, mv15_σ_16, mv16_σ_16, mv9_σ_16]; exact smσ_8) | omega)
            have beσ_16 : (σ_16.1 a 16).toInt = (σ.1 a 16).toInt := (by omega)
            have nbσ_16 : (σ_16.1 a 27).toInt = (σ.1 a 27).toInt + 1 := (by omega)
            clear mv9_σ_16 mv12_σ_16 mv14_σ_16 mv15_σ_16 mv16_σ_16 mv27_σ_16 smσ_8 beσ_8
            refine lv_aload_n hx hb dX12_readStep_112 rfl (lv_at hl 1 rfl) ?_
            refine q_cv (q_runV (As := []) (rest := []) E (hml.trans hl.1.symm) hI (c_X12_next l X σ_16 a ha (by omega) (by omega) (by omega)) kv_X12_197 ha ⟨rfl, by decide⟩ (show vwCl[11]? = some (RX12, TX12, 46) from rfl) rfl ⟨rm_f hrf (Nat.le_of_ble_eq_true rfl), rm_w hrw (Nat.le_of_ble_eq_true rfl)⟩ ⟨Nat.le_refl _, Nat.le_refl _⟩ rfl (Nat.le_of_ble_eq_true rfl) dX12_readStep_113) hI (by decide) (fun σ_18 H locs hpσ_18 hkσ_18 hI => ?_)
            obtain ⟨ahpσ_18, bhpσ_18, chpσ_18, dhpσ_18, ehpσ_18⟩ := hpσ_18
            have fr_σ_18 := fr_σ_16.call ehpσ_18 rfl rfl
            replace hF := q_letX hF dhpσ_18
            have mv27_σ_18 : (σ_18.1 a 27).toInt = (σ_16.1 a 27).toInt := congrArg Int32.toInt (ahpσ_18 a 27 (q_cl9 _ _) (fun h => absurd h.2.2 (by decide)))
            have mcσ_18 := m_cK hkσ_18 hI.1 ha (by decide)
            have klσ_18 : ∀ j, 0 ≤ j → j < 4376 + 9 * (σ.1 a 27).toInt → m_c X σ_18 a j = m_c X σ a j := fun j h0 h1 => (mcσ_18 j).trans (klσ_16 j h0 h1)
            have smσ_18 : 0 ≤ (σ_18.1 a 15).toInt ∧ (σ_18.1 a 15).toInt ≤ (σ_18.1 a 16).toInt ∧ (σ_18.1 a 16).toInt ≤ (σ_18.1 a 9).toInt ∧ (σ_18.1 a 9).toInt ≤ 900 ∧ 0 ≤ (σ_18.1 a 14).toInt ∧ (σ_18.1 a 14).toInt ≤ 4 ∧ (σ_18.1 a 14).toInt ≤ 4 * ((σ_18.1 a 16).toInt - (σ_18.1 a 15).toInt) ∧ (σ_18.1 a 14).toInt ≤ 4 * ((σ_18.1 a 9).toInt - (σ_18.1 a 15).toInt) ∧ 0 ≤ (σ_18.1 a 12).toInt ∧ (σ_18.1 a 9).toInt = (σ.1 a 9).toInt ∧ (σ.1 a 15).toInt ≤ (σ_18.1 a 15).toInt ∧ (σ.1 a 12).toInt ≤ (σ_18.1 a 12).toInt := (by first | exact sm_nx smσ_16 bhpσ_18 chpσ_18 | omega)
            have nbσ_18 : (σ_18.1 a 27).toInt = (σ.1 a 27).toInt + 1 := (by omega)
            have oxσ_18 : (σ.1 a 15).toInt + 1 ≤ (σ_18.1 a 15).toInt := (by omega)
            clear mv27_σ_18 smσ_16 nbσ_16 bhpσ_18 chpσ_18
            refine lv_aload_n hx hb dX12_readStep_116 rfl (lv_at hl 1 rfl) ?_
            refine gs_X12_35_12 E hI ha dX12_readStep_117 ?_
            refine lv_iload hx hb dX12_readStep_120 (lv_at hl 0 rfl) ?_
            refine lv_iload_n hx hb dX12_readStep_122 rfl (lv_at hl 3 rfl) ?_
            refine q_iastN E hI (q_tk (k' := 34) hI ha rfl (by decide)) ⟨by decide, rfl⟩ (by omega) (by rw [q_lnk (v := 4650) hI (q_tk (k' := 34) hI ha rfl (by decide)) rfl (by decide)]; omega) (show 1 < 2 by decide) (q_inU rfl) dX12_readStep_123 (fun H locs σ_19 hσ_19 hI => ?_)
            replace hF := q_letX hF hσ_19
            have fr_σ_19 := fr_σ_18.si hσ_19 (q_tk (k' := 34) hI ha rfl (by decide)) rfl
            have mv9_σ_19 : (σ_19.1 a 9).toInt = (σ_18.1 a 9).toInt := congrArg Int32.toInt (q_rdn hσ_19 (Or.inl (m_ne ha (q_tk (k' := 34) hI ha rfl (by decide)) (by decide))))
            have mv12_σ_19 : (σ_19.1 a 12).toInt = (σ_18.1 a 12).toInt := congrArg Int32.toInt (q_rdn hσ_19 (Or.inl (m_ne ha (q_tk (k' := 34) hI ha rfl (by decide)) (by decide))))
            have mv14_σ_19 : (σ_19.1 a 14).toInt = (σ_18.1 a 14).toInt := congrArg Int32.toInt (q_rdn hσ_19 (Or.inl (m_ne ha (q_tk (k' := 34) hI ha rfl (by decide)) (by decide))))
            have mv15_σ_19 : (σ_19.1 a 15).toInt = (σ_18.1 a 15).toInt := congrArg Int32.toInt (q_rdn hσ_19 (Or.inl (m_ne ha (q_tk (k' := 34) hI ha rfl (by decide)) (by decide))))
            have mv16_σ_19 : (σ_19.1 a 16).toInt = (σ_18.1 a 16).toInt := congrArg Int32.toInt (q_rdn hσ_19 (Or.inl (m_ne ha (q_tk (k' := 34) hI ha rfl (by decide)) (by decide))))
            have mv27_σ_19 : (σ_19.1 a 27).toInt = (σ_18.1 a 27).toInt := congrArg Int32.toInt (q_rdn hσ_19 (Or.inl (m_ne ha (q_tk (k' := 34) hI ha rfl (by decide)) (by decide))))
            have mcσ_19 := m_wr (v := r_1) (A := (4376 + (9 * f_11.toInt))) hσ_19 iz_13 (by omega)
            have klσ_19 : ∀ j, 0 ≤ j → j < 4376 + 9 * (σ.1 a 27).toInt → m_c X σ_19 a j = m_c X σ a j := fun j h0 h1 => by rw [mcσ_19 j h0, if_neg (by omega)]; exact klσ_18 j h0 h1
            have smσ_19 : 0 ≤ (σ_19.1 a 15).toInt ∧ (σ_19.1 a 15).toInt ≤ (σ_19.1 a 16).toInt ∧ (σ_19.1 a 16).toInt ≤ (σ_19.1 a 9).toInt ∧ (σ_19.1 a 9).toInt ≤ 900 ∧ 0 ≤ (σ_19.1 a 14).toInt ∧ (σ_19.1 a 14).toInt ≤ 4 ∧ (σ_19.1 a 14).toInt ≤ 4 * ((σ_19.1 a 16).toInt - (σ_19.1 a 15).toInt) ∧ (σ_19.1 a 14).toInt ≤ 4 * ((σ_19.1 a 9).toInt - (σ_19.1 a 15).toInt) ∧ 0 ≤ (σ_19.1 a 12).toInt ∧ (σ_19.1 a 9).toInt = (σ.1 a 9).toInt ∧ (σ.1 a 15).toInt ≤ (σ_19.1 a 15).toInt ∧ (σ.1 a 12).toInt ≤ (σ_19.1 a 12).toInt := (by first | (rw [mv12_σ_19, mv14_σ_19, mv15_σ_19, mv16_σ_19, mv9_σ_19]; exact smσ_18) | omega)
            have nbσ_19 : (σ_19.1 a 27).toInt = (σ.1 a 27).toInt + 1 := (by omega)
            have oxσ_19 : (σ.1 a 15).toInt + 1 ≤ (σ_19.1 a 15).toInt := (by omega)
            have cwσ_19 : m_c X σ_19 a z_13.toInt = r_1.toInt := (by rw [mcσ_19 z_13.toInt (by omega), if_pos (by omega)])
            clear mv9_σ_19 mv12_σ_19 mv14_σ_19 mv15_σ_19 mv16_σ_19 mv27_σ_19 smσ_18 nbσ_18 oxσ_18
            refine lv_aload_n hx hb dX12_readStep_124 rfl (lv_at hl 1 rfl) ?_
            refine lv_iload hx hb dX12_readStep_125 (lv_at hl 0 rfl) ?_
            refine q_cv (q_runV (As := [.int z_13]) (rest := []) E (hml.trans hl.1.symm) hI (c_X12_readRest l X σ_19 a z_13 ha (by first | exact sm_9 smσ_19 | exact hs | omega) (by omega) (by rw [klσ_19 2 (by decide) (by omega)]; exact hc2)) kv_X12_270 ha ⟨rfl, by decide⟩ (show vwCl[11]? = some (RX12, TX12, 46) from rfl) rfl ⟨rm_f hrf (Nat.le_of_ble_eq_true rfl), rm_w hrw (Nat.le_of_ble_eq_true rfl)⟩ ⟨Nat.le_refl _, Nat.le_refl _⟩ rfl (Nat.le_of_ble_eq_true rfl) dX12_readStep_127) hI (by decide) (fun σ_21 H locs hpσ_21 hkσ_21 hI => ?_)
            obtain ⟨ahpσ_21, bhpσ_21, chpσ_21, dhpσ_21, ehpσ_21, fhpσ_21⟩ := hpσ_21
            have fr_σ_21 := fr_σ_19.call fhpσ_21 rfl rfl
            replace hF := q_letX hF ehpσ_21
            have klσ_21 : ∀ j, 0 ≤ j → j < 4376 + 9 * (σ.1 a 27).toInt → m_c X σ_21 a j = m_c X σ a j := (fun j h0 h1 => (ahpσ_21 j h0 (Or.inl (by omega))).trans (klσ_19 j h0 h1))
            have smσ_21 : 0 ≤ (σ_21.1 a 15).toInt ∧ (σ_21.1 a 15).toInt ≤ (σ_21.1 a 16).toInt ∧ (σ_21.1 a 16).toInt ≤ (σ_21.1 a 9).toInt ∧ (σ_21.1 a 9).toInt ≤ 900 ∧ 0 ≤ (σ_21.1 a 14).toInt ∧ (σ_21.1 a 14).toInt ≤ 4 ∧ (σ_21.1 a 14).toInt ≤ 4 * ((σ_21.1 a 16).toInt - (σ_21.1 a 15).toInt) ∧ (σ_21.1 a 14).toInt ≤ 4 * ((σ_21.1 a 9).toInt - (σ_21.1 a 15).toInt) ∧ 0 ≤ (σ_21.1 a 12).toInt ∧ (σ_21.1 a 9).toInt = (σ.1 a 9).toInt ∧ (σ.1 a 15).toInt ≤ (σ_21.1 a 15).toInt ∧ (σ.1 a 12).toInt ≤ (σ_21.1 a 12).toInt := (by first | exact sm_tr smσ_19 bhpσ_21 | exact sm_tr smσ_19 chpσ_21 | omega)
            have nbσ_21 : (σ_21.1 a 27).toInt = (σ.1 a 27).toInt + 1 := (by omega)
            have oxσ_21 : (σ.1 a 15).toInt + 1 ≤ (σ_21.1 a 15).toInt := (by omega)
            have cwσ_21 : m_c X σ_21 a z_13.toInt = r_1.toInt := ((ahpσ_21 z_13.toInt (by omega) (Or.inl (by omega))).trans cwσ_19)
            have rrσ_21 : m_oz (σ_21.1 a 12).toInt (m_rst (m_c X σ_21 a) z_13.toInt) := dhpσ_21
            clear smσ_19 nbσ_19 oxσ_19 bhpσ_21 chpσ_21
            refine lv_aload_n hx hb dX12_readStep_130 rfl (lv_at hl 1 rfl) ?_
            refine lv_aload_n hx hb dX12_readStep_131 rfl (lv_at hl 1 rfl) ?_
            refine lv_bipush (v := 59) hx hb dX12_readStep_132 (by decide) ?_
            have kc_22 : (59 : Int32).toInt = 59 := rfl
            refine q_ci (q_runV (As := [.int 59]) (rest := [.ref a]) E (hml.trans hl.1.symm) hI (c_X12_isSign l X σ_21 a (59 : Int32) ha) kv_X12_243 ha ⟨rfl, by decide⟩ (show vwCl[11]? = some (RX12, TX12, 46) from rfl) rfl ⟨rm_f hrf (Nat.le_of_ble_eq_true rfl), rm_w hrw (Nat.le_of_ble_eq_true rfl)⟩ ⟨Nat.le_refl _, Nat.le_refl _⟩ rfl (Nat.le_of_ble_eq_true rfl) dX12_readStep_134) hI (by decide) (fun r_23 σ_24 H locs hpσ_24 hkσ_24 hI => ?_)
            obtain ⟨ahpσ_24, bhpσ_24, chpσ_24⟩ := hpσ_24
            rw [ahpσ_24] at hI
            replace hF := q_letX hF chpσ_24
            refine q_cv (q_runV (As := [.int r_23]) (rest := []) E (hml.trans hl.1.symm) hI (c_X12_must l X σ_21 a r_23 ha (by first | exact sm_9 smσ_21 | exact hs | omega) (by omega)) kv_X12_216 ha ⟨rfl, by decide⟩ (show vwCl[11]? = some (RX12, TX12, 46) from rfl) rfl ⟨rm_f hrf (Nat.le_of_ble_eq_true rfl), rm_w hrw (Nat.le_of_ble_eq_true rfl)⟩ ⟨Nat.le_refl _, Nat.le_refl _⟩ rfl (Nat.le_of_ble_eq_true rfl) dX12_readStep_137) hI (by decide) (fun σ_26 H locs hpσ_26 hkσ_26 hI => ?_)
            obtain ⟨ahpσ_26, bhpσ_26, chpσ_26, dhpσ_26, ehpσ_26⟩ := hpσ_26
            have fr_σ_26 := fr_σ_21.call ehpσ_26 rfl rfl
            replace hF := q_letX hF dhpσ_26
            have mv27_σ_26 : (σ_26.1 a 27).toInt = (σ_21.1 a 27).toInt := congrArg Int32.toInt (ahpσ_26 a 27 (q_cl9 _ _) (fun h => absurd h.2.2 (by decide)))
            have mcσ_26 := m_cK hkσ_26 hI.1 ha (by decide)
            have klσ_26 : ∀ j, 0 ≤ j → j < 4376 + 9 * (σ.1 a 27).toInt → m_c X σ_26 a j = m_c X σ a j := fun j h0 h1 => (mcσ_26 j).trans (klσ_21 j h0 h1)
            have smσ_26 : 0 ≤ (σ_26.1 a 15).toInt ∧ (σ_26.1 a 15).toInt ≤ (σ_26.1 a 16).toInt ∧ (σ_26.1 a 16).toInt ≤ (σ_26.1 a 9).toInt ∧ (σ_26.1 a 9).toInt ≤ 900 ∧ 0 ≤ (σ_26.1 a 14).toInt ∧ (σ_26.1 a 14).toInt ≤ 4 ∧ (σ_26.1 a 14).toInt ≤ 4 * ((σ_26.1 a 16).toInt - (σ_26.1 a 15).toInt) ∧ (σ_26.1 a 14).toInt ≤ 4 * ((σ_26.1 a 9).toInt - (σ_26.1 a 15).toInt) ∧ 0 ≤ (σ_26.1 a 12).toInt ∧ (σ_26.1 a 9).toInt = (σ.1 a 9).toInt ∧ (σ.1 a 15).toInt ≤ (σ_26.1 a 15).toInt ∧ (σ.1 a 12).toInt ≤ (σ_26.1 a 12).toInt := (by first | exact sm_tr smσ_21 bhpσ_26 | exact sm_tr smσ_21 chpσ_26 | omega)
            have nbσ_26 : (σ_26.1 a 27).toInt = (σ.1 a 27).toInt + 1 := (by omega)
            have oxσ_26 : (σ.1 a 15).toInt + 1 ≤ (σ_26.1 a 15).toInt := (by omega)
            have cwσ_26 : m_c X σ_26 a z_13.toInt = r_1.toInt := (mcσ_26 _).trans cwσ_21
            have rrσ_26 : m_oz (σ_26.1 a 12).toInt (m_rst (m_c X σ_26 a) z_13.toInt) := (m_oz.mono rrσ_21 (by omega) (by omega) (fun h => m_rst.ext h (fun j => mcσ_26 j)))
            clear mv27_σ_26 smσ_21 nbσ_21 oxσ_21 bhpσ_26
            have L_140_28 : ∀ (k_28 : Nat)  (σ_27 : ST) (H : Heap) (locs : List Loc) (ls : Array Slot), (901 - (σ_27.1 a 15).toInt).toNat + (1 - (σ_27.1 a 12).toInt).toNat < k_28 → ((σ.1 a 27).toInt + 1 ≤ (σ_27.1 a 27).toInt ∧ (σ_27.1 a 27).toInt ≤ 30) → (m_oz (σ_27.1 a 12).toInt (m_lp (m_c X σ_27 a) z_13.toInt (σ.1 a 27).toInt (σ_27.1 a 27).toInt)) → (q_ow [(12, 12), (12, 13), (12, 14), (12, 15), (12, 16), (12, 17), (12, 18), (12, 27), (34, 99)] [(12, 19)] X σ σ_27) → (∀ j, 0 ≤ j → j < 4376 + 9 * (σ.1 a 27).toInt → m_c X σ_27 a j = m_c X σ a j) → (0 ≤ (σ_27.1 a 15).toInt ∧ (σ_27.1 a 15).toInt ≤ (σ_27.1 a 16).toInt ∧ (σ_27.1 a 16).toInt ≤ (σ_27.1 a 9).toInt ∧ (σ_27.1 a 9).toInt ≤ 900 ∧ 0 ≤ (σ_27.1 a 14).toInt ∧ (σ_27.1 a 14).toInt ≤ 4 ∧ (σ_27.1 a 14).toInt ≤ 4 * ((σ_27.1 a 16).toInt - (σ_27.1 a 15).toInt) ∧ (σ_27.1 a 14).toInt ≤ 4 * ((σ_27.1 a 9).toInt - (σ_27.1 a 15).toInt) ∧ 0 ≤ (σ_27.1 a 12).toInt ∧ (σ_27.1 a 9).toInt = (σ.1 a 9).toInt ∧ (σ.1 a 15).toInt ≤ (σ_27.1 a 15).toInt ∧ (σ.1 a 12).toInt ≤ (σ_27.1 a 12).toInt) → ((σ.1 a 15).toInt + 1 ≤ (σ_27.1 a 15).toInt) → (G_L140_5 X x_3 z_13 a v1 k_28 σ_27 = out) → q_I X 1 σ s.heap locs σ_27 H → lv_has ls 5 [(0, .ref a), (1, .int v1), (2, .int r_1), (3, .int x_3), (4, .int z_13)] → W p l e (q_rm (rmf + 1) (24 + rmw)) s m ([.ref a, .int v1] : List Value).toArray below meth c H locs 0 0 (MQ below QQ ([.ref a, .int v1] : List Value).toArray s 0 0 (q_reg X)) (F0 m 140 ls []) := by
              clear hF
              intro k_28
              induction k_28 with
              | zero =>
                intro σ_27 H locs ls hms
                try clear fr_σ_16; try clear mcσ_16; try clear klσ_16; try clear beσ_16; try clear ahpσ_18; try clear fr_σ_18; try clear mcσ_18; try clear klσ_18; try clear fr_σ_19; try clear mcσ_19; try clear klσ_19; try clear cwσ_19; try clear ahpσ_21; try clear fr_σ_21; try clear klσ_21; try clear cwσ_21; try clear rrσ_21; try clear ahpσ_24; try clear ahpσ_26; try clear fr_σ_26; try clear mcσ_26; try clear klσ_26; try clear smσ_26; try clear nbσ_26; try clear oxσ_26; try clear cwσ_26; try clear rrσ_26
                exact absurd hms (Nat.not_lt_zero _)
              | succ k_28 ih140 =>
                intro σ_27 H locs ls hm140 nrσ_27 lpσ_27 fr_σ_27 klσ_27 smσ_27 oxσ_27 hF hI hl
                replace hF := (eG_L140_5_s _ _ _ _ _ _ _).symm.trans hF
                rewrite [eG_B140_5] at hF
                refine lv_iload_n hx hb dX12_readStep_140 rfl (lv_at hl 3 rfl) ?_
                refine q_if_eq (A := x_3.toInt) E rfl (tgt := 168) dX12_readStep_141 (by decide) (fun c_29 => ?_) (fun c_29 => ?_)
                · skip
                  replace hF := q_ifp hF c_29
                  rewrite [eG_E168_6] at hF
                  refine lv_iload_n hx hb dX12_readStep_168 rfl (lv_at hl 3 rfl) ?_
                  refine q_if_eq (A := x_3.toInt) E rfl (tgt := 190) dX12_readStep_169 (by decide) (fun c_30 => ?_) (fun c_30 => ?_)
                  · skip
                    replace hF := q_ifp hF c_30
                    refine lv_aload_n hx hb dX12_readStep_190 rfl (lv_at hl 0 rfl) ?_
                    refine gs_X12_35_12 E hI ha dX12_readStep_191 ?_
                    refine lv_iload hx hb dX12_readStep_194 (lv_at hl 4 rfl) ?_
                    refine lv_bipush (v := 8) hx hb dX12_readStep_196 (by decide) ?_
                    refine lv_iadd hx hb dX12_readStep_198 ?_
                    refine lv_topi (fun z_31 ez_31 => ?_)
                    replace hF := q_letX hF ez_31
                    have iz_31 := q_addI (A := (4376 + (9 * f_11.toInt))) (B := 8) ez_31 iz_13 (by decide) (by omega) (by omega)
                    refine lv_aload_n hx hb dX12_readStep_199 rfl (lv_at hl 0 rfl) ?_
                    refine gs_X12_267_12 E hI ha dX12_readStep_200 ?_
                    refine lv_topi (fun f_32 ef_32 => ?_)
                    replace hF := q_letX hF ef_32
                    have if_32 : f_32.toInt = (σ_27.1 a 27).toInt := congrArg Int32.toInt ef_32
                    refine q_iastN E hI (q_tk (k' := 34) hI ha rfl (by decide)) ⟨by decide, rfl⟩ (by omega) (by rw [q_lnk (v := 4650) hI (q_tk (k' := 34) hI ha rfl (by decide)) rfl (by decide)]; omega) (show 1 < 2 by decide) (q_inU rfl) dX12_readStep_203 (fun H locs σ_33 hσ_33 hI => ?_)
                    replace hF := q_letX hF hσ_33
                    have fr_σ_33 := fr_σ_27.si hσ_33 (q_tk (k' := 34) hI ha rfl (by decide)) rfl
                    have mv9_σ_33 : (σ_33.1 a 9).toInt = (σ_27.1 a 9).toInt := congrArg Int32.toInt (q_rdn hσ_33 (Or.inl (m_ne ha (q_tk (k' := 34) hI ha rfl (by decide)) (by decide))))
                    have mv12_σ_33 : (σ_33.1 a 12).toInt = (σ_27.1 a 12).toInt := congrArg Int32.toInt (q_rdn hσ_33 (Or.inl (m_ne ha (q_tk (k' := 34) hI ha rfl (by decide)) (by decide))))
                    have mv14_σ_33 : (σ_33.1 a 14).toInt = (σ_27.1 a 14).toInt := congrArg Int32.toInt (q_rdn hσ_33 (Or.inl (m_ne ha (q_tk (k' := 34) hI ha rfl (by decide)) (by decide))))
                    have mv15_σ_33 : (σ_33.1 a 15).toInt = (σ_27.1 a 15).toInt := congrArg Int32.toInt (q_rdn hσ_33 (Or.inl (m_ne ha (q_tk (k' := 34) hI ha rfl (by decide)) (by decide))))
                    have mv16_σ_33 : (σ_33.1 a 16).toInt = (σ_27.1 a 16).toInt := congrArg Int32.toInt (q_rdn hσ_33 (Or.inl (m_ne ha (q_tk (k' := 34) hI ha rfl (by decide)) (by decide))))
                    have mv27_σ_33 : (σ_33.1 a 27).toInt = (σ_27.1 a 27).toInt := congrArg Int32.toInt (q_rdn hσ_33 (Or.inl (m_ne ha (q_tk (k' := 34) hI ha rfl (by decide)) (by decide))))
                    have mcσ_33 := m_wr (v := f_32) (A := ((4376 + (9 * f_11.toInt)) + 8)) hσ_33 iz_31 (by omega)
                    have klσ_33 : ∀ j, 0 ≤ j → j < 4376 + 9 * (σ.1 a 27).toInt → m_c X σ_33 a j = m_c X σ a j := fun j h0 h1 => by rw [mcσ_33 j h0, if_neg (by omega)]; exact klσ_27 j h0 h1
                    have smσ_33 : 0 ≤ (σ_33.1 a 15).toInt ∧ (σ_33.1 a 15).toInt ≤ (σ_33.1 a 16).toInt ∧ (σ_33.1 a 16).toInt ≤ (σ_33.1 a 9).toInt ∧ (σ_33.1 a 9).toInt ≤ 900 ∧ 0 ≤ (σ_33.1 a 14).toInt ∧ (σ_33.1 a 14).toInt ≤ 4 ∧ (σ_33.1 a 14).toInt ≤ 4 * ((σ_33.1 a 16).toInt - (σ_33.1 a 15).toInt) ∧ (σ_33.1 a 14).toInt ≤ 4 * ((σ_33.1 a 9).toInt - (σ_33.1 a 15).toInt) ∧ 0 ≤ (σ_33.1 a 12).toInt ∧ (σ_33.1 a 9).toInt = (σ.1 a 9).toInt ∧ (σ.1 a 15).toInt ≤ (σ_33.1 a 15).toInt ∧ (σ.1 a 12).toInt ≤ (σ_33.1 a 12).toInt := (by first | (rw [mv12_σ_33, mv14_σ_33, mv15_σ_33, mv16_σ_33, mv9_σ_33]; exact smσ_27) | omega)
                    have oxσ_33 : (σ.1 a 15).toInt + 1 ≤ (σ_33.1 a 15).toInt := (by omega)
                    have nrσ_33 : (σ.1 a 27).toInt + 1 ≤ (σ_33.1 a 27).toInt ∧ (σ_33.1 a 27).toInt ≤ 30 := (by omega)
                    have fiσ_33 : m_oz (σ_33.1 a 12).toInt (∀ t, (σ.1 a 27).toInt ≤ t → t < (σ_33.1 a 27).toInt → m_stp (m_c X σ_33 a) (4376 + 9 * t) t (σ_33.1 a 27).toInt) := (m_oz.mono lpσ_27 (by omega) (by omega) (fun h => by have en : (σ_33.1 a 27).toInt = (σ_27.1 a 27).toInt := (by omega); rw [en]; exact m_lp.done h (fun j hj => by rw [mcσ_33 j hj, iz_13]) (by omega) (by omega) (by omega)))
                    clear mv9_σ_33 mv12_σ_33 mv14_σ_33 mv15_σ_33 mv16_σ_33 mv27_σ_33 smσ_27 oxσ_27 nrσ_27
                    rewrite [hQQ]; exact q_retv E hr hlk hI ⟨klσ_33, (by first | exact smσ_33 | omega), (by first | exact smσ_33 | omega), (by first | exact smσ_33 | omega), fiσ_33, (hF.trans hout), fr_σ_33⟩ dX12_readStep_204
                  · skip
                    replace hF := q_ifn hF c_30
                    refine lv_aload_n hx hb dX12_readStep_172 rfl (lv_at hl 0 rfl) ?_
                    refine lv_aload_n hx hb dX12_readStep_173 rfl (lv_at hl 0 rfl) ?_
                    refine q_ci (q_runV (As := []) (rest := [.ref a]) E (hml.trans hl.1.symm) hI (c_X12_isEnd l X σ_27 a ha) kv_X12_181 ha ⟨rfl, by decide⟩ (show vwCl[11]? = some (RX12, TX12, 46) from rfl) rfl ⟨rm_f hrf (Nat.le_of_ble_eq_true rfl), rm_w hrw (Nat.le_of_ble_eq_true rfl)⟩ ⟨Nat.le_refl _, Nat.le_refl _⟩ rfl (Nat.le_of_ble_eq_true rfl) dX12_readStep_174) hI (by decide) (fun r_34 σ_35 H locs hpσ_35 hkσ_35 hI => ?_)
                    obtain ⟨ahpσ_35, bhpσ_35, chpσ_35⟩ := hpσ_35
                    rw [ahpσ_35] at hI
                    replace hF := q_letX hF chpσ_35
                    refine q_cv (q_runV (As := [.int r_34]) (rest := []) E (hml.trans hl.1.symm) hI (c_X12_must l X σ_27 a r_34 ha (by first | exact sm_9 smσ_27 | exact hs | omega) (by omega)) kv_X12_216 ha ⟨rfl, by decide⟩ (show vwCl[11]? = some (RX12, TX12, 46) from rfl) rfl ⟨rm_f hrf (Nat.le_of_ble_eq_true rfl), rm_w hrw (Nat.le_of_ble_eq_true rfl)⟩ ⟨Nat.le_refl _, Nat.le_refl _⟩ rfl (Nat.le_of_ble_eq_true rfl) dX12_readStep_177) hI (by decide) (fun σ_37 H locs hpσ_37 hkσ_37 hI => ?_)
                    obtain ⟨ahpσ_37, bhpσ_37, chpσ_37, dhpσ_37, ehpσ_37⟩ := hpσ_37
                    have fr_σ_37 := fr_σ_27.call ehpσ_37 rfl rfl
                    replace hF := q_letX hF dhpσ_37
                    have mv27_σ_37 : (σ_37.1 a 27).toInt = (σ_27.1 a 27).toInt := congrArg Int32.toInt (ahpσ_37 a 27 (q_cl9 _ _) (fun h => absurd h.2.2 (by decide)))
                    have mcσ_37 := m_cK hkσ_37 hI.1 ha (by decide)
                    have klσ_37 : ∀ j, 0 ≤ j → j < 4376 + 9 * (σ.1 a 27).toInt → m_c X σ_37 a j = m_c X σ a j := fun j h0 h1 => (mcσ_37 j).trans (klσ_27 j h0 h1)
                    have smσ_37 : 0 ≤ (σ_37.1 a 15).toInt ∧ (σ_37.1 a 15).toInt ≤ (σ_37.1 a 16).toInt ∧ (σ_37.1 a 16).toInt ≤ (σ_37.1 a 9).toInt ∧ (σ_37.1 a 9).toInt ≤ 900 ∧ 0 ≤ (σ_37.1 a 14).toInt ∧ (σ_37.1 a 14).toInt ≤ 4 ∧ (σ_37.1 a 14).toInt ≤ 4 * ((σ_37.1 a 16).toInt - (σ_37.1 a 15).toInt) ∧ (σ_37.1 a 14).toInt ≤ 4 * ((σ_37.1 a 9).toInt - (σ_37.1 a 15).toInt) ∧ 0 ≤ (σ_37.1 a 12).toInt ∧ (σ_37.1 a 9).toInt = (σ.1 a 9).toInt ∧ (σ.1 a 15).toInt ≤ (σ_37.1 a 15).toInt ∧ (σ.1 a 12).toInt ≤ (σ_37.1 a 12).toInt := (by first | exact sm_tr smσ_27 bhpσ_37 | exact sm_tr smσ_27 chpσ_37 | omega)
                    have oxσ_37 : (σ.1 a 15).toInt + 1 ≤ (σ_37.1 a 15).toInt := (by omega)
                    have nrσ_37 : (σ.1 a 27).toInt + 1 ≤ (σ_37.1 a 27).toInt ∧ (σ_37.1 a 27).toInt ≤ 30 := (by omega)
                    have lpσ_37 : m_oz (σ_37.1 a 12).toInt (m_lp (m_c X σ_37 a) z_13.toInt (σ.1 a 27).toInt (σ_37.1 a 27).toInt) := (m_oz.mono lpσ_27 (by omega) (by omega) (fun h => m_lp.ext h (fun j => mcσ_37 j) (by omega)))
                    clear mv27_σ_37 smσ_27 oxσ_27 nrσ_27 bhpσ_37
                    refine lv_aload_n hx hb dX12_readStep_180 rfl (lv_at hl 0 rfl) ?_
                    refine lv_aload_n hx hb dX12_readStep_181 rfl (lv_at hl 0 rfl) ?_
                    refine lv_bipush (v := 59) hx hb dX12_readStep_182 (by decide) ?_
                    have kc_38 : (59 : Int32).toInt = 59 := rfl
                    refine q_ci (q_runV (As := [.int 59]) (rest := [.ref a]) E (hml.trans hl.1.symm) hI (c_X12_isSign l X σ_37 a (59 : Int32) ha) kv_X12_243 ha ⟨rfl, by decide⟩ (show vwCl[11]? = some (RX12, TX12, 46) from rfl) rfl ⟨rm_f hrf (Nat.le_of_ble_eq_true rfl), rm_w hrw (Nat.le_of_ble_eq_true rfl)⟩ ⟨Nat.le_refl _, Nat.le_refl _⟩ rfl (Nat.le_of_ble_eq_true rfl) dX12_readStep_184) hI (by decide) (fun r_39 σ_40 H locs hpσ_40 hkσ_40 hI => ?_)
                    obtain ⟨ahpσ_40, bhpσ_40, chpσ_40⟩ := hpσ_40
                    rw [ahpσ_40] at hI
                    replace hF := q_letX hF chpσ_40
                    refine q_cv (q_runV (As := [.int r_39]) (rest := []) E (hml.trans hl.1.symm) hI (c_X12_must l X σ_37 a r_39 ha (by first | exact sm_9 smσ_37 | exact hs | omega) (by omega)) kv_X12_216 ha ⟨rfl, by decide⟩ (show vwCl[11]? = some (RX12, TX12, 46) from rfl) rfl ⟨rm_f hrf (Nat.le_of_ble_eq_true rfl), rm_w hrw (Nat.le_of_ble_eq_true rfl)⟩ ⟨Nat.le_refl _, Nat.le_refl _⟩ rfl (Nat.le_of_ble_eq_true rfl) dX12_readStep_187) hI (by decide) (fun σ_42 H locs hpσ_42 hkσ_42 hI => ?_)
                    obtain ⟨ahpσ_42, bhpσ_42, chpσ_42, dhpσ_42, ehpσ_42⟩ := hpσ_42
                    have fr_σ_42 := fr_σ_37.call ehpσ_42 rfl rfl
                    replace hF := q_letX hF dhpσ_42
                    have mv27_σ_42 : (σ_42.1 a 27).toInt = (σ_37.1 a 27).toInt := congrArg Int32.toInt (ahpσ_42 a 27 (q_cl9 _ _) (fun h => absurd h.2.2 (by decide)))
                    have mcσ_42 := m_cK hkσ_42 hI.1 ha (by decide)
                    have klσ_42 : ∀ j, 0 ≤ j → j < 4376 + 9 * (σ.1 a 27).toInt → m_c X σ_42 a j = m_c X σ a j := fun j h0 h1 => (mcσ_42 j).trans (klσ_37 j h0 h1)
                    have smσ_42 : 0 ≤ (σ_42.1 a 15).toInt ∧ (σ_42.1 a 15).toInt ≤ (σ_42.1 a 16).toInt ∧ (σ_42.1 a 16).toInt ≤ (σ_42.1 a 9).toInt ∧ (σ_42.1 a 9).toInt ≤ 900 ∧ 0 ≤ (σ_42.1 a 14).toInt ∧ (σ_42.1 a 14).toInt ≤ 4 ∧ (σ_42.1 a 14).toInt ≤ 4 * ((σ_42.1 a 16).toInt - (σ_42.1 a 15).toInt) ∧ (σ_42.1 a 14).toInt ≤ 4 * ((σ_42.1 a 9).toInt - (σ_42.1 a 15).toInt) ∧ 0 ≤ (σ_42.1 a 12).toInt ∧ (σ_42.1 a 9).toInt = (σ.1 a 9).toInt ∧ (σ.1 a 15).toInt ≤ (σ_42.1 a 15).toInt ∧ (σ.1 a 12).toInt ≤ (σ_42.1 a 12).toInt := (by first | exact sm_tr smσ_37 bhpσ_42 | exact sm_tr smσ_37 chpσ_42 | omega)
                    have oxσ_42 : (σ.1 a 15).toInt + 1 ≤ (σ_42.1 a 15).toInt := (by omega)
                    have nrσ_42 : (σ.1 a 27).toInt + 1 ≤ (σ_42.1 a 27).toInt ∧ (σ_42.1 a 27).toInt ≤ 30 := (by omega)
                    have lpσ_42 : m_oz (σ_42.1 a 12).toInt (m_lp (m_c X σ_42 a) z_13.toInt (σ.1 a 27).toInt (σ_42.1 a 27).toInt) := (m_oz.mono lpσ_37 (by omega) (by omega) (fun h => m_lp.ext h (fun j => mcσ_42 j) (by omega)))
                    clear mv27_σ_42 smσ_37 oxσ_37 nrσ_37 bhpσ_42
                    refine lv_aload_n hx hb dX12_readStep_190 rfl (lv_at hl 0 rfl) ?_
                    refine gs_X12_35_12 E hI ha dX12_readStep_191 ?_
                    refine lv_iload hx hb dX12_readStep_194 (lv_at hl 4 rfl) ?_
                    refine lv_bipush (v := 8) hx hb dX12_readStep_196 (by decide) ?_
                    refine lv_iadd hx hb dX12_readStep_198 ?_
                    refine lv_topi (fun z_43 ez_43 => ?_)
                    replace hF := q_letX hF ez_43
                    have iz_43 := q_addI (A := (4376 + (9 * f_11.toInt))) (B := 8) ez_43 iz_13 (by decide) (by omega) (by omega)
                    refine lv_aload_n hx hb dX12_readStep_199 rfl (lv_at hl 0 rfl) ?_
                    refine gs_X12_267_12 E hI ha dX12_readStep_200 ?_
                    refine lv_topi (fun f_44 ef_44 => ?_)
                    replace hF := q_letX hF ef_44
                    have if_44 : f_44.toInt = (σ_42.1 a 27).toInt := congrArg Int32.toInt ef_44
                    refine q_iastN E hI (q_tk (k' := 34) hI ha rfl (by decide)) ⟨by decide, rfl⟩ (by omega) (by rw [q_lnk (v := 4650) hI (q_tk (k' := 34) hI ha rfl (by decide)) rfl (by decide)]; omega) (show 1 < 2 by decide) (q_inU rfl) dX12_readStep_203 (fun H locs σ_45 hσ_45 hI => ?_)
                    replace hF := q_letX hF hσ_45
                    have fr_σ_45 := fr_σ_42.si hσ_45 (q_tk (k' := 34) hI ha rfl (by decide)) rfl
                    have mv9_σ_45 : (σ_45.1 a 9).toInt = (σ_42.1 a 9).toInt := congrArg Int32.toInt (q_rdn hσ_45 (Or.inl (m_ne ha (q_tk (k' := 34) hI ha rfl (by decide)) (by decide))))
                    have mv12_σ_45 : (σ_45.1 a 12).toInt = (σ_42.1 a 12).toInt := congrArg Int32.toInt (q_rdn hσ_45 (Or.inl (m_ne ha (q_tk (k' := 34) hI ha rfl (by decide)) (by decide))))
                    have mv14_σ_45 : (σ_45.1 a 14).toInt = (σ_42.1 a 14).toInt := congrArg Int32.toInt (q_rdn hσ_45 (Or.inl (m_ne ha (q_tk (k' := 34) hI ha rfl (by decide)) (by decide))))
                    have mv15_σ_45 : (σ_45.1 a 15).toInt = (σ_42.1 a 15).toInt := congrArg Int32.toInt (q_rdn hσ_45 (Or.inl (m_ne ha (q_tk (k' := 34) hI ha rfl (by decide)) (by decide))))
                    have mv16_σ_45 : (σ_45.1 a 16).toInt = (σ_42.1 a 16).toInt := congrArg Int32.toInt (q_rdn hσ_45 (Or.inl (m_ne ha (q_tk (k' := 34) hI ha rfl (by decide)) (by decide))))
                    have mv27_σ_45 : (σ_45.1 a 27).toInt = (σ_42.1 a 27).toInt := congrArg Int32.toInt (q_rdn hσ_45 (Or.inl (m_ne ha (q_tk (k' := 34) hI ha rfl (by decide)) (by decide))))
                    have mcσ_45 := m_wr (v := f_44) (A := ((4376 + (9 * f_11.toInt)) + 8)) hσ_45 iz_43 (by omega)
                    have klσ_45 : ∀ j, 0 ≤ j → j < 4376 + 9 * (σ.1 a 27).toInt → m_c X σ_45 a j = m_c X σ a j := fun j h0 h1 => by rw [mcσ_45 j h0, if_neg (by omega)]; exact klσ_42 j h0 h1
                    have smσ_45 : 0 ≤ (σ_45.1 a 15).toInt ∧ (σ_45.1 a 15).toInt ≤ (σ_45.1 a 16).toInt ∧ (σ_45.1 a 16).toInt ≤ (σ_45.1 a 9).toInt ∧ (σ_45.1 a 9).toInt ≤ 900 ∧ 0 ≤ (σ_45.1 a 14).toInt ∧ (σ_45.1 a 14).toInt ≤ 4 ∧ (σ_45.1 a 14).toInt ≤ 4 * ((σ_45.1 a 16).toInt - (σ_45.1 a 15).toInt) ∧ (σ_45.1 a 14).toInt ≤ 4 * ((σ_45.1 a 9).toInt - (σ_45.1 a 15).toInt) ∧ 0 ≤ (σ_45.1 a 12).toInt ∧ (σ_45.1 a 9).toInt = (σ.1 a 9).toInt ∧ (σ.1 a 15).toInt ≤ (σ_45.1 a 15).toInt ∧ (σ.1 a 12).toInt ≤ (σ_45.1 a 12).toInt := (by first | (rw [mv12_σ_45, mv14_σ_45, mv15_σ_45, mv16_σ_45, mv9_σ_45]; exact smσ_42) | omega)
                    have oxσ_45 : (σ.1 a 15).toInt + 1 ≤ (σ_45.1 a 15).toInt := (by omega)
                    have nrσ_45 : (σ.1 a 27).toInt + 1 ≤ (σ_45.1 a 27).toInt ∧ (σ_45.1 a 27).toInt ≤ 30 := (by omega)
                    have fiσ_45 : m_oz (σ_45.1 a 12).toInt (∀ t, (σ.1 a 27).toInt ≤ t → t < (σ_45.1 a 27).toInt → m_stp (m_c X σ_45 a) (4376 + 9 * t) t (σ_45.1 a 27).toInt) := (m_oz.mono lpσ_42 (by omega) (by omega) (fun h => by have en : (σ_45.1 a 27).toInt = (σ_42.1 a 27).toInt := (by omega); rw [en]; exact m_lp.done h (fun j hj => by rw [mcσ_45 j hj, iz_13]) (by omega) (by omega) (by omega)))
                    clear mv9_σ_45 mv12_σ_45 mv14_σ_45 mv15_σ_45 mv16_σ_45 mv27_σ_45 smσ_42 oxσ_42 nrσ_42
                    rewrite [hQQ]; exact q_retv E hr hlk hI ⟨klσ_45, (by first | exact smσ_45 | omega), (by first | exact smσ_45 | omega), (by first | exact smσ_45 | omega), fiσ_45, (hF.trans hout), fr_σ_45⟩ dX12_readStep_204
                · skip
                  replace hF := q_ifn hF c_29
                  refine lv_aload_n hx hb dX12_readStep_144 rfl (lv_at hl 0 rfl) ?_
                  refine gs_X12_187_12 E hI ha dX12_readStep_145 ?_
                  refine lv_topi (fun f_46 ef_46 => ?_)
                  replace hF := q_letX hF ef_46
                  have if_46 : f_46.toInt = (σ_27.1 a 12).toInt := congrArg Int32.toInt ef_46
                  refine q_if_ne (A := f_46.toInt) E rfl (tgt := 168) dX12_readStep_148 (by decide) (fun c_47 => ?_) (fun c_47 => ?_)
                  · skip
                    replace hF := q_ifn hF c_47
                    rewrite [eG_E168_7] at hF
                    refine lv_iload_n hx hb dX12_readStep_168 rfl (lv_at hl 3 rfl) ?_
                    refine q_if_eq (A := x_3.toInt) E rfl (tgt := 190) dX12_readStep_169 (by decide) (fun c_48 => ?_) (fun c_48 => ?_)
                    · skip
                      replace hF := q_ifp hF c_48
                      refine lv_aload_n hx hb dX12_readStep_190 rfl (lv_at hl 0 rfl) ?_
                      refine gs_X12_35_12 E hI ha dX12_readStep_191 ?_
                      refine lv_iload hx hb dX12_readStep_194 (lv_at hl 4 rfl) ?_
                      refine lv_bipush (v := 8) hx hb dX12_readStep_196 (by decide) ?_
                      refine lv_iadd hx hb dX12_readStep_198 ?_
                      refine lv_topi (fun z_49 ez_49 => ?_)
                      replace hF := q_letX hF ez_49
                      have iz_49 := q_addI (A := (4376 + (9 * f_11.toInt))) (B := 8) ez_49 iz_13 (by decide) (by omega) (by omega)
                      refine lv_aload_n hx hb dX12_readStep_199 rfl (lv_at hl 0 rfl) ?_
                      refine gs_X12_267_12 E hI ha dX12_readStep_200 ?_
                      refine lv_topi (fun f_50 ef_50 => ?_)
                      replace hF := q_letX hF ef_50
                      have if_50 : f_50.toInt = (σ_27.1 a 27).toInt := congrArg Int32.toInt ef_50
                      refine q_iastN E hI (q_tk (k' := 34) hI ha rfl (by decide)) ⟨by decide, rfl⟩ (by omega) (by rw [q_lnk (v := 4650) hI (q_tk (k' := 34) hI ha rfl (by decide)) rfl (by decide)]; omega) (show 1 < 2 by decide) (q_inU rfl) dX12_readStep_203 (fun H locs σ_51 hσ_51 hI => ?_)
                      replace hF := q_letX hF hσ_51
                      have fr_σ_51 := fr_σ_27.si hσ_51 (q_tk (k' := 34) hI ha rfl (by decide)) rfl
                      have mv9_σ_51 : (σ_51.1 a 9).toInt = (σ_27.1 a 9).toInt := congrArg Int32.toInt (q_rdn hσ_51 (Or.inl (m_ne ha (q_tk (k' := 34) hI ha rfl (by decide)) (by decide))))
                      have mv12_σ_51 : (σ_51.1 a 12).toInt = (σ_27.1 a 12).toInt := congrArg Int32.toInt (q_rdn hσ_51 (Or.inl (m_ne ha (q_tk (k' := 34) hI ha rfl (by decide)) (by decide))))
                      have mv14_σ_51 : (σ_51.1 a 14).toInt = (σ_27.1 a 14).toInt := congrArg Int32.toInt (q_rdn hσ_51 (Or.inl (m_ne ha (q_tk (k' := 34) hI ha rfl (by decide)) (by decide))))
                      have mv15_σ_51 : (σ_51.1 a 15).toInt = (σ_27.1 a 15).toInt := congrArg Int32.toInt (q_rdn hσ_51 (Or.inl (m_ne ha (q_tk (k' := 34) hI ha rfl (by decide)) (by decide))))
                      have mv16_σ_51 : (σ_51.1 a 16).toInt = (σ_27.1 a 16).toInt := congrArg Int32.toInt (q_rdn hσ_51 (Or.inl (m_ne ha (q_tk (k' := 34) hI ha rfl (by decide)) (by decide))))
                      have mv27_σ_51 : (σ_51.1 a 27).toInt = (σ_27.1 a 27).toInt := congrArg Int32.toInt (q_rdn hσ_51 (Or.inl (m_ne ha (q_tk (k' := 34) hI ha rfl (by decide)) (by decide))))
                      have mcσ_51 := m_wr (v := f_50) (A := ((4376 + (9 * f_11.toInt)) + 8)) hσ_51 iz_49 (by omega)
                      have klσ_51 : ∀ j, 0 ≤ j → j < 4376 + 9 * (σ.1 a 27).toInt → m_c X σ_51 a j = m_c X σ a j := fun j h0 h1 => by rw [mcσ_51 j h0, if_neg (by omega)]; exact klσ_27 j h0 h1
                      have smσ_51 : 0 ≤ (σ_51.1 a 15).toInt ∧ (σ_51.1 a 15).toInt ≤ (σ_51.1 a 16).toInt ∧ (σ_51.1 a 16).toInt ≤ (σ_51.1 a 9).toInt ∧ (σ_51.1 a 9).toInt ≤ 900 ∧ 0 ≤ (σ_51.1 a 14).toInt ∧ (σ_51.1 a 14).toInt ≤ 4 ∧ (σ_51.1 a 14).toInt ≤ 4 * ((σ_51.1 a 16).toInt - (σ_51.1 a 15).toInt) ∧ (σ_51.1 a 14).toInt ≤ 4 * ((σ_51.1 a 9).toInt - (σ_51.1 a 15).toInt) ∧ 0 ≤ (σ_51.1 a 12).toInt ∧ (σ_51.1 a 9).toInt = (σ.1 a 9).toInt ∧ (σ.1 a 15).toInt ≤ (σ_51.1 a 15).toInt ∧ (σ.1 a 12).toInt ≤ (σ_51.1 a 12).toInt := (by first | (rw [mv12_σ_51, mv14_σ_51, mv15_σ_51, mv16_σ_51, mv9_σ_51]; exact smσ_27) | omega)
                      have oxσ_51 : (σ.1 a 15).toInt + 1 ≤ (σ_51.1 a 15).toInt := (by omega)
                      have nrσ_51 : (σ.1 a 27).toInt + 1 ≤ (σ_51.1 a 27).toInt ∧ (σ_51.1 a 27).toInt ≤ 30 := (by omega)
                      have fiσ_51 : m_oz (σ_51.1 a 12).toInt (∀ t, (σ.1 a 27).toInt ≤ t → t < (σ_51.1 a 27).toInt → m_stp (m_c X σ_51 a) (4376 + 9 * t) t (σ_51.1 a 27).toInt) := (m_oz.mono lpσ_27 (by omega) (by omega) (fun h => by have en : (σ_51.1 a 27).toInt = (σ_27.1 a 27).toInt := (by omega); rw [en]; exact m_lp.done h (fun j hj => by rw [mcσ_51 j hj, iz_13]) (by omega) (by omega) (by omega)))
                      clear mv9_σ_51 mv12_σ_51 mv14_σ_51 mv15_σ_51 mv16_σ_51 mv27_σ_51 smσ_27 oxσ_27 nrσ_27
                      rewrite [hQQ]; exact q_retv E hr hlk hI ⟨klσ_51, (by first | exact smσ_51 | omega), (by first | exact smσ_51 | omega), (by first | exact smσ_51 | omega), fiσ_51, (hF.trans hout), fr_σ_51⟩ dX12_readStep_204
                    · skip
                      replace hF := q_ifn hF c_48
                      refine lv_aload_n hx hb dX12_readStep_172 rfl (lv_at hl 0 rfl) ?_
                      refine lv_aload_n hx hb dX12_readStep_173 rfl (lv_at hl 0 rfl) ?_
                      refine q_ci (q_runV (As := []) (rest := [.ref a]) E (hml.trans hl.1.symm) hI (c_X12_isEnd l X σ_27 a ha) kv_X12_181 ha ⟨rfl, by decide⟩ (show vwCl[11]? = some (RX12, TX12, 46) from rfl) rfl ⟨rm_f hrf (Nat.le_of_ble_eq_true rfl), rm_w hrw (Nat.le_of_ble_eq_true rfl)⟩ ⟨Nat.le_refl _, Nat.le_refl _⟩ rfl (Nat.le_of_ble_eq_true rfl) dX12_readStep_174) hI (by decide) (fun r_52 σ_53 H locs hpσ_53 hkσ_53 hI => ?_)
                      obtain ⟨ahpσ_53, bhpσ_53, chpσ_53⟩ := hpσ_53
                      rw [ahpσ_53] at hI
                      replace hF := q_letX hF chpσ_53
                      refine q_cv (q_runV (As := [.int r_52]) (rest := []) E (hml.trans hl.1.symm) hI (c_X12_must l X σ_27 a r_52 ha (by first | exact sm_9 smσ_27 | exact hs | omega) (by omega)) kv_X12_216 ha ⟨rfl, by decide⟩ (show vwCl[11]? = some (RX12, TX12, 46) from rfl) rfl ⟨rm_f hrf (Nat.le_of_ble_eq_true rfl), rm_w hrw (Nat.le_of_ble_eq_true rfl)⟩ ⟨Nat.le_refl _, Nat.le_refl _⟩ rfl (Nat.le_of_ble_eq_true rfl) dX12_readStep_177) hI (by decide) (fun σ_55 H locs hpσ_55 hkσ_55 hI => ?_)
                      obtain ⟨ahpσ_55, bhpσ_55, chpσ_55, dhpσ_55, ehpσ_55⟩ := hpσ_55
                      have fr_σ_55 := fr_σ_27.call ehpσ_55 rfl rfl
                      replace hF := q_letX hF dhpσ_55
                      have mv27_σ_55 : (σ_55.1 a 27).toInt = (σ_27.1 a 27).toInt := congrArg Int32.toInt (ahpσ_55 a 27 (q_cl9 _ _) (fun h => absurd h.2.2 (by decide)))
                      have mcσ_55 := m_cK hkσ_55 hI.1 ha (by decide)
                      have klσ_55 : ∀ j, 0 ≤ j → j < 4376 + 9 * (σ.1 a 27).toInt → m_c X σ_55 a j = m_c X σ a j := fun j h0 h1 => (mcσ_55 j).trans (klσ_27 j h0 h1)
                      have smσ_55 : 0 ≤ (σ_55.1 a 15).toInt ∧ (σ_55.1 a 15).toInt ≤ (σ_55.1 a 16).toInt ∧ (σ_55.1 a 16).toInt ≤ (σ_55.1 a 9).toInt ∧ (σ_55.1 a 9).toInt ≤ 900 ∧ 0 ≤ (σ_55.1 a 14).toInt ∧ (σ_55.1 a 14).toInt ≤ 4 ∧ (σ_55.1 a 14).toInt ≤ 4 * ((σ_55.1 a 16).toInt - (σ_55.1 a 15).toInt) ∧ (σ_55.1 a 14).toInt ≤ 4 * ((σ_55.1 a 9).toInt - (σ_55.1 a 15).toInt) ∧ 0 ≤ (σ_55.1 a 12).toInt ∧ (σ_55.1 a 9).toInt = (σ.1 a 9).toInt ∧ (σ.1 a 15).toInt ≤ (σ_55.1 a 15).toInt ∧ (σ.1 a 12).toInt ≤ (σ_55.1 a 12).toInt := (by first | exact sm_tr smσ_27 bhpσ_55 | exact sm_tr smσ_27 chpσ_55 | omega)
                      have oxσ_55 : (σ.1 a 15).toInt + 1 ≤ (σ_55.1 a 15).toInt := (by omega)
                      have nrσ_55 : (σ.1 a 27).toInt + 1 ≤ (σ_55.1 a 27).toInt ∧ (σ_55.1 a 27).toInt ≤ 30 := (by omega)
                      have lpσ_55 : m_oz (σ_55.1 a 12).toInt (m_lp (m_c X σ_55 a) z_13.toInt (σ.1 a 27).toInt (σ_55.1 a 27).toInt) := (m_oz.mono lpσ_27 (by omega) (by omega) (fun h => m_lp.ext h (fun j => mcσ_55 j) (by omega)))
                      clear mv27_σ_55 smσ_27 oxσ_27 nrσ_27 bhpσ_55
                      refine lv_aload_n hx hb dX12_readStep_180 rfl (lv_at hl 0 rfl) ?_
                      refine lv_aload_n hx hb dX12_readStep_181 rfl (lv_at hl 0 rfl) ?_
                      refine lv_bipush (v := 59) hx hb dX12_readStep_182 (by decide) ?_
                      have kc_56 : (59 : Int32).toInt = 59 := rfl
                      refine q_ci (q_runV (As := [.int 59]) (rest := [.ref a]) E (hml.trans hl.1.symm) hI (c_X12_isSign l X σ_55 a (59 : Int32) ha) kv_X12_243 ha ⟨rfl, by decide⟩ (show vwCl[11]? = some (RX12, TX12, 46) from rfl) rfl ⟨rm_f hrf (Nat.le_of_ble_eq_true rfl), rm_w hrw (Nat.le_of_ble_eq_true rfl)⟩ ⟨Nat.le_refl _, Nat.le_refl _⟩ rfl (Nat.le_of_ble_eq_true rfl) dX12_readStep_184) hI (by decide) (fun r_57 σ_58 H locs hpσ_58 hkσ_58 hI => ?_)
                      obtain ⟨ahpσ_58, bhpσ_58, chpσ_58⟩ := hpσ_58
                      rw [ahpσ_58] at hI
                      replace hF := q_letX hF chpσ_58
                      refine q_cv (q_runV (As := [.int r_57]) (rest := []) E (hml.trans hl.1.symm) hI (c_X12_must l X σ_55 a r_57 ha (by first | exact sm_9 smσ_55 | exact hs | omega) (by omega)) kv_X12_216 ha ⟨rfl, by decide⟩ (show vwCl[11]? = some (RX12, TX12, 46) from rfl) rfl ⟨rm_f hrf (Nat.le_of_ble_eq_true rfl), rm_w hrw (Nat.le_of_ble_eq_true rfl)⟩ ⟨Nat.le_refl _, Nat.le_refl _⟩ rfl (Nat.le_of_ble_eq_true rfl) dX12_readStep_187) hI (by decide) (fun σ_60 H locs hpσ_60 hkσ_60 hI => ?_)
                      obtain ⟨ahpσ_60, bhpσ_60, chpσ_60, dhpσ_60, ehpσ_60⟩ := hpσ_60
                      have fr_σ_60 := fr_σ_55.call ehpσ_60 rfl rfl
                      replace hF := q_letX hF dhpσ_60
                      have mv27_σ_60 : (σ_60.1 a 27).toInt = (σ_55.1 a 27).toInt := congrArg Int32.toInt (ahpσ_60 a 27 (q_cl9 _ _) (fun h => absurd h.2.2 (by decide)))
                      have mcσ_60 := m_cK hkσ_60 hI.1 ha (by decide)
                      have klσ_60 : ∀ j, 0 ≤ j → j < 4376 + 9 * (σ.1 a 27).toInt → m_c X σ_60 a j = m_c X σ a j := fun j h0 h1 => (mcσ_60 j).trans (klσ_55 j h0 h1)
                      have smσ_60 : 0 ≤ (σ_60.1 a 15).toInt ∧ (σ_60.1 a 15).toInt ≤ (σ_60.1 a 16).toInt ∧ (σ_60.1 a 16).toInt ≤ (σ_60.1 a 9).toInt ∧ (σ_60.1 a 9).toInt ≤ 900 ∧ 0 ≤ (σ_60.1 a 14).toInt ∧ (σ_60.1 a 14).toInt ≤ 4 ∧ (σ_60.1 a 14).toInt ≤ 4 * ((σ_60.1 a 16).toInt - (σ_60.1 a 15).toInt) ∧ (σ_60.1 a 14).toInt ≤ 4 * ((σ_60.1 a 9).toInt - (σ_60.1 a 15).toInt) ∧ 0 ≤ (σ_60.1 a 12).toInt ∧ (σ_60.1 a 9).toInt = (σ.1 a 9).toInt ∧ (σ.1 a 15).toInt ≤ (σ_60.1 a 15).toInt ∧ (σ.1 a 12).toInt ≤ (σ_60.1 a 12).toInt := (by first | exact sm_tr smσ_55 bhpσ_60 | exact sm_tr smσ_55 chpσ_60 | omega)
                      have oxσ_60 : (σ.1 a 15).toInt + 1 ≤ (σ_60.1 a 15).toInt := (by omega)
                      have nrσ_60 : (σ.1 a 27).toInt + 1 ≤ (σ_60.1 a 27).toInt ∧ (σ_60.1 a 27).toInt ≤ 30 := (by omega)
                      have lpσ_60 : m_oz (σ_60.1 a 12).toInt (m_lp (m_c X σ_60 a) z_13.toInt (σ.1 a 27).toInt (σ_60.1 a 27).toInt) := (m_oz.mono lpσ_55 (by omega) (by omega) (fun h => m_lp.ext h (fun j => mcσ_60 j) (by omega)))
                      clear mv27_σ_60 smσ_55 oxσ_55 nrσ_55 bhpσ_60
                      refine lv_aload_n hx hb dX12_readStep_190 rfl (lv_at hl 0 rfl) ?_
                      refine gs_X12_35_12 E hI ha dX12_readStep_191 ?_
                      refine lv_iload hx hb dX12_readStep_194 (lv_at hl 4 rfl) ?_
                      refine lv_bipush (v := 8) hx hb dX12_readStep_196 (by decide) ?_
                      refine lv_iadd hx hb dX12_readStep_198 ?_
                      refine lv_topi (fun z_61 ez_61 => ?_)
                      replace hF := q_letX hF ez_61
                      have iz_61 := q_addI (A := (4376 + (9 * f_11.toInt))) (B := 8) ez_61 iz_13 (by decide) (by omega) (by omega)
                      refine lv_aload_n hx hb dX12_readStep_199 rfl (lv_at hl 0 rfl) ?_
                      refine gs_X12_267_12 E hI ha dX12_readStep_200 ?_
                      refine lv_topi (fun f_62 ef_62 => ?_)
                      replace hF := q_letX hF ef_62
                      have if_62 : f_62.toInt = (σ_60.1 a 27).toInt := congrArg Int32.toInt ef_62
                      refine q_iastN E hI (q_tk (k' := 34) hI ha rfl (by decide)) ⟨by decide, rfl⟩ (by omega) (by rw [q_lnk (v := 4650) hI (q_tk (k' := 34) hI ha rfl (by decide)) rfl (by decide)]; omega) (show 1 < 2 by decide) (q_inU rfl) dX12_readStep_203 (fun H locs σ_63 hσ_63 hI => ?_)
                      replace hF := q_letX hF hσ_63
                      have fr_σ_63 := fr_σ_60.si hσ_63 (q_tk (k' := 34) hI ha rfl (by decide)) rfl
                      have mv9_σ_63 : (σ_63.1 a 9).toInt = (σ_60.1 a 9).toInt := congrArg Int32.toInt (q_rdn hσ_63 (Or.inl (m_ne ha (q_tk (k' := 34) hI ha rfl (by decide)) (by decide))))
                      have mv12_σ_63 : (σ_63.1 a 12).toInt = (σ_60.1 a 12).toInt := congrArg Int32.toInt (q_rdn hσ_63 (Or.inl (m_ne ha (q_tk (k' := 34) hI ha rfl (by decide)) (by decide))))
                      have mv14_σ_63 : (σ_63.1 a 14).toInt = (σ_60.1 a 14).toInt := congrArg Int32.toInt (q_rdn hσ_63 (Or.inl (m_ne ha (q_tk (k' := 34) hI ha rfl (by decide)) (by decide))))
                      have mv15_σ_63 : (σ_63.1 a 15).toInt = (σ_60.1 a 15).toInt := congrArg Int32.toInt (q_rdn hσ_63 (Or.inl (m_ne ha (q_tk (k' := 34) hI ha rfl (by decide)) (by decide))))
                      have mv16_σ_63 : (σ_63.1 a 16).toInt = (σ_60.1 a 16).toInt := congrArg Int32.toInt (q_rdn hσ_63 (Or.inl (m_ne ha (q_tk (k' := 34) hI ha rfl (by decide)) (by decide))))
                      have mv27_σ_63 : (σ_63.1 a 27).toInt = (σ_60.1 a 27).toInt := congrArg Int32.toInt (q_rdn hσ_63 (Or.inl (m_ne ha (q_tk (k' := 34) hI ha rfl (by decide)) (by decide))))
                      have mcσ_63 := m_wr (v := f_62) (A := ((4376 + (9 * f_11.toInt)) + 8)) hσ_63 iz_61 (by omega)
                      have klσ_63 : ∀ j, 0 ≤ j → j < 4376 + 9 * (σ.1 a 27).toInt → m_c X σ_63 a j = m_c X σ a j := fun j h0 h1 => by rw [mcσ_63 j h0, if_neg (by omega)]; exact klσ_60 j h0 h1
                      have smσ_63 : 0 ≤ (σ_63.1 a 15).toInt ∧ (σ_63.1 a 15).toInt ≤ (σ_63.1 a 16).toInt ∧ (σ_63.1 a 16).toInt ≤ (σ_63.1 a 9).toInt ∧ (σ_63.1 a 9).toInt ≤ 900 ∧ 0 ≤ (σ_63.1 a 14).toInt ∧ (σ_63.1 a 14).toInt ≤ 4 ∧ (σ_63.1 a 14).toInt ≤ 4 * ((σ_63.1 a 16).toInt - (σ_63.1 a 15).toInt) ∧ (σ_63.1 a 14).toInt ≤ 4 * ((σ_63.1 a 9).toInt - (σ_63.1 a 15).toInt) ∧ 0 ≤ (σ_63.1 a 12).toInt ∧ (σ_63.1 a 9).toInt = (σ.1 a 9).toInt ∧ (σ.1 a 15).toInt ≤ (σ_63.1 a 15).toInt ∧ (σ.1 a 12).toInt ≤ (σ_63.1 a 12).toInt := (by first | (rw [mv12_σ_63, mv14_σ_63, mv15_σ_63, mv16_σ_63, mv9_σ_63]; exact smσ_60) | omega)
                      have oxσ_63 : (σ.1 a 15).toInt + 1 ≤ (σ_63.1 a 15).toInt := (by omega)
                      have nrσ_63 : (σ.1 a 27).toInt + 1 ≤ (σ_63.1 a 27).toInt ∧ (σ_63.1 a 27).toInt ≤ 30 := (by omega)
                      have fiσ_63 : m_oz (σ_63.1 a 12).toInt (∀ t, (σ.1 a 27).toInt ≤ t → t < (σ_63.1 a 27).toInt → m_stp (m_c X σ_63 a) (4376 + 9 * t) t (σ_63.1 a 27).toInt) := (m_oz.mono lpσ_60 (by omega) (by omega) (fun h => by have en : (σ_63.1 a 27).toInt = (σ_60.1 a 27).toInt := (by omega); rw [en]; exact m_lp.done h (fun j hj => by rw [mcσ_63 j hj, iz_13]) (by omega) (by omega) (by omega)))
                      clear mv9_σ_63 mv12_σ_63 mv14_σ_63 mv15_σ_63 mv16_σ_63 mv27_σ_63 smσ_60 oxσ_60 nrσ_60
                      rewrite [hQQ]; exact q_retv E hr hlk hI ⟨klσ_63, (by first | exact smσ_63 | omega), (by first | exact smσ_63 | omega), (by first | exact smσ_63 | omega), fiσ_63, (hF.trans hout), fr_σ_63⟩ dX12_readStep_204
                  · skip
                    replace hF := q_ifp hF c_47
                    refine lv_aload_n hx hb dX12_readStep_151 rfl (lv_at hl 0 rfl) ?_
                    refine q_ci (q_runV (As := []) (rest := []) E (hml.trans hl.1.symm) hI (c_X12_isEnd l X σ_27 a ha) kv_X12_181 ha ⟨rfl, by decide⟩ (show vwCl[11]? = some (RX12, TX12, 46) from rfl) rfl ⟨rm_f hrf (Nat.le_of_ble_eq_true rfl), rm_w hrw (Nat.le_of_ble_eq_true rfl)⟩ ⟨Nat.le_refl _, Nat.le_refl _⟩ rfl (Nat.le_of_ble_eq_true rfl) dX12_readStep_152) hI (by decide) (fun r_64 σ_65 H locs hpσ_65 hkσ_65 hI => ?_)
                    obtain ⟨ahpσ_65, bhpσ_65, chpσ_65⟩ := hpσ_65
                    rw [ahpσ_65] at hI
                    replace hF := q_letX hF chpσ_65
                    refine q_if_ne (A := r_64.toInt) E rfl (tgt := 168) dX12_readStep_155 (by decide) (fun c_66 => ?_) (fun c_66 => ?_)
                    · skip
                      replace hF := q_ifn hF c_66
                      rewrite [eG_E168_8] at hF
                      refine lv_iload_n hx hb dX12_readStep_168 rfl (lv_at hl 3 rfl) ?_
                      refine q_if_eq (A := x_3.toInt) E rfl (tgt := 190) dX12_readStep_169 (by decide) (fun c_67 => ?_) (fun c_67 => ?_)
                      · skip
                        replace hF := q_ifp hF c_67
                        refine lv_aload_n hx hb dX12_readStep_190 rfl (lv_at hl 0 rfl) ?_
                        refine gs_X12_35_12 E hI ha dX12_readStep_191 ?_
                        refine lv_iload hx hb dX12_readStep_194 (lv_at hl 4 rfl) ?_
                        refine lv_bipush (v := 8) hx hb dX12_readStep_196 (by decide) ?_
                        refine lv_iadd hx hb dX12_readStep_198 ?_
                        refine lv_topi (fun z_68 ez_68 => ?_)
                        replace hF := q_letX hF ez_68
                        have iz_68 := q_addI (A := (4376 + (9 * f_11.toInt))) (B := 8) ez_68 iz_13 (by decide) (by omega) (by omega)
                        refine lv_aload_n hx hb dX12_readStep_199 rfl (lv_at hl 0 rfl) ?_
                        refine gs_X12_267_12 E hI ha dX12_readStep_200 ?_
                        refine lv_topi (fun f_69 ef_69 => ?_)
                        replace hF := q_letX hF ef_69
                        have if_69 : f_69.toInt = (σ_27.1 a 27).toInt := congrArg Int32.toInt ef_69
                        refine q_iastN E hI (q_tk (k' := 34) hI ha rfl (by decide)) ⟨by decide, rfl⟩ (by omega) (by rw [q_lnk (v := 4650) hI (q_tk (k' := 34) hI ha rfl (by decide)) rfl (by decide)]; omega) (show 1 < 2 by decide) (q_inU rfl) dX12_readStep_203 (fun H locs σ_70 hσ_70 hI => ?_)
                        replace hF := q_letX hF hσ_70
                        have fr_σ_70 := fr_σ_27.si hσ_70 (q_tk (k' := 34) hI ha rfl (by decide)) rfl
                        have mv9_σ_70 : (σ_70.1 a 9).toInt = (σ_27.1 a 9).toInt := congrArg Int32.toInt (q_rdn hσ_70 (Or.inl (m_ne ha (q_tk (k' := 34) hI ha rfl (by decide)) (by decide))))
                        have mv12_σ_70 : (σ_70.1 a 12).toInt = (σ_27.1 a 12).toInt := congrArg Int32.toInt (q_rdn hσ_70 (Or.inl (m_ne ha (q_tk (k' := 34) hI ha rfl (by decide)) (by decide))))
                        have mv14_σ_70 : (σ_70.1 a 14).toInt = (σ_27.1 a 14).toInt := congrArg Int32.toInt (q_rdn hσ_70 (Or.inl (m_ne ha (q_tk (k' := 34) hI ha rfl (by decide)) (by decide))))
                        have mv15_σ_70 : (σ_70.1 a 15).toInt = (σ_27.1 a 15).toInt := congrArg Int32.toInt (q_rdn hσ_70 (Or.inl (m_ne ha (q_tk (k' := 34) hI ha rfl (by decide)) (by decide))))
                        have mv16_σ_70 : (σ_70.1 a 16).toInt = (σ_27.1 a 16).toInt := congrArg Int32.toInt (q_rdn hσ_70 (Or.inl (m_ne ha (q_tk (k' := 34) hI ha rfl (by decide)) (by decide))))
                        have mv27_σ_70 : (σ_70.1 a 27).toInt = (σ_27.1 a 27).toInt := congrArg Int32.toInt (q_rdn hσ_70 (Or.inl (m_ne ha (q_tk (k' := 34) hI ha rfl (by decide)) (by decide))))
                        have mcσ_70 := m_wr (v := f_69) (A := ((4376 + (9 * f_11.toInt)) + 8)) hσ_70 iz_68 (by omega)
                        have klσ_70 : ∀ j, 0 ≤ j → j < 4376 + 9 * (σ.1 a 27).toInt → m_c X σ_70 a j = m_c X σ a j := fun j h0 h1 => by rw [mcσ_70 j h0, if_neg (by omega)]; exact klσ_27 j h0 h1
                        have smσ_70 : 0 ≤ (σ_70.1 a 15).toInt ∧ (σ_70.1 a 15).toInt ≤ (σ_70.1 a 16).toInt ∧ (σ_70.1 a 16).toInt ≤ (σ_70.1 a 9).toInt ∧ (σ_70.1 a 9).toInt ≤ 900 ∧ 0 ≤ (σ_70.1 a 14).toInt ∧ (σ_70.1 a 14).toInt ≤ 4 ∧ (σ_70.1 a 14).toInt ≤ 4 * ((σ_70.1 a 16).toInt - (σ_70.1 a 15).toInt) ∧ (σ_70.1 a 14).toInt ≤ 4 * ((σ_70.1 a 9).toInt - (σ_70.1 a 15).toInt) ∧ 0 ≤ (σ_70.1 a 12).toInt ∧ (σ_70.1 a 9).toInt = (σ.1 a 9).toInt ∧ (σ.1 a 15).toInt ≤ (σ_70.1 a 15).toInt ∧ (σ.1 a 12).toInt ≤ (σ_70.1 a 12).toInt := (by first | (rw [mv12_σ_70, mv14_σ_70, mv15_σ_70, mv16_σ_70, mv9_σ_70]; exact smσ_27) | omega)
                        have oxσ_70 : (σ.1 a 15).toInt + 1 ≤ (σ_70.1 a 15).toInt := (by omega)
                        have nrσ_70 : (σ.1 a 27).toInt + 1 ≤ (σ_70.1 a 27).toInt ∧ (σ_70.1 a 27).toInt ≤ 30 := (by omega)
                        have fiσ_70 : m_oz (σ_70.1 a 12).toInt (∀ t, (σ.1 a 27).toInt ≤ t → t < (σ_70.1 a 27).toInt → m_stp (m_c X σ_70 a) (4376 + 9 * t) t (σ_70.1 a 27).toInt) := (m_oz.mono lpσ_27 (by omega) (by omega) (fun h => by have en : (σ_70.1 a 27).toInt = (σ_27.1 a 27).toInt := (by omega); rw [en]; exact m_lp.done h (fun j hj => by rw [mcσ_70 j hj, iz_13]) (by omega) (by omega) (by omega)))
                        clear mv9_σ_70 mv12_σ_70 mv14_σ_70 mv15_σ_70 mv16_σ_70 mv27_σ_70 smσ_27 oxσ_27 nrσ_27
                        rewrite [hQQ]; exact q_retv E hr hlk hI ⟨klσ_70, (by first | exact smσ_70 | omega), (by first | exact smσ_70 | omega), (by first | exact smσ_70 | omega), fiσ_70, (hF.trans hout), fr_σ_70⟩ dX12_readStep_204
                      · skip
                        replace hF := q_ifn hF c_67
                        refine lv_aload_n hx hb dX12_readStep_172 rfl (lv_at hl 0 rfl) ?_
                        refine lv_aload_n hx hb dX12_readStep_173 rfl (lv_at hl 0 rfl) ?_
                        refine q_ci (q_runV (As := []) (rest := [.ref a]) E (hml.trans hl.1.symm) hI (c_X12_isEnd l X σ_27 a ha) kv_X12_181 ha ⟨rfl, by decide⟩ (show vwCl[11]? = some (RX12, TX12, 46) from rfl) rfl ⟨rm_f hrf (Nat.le_of_ble_eq_true rfl), rm_w hrw (Nat.le_of_ble_eq_true rfl)⟩ ⟨Nat.le_refl _, Nat.le_refl _⟩ rfl (Nat.le_of_ble_eq_true rfl) dX12_readStep_174) hI (by decide) (fun r_71 σ_72 H locs hpσ_72 hkσ_72 hI => ?_)
                        obtain ⟨ahpσ_72, bhpσ_72, chpσ_72⟩ := hpσ_72
                        rw [ahpσ_72] at hI
                        replace hF := q_letX hF chpσ_72
                        refine q_cv (q_runV (As := [.int r_71]) (rest := []) E (hml.trans hl.1.symm) hI (c_X12_must l X σ_27 a r_71 ha (by first | exact sm_9 smσ_27 | exact hs | omega) (by omega)) kv_X12_216 ha ⟨rfl, by decide⟩ (show vwCl[11]? = some (RX12, TX12, 46) from rfl) rfl ⟨rm_f hrf (Nat.le_of_ble_eq_true rfl), rm_w hrw (Nat.le_of_ble_eq_true rfl)⟩ ⟨Nat.le_refl _, Nat.le_refl _⟩ rfl (Nat.le_of_ble_eq_true rfl) dX12_readStep_177) hI (by decide) (fun σ_74 H locs hpσ_74 hkσ_74 hI => ?_)
                        obtain ⟨ahpσ_74, bhpσ_74, chpσ_74, dhpσ_74, ehpσ_74⟩ := hpσ_74
                        have fr_σ_74 := fr_σ_27.call ehpσ_74 rfl rfl
                        replace hF := q_letX hF dhpσ_74
                        have mv27_σ_74 : (σ_74.1 a 27).toInt = (σ_27.1 a 27).toInt := congrArg Int32.toInt (ahpσ_74 a 27 (q_cl9 _ _) (fun h => absurd h.2.2 (by decide)))
                        have mcσ_74 := m_cK hkσ_74 hI.1 ha (by decide)
                        have klσ_74 : ∀ j, 0 ≤ j → j < 4376 + 9 * (σ.1 a 27).toInt → m_c X σ_74 a j = m_c X σ a j := fun j h0 h1 => (mcσ_74 j).trans (klσ_27 j h0 h1)
                        have smσ_74 : 0 ≤ (σ_74.1 a 15).toInt ∧ (σ_74.1 a 15).toInt ≤ (σ_74.1 a 16).toInt ∧ (σ_74.1 a 16).toInt ≤ (σ_74.1 a 9).toInt ∧ (σ_74.1 a 9).toInt ≤ 900 ∧ 0 ≤ (σ_74.1 a 14).toInt ∧ (σ_74.1 a 14).toInt ≤ 4 ∧ (σ_74.1 a 14).toInt ≤ 4 * ((σ_74.1 a 16).toInt - (σ_74.1 a 15).toInt) ∧ (σ_74.1 a 14).toInt ≤ 4 * ((σ_74.1 a 9).toInt - (σ_74.1 a 15).toInt) ∧ 0 ≤ (σ_74.1 a 12).toInt ∧ (σ_74.1 a 9).toInt = (σ.1 a 9).toInt ∧ (σ.1 a 15).toInt ≤ (σ_74.1 a 15).toInt ∧ (σ.1 a 12).toInt ≤ (σ_74.1 a 12).toInt := (by first | exact sm_tr smσ_27 bhpσ_74 | exact sm_tr smσ_27 chpσ_74 | omega)
                        have oxσ_74 : (σ.1 a 15).toInt + 1 ≤ (σ_74.1 a 15).toInt := (by omega)
                        have nrσ_74 : (σ.1 a 27).toInt + 1 ≤ (σ_74.1 a 27).toInt ∧ (σ_74.1 a 27).toInt ≤ 30 := (by omega)
                        have lpσ_74 : m_oz (σ_74.1 a 12).toInt (m_lp (m_c X σ_74 a) z_13.toInt (σ.1 a 27).toInt (σ_74.1 a 27).toInt) := (m_oz.mono lpσ_27 (by omega) (by omega) (fun h => m_lp.ext h (fun j => mcσ_74 j) (by omega)))
                        clear mv27_σ_74 smσ_27 oxσ_27 nrσ_27 bhpσ_74
                        refine lv_aload_n hx hb dX12_readStep_180 rfl (lv_at hl 0 rfl) ?_
                        refine lv_aload_n hx hb dX12_readStep_181 rfl (lv_at hl 0 rfl) ?_
                        refine lv_bipush (v := 59) hx hb dX12_readStep_182 (by decide) ?_
                        have kc_75 : (59 : Int32).toInt = 59 := rfl
                        refine q_ci (q_runV (As := [.int 59]) (rest := [.ref a]) E (hml.trans hl.1.symm) hI (c_X12_isSign l X σ_74 a (59 : Int32) ha) kv_X12_243 ha ⟨rfl, by decide⟩ (show vwCl[11]? = some (RX12, TX12, 46) from rfl) rfl ⟨rm_f hrf (Nat.le_of_ble_eq_true rfl), rm_w hrw (Nat.le_of_ble_eq_true rfl)⟩ ⟨Nat.le_refl _, Nat.le_refl _⟩ rfl (Nat.le_of_ble_eq_true rfl) dX12_readStep_184) hI (by decide) (fun r_76 σ_77 H locs hpσ_77 hkσ_77 hI => ?_)
                        obtain ⟨ahpσ_77, bhpσ_77, chpσ_77⟩ := hpσ_77
                        rw [ahpσ_77] at hI
                        replace hF := q_letX hF chpσ_77
                        refine q_cv (q_runV (As := [.int r_76]) (rest := []) E (hml.trans hl.1.symm) hI (c_X12_must l X σ_74 a r_76 ha (by first | exact sm_9 smσ_74 | exact hs | omega) (by omega)) kv_X12_216 ha ⟨rfl, by decide⟩ (show vwCl[11]? = some (RX12, TX12, 46) from rfl) rfl ⟨rm_f hrf (Nat.le_of_ble_eq_true rfl), rm_w hrw (Nat.le_of_ble_eq_true rfl)⟩ ⟨Nat.le_refl _, Nat.le_refl _⟩ rfl (Nat.le_of_ble_eq_true rfl) dX12_readStep_187) hI (by decide) (fun σ_79 H locs hpσ_79 hkσ_79 hI => ?_)
                        obtain ⟨ahpσ_79, bhpσ_79, chpσ_79, dhpσ_79, ehpσ_79⟩ := hpσ_79
                        have fr_σ_79 := fr_σ_74.call ehpσ_79 rfl rfl
                        replace hF := q_letX hF dhpσ_79
                        have mv27_σ_79 : (σ_79.1 a 27).toInt = (σ_74.1 a 27).toInt := congrArg Int32.toInt (ahpσ_79 a 27 (q_cl9 _ _) (fun h => absurd h.2.2 (by decide)))
                        have mcσ_79 := m_cK hkσ_79 hI.1 ha (by decide)
                        have klσ_79 : ∀ j, 0 ≤ j → j < 4376 + 9 * (σ.1 a 27).toInt → m_c X σ_79 a j = m_c X σ a j := fun j h0 h1 => (mcσ_79 j).trans (klσ_74 j h0 h1)
                        have smσ_79 : 0 ≤ (σ_79.1 a 15).toInt ∧ (σ_79.1 a 15).toInt ≤ (σ_79.1 a 16).toInt ∧ (σ_79.1 a 16).toInt ≤ (σ_79.1 a 9).toInt ∧ (σ_79.1 a 9).toInt ≤ 900 ∧ 0 ≤ (σ_79.1 a 14).toInt ∧ (σ_79.1 a 14).toInt ≤ 4 ∧ (σ_79.1 a 14).toInt ≤ 4 * ((σ_79.1 a 16).toInt - (σ_79.1 a 15).toInt) ∧ (σ_79.1 a 14).toInt ≤ 4 * ((σ_79.1 a 9).toInt - (σ_79.1 a 15).toInt) ∧ 0 ≤ (σ_79.1 a 12).toInt ∧ (σ_79.1 a 9).toInt = (σ.1 a 9).toInt ∧ (σ.1 a 15).toInt ≤ (σ_79.1 a 15).toInt ∧ (σ.1 a 12).toInt ≤ (σ_79.1 a 12).toInt := (by first | exact sm_tr smσ_74 bhpσ_79 | exact sm_tr smσ_74 chpσ_79 | omega)
                        have oxσ_79 : (σ.1 a 15).toInt + 1 ≤ (σ_79.1 a 15).toInt := (by omega)
                        have nrσ_79 : (σ.1 a 27).toInt + 1 ≤ (σ_79.1 a 27).toInt ∧ (σ_79.1 a 27).toInt ≤ 30 := (by omega)
                        have lpσ_79 : m_oz (σ_79.1 a 12).toInt (m_lp (m_c X σ_79 a) z_13.toInt (σ.1 a 27).toInt (σ_79.1 a 27).toInt) := (m_oz.mono lpσ_74 (by omega) (by omega) (fun h => m_lp.ext h (fun j => mcσ_79 j) (by omega)))
                        clear mv27_σ_79 smσ_74 oxσ_74 nrσ_74 bhpσ_79
                        refine lv_aload_n hx hb dX12_readStep_190 rfl (lv_at hl 0 rfl) ?_
                        refine gs_X12_35_12 E hI ha dX12_readStep_191 ?_
                        refine lv_iload hx hb dX12_readStep_194 (lv_at hl 4 rfl) ?_
                        refine lv_bipush (v := 8) hx hb dX12_readStep_196 (by decide) ?_
                        refine lv_iadd hx hb dX12_readStep_198 ?_
                        refine lv_topi (fun z_80 ez_80 => ?_)
                        replace hF := q_letX hF ez_80
                        have iz_80 := q_addI (A := (4376 + (9 * f_11.toInt))) (B := 8) ez_80 iz_13 (by decide) (by omega) (by omega)
                        refine lv_aload_n hx hb dX12_readStep_199 rfl (lv_at hl 0 rfl) ?_
                        refine gs_X12_267_12 E hI ha dX12_readStep_200 ?_
                        refine lv_topi (fun f_81 ef_81 => ?_)
                        replace hF := q_letX hF ef_81
                        have if_81 : f_81.toInt = (σ_79.1 a 27).toInt := congrArg Int32.toInt ef_81
                        refine q_iastN E hI (q_tk (k' := 34) hI ha rfl (by decide)) ⟨by decide, rfl⟩ (by omega) (by rw [q_lnk (v := 4650) hI (q_tk (k' := 34) hI ha rfl (by decide)) rfl (by decide)]; omega) (show 1 < 2 by decide) (q_inU rfl) dX12_readStep_203 (fun H locs σ_82 hσ_82 hI => ?_)
                        replace hF := q_letX hF hσ_82
                        have fr_σ_82 := fr_σ_79.si hσ_82 (q_tk (k' := 34) hI ha rfl (by decide)) rfl
                        have mv9_σ_82 : (σ_82.1 a 9).toInt = (σ_79.1 a 9).toInt := congrArg Int32.toInt (q_rdn hσ_82 (Or.inl (m_ne ha (q_tk (k' := 34) hI ha rfl (by decide)) (by decide))))
                        have mv12_σ_82 : (σ_82.1 a 12).toInt = (σ_79.1 a 12).toInt := congrArg Int32.toInt (q_rdn hσ_82 (Or.inl (m_ne ha (q_tk (k' := 34) hI ha rfl (by decide)) (by decide))))
                        have mv14_σ_82 : (σ_82.1 a 14).toInt = (σ_79.1 a 14).toInt := congrArg Int32.toInt (q_rdn hσ_82 (Or.inl (m_ne ha (q_tk (k' := 34) hI ha rfl (by decide)) (by decide))))
                        have mv15_σ_82 : (σ_82.1 a 15).toInt = (σ_79.1 a 15).toInt := congrArg Int32.toInt (q_rdn hσ_82 (Or.inl (m_ne ha (q_tk (k' := 34) hI ha rfl (by decide)) (by decide))))
                        have mv16_σ_82 : (σ_82.1 a 16).toInt = (σ_79.1 a 16).toInt := congrArg Int32.toInt (q_rdn hσ_82 (Or.inl (m_ne ha (q_tk (k' := 34) hI ha rfl (by decide)) (by decide))))
                        have mv27_σ_82 : (σ_82.1 a 27).toInt = (σ_79.1 a 27).toInt := congrArg Int32.toInt (q_rdn hσ_82 (Or.inl (m_ne ha (q_tk (k' := 34) hI ha rfl (by decide)) (by decide))))
                        have mcσ_82 := m_wr (v := f_81) (A := ((4376 + (9 * f_11.toInt)) + 8)) hσ_82 iz_80 (by omega)
                        have klσ_82 : ∀ j, 0 ≤ j → j < 4376 + 9 * (σ.1 a 27).toInt → m_c X σ_82 a j = m_c X σ a j := fun j h0 h1 => by rw [mcσ_82 j h0, if_neg (by omega)]; exact klσ_79 j h0 h1
                        have smσ_82 : 0 ≤ (σ_82.1 a 15).toInt ∧ (σ_82.1 a 15).toInt ≤ (σ_82.1 a 16).toInt ∧ (σ_82.1 a 16).toInt ≤ (σ_82.1 a 9).toInt ∧ (σ_82.1 a 9).toInt ≤ 900 ∧ 0 ≤ (σ_82.1 a 14).toInt ∧ (σ_82.1 a 14).toInt ≤ 4 ∧ (σ_82.1 a 14).toInt ≤ 4 * ((σ_82.1 a 16).toInt - (σ_82.1 a 15).toInt) ∧ (σ_82.1 a 14).toInt ≤ 4 * ((σ_82.1 a 9).toInt - (σ_82.1 a 15).toInt) ∧ 0 ≤ (σ_82.1 a 12).toInt ∧ (σ_82.1 a 9).toInt = (σ.1 a 9).toInt ∧ (σ.1 a 15).toInt ≤ (σ_82.1 a 15).toInt ∧ (σ.1 a 12).toInt ≤ (σ_82.1 a 12).toInt := (by first | (rw [mv12_σ_82, mv14_σ_82, mv15_σ_82, mv16_σ_82, mv9_σ_82]; exact smσ_79) | omega)
                        have oxσ_82 : (σ.1 a 15).toInt + 1 ≤ (σ_82.1 a 15).toInt := (by omega)
                        have nrσ_82 : (σ.1 a 27).toInt + 1 ≤ (σ_82.1 a 27).toInt ∧ (σ_82.1 a 27).toInt ≤ 30 := (by omega)
                        have fiσ_82 : m_oz (σ_82.1 a 12).toInt (∀ t, (σ.1 a 27).toInt ≤ t → t < (σ_82.1 a 27).toInt → m_stp (m_c X σ_82 a) (4376 + 9 * t) t (σ_82.1 a 27).toInt) := (m_oz.mono lpσ_79 (by omega) (by omega) (fun h => by have en : (σ_82.1 a 27).toInt = (σ_79.1 a 27).toInt := (by omega); rw [en]; exact m_lp.done h (fun j hj => by rw [mcσ_82 j hj, iz_13]) (by omega) (by omega) (by omega)))
                        clear mv9_σ_82 mv12_σ_82 mv14_σ_82 mv15_σ_82 mv16_σ_82 mv27_σ_82 smσ_79 oxσ_79 nrσ_79
                        rewrite [hQQ]; exact q_retv E hr hlk hI ⟨klσ_82, (by first | exact smσ_82 | omega), (by first | exact smσ_82 | omega), (by first | exact smσ_82 | omega), fiσ_82, (hF.trans hout), fr_σ_82⟩ dX12_readStep_204
                    · skip
                      replace hF := q_ifp hF c_66
                      refine lv_aload_n hx hb dX12_readStep_158 rfl (lv_at hl 0 rfl) ?_
                      refine lv_iload_n hx hb dX12_readStep_159 rfl (lv_at hl 1 rfl) ?_
                      refine lv_iconst (v := 1) hx hb dX12_readStep_160 (by decide) ?_
                      refine lv_iadd hx hb dX12_readStep_161 ?_
                      refine lv_topi (fun z_83 ez_83 => ?_)
                      replace hF := q_letX hF ez_83
                      have iz_83 := q_addI (A := v1.toInt) (B := 1) ez_83 rfl (by decide) (by omega) (by omega)
                      refine q_cv (q_runV (As := [.int z_83]) (rest := []) E (hml.trans hl.1.symm) hI (hC σ_27 z_83 (by first | exact sm_9 smσ_27 | exact hs | omega) (by omega) (by rw [klσ_27 2 (by decide) (by omega)]; exact hc2) (by omega) (by omega)) kv_X12_273 ha ⟨rfl, by decide⟩ (show vwCl[11]? = some (RX12, TX12, 46) from rfl) rfl ⟨Nat.le_refl _, Nat.le_refl _⟩ ⟨Nat.le_refl _, Nat.le_refl _⟩ rfl (Nat.le_of_ble_eq_true rfl) dX12_readStep_162) hI (by decide) (fun σ_85 H locs hpσ_85 hkσ_85 hI => ?_)
                      obtain ⟨ahpσ_85, bhpσ_85, chpσ_85, dhpσ_85, ehpσ_85, fhpσ_85, ghpσ_85⟩ := hpσ_85
                      have fr_σ_85 := fr_σ_27.call ghpσ_85 rfl rfl
                      replace hF := q_letX hF fhpσ_85
                      have klσ_85 : ∀ j, 0 ≤ j → j < 4376 + 9 * (σ.1 a 27).toInt → m_c X σ_85 a j = m_c X σ a j := (fun j h0 h1 => (ahpσ_85 j h0 (by omega)).trans (klσ_27 j h0 h1))
                      have smσ_85 : 0 ≤ (σ_85.1 a 15).toInt ∧ (σ_85.1 a 15).toInt ≤ (σ_85.1 a 16).toInt ∧ (σ_85.1 a 16).toInt ≤ (σ_85.1 a 9).toInt ∧ (σ_85.1 a 9).toInt ≤ 900 ∧ 0 ≤ (σ_85.1 a 14).toInt ∧ (σ_85.1 a 14).toInt ≤ 4 ∧ (σ_85.1 a 14).toInt ≤ 4 * ((σ_85.1 a 16).toInt - (σ_85.1 a 15).toInt) ∧ (σ_85.1 a 14).toInt ≤ 4 * ((σ_85.1 a 9).toInt - (σ_85.1 a 15).toInt) ∧ 0 ≤ (σ_85.1 a 12).toInt ∧ (σ_85.1 a 9).toInt = (σ.1 a 9).toInt ∧ (σ.1 a 15).toInt ≤ (σ_85.1 a 15).toInt ∧ (σ.1 a 12).toInt ≤ (σ_85.1 a 12).toInt := (by first | exact sm_tr smσ_27 bhpσ_85 | exact sm_tr smσ_27 chpσ_85 | omega)
                      have oxσ_85 : (σ.1 a 15).toInt + 1 ≤ (σ_85.1 a 15).toInt := (by omega)
                      have nrσ_85 : (σ.1 a 27).toInt + 1 ≤ (σ_85.1 a 27).toInt ∧ (σ_85.1 a 27).toInt ≤ 30 := (by omega)
                      have lpσ_85 : m_oz (σ_85.1 a 12).toInt (m_lp (m_c X σ_85 a) z_13.toInt (σ.1 a 27).toInt (σ_85.1 a 27).toInt) := (fun e => m_lp.step (lpσ_27 (by omega)) ahpσ_85 (ehpσ_85 e) (by omega) (by omega) (by omega))
                      refine lv_goto (tgt := 140) hx hb dX12_readStep_165 (by decide) ?_
                      exact ih140 σ_85 _ _ ls (by omega) (by omega) lpσ_85 fr_σ_85 klσ_85 smσ_85 oxσ_85 hF hI (lv_sub hl [0, 1, 2, 3, 4] rfl)
            exact L_140_28 ((901 - (σ_26.1 a 15).toInt).toNat + (1 - (σ_26.1 a 12).toInt).toNat + 1) σ_26 _ _ ls (Nat.lt_succ_self _) (by omega) (m_oz.mono rrσ_26 (by omega) (Int.le_refl _) (fun h => m_lp.mk h (by rw [cwσ_26]; omega) (by omega))) fr_σ_26 klσ_26 smσ_26 oxσ_26 hF hI (lv_sub hl [1, 2, 3, 4, 0] rfl)
          · skip
            replace hF := q_ifp hF c_10
            rewrite [hQQ]; exact q_retv E hr hlk hI ⟨klσ_8, (by first | exact smσ_8 | omega), (by first | exact smσ_8 | omega), (by first | exact smσ_8 | omega), (fun e => absurd e (by first | exact smσ_8 | omega)), (hF.trans hout), fr_σ_8⟩ dX12_readStep_88
        refine q_if_ne (A := f_7.toInt) E rfl (tgt := 81) dX12_readStep_59 (by decide) (fun c_86 => ?_) (fun c_86 => ?_)
        · skip
          replace hF := q_ifn hF c_86
          exact J_81_8 σ_6 _ _ ls fr_σ_6 klσ_6 smσ_6 beσ_6 nsσ_6 taσ_6 tbσ_6 hF hI (lv_sub hl [0, 1, 2, 3] rfl)
        · skip
          replace hF := q_ifp hF c_86
          refine lv_iload_n hx hb dX12_readStep_62 rfl (lv_at hl 3 rfl) ?_
          refine q_if_eq (A := x_3.toInt) E rfl (tgt := 81) dX12_readStep_63 (by decide) (fun c_87 => ?_) (fun c_87 => ?_)
          · skip
            replace hF := q_ifp hF c_87
            exact J_81_8 σ_6 _ _ ls fr_σ_6 klσ_6 smσ_6 beσ_6 nsσ_6 taσ_6 tbσ_6 hF hI (lv_sub hl [0, 1, 2, 3] rfl)
          · skip
            replace hF := q_ifn hF c_87
            refine lv_iload_n hx hb dX12_readStep_66 rfl (lv_at hl 1 rfl) ?_
            refine lv_iconst (v := 3) hx hb dX12_readStep_67 (by decide) ?_
            have gc_88_v1 := q_rng v1
            refine q_icmp_ne (A := v1.toInt) (B := 3) E rfl (by decide) (tgt := 81) dX12_readStep_68 (by decide) (fun c_88 => ?_) (fun c_88 => ?_)
            · skip
              replace hF := q_ifn hF c_88
              exact J_81_8 σ_6 _ _ ls fr_σ_6 klσ_6 smσ_6 beσ_6 nsσ_6 taσ_6 tbσ_6 hF hI (lv_sub hl [0, 1, 2, 3] rfl)
            · skip
              replace hF := q_ifp hF c_88
              refine lv_aload_n hx hb dX12_readStep_71 rfl (lv_at hl 0 rfl) ?_
              refine lv_bipush (v := 7) hx hb dX12_readStep_72 (by decide) ?_
              refine lv_aload_n hx hb dX12_readStep_74 rfl (lv_at hl 0 rfl) ?_
              refine gs_X12_104_12 E hI ha dX12_readStep_75 ?_
              refine lv_topi (fun f_89 ef_89 => ?_)
              replace hF := q_letX hF ef_89
              have if_89 : f_89.toInt = (σ_6.1 a 15).toInt := congrArg Int32.toInt ef_89
              have kc_90 : (7 : Int32).toInt = 7 := rfl
              refine q_cv (q_runV (As := [.int 7, .int f_89]) (rest := []) E (hml.trans hl.1.symm) hI (c_X12_fail l X σ_6 a (7 : Int32) f_89 ha (by omega) (by omega)) kv_X12_193 ha ⟨rfl, by decide⟩ (show vwCl[11]? = some (RX12, TX12, 46) from rfl) rfl ⟨rm_f hrf (Nat.le_of_ble_eq_true rfl), rm_w hrw (Nat.le_of_ble_eq_true rfl)⟩ ⟨Nat.le_refl _, Nat.le_refl _⟩ rfl (Nat.le_of_ble_eq_true rfl) dX12_readStep_78) hI (by decide) (fun σ_92 H locs hpσ_92 hkσ_92 hI => ?_)
              obtain ⟨ahpσ_92, bhpσ_92, chpσ_92, dhpσ_92, ehpσ_92⟩ := hpσ_92
              have fr_σ_92 := fr_σ_6.call ehpσ_92 rfl rfl
              replace hF := q_letX hF dhpσ_92
              have mv27_σ_92 : (σ_92.1 a 27).toInt = (σ_6.1 a 27).toInt := congrArg Int32.toInt (ahpσ_92 a 27 (q_cl9 _ _) (fun h => absurd h.2.2 (by decide)))
              have mcσ_92 := m_cK hkσ_92 hI.1 ha (by decide)
              have klσ_92 : ∀ j, 0 ≤ j → j < 4376 + 9 * (σ.1 a 27).toInt → m_c X σ_92 a j = m_c X σ a j := fun j h0 h1 => (mcσ_92 j).trans (klσ_6 j h0 h1)
              have smσ_92 : 0 ≤ (σ_92.1 a 15).toInt ∧ (σ_92.1 a 15).toInt ≤ (σ_92.1 a 16).toInt ∧ (σ_92.1 a 16).toInt ≤ (σ_92.1 a 9).toInt ∧ (σ_92.1 a 9).toInt ≤ 900 ∧ 0 ≤ (σ_92.1 a 14).toInt ∧ (σ_92.1 a 14).toInt ≤ 4 ∧ (σ_92.1 a 14).toInt ≤ 4 * ((σ_92.1 a 16).toInt - (σ_92.1 a 15).toInt) ∧ (σ_92.1 a 14).toInt ≤ 4 * ((σ_92.1 a 9).toInt - (σ_92.1 a 15).toInt) ∧ 0 ≤ (σ_92.1 a 12).toInt ∧ (σ_92.1 a 9).toInt = (σ.1 a 9).toInt ∧ (σ.1 a 15).toInt ≤ (σ_92.1 a 15).toInt ∧ (σ.1 a 12).toInt ≤ (σ_92.1 a 12).toInt := (by first | exact sm_fl smσ_6 bhpσ_92 chpσ_92 | omega)
              have beσ_92 : (σ_92.1 a 16).toInt = (σ.1 a 16).toInt := (by omega)
              have nsσ_92 : (σ_92.1 a 27).toInt = (σ.1 a 27).toInt := (by omega)
              have taσ_92 : 0 ≤ r_1.toInt + (σ_92.1 a 12).toInt := (by omega)
              have tbσ_92 : (σ.1 a 27).toInt ≤ 29 + (σ_92.1 a 12).toInt := (by omega)
              clear mv27_σ_92 smσ_6 beσ_6 nsσ_6 taσ_6 tbσ_6 bhpσ_92
              exact J_81_8 σ_92 _ _ ls fr_σ_92 klσ_92 smσ_92 beσ_92 nsσ_92 taσ_92 tbσ_92 hF hI (lv_sub hl [0, 1, 2, 3] rfl)
      refine q_if_ne (A := f_5.toInt) E rfl (tgt := 55) dX12_readStep_33 (by decide) (fun c_93 => ?_) (fun c_93 => ?_)
      · skip
        replace hF := q_ifn hF c_93
        exact J_55_6 σ_4 _ _ ls (by omega) fr_σ_4 klσ_4 smσ_4 beσ_4 nsσ_4 taσ_4 hF hI (lv_sub hl [0, 1, 2, 3] rfl)
      · skip
        replace hF := q_ifp hF c_93
        refine lv_aload_n hx hb dX12_readStep_36 rfl (lv_at hl 0 rfl) ?_
        refine gs_X12_267_12 E hI ha dX12_readStep_37 ?_
        refine lv_topi (fun f_94 ef_94 => ?_)
        replace hF := q_letX hF ef_94
        have if_94 : f_94.toInt = (σ_4.1 a 27).toInt := congrArg Int32.toInt ef_94
        refine lv_bipush (v := 30) hx hb dX12_readStep_40 (by decide) ?_
        have gc_95_f_94 := q_rng f_94
        refine q_icmp_ne (A := f_94.toInt) (B := 30) E rfl (by decide) (tgt := 55) dX12_readStep_42 (by decide) (fun c_95 => ?_) (fun c_95 => ?_)
        · skip
          replace hF := q_ifn hF c_95
          exact J_55_6 σ_4 _ _ ls (by omega) fr_σ_4 klσ_4 smσ_4 beσ_4 nsσ_4 taσ_4 hF hI (lv_sub hl [0, 1, 2, 3] rfl)
        · skip
          replace hF := q_ifp hF c_95
          refine lv_aload_n hx hb dX12_readStep_45 rfl (lv_at hl 0 rfl) ?_
          refine lv_bipush (v := 6) hx hb dX12_readStep_46 (by decide) ?_
          refine lv_aload_n hx hb dX12_readStep_48 rfl (lv_at hl 0 rfl) ?_
          refine gs_X12_104_12 E hI ha dX12_readStep_49 ?_
          refine lv_topi (fun f_96 ef_96 => ?_)
          replace hF := q_letX hF ef_96
          have if_96 : f_96.toInt = (σ_4.1 a 15).toInt := congrArg Int32.toInt ef_96
          have kc_97 : (6 : Int32).toInt = 6 := rfl
          refine q_cv (q_runV (As := [.int 6, .int f_96]) (rest := []) E (hml.trans hl.1.symm) hI (c_X12_fail l X σ_4 a (6 : Int32) f_96 ha (by omega) (by omega)) kv_X12_193 ha ⟨rfl, by decide⟩ (show vwCl[11]? = some (RX12, TX12, 46) from rfl) rfl ⟨rm_f hrf (Nat.le_of_ble_eq_true rfl), rm_w hrw (Nat.le_of_ble_eq_true rfl)⟩ ⟨Nat.le_refl _, Nat.le_refl _⟩ rfl (Nat.le_of_ble_eq_true rfl) dX12_readStep_52) hI (by decide) (fun σ_99 H locs hpσ_99 hkσ_99 hI => ?_)
          obtain ⟨ahpσ_99, bhpσ_99, chpσ_99, dhpσ_99, ehpσ_99⟩ := hpσ_99
          have fr_σ_99 := fr_σ_4.call ehpσ_99 rfl rfl
          replace hF := q_letX hF dhpσ_99
          have mv27_σ_99 : (σ_99.1 a 27).toInt = (σ_4.1 a 27).toInt := congrArg Int32.toInt (ahpσ_99 a 27 (q_cl9 _ _) (fun h => absurd h.2.2 (by decide)))
          have mcσ_99 := m_cK hkσ_99 hI.1 ha (by decide)
          have klσ_99 : ∀ j, 0 ≤ j → j < 4376 + 9 * (σ.1 a 27).toInt → m_c X σ_99 a j = m_c X σ a j := fun j h0 h1 => (mcσ_99 j).trans (klσ_4 j h0 h1)
          have smσ_99 : 0 ≤ (σ_99.1 a 15).toInt ∧ (σ_99.1 a 15).toInt ≤ (σ_99.1 a 16).toInt ∧ (σ_99.1 a 16).toInt ≤ (σ_99.1 a 9).toInt ∧ (σ_99.1 a 9).toInt ≤ 900 ∧ 0 ≤ (σ_99.1 a 14).toInt ∧ (σ_99.1 a 14).toInt ≤ 4 ∧ (σ_99.1 a 14).toInt ≤ 4 * ((σ_99.1 a 16).toInt - (σ_99.1 a 15).toInt) ∧ (σ_99.1 a 14).toInt ≤ 4 * ((σ_99.1 a 9).toInt - (σ_99.1 a 15).toInt) ∧ 0 ≤ (σ_99.1 a 12).toInt ∧ (σ_99.1 a 9).toInt = (σ.1 a 9).toInt ∧ (σ.1 a 15).toInt ≤ (σ_99.1 a 15).toInt ∧ (σ.1 a 12).toInt ≤ (σ_99.1 a 12).toInt := (by first | exact sm_fl smσ_4 bhpσ_99 chpσ_99 | omega)
          have beσ_99 : (σ_99.1 a 16).toInt = (σ.1 a 16).toInt := (by omega)
          have nsσ_99 : (σ_99.1 a 27).toInt = (σ.1 a 27).toInt := (by omega)
          have taσ_99 : 0 ≤ r_1.toInt + (σ_99.1 a 12).toInt := (by omega)
          clear mv27_σ_99 smσ_4 beσ_4 nsσ_4 taσ_4 bhpσ_99
          exact J_55_6 σ_99 _ _ ls (by omega) fr_σ_99 klσ_99 smσ_99 beσ_99 nsσ_99 taσ_99 hF hI (lv_sub hl [0, 1, 2, 3] rfl)
    refine q_if_ge (A := r_1.toInt) E rfl (tgt := 29) dX12_readStep_22 (by decide) (fun c_100 => ?_) (fun c_100 => ?_)
    · skip
      replace hF := q_ifn hF (Int.not_lt.mpr c_100)
      exact J_29_4 σ _ _ ls (by omega) fr_σ klσ smσ beσ nsσ hF hI (lv_sub hl [1, 2, 3, 0] rfl)
    · skip
      replace hF := q_ifp hF c_100
      refine lv_aload_n hx hb dX12_readStep_25 rfl (lv_at hl 1 rfl) ?_
      refine q_cv (q_runV (As := []) (rest := []) E (hml.trans hl.1.symm) hI (c_X12_wrong l X σ a ha (by omega)) kv_X12_200 ha ⟨rfl, by decide⟩ (show vwCl[11]? = some (RX12, TX12, 46) from rfl) rfl ⟨rm_f hrf (Nat.le_of_ble_eq_true rfl), rm_w hrw (Nat.le_of_ble_eq_true rfl)⟩ ⟨Nat.le_refl _, Nat.le_refl _⟩ rfl (Nat.le_of_ble_eq_true rfl) dX12_readStep_26) hI (by decide) (fun σ_102 H locs hpσ_102 hkσ_102 hI => ?_)
      obtain ⟨ahpσ_102, bhpσ_102, chpσ_102, dhpσ_102, ehpσ_102⟩ := hpσ_102
      have fr_σ_102 := fr_σ.call ehpσ_102 rfl rfl
      replace hF := q_letX hF dhpσ_102
      have mv27_σ_102 : (σ_102.1 a 27).toInt = (σ.1 a 27).toInt := congrArg Int32.toInt (ahpσ_102 a 27 (q_cl9 _ _) (fun h => absurd h.2.2 (by decide)))
      have mcσ_102 := m_cK hkσ_102 hI.1 ha (by decide)
      have klσ_102 : ∀ j, 0 ≤ j → j < 4376 + 9 * (σ.1 a 27).toInt → m_c X σ_102 a j = m_c X σ a j := fun j h0 h1 => (mcσ_102 j).trans (klσ j h0 h1)
      have smσ_102 : 0 ≤ (σ_102.1 a 15).toInt ∧ (σ_102.1 a 15).toInt ≤ (σ_102.1 a 16).toInt ∧ (σ_102.1 a 16).toInt ≤ (σ_102.1 a 9).toInt ∧ (σ_102.1 a 9).toInt ≤ 900 ∧ 0 ≤ (σ_102.1 a 14).toInt ∧ (σ_102.1 a 14).toInt ≤ 4 ∧ (σ_102.1 a 14).toInt ≤ 4 * ((σ_102.1 a 16).toInt - (σ_102.1 a 15).toInt) ∧ (σ_102.1 a 14).toInt ≤ 4 * ((σ_102.1 a 9).toInt - (σ_102.1 a 15).toInt) ∧ 0 ≤ (σ_102.1 a 12).toInt ∧ (σ_102.1 a 9).toInt = (σ.1 a 9).toInt ∧ (σ.1 a 15).toInt ≤ (σ_102.1 a 15).toInt ∧ (σ.1 a 12).toInt ≤ (σ_102.1 a 12).toInt := (by first | exact sm_fl smσ bhpσ_102 chpσ_102 | omega)
      have beσ_102 : (σ_102.1 a 16).toInt = (σ.1 a 16).toInt := (by omega)
      have nsσ_102 : (σ_102.1 a 27).toInt = (σ.1 a 27).toInt := (by omega)
      clear mv27_σ_102 smσ beσ nsσ bhpσ_102
      exact J_29_4 σ_102 _ _ ls (by omega) fr_σ_102 klσ_102 smσ_102 beσ_102 nsσ_102 hF hI (lv_sub hl [1, 2, 3, 0] rfl)
  have gc_103_r_1 := q_rng r_1
  refine q_icmp_eq (A := r_1.toInt) (B := 3) E rfl (by decide) (tgt := 15) dX12_readStep_7 (by decide) (fun c_103 => ?_) (fun c_103 => ?_)
  · skip
    replace hF := q_ifp hF c_103
    refine lv_iconst (v := 1) hx hb dX12_readStep_15 (by decide) ?_
    refine lv_goto (tgt := 20) hx hb dX12_readStep_16 (by decide) ?_
    have kc_104 : (1 : Int32).toInt = 1 := rfl
    exact J_20_3 1 _ _ ls (by omega) hF hI (lv_sub hl [1, 2, 0] rfl)
  · skip
    replace hF := q_ifn hF c_103
    refine lv_iload_n hx hb dX12_readStep_10 rfl (lv_at hl 0 rfl) ?_
    refine lv_iconst (v := 4) hx hb dX12_readStep_11 (by decide) ?_
    have gc_105_r_1 := q_rng r_1
    refine q_icmp_ne (A := r_1.toInt) (B := 4) E rfl (by decide) (tgt := 19) dX12_readStep_12 (by decide) (fun c_105 => ?_) (fun c_105 => ?_)
    · skip
      replace hF := q_ifn hF c_105
      refine lv_iconst (v := 0) hx hb dX12_readStep_19 (by decide) ?_
      have kc_106 : (0 : Int32).toInt = 0 := rfl
      exact J_20_3 0 _ _ ls (by omega) hF hI (lv_sub hl [1, 2, 0] rfl)
    · skip
      replace hF := q_ifp hF c_105
      refine lv_iconst (v := 1) hx hb dX12_readStep_15 (by decide) ?_
      refine lv_goto (tgt := 20) hx hb dX12_readStep_16 (by decide) ?_
      have kc_107 : (1 : Int32).toInt = 1 := rfl
      exact J_20_3 1 _ _ ls (by omega) hF hI (lv_sub hl [1, 2, 0] rfl)
end
