section
set_option maxRecDepth 100000 in
set_option maxHeartbeats 4000000 in
theorem c_X12_cut (l : Launch) (X : XW) (σ : ST) (v0 : Int32) (v1 : Int64) : Met l yX12_cut (q_ws yX12_cut cX12_cut 3 (some .long)) (q_rm 0 0) (q_P X σ [.int v0, .long v1]) (q_Ql X 9 σ (fun (r : Int64) (σ' : ST) => σ' = σ ∧ r = F_X12_cut X σ v0 v1)) 0 0 (q_reg X) := by
  refine q_met 9 (by first | exact rfl | decide +kernel) rfl (Nat.le_of_ble_eq_true rfl) (fun p e s m below meth c E hml hr hlk hI ls hl => ?_)
  have hx := E.1
  have hb := E.2.1
  have hl : lv_has ls 3 [(0, .int v0), (1, .long v1)] := hl
  obtain ⟨out, hout⟩ : ∃ o, o = F_X12_cut X σ v0 v1 := ⟨_, rfl⟩
  have hF := hout.symm
  unfold F_X12_cut at hF
  refine lv_iload_n hx hb dX12_cut_0 rfl (lv_at hl 0 rfl) ?_
  refine q_if_ne (A := v0.toInt) E rfl (tgt := 11) dX12_cut_1 (by decide) (fun c_1 => ?_) (fun c_1 => ?_)
  · skip
    replace hF := q_ifn hF c_1
    refine lv_iload_n hx hb dX12_cut_11 rfl (lv_at hl 0 rfl) ?_
    refine lv_iconst (v := 1) hx hb dX12_cut_12 (by decide) ?_
    refine q_icmp_ne (A := v0.toInt) (B := 1) E rfl (by decide) (tgt := 23) dX12_cut_13 (by decide) (fun c_2 => ?_) (fun c_2 => ?_)
    · skip
      replace hF := q_ifn hF c_2
      refine lv_iload_n hx hb dX12_cut_23 rfl (lv_at hl 0 rfl) ?_
      refine lv_iconst (v := 2) hx hb dX12_cut_24 (by decide) ?_
      refine q_icmp_ne (A := v0.toInt) (B := 2) E rfl (by decide) (tgt := 34) dX12_cut_25 (by decide) (fun c_3 => ?_) (fun c_3 => ?_)
      · skip
        replace hF := q_ifn hF c_3
        refine lv_lload_n hx hb dX12_cut_34 rfl (lv_at hl 1 rfl) ?_
        exact q_retl E hr hlk hI ⟨rfl, (hF.trans hout)⟩ dX12_cut_35
      · skip
        replace hF := q_ifp hF c_3
        refine lv_lload_n hx hb dX12_cut_28 rfl (lv_at hl 1 rfl) ?_
        refine lv_l2i hx hb dX12_cut_29 rfl ?_
        refine lv_topi (fun z_4 ez_4 => ?_)
        replace hF := q_letX hF ez_4
        refine lv_i2l hx hb dX12_cut_30 rfl ?_
        refine lv_topl (fun y_5 ey_5 => ?_)
        replace hF := q_letX hF ey_5
        refine lv_goto (tgt := 35) hx hb dX12_cut_31 (by decide) ?_
        exact q_retl E hr hlk hI ⟨rfl, (hF.trans hout)⟩ dX12_cut_35
    · skip
      replace hF := q_ifp hF c_2
      refine lv_lload_n hx hb dX12_cut_16 rfl (lv_at hl 1 rfl) ?_
      refine lv_l2i hx hb dX12_cut_17 rfl ?_
      refine lv_topi (fun z_6 ez_6 => ?_)
      replace hF := q_letX hF ez_6
      refine lv_i2s hx hb dX12_cut_18 rfl ?_
      refine lv_topi (fun z_7 ez_7 => ?_)
      replace hF := q_letX hF ez_7
      refine lv_i2l hx hb dX12_cut_19 rfl ?_
      refine lv_topl (fun y_8 ey_8 => ?_)
      replace hF := q_letX hF ey_8
      refine lv_goto (tgt := 35) hx hb dX12_cut_20 (by decide) ?_
      exact q_retl E hr hlk hI ⟨rfl, (hF.trans hout)⟩ dX12_cut_35
  · skip
    replace hF := q_ifp hF c_1
    refine lv_lload_n hx hb dX12_cut_4 rfl (lv_at hl 1 rfl) ?_
    refine lv_l2i hx hb dX12_cut_5 rfl ?_
    refine lv_topi (fun z_9 ez_9 => ?_)
    replace hF := q_letX hF ez_9
    refine lv_i2b hx hb dX12_cut_6 rfl ?_
    refine lv_topi (fun z_10 ez_10 => ?_)
    replace hF := q_letX hF ez_10
    refine lv_i2l hx hb dX12_cut_7 rfl ?_
    refine lv_topl (fun y_11 ey_11 => ?_)
    replace hF := q_letX hF ey_11
    refine lv_goto (tgt := 35) hx hb dX12_cut_8 (by decide) ?_
    exact q_retl E hr hlk hI ⟨rfl, (hF.trans hout)⟩ dX12_cut_35

set_option maxRecDepth 100000 in
set_option maxHeartbeats 4000000 in
theorem c_X12_tray (l : Launch) (X : XW) (σ : ST) (a : Nat) (v1 : Int32) (v2 : Int32) (v3 : Int32) (ha : q_kd X a = 12) : Met l yX12_tray (q_ws yX12_tray cX12_tray 5 (some .boolean)) (q_rm 1 21) (q_P X σ [.ref a, .int v1, .int v2, .int v3]) (q_Qi X 0 σ (fun (r : Int32) (σ' : ST) => (0 ≤ r.toInt ∧ r.toInt ≤ 1) ∧ (q_KS (fun b g => (b = q_rf X a 4 ∨ b = q_rf X a 5) ∧ g = v1.toNatClampNeg) 8 X σ σ') ∧ (r.toInt = 1 ↔ (0 ≤ v1.toInt ∧ v1.toInt < 4 ∧ 0 ≤ v2.toInt ∧ v2.toInt ≤ 3 ∧ 0 ≤ v3.toInt ∧ v3.toInt ≤ 60)) ∧ (r.toInt = 1 → σ'.1 (q_rf X a 4) v1.toNatClampNeg = v2 ∧ σ'.1 (q_rf X a 5) v1.toNatClampNeg = v3) ∧ (r.toInt = 0 → q_K 8 X σ σ') ∧ (r, σ') = F_X12_tray X σ a v1 v2 v3 ∧ q_ow [(12, 0), (12, 1), (30, 99), (31, 99)] [(32, 99)] X σ σ')) 0 0 (q_reg X) := by
  refine q_met 0 (by first | exact rfl | decide +kernel) rfl (Nat.le_of_ble_eq_true rfl) (fun p e s m below meth c E hml hr hlk hI ls hl => ?_)
  have hx := E.1
  have hb := E.2.1
  have hl : lv_has ls 5 [(0, .ref a), (1, .int v1), (2, .int v2), (3, .int v3)] := hl
  have ks_σ : q_KS (fun b g => (b = q_rf X a 4 ∨ b = q_rf X a 5) ∧ g = v1.toNatClampNeg) 8 X σ σ := q_KS.rf
  have fr_σ : q_ow [(12, 0), (12, 1), (30, 99), (31, 99)] [(32, 99)] X σ σ := q_ow.rf
  have kt4 : q_kd X (q_rf X a 4) = 30 := q_tk (k' := 30) hI ha rfl (by decide)
  have kt5 : q_kd X (q_rf X a 5) = 31 := q_tk (k' := 31) hI ha rfl (by decide)
  have n45 : q_rf X a 4 ≠ q_rf X a 5 := m_ne kt4 kt5 (by decide)
  obtain ⟨out, hout⟩ : ∃ o, o = F_X12_tray X σ a v1 v2 v3 := ⟨_, rfl⟩
  have hF := hout.symm
  unfold F_X12_tray at hF
  refine lv_aload_n hx hb dX12_tray_0 rfl (lv_at hl 0 rfl) ?_
  refine lv_iconst (v := 0) hx hb dX12_tray_1 (by decide) ?_
  refine ps_X12_59_12 E hI ha (by decide) dX12_tray_2 (fun H locs σ_1 hσ_1 hI => ?_)
  replace hF := q_letX hF hσ_1
  have fr_σ_1 := fr_σ.si hσ_1 ha rfl
  have ks_σ_1 : q_KS (fun b g => (b = q_rf X a 4 ∨ b = q_rf X a 5) ∧ g = v1.toNatClampNeg) 8 X σ σ_1 := ks_σ.si hσ_1 ha (show 8 < 9 by decide)
  have kzσ_1 : q_K 8 X σ σ_1 := by rw [hσ_1]; exact q_K.si ha (by decide)
  refine lv_aload_n hx hb dX12_tray_5 rfl (lv_at hl 0 rfl) ?_
  refine lv_iconst (v := 0) hx hb dX12_tray_6 (by decide) ?_
  refine ps_X12_62_12 E hI ha (by decide) dX12_tray_7 (fun H locs σ_2 hσ_2 hI => ?_)
  replace hF := q_letX hF hσ_2
  have fr_σ_2 := fr_σ_1.si hσ_2 ha rfl
  have ks_σ_2 : q_KS (fun b g => (b = q_rf X a 4 ∨ b = q_rf X a 5) ∧ g = v1.toNatClampNeg) 8 X σ σ_2 := ks_σ_1.si hσ_2 ha (show 8 < 9 by decide)
  have kzσ_2 : q_K 8 X σ σ_2 := kzσ_1.tr (by rw [hσ_2]; exact q_K.si ha (by decide))
  refine lv_iload_n hx hb dX12_tray_10 rfl (lv_at hl 1 rfl) ?_
  refine q_if_lt (A := v1.toInt) E rfl (tgt := 28) dX12_tray_11 (by decide) (fun c_3 => ?_) (fun c_3 => ?_)
  · skip
    replace hF := q_ifp hF c_3
    refine lv_aload_n hx hb dX12_tray_28 rfl (lv_at hl 0 rfl) ?_
    refine lv_iconst (v := 1) hx hb dX12_tray_29 (by decide) ?_
    have kc_4 : (1 : Int32).toInt = 1 := rfl
    refine q_ci (q_runV (As := [.int 1]) (rest := []) E (hml.trans hl.1.symm) hI (c_X12_no l X σ_2 a (1 : Int32) ha) kv_X12_74 ha ⟨rfl, by decide⟩ (show vwCl[11]? = some (RX12, TX12, 46) from rfl) rfl ⟨Nat.le_of_ble_eq_true rfl, Nat.le_of_ble_eq_true rfl⟩ ⟨Nat.le_refl _, Nat.le_refl _⟩ rfl (Nat.le_of_ble_eq_true rfl) dX12_tray_30) hI (by decide) (fun r_5 σ_6 H locs hpσ_6 hkσ_6 hI => ?_)
    obtain ⟨ahpσ_6, bhpσ_6, chpσ_6, dhpσ_6⟩ := hpσ_6
    have fr_σ_6 := fr_σ_2.call dhpσ_6 rfl rfl
    replace hF := q_biX hF chpσ_6
    have ks_σ_6 : q_KS (fun b g => (b = q_rf X a 4 ∨ b = q_rf X a 5) ∧ g = v1.toNatClampNeg) 8 X σ σ_6 := ks_σ_2.K hkσ_6 (by decide)
    have kzσ_6 : q_K 8 X σ σ_6 := kzσ_2.tr (q_K.le hkσ_6 (by decide))
    exact q_retz E hr hlk hI ⟨by omega, by omega⟩ ⟨⟨by omega, by omega⟩, ks_σ_6, (by constructor <;> intro h9 <;> omega), (by intro h9; exfalso; omega), (fun _ => kzσ_6), (hF.trans hout), fr_σ_6⟩ dX12_tray_33
  · skip
    replace hF := q_ifn hF (Int.not_lt.mpr c_3)
    refine lv_iload_n hx hb dX12_tray_14 rfl (lv_at hl 1 rfl) ?_
    refine lv_iconst (v := 4) hx hb dX12_tray_15 (by decide) ?_
    have gc_7_v1 := q_rng v1
    refine q_icmp_ge (A := v1.toInt) (B := 4) E rfl (by decide) (tgt := 28) dX12_tray_16 (by decide) (fun c_7 => ?_) (fun c_7 => ?_)
    · skip
      replace hF := q_ifn hF (Int.not_lt.mpr c_7)
      refine lv_aload_n hx hb dX12_tray_28 rfl (lv_at hl 0 rfl) ?_
      refine lv_iconst (v := 1) hx hb dX12_tray_29 (by decide) ?_
      have kc_8 : (1 : Int32).toInt = 1 := rfl
      refine q_ci (q_runV (As := [.int 1]) (rest := []) E (hml.trans hl.1.symm) hI (c_X12_no l X σ_2 a (1 : Int32) ha) kv_X12_74 ha ⟨rfl, by decide⟩ (show vwCl[11]? = some (RX12, TX12, 46) from rfl) rfl ⟨Nat.le_of_ble_eq_true rfl, Nat.le_of_ble_eq_true rfl⟩ ⟨Nat.le_refl _, Nat.le_refl _⟩ rfl (Nat.le_of_ble_eq_true rfl) dX12_tray_30) hI (by decide) (fun r_9 σ_10 H locs hpσ_10 hkσ_10 hI => ?_)
      obtain ⟨ahpσ_10, bhpσ_10, chpσ_10, dhpσ_10⟩ := hpσ_10
      have fr_σ_10 := fr_σ_2.call dhpσ_10 rfl rfl
      replace hF := q_biX hF chpσ_10
      have ks_σ_10 : q_KS (fun b g => (b = q_rf X a 4 ∨ b = q_rf X a 5) ∧ g = v1.toNatClampNeg) 8 X σ σ_10 := ks_σ_2.K hkσ_10 (by decide)
      have kzσ_10 : q_K 8 X σ σ_10 := kzσ_2.tr (q_K.le hkσ_10 (by decide))
      exact q_retz E hr hlk hI ⟨by omega, by omega⟩ ⟨⟨by omega, by omega⟩, ks_σ_10, (by constructor <;> intro h9 <;> omega), (by intro h9; exfalso; omega), (fun _ => kzσ_10), (hF.trans hout), fr_σ_10⟩ dX12_tray_33
    · skip
      replace hF := q_ifp hF c_7
      refine lv_iload_n hx hb dX12_tray_19 rfl (lv_at hl 2 rfl) ?_
      refine q_if_lt (A := v2.toInt) E rfl (tgt := 28) dX12_tray_20 (by decide) (fun c_11 => ?_) (fun c_11 => ?_)
      · skip
        replace hF := q_ifp hF c_11
        refine lv_aload_n hx hb dX12_tray_28 rfl (lv_at hl 0 rfl) ?_
        refine lv_iconst (v := 1) hx hb dX12_tray_29 (by decide) ?_
        have kc_12 : (1 : Int32).toInt = 1 := rfl
        refine q_ci (q_runV (As := [.int 1]) (rest := []) E (hml.trans hl.1.symm) hI (c_X12_no l X σ_2 a (1 : Int32) ha) kv_X12_74 ha ⟨rfl, by decide⟩ (show vwCl[11]? = some (RX12, TX12, 46) from rfl) rfl ⟨Nat.le_of_ble_eq_true rfl, Nat.le_of_ble_eq_true rfl⟩ ⟨Nat.le_refl _, Nat.le_refl _⟩ rfl (Nat.le_of_ble_eq_true rfl) dX12_tray_30) hI (by decide) (fun r_13 σ_14 H locs hpσ_14 hkσ_14 hI => ?_)
        obtain ⟨ahpσ_14, bhpσ_14, chpσ_14, dhpσ_14⟩ := hpσ_14
        have fr_σ_14 := fr_σ_2.call dhpσ_14 rfl rfl
        replace hF := q_biX hF chpσ_14
        have ks_σ_14 : q_KS (fun b g => (b = q_rf X a 4 ∨ b = q_rf X a 5) ∧ g = v1.toNatClampNeg) 8 X σ σ_14 := ks_σ_2.K hkσ_14 (by decide)
        have kzσ_14 : q_K 8 X σ σ_14 := kzσ_2.tr (q_K.le hkσ_14 (by decide))
        exact q_retz E hr hlk hI ⟨by omega, by omega⟩ ⟨⟨by omega, by omega⟩, ks_σ_14, (by constructor <;> intro h9 <;> omega), (by intro h9; exfalso; omega), (fun _ => kzσ_14), (hF.trans hout), fr_σ_14⟩ dX12_tray_33
      · skip
        replace hF := q_ifn hF (Int.not_lt.mpr c_11)
        refine lv_iload_n hx hb dX12_tray_23 rfl (lv_at hl 2 rfl) ?_
        refine lv_iconst (v := 3) hx hb dX12_tray_24 (by decide) ?_
        have gc_15_v2 := q_rng v2
        refine q_icmp_le (A := v2.toInt) (B := 3) E rfl (by decide) (tgt := 34) dX12_tray_25 (by decide) (fun c_15 => ?_) (fun c_15 => ?_)
        · skip
          replace hF := q_ifn hF (Int.not_lt.mpr c_15)
          refine lv_iload_n hx hb dX12_tray_34 rfl (lv_at hl 3 rfl) ?_
          refine lv_bipush (v := 60) hx hb dX12_tray_35 (by decide) ?_
          have gc_16_v3 := q_rng v3
          refine q_icmp_le (A := v3.toInt) (B := 60) E rfl (by decide) (tgt := 46) dX12_tray_37 (by decide) (fun c_16 => ?_) (fun c_16 => ?_)
          · skip
            replace hF := q_ifn hF (Int.not_lt.mpr c_16)
            refine lv_iload_n hx hb dX12_tray_46 rfl (lv_at hl 3 rfl) ?_
            refine q_if_ge (A := v3.toInt) E rfl (tgt := 57) dX12_tray_47 (by decide) (fun c_17 => ?_) (fun c_17 => ?_)
            · skip
              replace hF := q_ifn hF (Int.not_lt.mpr c_17)
              refine lv_aload_n hx hb dX12_tray_57 rfl (lv_at hl 0 rfl) ?_
              refine gs_X12_13_12 E hI ha dX12_tray_58 ?_
              refine lv_iload_n hx hb dX12_tray_61 rfl (lv_at hl 1 rfl) ?_
              refine lv_iload_n hx hb dX12_tray_62 rfl (lv_at hl 2 rfl) ?_
              refine q_iastN E hI (q_tk (k' := 30) hI ha rfl (by decide)) ⟨by decide, rfl⟩ (by omega) (by rw [q_lnk (v := 4) hI (q_tk (k' := 30) hI ha rfl (by decide)) rfl (by decide)]; omega) (show 0 < 1 by decide) (q_inB (lo := 0) (hi := 3) rfl (by omega) (by omega)) dX12_tray_63 (fun H locs σ_18 hσ_18 hI => ?_)
              replace hF := q_letX hF hσ_18
              have fr_σ_18 := fr_σ_2.si hσ_18 (q_tk (k' := 30) hI ha rfl (by decide)) rfl
              have ks_σ_18 : q_KS (fun b g => (b = q_rf X a 4 ∨ b = q_rf X a 5) ∧ g = v1.toNatClampNeg) 8 X σ σ_18 := ks_σ_2.siS hσ_18 ⟨Or.inl rfl, rfl⟩
              have mk0σ_18 : σ_18.1 (q_rf X a 4) v1.toNatClampNeg = v2 := q_rd hσ_18
              refine lv_aload_n hx hb dX12_tray_64 rfl (lv_at hl 0 rfl) ?_
              refine gs_X12_17_12 E hI ha dX12_tray_65 ?_
              refine lv_iload_n hx hb dX12_tray_68 rfl (lv_at hl 1 rfl) ?_
              refine lv_iload_n hx hb dX12_tray_69 rfl (lv_at hl 3 rfl) ?_
              refine q_iastN E hI (q_tk (k' := 31) hI ha rfl (by decide)) ⟨by decide, rfl⟩ (by omega) (by rw [q_lnk (v := 4) hI (q_tk (k' := 31) hI ha rfl (by decide)) rfl (by decide)]; omega) (show 0 < 1 by decide) (q_inB (lo := -1) (hi := 60) rfl (by omega) (by omega)) dX12_tray_70 (fun H locs σ_19 hσ_19 hI => ?_)
              replace hF := q_letX hF hσ_19
              have fr_σ_19 := fr_σ_18.si hσ_19 (q_tk (k' := 31) hI ha rfl (by decide)) rfl
              have ks_σ_19 : q_KS (fun b g => (b = q_rf X a 4 ∨ b = q_rf X a 5) ∧ g = v1.toNatClampNeg) 8 X σ σ_19 := ks_σ_18.siS hσ_19 ⟨Or.inr rfl, rfl⟩
              have mk0σ_19 : σ_19.1 (q_rf X a 4) v1.toNatClampNeg = v2 := (q_rdn hσ_19 (Or.inl n45)).trans mk0σ_18
              have mk1σ_19 : σ_19.1 (q_rf X a 5) v1.toNatClampNeg = v3 := q_rd hσ_19
              refine lv_iconst (v := 0) hx hb dX12_tray_71 (by decide) ?_
              refine lv_istore (lv' := [(4, .int 0), (0, .ref a), (1, .int v1), (2, .int v2), (3, .int v3)]) hx hb dX12_tray_72 hl (by decide) rfl (fun ls hl => ?_)
              have L_74_22 : ∀ (k_22 : Nat) (x_20 : Int32) (σ_21 : ST) (H : Heap) (locs : List Loc) (ls : Array Slot), (2147483647 - x_20.toInt).toNat < k_22 → (0 ≤ x_20.toInt) → (σ_21.1 (q_rf X a 4) v1.toNatClampNeg = v2) → (σ_21.1 (q_rf X a 5) v1.toNatClampNeg = v3) → (q_KS (fun b g => (b = q_rf X a 4 ∨ b = q_rf X a 5) ∧ g = v1.toNatClampNeg) 8 X σ σ_21) → (q_ow [(12, 0), (12, 1), (30, 99), (31, 99)] [(32, 99)] X σ σ_21) → (F_X12_tray_L74_1 X v3 v1 a k_22 x_20 σ_21 = out) → q_I X 0 σ s.heap locs σ_21 H → lv_has ls 5 [(0, .ref a), (1, .int v1), (2, .int v2), (3, .int v3), (4, .int x_20)] → W p l e (q_rm 1 21) s m ([.ref a, .int v1, .int v2, .int v3] : List Value).toArray below meth c H locs 0 0 (MQ below (q_Qi X 0 σ (fun (r : Int32) (σ' : ST) => (0 ≤ r.toInt ∧ r.toInt ≤ 1) ∧ (q_KS (fun b g => (b = q_rf X a 4 ∨ b = q_rf X a 5) ∧ g = v1.toNatClampNeg) 8 X σ σ') ∧ (r.toInt = 1 ↔ (0 ≤ v1.toInt ∧ v1.toInt < 4 ∧ 0 ≤ v2.toInt ∧ v2.toInt ≤ 3 ∧ 0 ≤ v3.toInt ∧ v3.toInt ≤ 60)) ∧ (r.toInt = 1 → σ'.1 (q_rf X a 4) v1.toNatClampNeg = v2 ∧ σ'.1 (q_rf X a 5) v1.toNatClampNeg = v3) ∧ (r.toInt = 0 → q_K 8 X σ σ') ∧ (r, σ') = F_X12_tray X σ a v1 v2 v3 ∧ q_ow [(12, 0), (12, 1), (30, 99), (31, 99)] [(32, 99)] X σ σ')) ([.ref a, .int v1, .int v2, .int v3] : List Value).toArray s 0 0 (q_reg X)) (F0 m 74 ls []) := by
                clear hF
                intro k_22
                induction k_22 with
                | zero =>
                  intro x_20 σ_21 H locs ls hms
                  try clear fr_σ_18; try clear fr_σ_19
                  exact absurd hms (Nat.not_lt_zero _)
                | succ k_22 ih74 =>
                  intro x_20 σ_21 H locs ls hm74 hge74 mk0σ_21 mk1σ_21 ks_σ_21 fr_σ_21 hF hI hl
                  replace hF := (F_X12_tray_L74_1_s).symm.trans hF
                  unfold F_X12_tray_B74_1 at hF
                  refine lv_iload hx hb dX12_tray_74 (lv_at hl 4 rfl) ?_
                  refine lv_iload_n hx hb dX12_tray_76 rfl (lv_at hl 3 rfl) ?_
                  have gc_23_x_20 := q_rng x_20
                  have gc_23_v3 := q_rng v3
                  refine q_icmp_ge (A := x_20.toInt) (B := v3.toInt) E rfl rfl (tgt := 99) dX12_tray_77 (by decide) (fun c_23 => ?_) (fun c_23 => ?_)
                  · skip
                    replace hF := q_ifn hF (Int.not_lt.mpr c_23)
                    skip
                    refine lv_iconst (v := 1) hx hb dX12_tray_99 (by decide) ?_
                    have hrv : (1 : Int32).toInt = 1 := rfl
                    exact q_retz E hr hlk hI ⟨by decide, by decide⟩ ⟨⟨by decide, by decide⟩, ks_σ_21, (by constructor <;> intro h9 <;> omega), (fun _ => ⟨mk0σ_21, mk1σ_21⟩), (by intro h9; exfalso; omega), (hF.trans hout), fr_σ_21⟩ dX12_tray_100
                  · skip
                    replace hF := q_ifp hF c_23
                    refine lv_aload_n hx hb dX12_tray_80 rfl (lv_at hl 0 rfl) ?_
                    refine gs_X12_20_12 E hI ha dX12_tray_81 ?_
                    refine lv_bipush (v := 60) hx hb dX12_tray_84 (by decide) ?_
                    refine lv_iload_n hx hb dX12_tray_86 rfl (lv_at hl 1 rfl) ?_
                    refine lv_imul hx hb dX12_tray_87 ?_
                    refine lv_topi (fun z_24 ez_24 => ?_)
                    replace hF := q_letX hF ez_24
                    have iz_24 := q_mulI (A := 60) (B := v1.toInt) ez_24 (by decide) rfl (by omega) (by omega)
                    refine lv_iload hx hb dX12_tray_88 (lv_at hl 4 rfl) ?_
                    refine lv_iadd hx hb dX12_tray_90 ?_
                    refine lv_topi (fun z_25 ez_25 => ?_)
                    replace hF := q_letX hF ez_25
                    have iz_25 := q_addI (A := (60 * v1.toInt)) (B := x_20.toInt) ez_25 iz_24 rfl (by omega) (by omega)
                    refine lv_lconst (v := 0) hx hb dX12_tray_91 (by decide) ?_
                    refine q_lastN E hI (q_tk (k' := 32) hI ha rfl (by decide)) ⟨by decide, rfl⟩ (by omega) (by rw [q_lnk (v := 240) hI (q_tk (k' := 32) hI ha rfl (by decide)) rfl (by decide)]; omega) dX12_tray_92 (fun H locs σ_26 hσ_26 hI => ?_)
                    replace hF := q_letX hF hσ_26
                    have fr_σ_26 := fr_σ_21.sl hσ_26 (q_tk (k' := 32) hI ha rfl (by decide)) rfl
                    have ks_σ_26 : q_KS (fun b g => (b = q_rf X a 4 ∨ b = q_rf X a 5) ∧ g = v1.toNatClampNeg) 8 X σ σ_26 := ks_σ_21.sl hσ_26
                    have mk0σ_26 : σ_26.1 (q_rf X a 4) v1.toNatClampNeg = v2 := (q_rdl hσ_26).trans mk0σ_21
                    have mk1σ_26 : σ_26.1 (q_rf X a 5) v1.toNatClampNeg = v3 := (q_rdl hσ_26).trans mk1σ_21
                    obtain ⟨z_27, ez_27⟩ : ∃ y : Int32, y = x_20 + 1 := ⟨_, rfl⟩
                    replace hF := q_letX hF ez_27
                    refine lv_iinc (v := z_27) (lv' := [(4, .int z_27), (0, .ref a), (1, .int v1), (2, .int v2), (3, .int v3)]) hx hb dX12_tray_93 hl (k := 4) rfl (by rw [ez_27]; rfl) (by decide) rfl (fun ls hl => ?_)
                    have iz_27 : z_27.toInt = x_20.toInt + 1 := q_inc ez_27 (by omega)
                    refine lv_goto (tgt := 74) hx hb dX12_tray_96 (by decide) ?_
                    exact ih74 z_27 σ_26 _ _ ls (by omega) (by omega) mk0σ_26 mk1σ_26 ks_σ_26 fr_σ_26 hF hI (lv_sub hl [1, 2, 3, 4, 0] rfl)
              exact L_74_22 ((2147483647 - (0 : Int32).toInt).toNat + 1) 0 σ_19 _ _ ls (Nat.lt_succ_self _) (by decide) mk0σ_19 mk1σ_19 ks_σ_19 fr_σ_19 hF hI (lv_sub hl [1, 2, 3, 4, 0] rfl)
            · skip
              replace hF := q_ifp hF c_17
              refine lv_aload_n hx hb dX12_tray_50 rfl (lv_at hl 0 rfl) ?_
              refine lv_bipush (v := 6) hx hb dX12_tray_51 (by decide) ?_
              have kc_28 : (6 : Int32).toInt = 6 := rfl
              refine q_ci (q_runV (As := [.int 6]) (rest := []) E (hml.trans hl.1.symm) hI (c_X12_no l X σ_2 a (6 : Int32) ha) kv_X12_74 ha ⟨rfl, by decide⟩ (show vwCl[11]? = some (RX12, TX12, 46) from rfl) rfl ⟨Nat.le_of_ble_eq_true rfl, Nat.le_of_ble_eq_true rfl⟩ ⟨Nat.le_refl _, Nat.le_refl _⟩ rfl (Nat.le_of_ble_eq_true rfl) dX12_tray_53) hI (by decide) (fun r_29 σ_30 H locs hpσ_30 hkσ_30 hI => ?_)
              obtain ⟨ahpσ_30, bhpσ_30, chpσ_30, dhpσ_30⟩ := hpσ_30
              have fr_σ_30 := fr_σ_2.call dhpσ_30 rfl rfl
              replace hF := q_biX hF chpσ_30
              have ks_σ_30 : q_KS (fun b g => (b = q_rf X a 4 ∨ b = q_rf X a 5) ∧ g = v1.toNatClampNeg) 8 X σ σ_30 := ks_σ_2.K hkσ_30 (by decide)
              have kzσ_30 : q_K 8 X σ σ_30 := kzσ_2.tr (q_K.le hkσ_30 (by decide))
              exact q_retz E hr hlk hI ⟨by omega, by omega⟩ ⟨⟨by omega, by omega⟩, ks_σ_30, (by constructor <;> intro h9 <;> omega), (by intro h9; exfalso; omega), (fun _ => kzσ_30), (hF.trans hout), fr_σ_30⟩ dX12_tray_56
          · skip
            replace hF := q_ifp hF c_16
            refine lv_aload_n hx hb dX12_tray_40 rfl (lv_at hl 0 rfl) ?_
            refine lv_iconst (v := 5) hx hb dX12_tray_41 (by decide) ?_
            have kc_31 : (5 : Int32).toInt = 5 := rfl
            refine q_ci (q_runV (As := [.int 5]) (rest := []) E (hml.trans hl.1.symm) hI (c_X12_no l X σ_2 a (5 : Int32) ha) kv_X12_74 ha ⟨rfl, by decide⟩ (show vwCl[11]? = some (RX12, TX12, 46) from rfl) rfl ⟨Nat.le_of_ble_eq_true rfl, Nat.le_of_ble_eq_true rfl⟩ ⟨Nat.le_refl _, Nat.le_refl _⟩ rfl (Nat.le_of_ble_eq_true rfl) dX12_tray_42) hI (by decide) (fun r_32 σ_33 H locs hpσ_33 hkσ_33 hI => ?_)
            obtain ⟨ahpσ_33, bhpσ_33, chpσ_33, dhpσ_33⟩ := hpσ_33
            have fr_σ_33 := fr_σ_2.call dhpσ_33 rfl rfl
            replace hF := q_biX hF chpσ_33
            have ks_σ_33 : q_KS (fun b g => (b = q_rf X a 4 ∨ b = q_rf X a 5) ∧ g = v1.toNatClampNeg) 8 X σ σ_33 := ks_σ_2.K hkσ_33 (by decide)
            have kzσ_33 : q_K 8 X σ σ_33 := kzσ_2.tr (q_K.le hkσ_33 (by decide))
            exact q_retz E hr hlk hI ⟨by omega, by omega⟩ ⟨⟨by omega, by omega⟩, ks_σ_33, (by constructor <;> intro h9 <;> omega), (by intro h9; exfalso; omega), (fun _ => kzσ_33), (hF.trans hout), fr_σ_33⟩ dX12_tray_45
        · skip
          replace hF := q_ifp hF c_15
          refine lv_aload_n hx hb dX12_tray_28 rfl (lv_at hl 0 rfl) ?_
          refine lv_iconst (v := 1) hx hb dX12_tray_29 (by decide) ?_
          have kc_34 : (1 : Int32).toInt = 1 := rfl
          refine q_ci (q_runV (As := [.int 1]) (rest := []) E (hml.trans hl.1.symm) hI (c_X12_no l X σ_2 a (1 : Int32) ha) kv_X12_74 ha ⟨rfl, by decide⟩ (show vwCl[11]? = some (RX12, TX12, 46) from rfl) rfl ⟨Nat.le_of_ble_eq_true rfl, Nat.le_of_ble_eq_true rfl⟩ ⟨Nat.le_refl _, Nat.le_refl _⟩ rfl (Nat.le_of_ble_eq_true rfl) dX12_tray_30) hI (by decide) (fun r_35 σ_36 H locs hpσ_36 hkσ_36 hI => ?_)
          obtain ⟨ahpσ_36, bhpσ_36, chpσ_36, dhpσ_36⟩ := hpσ_36
          have fr_σ_36 := fr_σ_2.call dhpσ_36 rfl rfl
          replace hF := q_biX hF chpσ_36
          have ks_σ_36 : q_KS (fun b g => (b = q_rf X a 4 ∨ b = q_rf X a 5) ∧ g = v1.toNatClampNeg) 8 X σ σ_36 := ks_σ_2.K hkσ_36 (by decide)
          have kzσ_36 : q_K 8 X σ σ_36 := kzσ_2.tr (q_K.le hkσ_36 (by decide))
          exact q_retz E hr hlk hI ⟨by omega, by omega⟩ ⟨⟨by omega, by omega⟩, ks_σ_36, (by constructor <;> intro h9 <;> omega), (by intro h9; exfalso; omega), (fun _ => kzσ_36), (hF.trans hout), fr_σ_36⟩ dX12_tray_33
end
