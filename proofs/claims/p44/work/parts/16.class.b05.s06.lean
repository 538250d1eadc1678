section
set_option maxRecDepth 100000 in
set_option maxHeartbeats 4000000 in
theorem c_X11_played (l : Launch) (X : XW) (σ : ST) (a : Nat) (v1 : Int32) (ha : q_kd X a = 11) : Met l yX11_played (q_ws yX11_played cX11_played 2 (some .int)) (q_rm 1 21) (q_P X σ [.ref a, .int v1]) (q_Qi X 8 σ (fun (r : Int32) (σ' : ST) => (r, σ') = F_X11_played X σ a v1 ∧ q_ow [(11, 0)] [] X σ σ')) 0 0 (q_reg X) := by
  refine q_met 8 (by first | exact rfl | decide +kernel) rfl (Nat.le_of_ble_eq_true rfl) (fun p e s m below meth c E hml hr hlk hI ls hl => ?_)
  have hx := E.1
  have hb := E.2.1
  have hl : lv_has ls 2 [(0, .ref a), (1, .int v1)] := hl
  have fr_σ : q_ow [(11, 0)] [] X σ σ := q_ow.rf
  obtain ⟨out, hout⟩ : ∃ o, o = F_X11_played X σ a v1 := ⟨_, rfl⟩
  have hF := hout.symm
  unfold F_X11_played at hF
  refine lv_iload_n hx hb dX11_played_0 rfl (lv_at hl 1 rfl) ?_
  refine q_if_lt (A := v1.toInt) E rfl (tgt := 9) dX11_played_1 (by decide) (fun c_1 => ?_) (fun c_1 => ?_)
  · skip
    replace hF := q_ifp hF c_1
    refine lv_aload_n hx hb dX11_played_9 rfl (lv_at hl 0 rfl) ?_
    refine lv_iconst (v := 5) hx hb dX11_played_10 (by decide) ?_
    have kc_2 : (5 : Int32).toInt = 5 := rfl
    refine q_ci (q_runV (As := [.int 5]) (rest := []) E (hml.trans hl.1.symm) hI (c_X11_none l X σ a (5 : Int32) ha) kv_X11_109 ha ⟨rfl, by decide⟩ (show vwCl[10]? = some (RX11, TX11, 17) from rfl) rfl ⟨Nat.le_of_ble_eq_true rfl, Nat.le_of_ble_eq_true rfl⟩ ⟨Nat.le_refl _, Nat.le_refl _⟩ rfl (Nat.le_of_ble_eq_true rfl) dX11_played_11) hI (by decide) (fun r_3 σ_4 H locs hpσ_4 hkσ_4 hI => ?_)
    obtain ⟨ahpσ_4, bhpσ_4, chpσ_4⟩ := hpσ_4
    have fr_σ_4 := fr_σ.call chpσ_4 rfl rfl
    replace hF := q_biX hF bhpσ_4
    exact q_reti E hr hlk hI ⟨(hF.trans hout), fr_σ_4⟩ dX11_played_14
  · skip
    replace hF := q_ifn hF (Int.not_lt.mpr c_1)
    refine lv_iload_n hx hb dX11_played_4 rfl (lv_at hl 1 rfl) ?_
    refine lv_iconst (v := 4) hx hb dX11_played_5 (by decide) ?_
    refine q_icmp_le (A := v1.toInt) (B := 4) E rfl (by decide) (tgt := 15) dX11_played_6 (by decide) (fun c_5 => ?_) (fun c_5 => ?_)
    · skip
      replace hF := q_ifn hF (Int.not_lt.mpr c_5)
      refine lv_aload_n hx hb dX11_played_15 rfl (lv_at hl 0 rfl) ?_
      refine gs_X11_80_11 E hI ha dX11_played_16 ?_
      refine lv_topi (fun f_6 ef_6 => ?_)
      replace hF := q_letX hF ef_6
      have bf_6 : 0 ≤ f_6.toInt ∧ f_6.toInt ≤ 1 := by rw [ef_6]; exact q_bd hI ha rfl
      refine q_if_ne (A := f_6.toInt) E rfl (tgt := 29) dX11_played_19 (by decide) (fun c_7 => ?_) (fun c_7 => ?_)
      · skip
        replace hF := q_ifn hF c_7
        refine lv_iload_n hx hb dX11_played_29 rfl (lv_at hl 1 rfl) ?_
        by_cases c_8 : v1.toInt = 0
        · refine lv_tableIn (off := 30) (tgt := 60) hx hb dX11_played_30 (by omega) (by omega) (by rw [c_8]; rfl) (by decide) ?_
          replace hF := q_ifp hF c_8
          refine lv_aload_n hx hb dX11_played_60 rfl (lv_at hl 0 rfl) ?_
          refine lv_aload_n hx hb dX11_played_61 rfl (lv_at hl 0 rfl) ?_
          refine gs_X11_73_11 E hI ha dX11_played_62 ?_
          refine gs_X11_404_7 E hI (q_tk (k' := 7) hI ha rfl (by decide)) dX11_played_65 ?_
          refine lv_topi (fun f_9 ef_9 => ?_)
          replace hF := q_letX hF ef_9
          refine q_ci (q_runV (As := [.int f_9]) (rest := []) E (hml.trans hl.1.symm) hI (c_X11_good l X σ a f_9 ha) kv_X11_156 ha ⟨rfl, by decide⟩ (show vwCl[10]? = some (RX11, TX11, 17) from rfl) rfl ⟨Nat.le_of_ble_eq_true rfl, Nat.le_of_ble_eq_true rfl⟩ ⟨Nat.le_refl _, Nat.le_refl _⟩ rfl (Nat.le_of_ble_eq_true rfl) dX11_played_68) hI (by decide) (fun r_10 σ_11 H locs hpσ_11 hkσ_11 hI => ?_)
          obtain ⟨ahpσ_11, bhpσ_11, chpσ_11⟩ := hpσ_11
          have fr_σ_11 := fr_σ.call chpσ_11 rfl rfl
          replace hF := q_biX hF bhpσ_11
          exact q_reti E hr hlk hI ⟨(hF.trans hout), fr_σ_11⟩ dX11_played_71
        replace hF := q_ifn hF c_8
        by_cases c_12 : v1.toInt = 1
        · refine lv_tableIn (off := 42) (tgt := 72) hx hb dX11_played_30 (by omega) (by omega) (by rw [c_12]; rfl) (by decide) ?_
          replace hF := q_ifp hF c_12
          refine lv_aload_n hx hb dX11_played_72 rfl (lv_at hl 0 rfl) ?_
          refine lv_aload_n hx hb dX11_played_73 rfl (lv_at hl 0 rfl) ?_
          refine gs_X11_73_11 E hI ha dX11_played_74 ?_
          refine gs_X11_407_7 E hI (q_tk (k' := 7) hI ha rfl (by decide)) dX11_played_77 ?_
          refine lv_topi (fun f_13 ef_13 => ?_)
          replace hF := q_letX hF ef_13
          refine q_ci (q_runV (As := [.int f_13]) (rest := []) E (hml.trans hl.1.symm) hI (c_X11_good l X σ a f_13 ha) kv_X11_156 ha ⟨rfl, by decide⟩ (show vwCl[10]? = some (RX11, TX11, 17) from rfl) rfl ⟨Nat.le_of_ble_eq_true rfl, Nat.le_of_ble_eq_true rfl⟩ ⟨Nat.le_refl _, Nat.le_refl _⟩ rfl (Nat.le_of_ble_eq_true rfl) dX11_played_80) hI (by decide) (fun r_14 σ_15 H locs hpσ_15 hkσ_15 hI => ?_)
          obtain ⟨ahpσ_15, bhpσ_15, chpσ_15⟩ := hpσ_15
          have fr_σ_15 := fr_σ.call chpσ_15 rfl rfl
          replace hF := q_biX hF bhpσ_15
          exact q_reti E hr hlk hI ⟨(hF.trans hout), fr_σ_15⟩ dX11_played_83
        replace hF := q_ifn hF c_12
        by_cases c_16 : v1.toInt = 2
        · refine lv_tableIn (off := 54) (tgt := 84) hx hb dX11_played_30 (by omega) (by omega) (by rw [c_16]; rfl) (by decide) ?_
          replace hF := q_ifp hF c_16
          refine lv_aload_n hx hb dX11_played_84 rfl (lv_at hl 0 rfl) ?_
          refine lv_aload_n hx hb dX11_played_85 rfl (lv_at hl 0 rfl) ?_
          refine gs_X11_73_11 E hI ha dX11_played_86 ?_
          refine gs_X11_408_7 E hI (q_tk (k' := 7) hI ha rfl (by decide)) dX11_played_89 ?_
          refine lv_topi (fun f_17 ef_17 => ?_)
          replace hF := q_letX hF ef_17
          refine q_ci (q_runV (As := [.int f_17]) (rest := []) E (hml.trans hl.1.symm) hI (c_X11_good l X σ a f_17 ha) kv_X11_156 ha ⟨rfl, by decide⟩ (show vwCl[10]? = some (RX11, TX11, 17) from rfl) rfl ⟨Nat.le_of_ble_eq_true rfl, Nat.le_of_ble_eq_true rfl⟩ ⟨Nat.le_refl _, Nat.le_refl _⟩ rfl (Nat.le_of_ble_eq_true rfl) dX11_played_92) hI (by decide) (fun r_18 σ_19 H locs hpσ_19 hkσ_19 hI => ?_)
          obtain ⟨ahpσ_19, bhpσ_19, chpσ_19⟩ := hpσ_19
          have fr_σ_19 := fr_σ.call chpσ_19 rfl rfl
          replace hF := q_biX hF bhpσ_19
          exact q_reti E hr hlk hI ⟨(hF.trans hout), fr_σ_19⟩ dX11_played_95
        replace hF := q_ifn hF c_16
        by_cases c_20 : v1.toInt = 3
        · refine lv_tableIn (off := 66) (tgt := 96) hx hb dX11_played_30 (by omega) (by omega) (by rw [c_20]; rfl) (by decide) ?_
          replace hF := q_ifp hF c_20
          refine lv_aload_n hx hb dX11_played_96 rfl (lv_at hl 0 rfl) ?_
          refine lv_aload_n hx hb dX11_played_97 rfl (lv_at hl 0 rfl) ?_
          refine gs_X11_73_11 E hI ha dX11_played_98 ?_
          refine gs_X11_411_7 E hI (q_tk (k' := 7) hI ha rfl (by decide)) dX11_played_101 ?_
          refine lv_topi (fun f_21 ef_21 => ?_)
          replace hF := q_letX hF ef_21
          refine q_ci (q_runV (As := [.int f_21]) (rest := []) E (hml.trans hl.1.symm) hI (c_X11_good l X σ a f_21 ha) kv_X11_156 ha ⟨rfl, by decide⟩ (show vwCl[10]? = some (RX11, TX11, 17) from rfl) rfl ⟨Nat.le_of_ble_eq_true rfl, Nat.le_of_ble_eq_true rfl⟩ ⟨Nat.le_refl _, Nat.le_refl _⟩ rfl (Nat.le_of_ble_eq_true rfl) dX11_played_104) hI (by decide) (fun r_22 σ_23 H locs hpσ_23 hkσ_23 hI => ?_)
          obtain ⟨ahpσ_23, bhpσ_23, chpσ_23⟩ := hpσ_23
          have fr_σ_23 := fr_σ.call chpσ_23 rfl rfl
          replace hF := q_biX hF bhpσ_23
          exact q_reti E hr hlk hI ⟨(hF.trans hout), fr_σ_23⟩ dX11_played_107
        replace hF := q_ifn hF c_20
        refine lv_tableOut (tgt := 108) hx hb dX11_played_30 (by omega) (by decide) ?_
        refine lv_aload_n hx hb dX11_played_108 rfl (lv_at hl 0 rfl) ?_
        refine lv_aload_n hx hb dX11_played_109 rfl (lv_at hl 0 rfl) ?_
        refine gs_X11_73_11 E hI ha dX11_played_110 ?_
        refine gs_X11_414_7 E hI (q_tk (k' := 7) hI ha rfl (by decide)) dX11_played_113 ?_
        refine lv_topi (fun f_24 ef_24 => ?_)
        replace hF := q_letX hF ef_24
        have bf_24 : 0 ≤ f_24.toInt ∧ f_24.toInt ≤ 1 := by rw [ef_24]; exact q_bd hI (q_tk (k' := 7) hI ha rfl (by decide)) rfl
        refine q_if_eq (A := f_24.toInt) E rfl (tgt := 123) dX11_played_116 (by decide) (fun c_25 => ?_) (fun c_25 => ?_)
        · skip
          replace hF := q_ifp hF c_25
          refine lv_iconst (v := 0) hx hb dX11_played_123 (by decide) ?_
          have kc_26 : (0 : Int32).toInt = 0 := rfl
          refine q_ci (q_runV (As := [.int 0]) (rest := []) E (hml.trans hl.1.symm) hI (c_X11_good l X σ a (0 : Int32) ha) kv_X11_156 ha ⟨rfl, by decide⟩ (show vwCl[10]? = some (RX11, TX11, 17) from rfl) rfl ⟨Nat.le_of_ble_eq_true rfl, Nat.le_of_ble_eq_true rfl⟩ ⟨Nat.le_refl _, Nat.le_refl _⟩ rfl (Nat.le_of_ble_eq_true rfl) dX11_played_124) hI (by decide) (fun r_27 σ_28 H locs hpσ_28 hkσ_28 hI => ?_)
          obtain ⟨ahpσ_28, bhpσ_28, chpσ_28⟩ := hpσ_28
          have fr_σ_28 := fr_σ.call chpσ_28 rfl rfl
          replace hF := q_biX hF bhpσ_28
          exact q_reti E hr hlk hI ⟨(hF.trans hout), fr_σ_28⟩ dX11_played_127
        · skip
          replace hF := q_ifn hF c_25
          refine lv_iconst (v := 1) hx hb dX11_played_119 (by decide) ?_
          refine lv_goto (tgt := 124) hx hb dX11_played_120 (by decide) ?_
          have kc_29 : (1 : Int32).toInt = 1 := rfl
          refine q_ci (q_runV (As := [.int 1]) (rest := []) E (hml.trans hl.1.symm) hI (c_X11_good l X σ a (1 : Int32) ha) kv_X11_156 ha ⟨rfl, by decide⟩ (show vwCl[10]? = some (RX11, TX11, 17) from rfl) rfl ⟨Nat.le_of_ble_eq_true rfl, Nat.le_of_ble_eq_true rfl⟩ ⟨Nat.le_refl _, Nat.le_refl _⟩ rfl (Nat.le_of_ble_eq_true rfl) dX11_played_124) hI (by decide) (fun r_30 σ_31 H locs hpσ_31 hkσ_31 hI => ?_)
          obtain ⟨ahpσ_31, bhpσ_31, chpσ_31⟩ := hpσ_31
          have fr_σ_31 := fr_σ.call chpσ_31 rfl rfl
          replace hF := q_biX hF bhpσ_31
          exact q_reti E hr hlk hI ⟨(hF.trans hout), fr_σ_31⟩ dX11_played_127
      · skip
        replace hF := q_ifp hF c_7
        refine lv_aload_n hx hb dX11_played_22 rfl (lv_at hl 0 rfl) ?_
        refine lv_bipush (v := 8) hx hb dX11_played_23 (by decide) ?_
        have kc_32 : (8 : Int32).toInt = 8 := rfl
        refine q_ci (q_runV (As := [.int 8]) (rest := []) E (hml.trans hl.1.symm) hI (c_X11_none l X σ a (8 : Int32) ha) kv_X11_109 ha ⟨rfl, by decide⟩ (show vwCl[10]? = some (RX11, TX11, 17) from rfl) rfl ⟨Nat.le_of_ble_eq_true rfl, Nat.le_of_ble_eq_true rfl⟩ ⟨Nat.le_refl _, Nat.le_refl _⟩ rfl (Nat.le_of_ble_eq_true rfl) dX11_played_25) hI (by decide) (fun r_33 σ_34 H locs hpσ_34 hkσ_34 hI => ?_)
        obtain ⟨ahpσ_34, bhpσ_34, chpσ_34⟩ := hpσ_34
        have fr_σ_34 := fr_σ.call chpσ_34 rfl rfl
        replace hF := q_biX hF bhpσ_34
        exact q_reti E hr hlk hI ⟨(hF.trans hout), fr_σ_34⟩ dX11_played_28
    · skip
      replace hF := q_ifp hF c_5
      refine lv_aload_n hx hb dX11_played_9 rfl (lv_at hl 0 rfl) ?_
      refine lv_iconst (v := 5) hx hb dX11_played_10 (by decide) ?_
      have kc_35 : (5 : Int32).toInt = 5 := rfl
      refine q_ci (q_runV (As := [.int 5]) (rest := []) E (hml.trans hl.1.symm) hI (c_X11_none l X σ a (5 : Int32) ha) kv_X11_109 ha ⟨rfl, by decide⟩ (show vwCl[10]? = some (RX11, TX11, 17) from rfl) rfl ⟨Nat.le_of_ble_eq_true rfl, Nat.le_of_ble_eq_true rfl⟩ ⟨Nat.le_refl _, Nat.le_refl _⟩ rfl (Nat.le_of_ble_eq_true rfl) dX11_played_11) hI (by decide) (fun r_36 σ_37 H locs hpσ_37 hkσ_37 hI => ?_)
      obtain ⟨ahpσ_37, bhpσ_37, chpσ_37⟩ := hpσ_37
      have fr_σ_37 := fr_σ.call chpσ_37 rfl rfl
      replace hF := q_biX hF bhpσ_37
      exact q_reti E hr hlk hI ⟨(hF.trans hout), fr_σ_37⟩ dX11_played_14
end
