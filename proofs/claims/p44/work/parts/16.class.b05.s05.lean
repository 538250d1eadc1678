section
set_option maxRecDepth 100000 in
set_option maxHeartbeats 4000000 in
theorem c_X11_play (l : Launch) (X : XW) (σ : ST) (a : Nat) (v1 : Int32) (ha : q_kd X a = 11) : Met l yX11_play (q_ws yX11_play cX11_play 2 (some .int)) (q_rm 7 166) (q_P X σ [.ref a, .int v1]) (q_Qi X 8 σ (fun (r : Int32) (σ' : ST) => (r, σ') = F_X11_play X σ a v1 ∧ q_ow [(1, 4), (1, 5), (1, 6), (1, 7), (1, 9), (3, 0), (3, 1), (7, 0), (7, 1), (7, 2), (7, 3), (7, 4), (7, 5), (7, 6), (11, 0), (11, 16), (20, 99)] [] X σ σ')) 0 0 (q_reg X) := by
  refine q_met 8 (by first | exact rfl | decide +kernel) rfl (Nat.le_of_ble_eq_true rfl) (fun p e s m below meth c E hml hr hlk hI ls hl => ?_)
  have hx := E.1
  have hb := E.2.1
  have hl : lv_has ls 2 [(0, .ref a), (1, .int v1)] := hl
  have fr_σ : q_ow [(1, 4), (1, 5), (1, 6), (1, 7), (1, 9), (3, 0), (3, 1), (7, 0), (7, 1), (7, 2), (7, 3), (7, 4), (7, 5), (7, 6), (11, 0), (11, 16), (20, 99)] [] X σ σ := q_ow.rf
  obtain ⟨out, hout⟩ : ∃ o, o = F_X11_play X σ a v1 := ⟨_, rfl⟩
  have hF := hout.symm
  unfold F_X11_play at hF
  refine lv_iload_n hx hb dX11_play_0 rfl (lv_at hl 1 rfl) ?_
  refine q_if_lt (A := v1.toInt) E rfl (tgt := 11) dX11_play_1 (by decide) (fun c_1 => ?_) (fun c_1 => ?_)
  · skip
    replace hF := q_ifp hF c_1
    refine lv_aload_n hx hb dX11_play_11 rfl (lv_at hl 0 rfl) ?_
    refine lv_iconst (v := 5) hx hb dX11_play_12 (by decide) ?_
    have kc_2 : (5 : Int32).toInt = 5 := rfl
    refine q_ci (q_runV (As := [.int 5]) (rest := []) E (hml.trans hl.1.symm) hI (c_X11_none l X σ a (5 : Int32) ha) kv_X11_109 ha ⟨rfl, by decide⟩ (show vwCl[10]? = some (RX11, TX11, 17) from rfl) rfl ⟨Nat.le_of_ble_eq_true rfl, Nat.le_of_ble_eq_true rfl⟩ ⟨Nat.le_refl _, Nat.le_refl _⟩ rfl (Nat.le_of_ble_eq_true rfl) dX11_play_13) hI (by decide) (fun r_3 σ_4 H locs hpσ_4 hkσ_4 hI => ?_)
    obtain ⟨ahpσ_4, bhpσ_4, chpσ_4⟩ := hpσ_4
    have fr_σ_4 := fr_σ.call chpσ_4 rfl rfl
    replace hF := q_biX hF bhpσ_4
    exact q_reti E hr hlk hI ⟨(hF.trans hout), fr_σ_4⟩ dX11_play_16
  · skip
    replace hF := q_ifn hF (Int.not_lt.mpr c_1)
    refine lv_iload_n hx hb dX11_play_4 rfl (lv_at hl 1 rfl) ?_
    refine lv_sipush (v := 9999) hx hb dX11_play_5 (by decide) ?_
    refine q_icmp_le (A := v1.toInt) (B := 9999) E rfl (by decide) (tgt := 17) dX11_play_8 (by decide) (fun c_5 => ?_) (fun c_5 => ?_)
    · skip
      replace hF := q_ifn hF (Int.not_lt.mpr c_5)
      refine lv_aload_n hx hb dX11_play_17 rfl (lv_at hl 0 rfl) ?_
      refine gs_X11_42_11 E hI ha dX11_play_18 ?_
      refine gs_X11_162_1 E hI (q_tk (k' := 1) hI ha rfl (by decide)) dX11_play_21 ?_
      refine gs_X11_396_8 E hI (q_tk (k' := 8) hI (q_tk (k' := 1) hI ha rfl (by decide)) rfl (by decide)) dX11_play_24 ?_
      refine lv_topi (fun f_6 ef_6 => ?_)
      replace hF := q_letX hF ef_6
      have bf_6 : 0 ≤ f_6.toInt ∧ f_6.toInt ≤ 1 := by rw [ef_6]; exact q_bd hI (q_tk (k' := 8) hI (q_tk (k' := 1) hI ha rfl (by decide)) rfl (by decide)) rfl
      refine q_if_ne (A := f_6.toInt) E rfl (tgt := 37) dX11_play_27 (by decide) (fun c_7 => ?_) (fun c_7 => ?_)
      · skip
        replace hF := q_ifn hF c_7
        refine lv_aload_n hx hb dX11_play_37 rfl (lv_at hl 0 rfl) ?_
        refine gs_X11_73_11 E hI ha dX11_play_38 ?_
        refine lv_aload_n hx hb dX11_play_41 rfl (lv_at hl 0 rfl) ?_
        refine gs_X11_42_11 E hI ha dX11_play_42 ?_
        refine lv_iload_n hx hb dX11_play_45 rfl (lv_at hl 1 rfl) ?_
        refine q_cv (q_runV (As := [.ref (q_rf X a 8), .int v1]) (rest := []) E (hml.trans hl.1.symm) hI (c_X7_go l X σ (q_rf X a 14) (q_rf X a 8) v1 (q_tk (k' := 7) hI ha rfl (by decide)) (q_tk (k' := 1) hI ha rfl (by decide))) kv_X11_399 (q_tk (k' := 7) hI ha rfl (by decide)) ⟨rfl, by decide⟩ (show vwCl[6]? = some (RX7, TX7, 8) from rfl) rfl ⟨Nat.le_of_ble_eq_true rfl, Nat.le_of_ble_eq_true rfl⟩ ⟨Nat.le_refl _, Nat.le_refl _⟩ rfl (Nat.le_of_ble_eq_true rfl) dX11_play_46) hI (by decide) (fun σ_9 H locs hpσ_9 hkσ_9 hI => ?_)
        obtain ⟨ahpσ_9, bhpσ_9⟩ := hpσ_9
        have fr_σ_9 := fr_σ.call bhpσ_9 rfl rfl
        replace hF := q_letX hF ahpσ_9
        refine lv_aload_n hx hb dX11_play_49 rfl (lv_at hl 0 rfl) ?_
        refine lv_iconst (v := 1) hx hb dX11_play_50 (by decide) ?_
        refine ps_X11_80_11 E hI ha (by decide) (by decide) (by decide) dX11_play_51 (fun H locs σ_10 hσ_10 hI => ?_)
        replace hF := q_letX hF hσ_10
        have fr_σ_10 := fr_σ_9.si hσ_10 ha rfl
        refine lv_aload_n hx hb dX11_play_54 rfl (lv_at hl 0 rfl) ?_
        refine lv_aload_n hx hb dX11_play_55 rfl (lv_at hl 0 rfl) ?_
        refine gs_X11_73_11 E hI ha dX11_play_56 ?_
        refine gs_X11_403_7 E hI (q_tk (k' := 7) hI ha rfl (by decide)) dX11_play_59 ?_
        refine lv_topi (fun f_11 ef_11 => ?_)
        replace hF := q_letX hF ef_11
        refine q_ci (q_runV (As := [.int f_11]) (rest := []) E (hml.trans hl.1.symm) hI (c_X11_good l X σ_10 a f_11 ha) kv_X11_156 ha ⟨rfl, by decide⟩ (show vwCl[10]? = some (RX11, TX11, 17) from rfl) rfl ⟨Nat.le_of_ble_eq_true rfl, Nat.le_of_ble_eq_true rfl⟩ ⟨Nat.le_refl _, Nat.le_refl _⟩ rfl (Nat.le_of_ble_eq_true rfl) dX11_play_62) hI (by decide) (fun r_12 σ_13 H locs hpσ_13 hkσ_13 hI => ?_)
        obtain ⟨ahpσ_13, bhpσ_13, chpσ_13⟩ := hpσ_13
        have fr_σ_13 := fr_σ_10.call chpσ_13 rfl rfl
        replace hF := q_biX hF bhpσ_13
        exact q_reti E hr hlk hI ⟨(hF.trans hout), fr_σ_13⟩ dX11_play_65
      · skip
        replace hF := q_ifp hF c_7
        refine lv_aload_n hx hb dX11_play_30 rfl (lv_at hl 0 rfl) ?_
        refine lv_bipush (v := 8) hx hb dX11_play_31 (by decide) ?_
        have kc_14 : (8 : Int32).toInt = 8 := rfl
        refine q_ci (q_runV (As := [.int 8]) (rest := []) E (hml.trans hl.1.symm) hI (c_X11_none l X σ a (8 : Int32) ha) kv_X11_109 ha ⟨rfl, by decide⟩ (show vwCl[10]? = some (RX11, TX11, 17) from rfl) rfl ⟨Nat.le_of_ble_eq_true rfl, Nat.le_of_ble_eq_true rfl⟩ ⟨Nat.le_refl _, Nat.le_refl _⟩ rfl (Nat.le_of_ble_eq_true rfl) dX11_play_33) hI (by decide) (fun r_15 σ_16 H locs hpσ_16 hkσ_16 hI => ?_)
        obtain ⟨ahpσ_16, bhpσ_16, chpσ_16⟩ := hpσ_16
        have fr_σ_16 := fr_σ.call chpσ_16 rfl rfl
        replace hF := q_biX hF bhpσ_16
        exact q_reti E hr hlk hI ⟨(hF.trans hout), fr_σ_16⟩ dX11_play_36
    · skip
      replace hF := q_ifp hF c_5
      refine lv_aload_n hx hb dX11_play_11 rfl (lv_at hl 0 rfl) ?_
      refine lv_iconst (v := 5) hx hb dX11_play_12 (by decide) ?_
      have kc_17 : (5 : Int32).toInt = 5 := rfl
      refine q_ci (q_runV (As := [.int 5]) (rest := []) E (hml.trans hl.1.symm) hI (c_X11_none l X σ a (5 : Int32) ha) kv_X11_109 ha ⟨rfl, by decide⟩ (show vwCl[10]? = some (RX11, TX11, 17) from rfl) rfl ⟨Nat.le_of_ble_eq_true rfl, Nat.le_of_ble_eq_true rfl⟩ ⟨Nat.le_refl _, Nat.le_refl _⟩ rfl (Nat.le_of_ble_eq_true rfl) dX11_play_13) hI (by decide) (fun r_18 σ_19 H locs hpσ_19 hkσ_19 hI => ?_)
      obtain ⟨ahpσ_19, bhpσ_19, chpσ_19⟩ := hpσ_19
      have fr_σ_19 := fr_σ.call chpσ_19 rfl rfl
      replace hF := q_biX hF bhpσ_19
      exact q_reti E hr hlk hI ⟨(hF.trans hout), fr_σ_19⟩ dX11_play_16
end
