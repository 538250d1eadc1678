section
set_option maxRecDepth 100000 in
set_option maxHeartbeats 4000000 in
theorem c_X11_seedsStatus (l : Launch) (X : XW) (σ : ST) (a : Nat) (v1 : Int32) (v2 : Int32) (v3 : Int32) (ha : q_kd X a = 11) : Met l yX11_seedsStatus (q_ws yX11_seedsStatus cX11_seedsStatus 4 (some .int)) (q_rm 1 21) (q_P X σ [.ref a, .int v1, .int v2, .int v3]) (q_Qi X 9 σ (fun (r : Int32) (σ' : ST) => σ' = σ ∧ r = F_X11_seedsStatus X σ a v1 v2 v3)) 0 0 (q_reg X) := by
  refine q_met 9 (by first | exact rfl | decide +kernel) rfl (Nat.le_of_ble_eq_true rfl) (fun p e s m below meth c E hml hr hlk hI ls hl => ?_)
  have hx := E.1
  have hb := E.2.1
  have hl : lv_has ls 4 [(0, .ref a), (1, .int v1), (2, .int v2), (3, .int v3)] := hl
  obtain ⟨out, hout⟩ : ∃ o, o = F_X11_seedsStatus X σ a v1 v2 v3 := ⟨_, rfl⟩
  have hF := hout.symm
  unfold F_X11_seedsStatus at hF
  refine lv_aload_n hx hb dX11_seedsStatus_0 rfl (lv_at hl 0 rfl) ?_
  refine lv_iload_n hx hb dX11_seedsStatus_1 rfl (lv_at hl 1 rfl) ?_
  refine q_ci (q_runV (As := [.int v1]) (rest := []) E (hml.trans hl.1.symm) hI (c_X11_isPlayer l X σ a v1 ha) kv_X11_219 ha ⟨rfl, by decide⟩ (show vwCl[10]? = some (RX11, TX11, 17) from rfl) rfl ⟨Nat.le_of_ble_eq_true rfl, Nat.le_of_ble_eq_true rfl⟩ ⟨Nat.le_refl _, Nat.le_refl _⟩ rfl (Nat.le_of_ble_eq_true rfl) dX11_seedsStatus_2) hI (by decide) (fun r_1 σ_2 H locs hpσ_2 hkσ_2 hI => ?_)
  obtain ⟨ahpσ_2, bhpσ_2, chpσ_2⟩ := hpσ_2
  rw [ahpσ_2] at hI
  replace hF := q_letX hF chpσ_2
  refine q_if_ne (A := r_1.toInt) E rfl (tgt := 10) dX11_seedsStatus_5 (by decide) (fun c_3 => ?_) (fun c_3 => ?_)
  · skip
    replace hF := q_ifn hF c_3
    refine lv_iload_n hx hb dX11_seedsStatus_10 rfl (lv_at hl 2 rfl) ?_
    refine q_if_lt (A := v2.toInt) E rfl (tgt := 36) dX11_seedsStatus_11 (by decide) (fun c_4 => ?_) (fun c_4 => ?_)
    · skip
      replace hF := q_ifp hF c_4
      refine lv_iconst (v := 5) hx hb dX11_seedsStatus_36 (by decide) ?_
      exact q_reti E hr hlk hI ⟨rfl, (hF.trans hout)⟩ dX11_seedsStatus_37
    · skip
      replace hF := q_ifn hF (Int.not_lt.mpr c_4)
      refine lv_iload_n hx hb dX11_seedsStatus_14 rfl (lv_at hl 3 rfl) ?_
      refine lv_iconst (v := 1) hx hb dX11_seedsStatus_15 (by decide) ?_
      refine q_icmp_lt (A := v3.toInt) (B := 1) E rfl (by decide) (tgt := 36) dX11_seedsStatus_16 (by decide) (fun c_5 => ?_) (fun c_5 => ?_)
      · skip
        replace hF := q_ifp hF c_5
        refine lv_iconst (v := 5) hx hb dX11_seedsStatus_36 (by decide) ?_
        exact q_reti E hr hlk hI ⟨rfl, (hF.trans hout)⟩ dX11_seedsStatus_37
      · skip
        replace hF := q_ifn hF (Int.not_lt.mpr c_5)
        refine lv_iload_n hx hb dX11_seedsStatus_19 rfl (lv_at hl 3 rfl) ?_
        refine lv_bipush (v := 20) hx hb dX11_seedsStatus_20 (by decide) ?_
        refine q_icmp_gt (A := v3.toInt) (B := 20) E rfl (by decide) (tgt := 36) dX11_seedsStatus_22 (by decide) (fun c_6 => ?_) (fun c_6 => ?_)
        · skip
          replace hF := q_ifp hF c_6
          refine lv_iconst (v := 5) hx hb dX11_seedsStatus_36 (by decide) ?_
          exact q_reti E hr hlk hI ⟨rfl, (hF.trans hout)⟩ dX11_seedsStatus_37
        · skip
          replace hF := q_ifn hF (Int.not_lt.mpr c_6)
          refine lv_iload_n hx hb dX11_seedsStatus_25 rfl (lv_at hl 2 rfl) ?_
          refine lv_sipush (v := 9999) hx hb dX11_seedsStatus_26 (by decide) ?_
          refine lv_iload_n hx hb dX11_seedsStatus_29 rfl (lv_at hl 3 rfl) ?_
          refine lv_isub hx hb dX11_seedsStatus_30 ?_
          refine lv_topi (fun z_7 ez_7 => ?_)
          replace hF := q_letX hF ez_7
          refine lv_iconst (v := 1) hx hb dX11_seedsStatus_31 (by decide) ?_
          refine lv_iadd hx hb dX11_seedsStatus_32 ?_
          refine lv_topi (fun z_8 ez_8 => ?_)
          replace hF := q_letX hF ez_8
          refine q_icmp_le (A := v2.toInt) (B := z_8.toInt) E rfl rfl (tgt := 38) dX11_seedsStatus_33 (by decide) (fun c_9 => ?_) (fun c_9 => ?_)
          · skip
            replace hF := q_ifn hF (Int.not_lt.mpr c_9)
            refine lv_aload_n hx hb dX11_seedsStatus_38 rfl (lv_at hl 0 rfl) ?_
            refine gs_X11_42_11 E hI ha dX11_seedsStatus_39 ?_
            refine gs_X11_162_1 E hI (q_tk (k' := 1) hI ha rfl (by decide)) dX11_seedsStatus_42 ?_
            refine gs_X11_396_8 E hI (q_tk (k' := 8) hI (q_tk (k' := 1) hI ha rfl (by decide)) rfl (by decide)) dX11_seedsStatus_45 ?_
            refine lv_topi (fun f_10 ef_10 => ?_)
            replace hF := q_letX hF ef_10
            have bf_10 : 0 ≤ f_10.toInt ∧ f_10.toInt ≤ 1 := by rw [ef_10]; exact q_bd hI (q_tk (k' := 8) hI (q_tk (k' := 1) hI ha rfl (by decide)) rfl (by decide)) rfl
            refine q_if_eq (A := f_10.toInt) E rfl (tgt := 55) dX11_seedsStatus_48 (by decide) (fun c_11 => ?_) (fun c_11 => ?_)
            · skip
              replace hF := q_ifp hF c_11
              refine lv_bipush (v := 8) hx hb dX11_seedsStatus_55 (by decide) ?_
              exact q_reti E hr hlk hI ⟨rfl, (hF.trans hout)⟩ dX11_seedsStatus_57
            · skip
              replace hF := q_ifn hF c_11
              refine lv_iconst (v := 0) hx hb dX11_seedsStatus_51 (by decide) ?_
              refine lv_goto (tgt := 57) hx hb dX11_seedsStatus_52 (by decide) ?_
              exact q_reti E hr hlk hI ⟨rfl, (hF.trans hout)⟩ dX11_seedsStatus_57
          · skip
            replace hF := q_ifp hF c_9
            refine lv_iconst (v := 5) hx hb dX11_seedsStatus_36 (by decide) ?_
            exact q_reti E hr hlk hI ⟨rfl, (hF.trans hout)⟩ dX11_seedsStatus_37
  · skip
    replace hF := q_ifp hF c_3
    refine lv_iconst (v := 2) hx hb dX11_seedsStatus_8 (by decide) ?_
    exact q_reti E hr hlk hI ⟨rfl, (hF.trans hout)⟩ dX11_seedsStatus_9
end
