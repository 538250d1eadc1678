set_option maxRecDepth 100000 in
set_option maxHeartbeats 4000000 in
theorem n_X5 (l : Launch) (D : DW) (X : XW) (σ : ST) (h sz : Nat) (v1 : Int32) (kn : Nat) (hv : 0 ≤ v1.toInt) (hkn : v1.toNatClampNeg = kn) (hk : kn < 1000) : Met l yX5_init (q_ws yX5_init cX5_init 2 none) { frames := 1, cells := 0 + 1, slots := 0 + kn, locals := 24 } (q_PN D X σ h sz 4 1 (fun k => defaultValue (tyX5 k)) [.ref h, .int v1]) (q_QN X σ h sz 5 (fun _ _ => True)) (0 + 1) (0 + kn) (q_nw h sz) := by
  refine b_met (by decide +kernel) rfl rfl (Nat.le_of_ble_eq_true rfl) (fun p e s m below meth c E hml hr hlk hnm hsz hD hw0 h00 hob ls hl => ?_)
  subst hsz
  have hxx := E.1
  have hb := E.2.1
  have hl : lv_has ls 2 [(0, .ref h), (1, .int v1)] := hl
  have hS : va_S (q_nw h s.heap.size) s.heap s.heap [] := va_S.rf
  have hx0 : q_ext (q_nw h s.heap.size) X X σ σ := q_ext.rf
  have hAh : q_nw h s.heap.size h := Or.inl rfl
  have hlt := t_lt hob
  refine lv_aload_n hxx hb dX5_init_0 rfl (lv_at hl 0 rfl) ?_
  refine W.objInit hxx hb E.2.2.1 (E.2.2.2.1 _ bw_47) (E.2.2.2.1 _ bw_26) (E.2.2.2.1 _ bw_27) rfl (by rw [hml]; exact hl.1) rfl dX5_init_1 (Nat.le_of_ble_eq_true rfl) (Nat.le_of_ble_eq_true rfl) ?_
  refine W.eq (g2 := F0 m 4 ls []) rfl ?_
  refine lv_aload_n hxx hb dX5_init_4 rfl (lv_at hl 0 rfl) ?_
  refine lv_iconst (v := 0) hxx hb dX5_init_5 (by decide) ?_
  refine lv_iload_n hxx hb dX5_init_6 rfl (lv_at hl 1 rfl) ?_
  refine va_mmax hxx hb (hml.trans hl.1.symm) E.2.2.1 (E.2.2.2.1 _ (q_in_t (i := 48) (by decide +kernel) rfl)) (E.2.2.2.1 _ (q_in_t (i := 49) (by decide +kernel) rfl)) (E.2.2.2.1 _ (q_in_t (i := 5) (by decide +kernel) rfl)) (E.2.2.2.1 _ (q_in_t (i := 50) (by decide +kernel) rfl)) (Nat.le_of_ble_eq_true rfl) (Nat.le_of_ble_eq_true rfl) (Nat.zero_le _) (Nat.zero_le _) dX5_init_7 ?_
  have hmx : (if (0 : Int32) < v1 then v1 else 0) = v1 := by
    by_cases q : (0 : Int32) < v1
    · rw [if_pos q]
    · rw [if_neg q]; rw [Int32.lt_iff_toInt_lt, q_z0] at q; exact Int32.toInt_inj.mp (by rw [q_z0]; omega)
  rw [hmx]
  refine b_newa E hS bw_56 (t := 1) rfl (fun _ _ => rfl) (N' := kn) hv hkn (by show kn * 4 ≤ 536870912; omega) (Nat.le_of_ble_eq_true rfl) (Nat.le_refl _) dX5_init_10 (fun q1 H2 e3 z4 o5 r6 S7 => ?_)
  have w8 : q_w X σ H2 := hw0.kept (fun a ha => o5 a (hw0.lt ha))
  have b9 := hob.kept (o5 h hlt)
  have t10 := t_lt b9
  have k11 : q_kd X q1 = 0 := hw0.fresh (Nat.le_of_eq e3.symm)
  have g12 := S7.1
  refine b_put E S7 hAh hnm (f := 0) b9 (show vwCl[4]? = some (RX5, TX5, 1) from rfl) q_inX5 tyX5_ok nmX5 (by decide) bw_51 rfl (fun _ => rfl) (tyX5_ok 0 (by decide)) rfl rfl dX5_init_12 (fun H13 locs1 z14 o15 b16 S17 => ?_)
  have w18 : q_w X σ H13 := w8.kept (fun a ha => o15 a (fun e => ha (by rw [e]; exact h00)))
  have t19 := t_lt b16
  have r20 := (o15 q1 (by omega)).trans r6
  have y25 := raw_lt r20
  obtain ⟨X21, dX21⟩ : ∃ Y, Y = q_xg X q1 20 kn (fun _ => 0) := ⟨_, rfl⟩
  obtain ⟨σ22, dσ22⟩ : ∃ τ, τ = q_sg σ q1 (fun _ => 0 : Nat → Int32) (fun _ => 0) 0 := ⟨_, rfl⟩
  have x23 : q_ext (fun a => a = q1) X X21 σ σ22 := by rw [dX21, dσ22]; exact q_ext.add k11
  have w24 : q_w X21 σ22 H13 := by
    rw [dX21, dσ22]
    exact w18.add k11 (fun f hf => absurd rfl hf) (fun q => absurd rfl q) (by omega) (fun q => absurd q (by decide)) (fun f => q_inU rfl) (fun q => by rcases q with q | q <;> exact absurd q (by decide)) (q_cfA hD (by decide) (t0 := 1) rfl r20 (fun j => rfl))
  have D26 : X21.1 = D := x23.1.trans hD
  have k27 : q_kd X21 q1 = 20 := by rw [dX21]; exact q_xg_h
  have n28 : q_ln X21 q1 = kn := by rw [dX21]; exact if_pos rfl
  have x29 := hx0.tr x23 (fun a e => Or.inr (by rw [e]; omega))
  have k30 : q_kd X21 h = 0 := x23.k0 h00 (by omega)
  obtain ⟨X31, dX31⟩ : ∃ Y, Y = q_xg X21 h 5 0 (fun f => ([q1] : List Nat).getD f 0) := ⟨_, rfl⟩
  obtain ⟨σ32, dσ32⟩ : ∃ τ, τ = q_sg σ22 h (fun f => ([0] : List Int32).getD f 0) (fun f => ([0] : List Int64).getD f 0) 0 := ⟨_, rfl⟩
  have x33 : q_ext (fun a => a = h) X21 X31 σ22 σ32 := by rw [dX31, dσ32]; exact q_ext.add k30
  have hrk : ∀ f, f < 40 → q_rk 5 f ≠ 0 → q_kd X21 (([q1] : List Nat).getD f 0) = q_rk 5 f := fun f h40 hf => match f, h40, hf with | 0, _, _ => k27 | 1, _, hf => absurd rfl hf | 2, _, hf => absurd rfl hf | 3, _, hf => absurd rfl hf | 4, _, hf => absurd rfl hf | 5, _, hf => absurd rfl hf | 6, _, hf => absurd rfl hf | 7, _, hf => absurd rfl hf | 8, _, hf => absurd rfl hf | 9, _, hf => absurd rfl hf | 10, _, hf => absurd rfl hf | 11, _, hf => absurd rfl hf | 12, _, hf => absurd rfl hf | 13, _, hf => absurd rfl hf | 14, _, hf => absurd rfl hf | 15, _, hf => absurd rfl hf | 16, _, hf => absurd rfl hf | 17, _, hf => absurd rfl hf | 18, _, hf => absurd rfl hf | 19, _, hf => absurd rfl hf | 20, _, hf => absurd rfl hf | 21, _, hf => absurd rfl hf | 22, _, hf => absurd rfl hf | 23, _, hf => absurd rfl hf | 24, _, hf => absurd rfl hf | 25, _, hf => absurd rfl hf | 26, _, hf => absurd rfl hf | 27, _, hf => absurd rfl hf | 28, _, hf => absurd rfl hf | 29, _, hf => absurd rfl hf | 30, _, hf => absurd rfl hf | 31, _, hf => absurd rfl hf | 32, _, hf => absurd rfl hf | 33, _, hf => absurd rfl hf | 34, _, hf => absurd rfl hf | 35, _, hf => absurd rfl hf | 36, _, hf => absurd rfl hf | 37, _, hf => absurd rfl hf | 38, _, hf => absurd rfl hf | 39, _, hf => absurd rfl hf | (n + 40), h40, _ => absurd h40 (by omega)
  have hB : ∀ f, f < 40 → (q_bn 5 f).1 ≤ ((([0] : List Int32).getD f 0).toInt) ∧ (([0] : List Int32).getD f 0).toInt ≤ (q_bn 5 f).2 := by decide +kernel
  have w34 : q_w X31 σ32 H13 := by
    rw [dX31, dσ32]
    exact w24.add k30 (q_hrk hrk) (fun q => absurd rfl q) (by decide) (fun q => absurd q (by decide)) (q_hB hB (by decide)) (fun q => by rcases q with q | q <;> exact absurd q (by decide)) (q_cfO D26 ⟨rfl, by decide⟩ (show vwCl[4]? = some (RX5, TX5, 1) from rfl) b16 (fun f hf => match f, hf with | 0, _ => rfl | (n + 1), hf => absurd hf (by omega)))
  have k35 : q_kd X31 h = 5 := by rw [dX31]; exact q_xg_h
  have x36 := x29.tr x33 (fun a e => Or.inl e)
  have k37 := x33.kd k27 (by decide)
  exact b_ret E hr hlk S17 x36 k35 trivial w34 dX5_init_15

set_option maxRecDepth 100000 in
set_option maxHeartbeats 4000000 in
theorem n_X10 (l : Launch) (D : DW) (X : XW) (σ : ST) (h sz : Nat) : Met l yX10_init (q_ws yX10_init cX10_init 1 none) { frames := 1, cells := 0 + 1, slots := 0 + 60, locals := 12 } (q_PN D X σ h sz 9 3 (fun k => defaultValue (tyX10 k)) [.ref h]) (q_QN X σ h sz 10 (fun _ σ' => σ'.1 h 0 = 0 ∧ σ'.1 h 1 = -1)) (0 + 1) (0 + 60) (q_nw h sz) := by
  refine b_met (by decide +kernel) rfl rfl (Nat.le_of_ble_eq_true rfl) (fun p e s m below meth c E hml hr hlk hnm hsz hD hw0 h00 hob ls hl => ?_)
  subst hsz
  have hxx := E.1
  have hb := E.2.1
  have hl : lv_has ls 1 [(0, .ref h)] := hl
  have hS : va_S (q_nw h s.heap.size) s.heap s.heap [] := va_S.rf
  have hx0 : q_ext (q_nw h s.heap.size) X X σ σ := q_ext.rf
  have hAh : q_nw h s.heap.size h := Or.inl rfl
  have hlt := t_lt hob
  refine lv_aload_n hxx hb dX10_init_0 rfl (lv_at hl 0 rfl) ?_
  refine W.objInit hxx hb E.2.2.1 (E.2.2.2.1 _ bw_429) (E.2.2.2.1 _ bw_26) (E.2.2.2.1 _ bw_27) rfl (by rw [hml]; exact hl.1) rfl dX10_init_1 (Nat.le_of_ble_eq_true rfl) (Nat.le_of_ble_eq_true rfl) ?_
  refine W.eq (g2 := F0 m 4 ls []) rfl ?_
  refine lv_aload_n hxx hb dX10_init_4 rfl (lv_at hl 0 rfl) ?_
  refine lv_iconst (v := 0) hxx hb dX10_init_5 (by decide) ?_
  refine b_put E hS hAh hnm (f := 0) hob (show vwCl[9]? = some (RX10, TX10, 3) from rfl) q_inX10 tyX10_ok nmX10 (by decide) bw_430 rfl (fun _ => rfl) (tyX10_ok 0 (by decide)) rfl rfl dX10_init_6 (fun H1 locs1 z2 o3 b4 S5 => ?_)
  have w6 : q_w X σ H1 := hw0.kept (fun a ha => o3 a (fun e => ha (by rw [e]; exact h00)))
  have t7 := t_lt b4
  refine lv_aload_n hxx hb dX10_init_9 rfl (lv_at hl 0 rfl) ?_
  refine lv_iconst (v := (-1)) hxx hb dX10_init_10 (by decide) ?_
  refine b_put E S5 hAh hnm (f := 1) b4 (show vwCl[9]? = some (RX10, TX10, 3) from rfl) q_inX10 tyX10_ok nmX10 (by decide) bw_432 rfl (fun _ => rfl) (tyX10_ok 1 (by decide)) rfl rfl dX10_init_11 (fun H8 locs1 z9 o10 b11 S12 => ?_)
  have w13 : q_w X σ H8 := w6.kept (fun a ha => o10 a (fun e => ha (by rw [e]; exact h00)))
  have t14 := t_lt b11
  refine lv_aload_n hxx hb dX10_init_14 rfl (lv_at hl 0 rfl) ?_
  refine lv_bipush (v := 60) hxx hb dX10_init_15 (by decide) ?_
  refine b_newa E S12 bw_441 (t := 2) rfl (fun _ _ => rfl) (N' := 60) (by decide) (by decide) (by decide) (Nat.le_of_ble_eq_true rfl) (Nat.le_of_ble_eq_true rfl) dX10_init_17 (fun q15 H16 e17 z18 o19 r20 S21 => ?_)
  have w22 : q_w X σ H16 := w13.kept (fun a ha => o19 a (w13.lt ha))
  have b23 := b11.kept (o19 h t14)
  have t24 := t_lt b23
  have k25 : q_kd X q15 = 0 := w13.fresh (Nat.le_of_eq e17.symm)
  have g26 := S21.1
  refine b_put E S21 hAh hnm (f := 2) b23 (show vwCl[9]? = some (RX10, TX10, 3) from rfl) q_inX10 tyX10_ok nmX10 (by decide) bw_433 rfl (fun _ => rfl) (tyX10_ok 2 (by decide)) rfl rfl dX10_init_19 (fun H27 locs1 z28 o29 b30 S31 => ?_)
  have w32 : q_w X σ H27 := w22.kept (fun a ha => o29 a (fun e => ha (by rw [e]; exact h00)))
  have t33 := t_lt b30
  have r34 := (o29 q15 (by omega)).trans r20
  have y39 := raw_lt r34
  obtain ⟨X35, dX35⟩ : ∃ Y, Y = q_xg X q15 21 60 (fun _ => 0) := ⟨_, rfl⟩
  obtain ⟨σ36, dσ36⟩ : ∃ τ, τ = q_sg σ q15 (fun _ => 0) (fun _ => 0) 0 := ⟨_, rfl⟩
  have x37 : q_ext (fun a => a = q15) X X35 σ σ36 := by rw [dX35, dσ36]; exact q_ext.add k25
  have w38 : q_w X35 σ36 H27 := by
    rw [dX35, dσ36]
    exact w32.add k25 (fun f hf => absurd rfl hf) (fun _ => rfl) (by decide) (fun q => absurd q (by decide)) (fun f => q_inU rfl) (fun q => by rcases q with q | q <;> exact absurd q (by decide)) (q_cfA hD (by decide) (t0 := 2) rfl r34 (fun j => rfl))
  have D40 : X35.1 = D := x37.1.trans hD
  have k41 : q_kd X35 q15 = 21 := by rw [dX35]; exact q_xg_h
  have n42 : q_ln X35 q15 = 60 := by rw [dX35]; exact if_pos rfl
  have x43 := hx0.tr x37 (fun a e => Or.inr (by rw [e]; omega))
  have k44 : q_kd X35 h = 0 := x37.k0 h00 (by omega)
  obtain ⟨X45, dX45⟩ : ∃ Y, Y = q_xg X35 h 10 0 (fun f => ([0, 0, q15] : List Nat).getD f 0) := ⟨_, rfl⟩
  obtain ⟨σ46, dσ46⟩ : ∃ τ, τ = q_sg σ36 h (fun f => ([0, (-1), 0] : List Int32).getD f 0) (fun f => ([0, 0, 0] : List Int64).getD f 0) 0 := ⟨_, rfl⟩
  have x47 : q_ext (fun a => a = h) X35 X45 σ36 σ46 := by rw [dX45, dσ46]; exact q_ext.add k44
  have hrk : ∀ f, f < 40 → q_rk 10 f ≠ 0 → q_kd X35 (([0, 0, q15] : List Nat).getD f 0) = q_rk 10 f := fun f h40 hf => match f, h40, hf with | 0, _, hf => absurd rfl hf | 1, _, hf => absurd rfl hf | 2, _, _ => k41 | 3, _, hf => absurd rfl hf | 4, _, hf => absurd rfl hf | 5, _, hf => absurd rfl hf | 6, _, hf => absurd rfl hf | 7, _, hf => absurd rfl hf | 8, _, hf => absurd rfl hf | 9, _, hf => absurd rfl hf | 10, _, hf => absurd rfl hf | 11, _, hf => absurd rfl hf | 12, _, hf => absurd rfl hf | 13, _, hf => absurd rfl hf | 14, _, hf => absurd rfl hf | 15, _, hf => absurd rfl hf | 16, _, hf => absurd rfl hf | 17, _, hf => absurd rfl hf | 18, _, hf => absurd rfl hf | 19, _, hf => absurd rfl hf | 20, _, hf => absurd rfl hf | 21, _, hf => absurd rfl hf | 22, _, hf => absurd rfl hf | 23, _, hf => absurd rfl hf | 24, _, hf => absurd rfl hf | 25, _, hf => absurd rfl hf | 26, _, hf => absurd rfl hf | 27, _, hf => absurd rfl hf | 28, _, hf => absurd rfl hf | 29, _, hf => absurd rfl hf | 30, _, hf => absurd rfl hf | 31, _, hf => absurd rfl hf | 32, _, hf => absurd rfl hf | 33, _, hf => absurd rfl hf | 34, _, hf => absurd rfl hf | 35, _, hf => absurd rfl hf | 36, _, hf => absurd rfl hf | 37, _, hf => absurd rfl hf | 38, _, hf => absurd rfl hf | 39, _, hf => absurd rfl hf | (n + 40), h40, _ => absurd h40 (by omega)
  have hB : ∀ f, f < 40 → (q_bn 10 f).1 ≤ ((([0, (-1), 0] : List Int32).getD f 0).toInt) ∧ (([0, (-1), 0] : List Int32).getD f 0).toInt ≤ (q_bn 10 f).2 := by decide +kernel
  have w48 : q_w X45 σ46 H27 := by
    rw [dX45, dσ46]
    exact w38.add k44 (q_hrk hrk) (fun q => absurd rfl q) (by decide) (fun q => absurd q (by decide)) (q_hB hB (by decide)) (fun q => by rcases q with q | q <;> exact absurd q (by decide)) (q_cfO D40 ⟨rfl, by decide⟩ (show vwCl[9]? = some (RX10, TX10, 3) from rfl) b30 (fun f hf => match f, hf with | 0, _ => rfl | 1, _ => rfl | 2, _ => rfl | (n + 3), hf => absurd hf (by omega)))
  have k49 : q_kd X45 h = 10 := by rw [dX45]; exact q_xg_h
  have x50 := x43.tr x47 (fun a e => Or.inl e)
  have k51 := x47.kd k41 (by decide)
  exact b_ret E hr hlk S31 x50 k49 ⟨by rw [dσ46]; exact if_pos rfl, by rw [dσ46]; exact if_pos rfl⟩ w48 dX10_init_22

set_option maxRecDepth 100000 in
set_option maxHeartbeats 4000000 in
theorem n_X6 (l : Launch) (D : DW) (X : XW) (σ : ST) (h sz : Nat) : Met l yX6_init (q_ws yX6_init cX6_init 1 none) { frames := 2, cells := 0 + 1 + (0 + 1) + 1 + (0 + 1) + 1 + (0 + 1), slots := 0 + 1 + (0 + 10) + 1 + (0 + 48) + 1 + (0 + 6), locals := 45 } (q_PN D X σ h sz 5 8 (fun k => defaultValue (tyX6 k)) [.ref h]) (q_QN X σ h sz 6 (fun _ _ => True)) (0 + 1 + (0 + 1) + 1 + (0 + 1) + 1 + (0 + 1)) (0 + 1 + (0 + 10) + 1 + (0 + 48) + 1 + (0 + 6)) (q_nw h sz) := by
  refine b_met (by decide +kernel) rfl rfl (Nat.le_of_ble_eq_true rfl) (fun p e s m below meth c E hml hr hlk hnm hsz hD hw0 h00 hob ls hl => ?_)
  subst hsz
  have hxx := E.1
  have hb := E.2.1
  have hl : lv_has ls 1 [(0, .ref h)] := hl
  have hS : va_S (q_nw h s.heap.size) s.heap s.heap [] := va_S.rf
  have hx0 : q_ext (q_nw h s.heap.size) X X σ σ := q_ext.rf
  have hAh : q_nw h s.heap.size h := Or.inl rfl
  have hlt := t_lt hob
  refine lv_aload_n hxx hb dX6_init_0 rfl (lv_at hl 0 rfl) ?_
  refine W.objInit hxx hb E.2.2.1 (E.2.2.2.1 _ bw_41) (E.2.2.2.1 _ bw_26) (E.2.2.2.1 _ bw_27) rfl (by rw [hml]; exact hl.1) rfl dX6_init_1 (Nat.le_of_ble_eq_true rfl) (Nat.le_of_ble_eq_true rfl) ?_
  refine W.eq (g2 := F0 m 4 ls []) rfl ?_
  refine lv_aload_n hxx hb dX6_init_4 rfl (lv_at hl 0 rfl) ?_
  refine lv_iconst (v := 2) hxx hb dX6_init_5 (by decide) ?_
  refine b_put E hS hAh hnm (f := 0) hob (show vwCl[5]? = some (RX6, TX6, 8) from rfl) q_inX6 tyX6_ok nmX6 (by decide) bw_57 rfl (fun _ => rfl) (tyX6_ok 0 (by decide)) rfl rfl dX6_init_6 (fun H1 locs1 z2 o3 b4 S5 => ?_)
  have w6 : q_w X σ H1 := hw0.kept (fun a ha => o3 a (fun e => ha (by rw [e]; exact h00)))
  have t7 := t_lt b4
  refine lv_aload_n hxx hb dX6_init_9 rfl (lv_at hl 0 rfl) ?_
  refine lv_iconst (v := 1) hxx hb dX6_init_10 (by decide) ?_
  refine b_put E S5 hAh hnm (f := 1) b4 (show vwCl[5]? = some (RX6, TX6, 8) from rfl) q_inX6 tyX6_ok nmX6 (by decide) bw_62 rfl (fun _ => rfl) (tyX6_ok 1 (by decide)) rfl rfl dX6_init_11 (fun H8 locs1 z9 o10 b11 S12 => ?_)
  have w13 : q_w X σ H8 := w6.kept (fun a ha => o10 a (fun e => ha (by rw [e]; exact h00)))
  have t14 := t_lt b11
  refine lv_aload_n hxx hb dX6_init_14 rfl (lv_at hl 0 rfl) ?_
  refine lv_iconst (v := 0) hxx hb dX6_init_15 (by decide) ?_
  refine b_put E S12 hAh hnm (f := 2) b11 (show vwCl[5]? = some (RX6, TX6, 8) from rfl) q_inX6 tyX6_ok nmX6 (by decide) bw_65 rfl (fun _ => rfl) (tyX6_ok 2 (by decide)) rfl rfl dX6_init_16 (fun H15 locs1 z16 o17 b18 S19 => ?_)
  have w20 : q_w X σ H15 := w13.kept (fun a ha => o17 a (fun e => ha (by rw [e]; exact h00)))
  have t21 := t_lt b18
  refine lv_aload_n hxx hb dX6_init_19 rfl (lv_at hl 0 rfl) ?_
  refine lv_iconst (v := 4) hxx hb dX6_init_20 (by decide) ?_
  refine b_put E S19 hAh hnm (f := 3) b18 (show vwCl[5]? = some (RX6, TX6, 8) from rfl) q_inX6 tyX6_ok nmX6 (by decide) bw_68 rfl (fun _ => rfl) (tyX6_ok 3 (by decide)) rfl rfl dX6_init_21 (fun H22 locs1 z23 o24 b25 S26 => ?_)
  have w27 : q_w X σ H22 := w20.kept (fun a ha => o24 a (fun e => ha (by rw [e]; exact h00)))
  have t28 := t_lt b25
  refine lv_aload_n hxx hb dX6_init_24 rfl (lv_at hl 0 rfl) ?_
  refine lv_iconst (v := 0) hxx hb dX6_init_25 (by decide) ?_
  refine b_put E S26 hAh hnm (f := 4) b25 (show vwCl[5]? = some (RX6, TX6, 8) from rfl) q_inX6 tyX6_ok nmX6 (by decide) bw_73 rfl (fun _ => rfl) (tyX6_ok 4 (by decide)) rfl rfl dX6_init_26 (fun H29 locs1 z30 o31 b32 S33 => ?_)
  have w34 : q_w X σ H29 := w27.kept (fun a ha => o31 a (fun e => ha (by rw [e]; exact h00)))
  have t35 := t_lt b32
  refine lv_aload_n hxx hb dX6_init_29 rfl (lv_at hl 0 rfl) ?_
  refine b_new E S33 bw_42 bw_43 bw_4 (show vwCl[4]? = some (RX5, TX5, 1) from rfl) q_inX5 tyX5 tyX5_ok (Nat.le_of_ble_eq_true rfl) (Nat.le_of_ble_eq_true rfl) dX6_init_30 (fun q36 H37 e38 z39 o40 b41 S42 => ?_)
  have w43 : q_w X σ H37 := w34.kept (fun a ha => o40 a (w34.lt ha))
  have b44 := b32.kept (o40 h t35)
  have t45 := t_lt b44
  have k46 : q_kd X q36 = 0 := w34.fresh (Nat.le_of_eq e38.symm)
  have g47 := S42.1
  refine lv_dup hxx hb dX6_init_33 rfl ?_
  refine lv_bipush (v := 10) hxx hb dX6_init_34 (by decide) ?_
  have a58 : ∀ a, q_nw q36 H37.size a → q_nw h s.heap.size a := by
    rintro a (e | e)
    · exact Or.inr (by omega)
    · exact Or.inr (by omega)
  refine b_cv (b_runI (As := [.int 10]) (rest := [.ref q36, .ref h]) E (hml.trans hl.1.symm) hD w43 k46 b41 rfl (n_X5 l D X σ q36 H37.size 10 10 (by decide) (by decide) (by decide)) bi_X6_29 rfl ⟨Nat.le_of_ble_eq_true rfl, Nat.le_of_ble_eq_true rfl⟩ ⟨Nat.le_of_ble_eq_true rfl, Nat.le_of_ble_eq_true rfl⟩ rfl (Nat.le_of_ble_eq_true rfl) dX6_init_36) S42 rfl a58 (fun X48 σ49 H50 locs1 x51 k52 p53 w54 z55 o56 S57 => ?_)
  have D59 : X48.1 = D := x51.1.trans hD
  have k60 : q_kd X48 h = 0 := x51.k0 h00 (by rintro (e | e) <;> omega)
  have b61 := b44.kept (o56 h t45 (by omega))
  have t62 := t_lt b61
  have x63 := hx0.tr x51 a58
  refine b_put E S57 hAh hnm (f := 5) b61 (show vwCl[5]? = some (RX6, TX6, 8) from rfl) q_inX6 tyX6_ok nmX6 (by decide) bw_78 rfl (fun _ => rfl) (tyX6_ok 5 (by decide)) rfl rfl dX6_init_39 (fun H64 locs1 z65 o66 b67 S68 => ?_)
  have w69 : q_w X48 σ49 H64 := w54.kept (fun a ha => o66 a (fun e => ha (by rw [e]; exact k60)))
  have t70 := t_lt b67
  refine lv_aload_n hxx hb dX6_init_42 rfl (lv_at hl 0 rfl) ?_
  refine b_new E S68 bw_42 bw_43 bw_4 (show vwCl[4]? = some (RX5, TX5, 1) from rfl) q_inX5 tyX5 tyX5_ok (Nat.le_of_ble_eq_true rfl) (Nat.le_of_ble_eq_true rfl) dX6_init_43 (fun q71 H72 e73 z74 o75 b76 S77 => ?_)
  have w78 : q_w X48 σ49 H72 := w69.kept (fun a ha => o75 a (w69.lt ha))
  have b79 := b67.kept (o75 h t70)
  have t80 := t_lt b79
  have k81 : q_kd X48 q71 = 0 := w69.fresh (Nat.le_of_eq e73.symm)
  have g82 := S77.1
  refine lv_dup hxx hb dX6_init_46 rfl ?_
  refine lv_bipush (v := 48) hxx hb dX6_init_47 (by decide) ?_
  have a93 : ∀ a, q_nw q71 H72.size a → q_nw h s.heap.size a := by
    rintro a (e | e)
    · exact Or.inr (by omega)
    · exact Or.inr (by omega)
  refine b_cv (b_runI (As := [.int 48]) (rest := [.ref q71, .ref h]) E (hml.trans hl.1.symm) D59 w78 k81 b76 rfl (n_X5 l D X48 σ49 q71 H72.size 48 48 (by decide) (by decide) (by decide)) bi_X6_29 rfl ⟨Nat.le_of_ble_eq_true rfl, Nat.le_of_ble_eq_true rfl⟩ ⟨Nat.le_of_ble_eq_true rfl, Nat.le_of_ble_eq_true rfl⟩ rfl (Nat.le_of_ble_eq_true rfl) dX6_init_49) S77 rfl a93 (fun X83 σ84 H85 locs1 x86 k87 p88 w89 z90 o91 S92 => ?_)
  have D94 : X83.1 = D := x86.1.trans D59
  have k95 : q_kd X83 h = 0 := x86.k0 k60 (by rintro (e | e) <;> omega)
  have b96 := b79.kept (o91 h t80 (by omega))
  have t97 := t_lt b96
  have x98 := x63.tr x86 a93
  have k99 := x86.kd k52 (by decide)
  refine b_put E S92 hAh hnm (f := 6) b96 (show vwCl[5]? = some (RX6, TX6, 8) from rfl) q_inX6 tyX6_ok nmX6 (by decide) bw_82 rfl (fun _ => rfl) (tyX6_ok 6 (by decide)) rfl rfl dX6_init_52 (fun H100 locs1 z101 o102 b103 S104 => ?_)
  have w105 : q_w X83 σ84 H100 := w89.kept (fun a ha => o102 a (fun e => ha (by rw [e]; exact k95)))
  have t106 := t_lt b103
  refine lv_aload_n hxx hb dX6_init_55 rfl (lv_at hl 0 rfl) ?_
  refine b_new E S104 bw_42 bw_43 bw_4 (show vwCl[4]? = some (RX5, TX5, 1) from rfl) q_inX5 tyX5 tyX5_ok (Nat.le_of_ble_eq_true rfl) (Nat.le_of_ble_eq_true rfl) dX6_init_56 (fun q107 H108 e109 z110 o111 b112 S113 => ?_)
  have w114 : q_w X83 σ84 H108 := w105.kept (fun a ha => o111 a (w105.lt ha))
  have b115 := b103.kept (o111 h t106)
  have t116 := t_lt b115
  have k117 : q_kd X83 q107 = 0 := w105.fresh (Nat.le_of_eq e109.symm)
  have g118 := S113.1
  refine lv_dup hxx hb dX6_init_59 rfl ?_
  refine lv_bipush (v := 6) hxx hb dX6_init_60 (by decide) ?_
  have a129 : ∀ a, q_nw q107 H108.size a → q_nw h s.heap.size a := by
    rintro a (e | e)
    · exact Or.inr (by omega)
    · exact Or.inr (by omega)
  refine b_cv (b_runI (As := [.int 6]) (rest := [.ref q107, .ref h]) E (hml.trans hl.1.symm) D94 w114 k117 b112 rfl (n_X5 l D X83 σ84 q107 H108.size 6 6 (by decide) (by decide) (by decide)) bi_X6_29 rfl ⟨Nat.le_of_ble_eq_true rfl, Nat.le_of_ble_eq_true rfl⟩ ⟨Nat.le_of_ble_eq_true rfl, Nat.le_of_ble_eq_true rfl⟩ rfl (Nat.le_of_ble_eq_true rfl) dX6_init_62) S113 rfl a129 (fun X119 σ120 H121 locs1 x122 k123 p124 w125 z126 o127 S128 => ?_)
  have D130 : X119.1 = D := x122.1.trans D94
  have k131 : q_kd X119 h = 0 := x122.k0 k95 (by rintro (e | e) <;> omega)
  have b132 := b115.kept (o127 h t116 (by omega))
  have t133 := t_lt b132
  have x134 := x98.tr x122 a129
  have k135 := x122.kd k99 (by decide)
  have k136 := x122.kd k87 (by decide)
  refine b_put E S128 hAh hnm (f := 7) b132 (show vwCl[5]? = some (RX6, TX6, 8) from rfl) q_inX6 tyX6_ok nmX6 (by decide) bw_83 rfl (fun _ => rfl) (tyX6_ok 7 (by decide)) rfl rfl dX6_init_65 (fun H137 locs1 z138 o139 b140 S141 => ?_)
  have w142 : q_w X119 σ120 H137 := w125.kept (fun a ha => o139 a (fun e => ha (by rw [e]; exact k131)))
  have t143 := t_lt b140
  obtain ⟨X144, dX144⟩ : ∃ Y, Y = q_xg X119 h 6 0 (fun f => ([0, 0, 0, 0, 0, q36, q71, q107] : List Nat).getD f 0) := ⟨_, rfl⟩
  obtain ⟨σ145, dσ145⟩ : ∃ τ, τ = q_sg σ120 h (fun f => ([2, 1, 0, 4, 0, 0, 0, 0] : List Int32).getD f 0) (fun f => ([0, 0, 0, 0, 0, 0, 0, 0] : List Int64).getD f 0) 0 := ⟨_, rfl⟩
  have x146 : q_ext (fun a => a = h) X119 X144 σ120 σ145 := by rw [dX144, dσ145]; exact q_ext.add k131
  have hrk : ∀ f, f < 40 → q_rk 6 f ≠ 0 → q_kd X119 (([0, 0, 0, 0, 0, q36, q71, q107] : List Nat).getD f 0) = q_rk 6 f := fun f h40 hf => match f, h40, hf with | 0, _, hf => absurd rfl hf | 1, _, hf => absurd rfl hf | 2, _, hf => absurd rfl hf | 3, _, hf => absurd rfl hf | 4, _, hf => absurd rfl hf | 5, _, _ => k135 | 6, _, _ => k136 | 7, _, _ => k123 | 8, _, hf => absurd rfl hf | 9, _, hf => absurd rfl hf | 10, _, hf => absurd rfl hf | 11, _, hf => absurd rfl hf | 12, _, hf => absurd rfl hf | 13, _, hf => absurd rfl hf | 14, _, hf => absurd rfl hf | 15, _, hf => absurd rfl hf | 16, _, hf => absurd rfl hf | 17, _, hf => absurd rfl hf | 18, _, hf => absurd rfl hf | 19, _, hf => absurd rfl hf | 20, _, hf => absurd rfl hf | 21, _, hf => absurd rfl hf | 22, _, hf => absurd rfl hf | 23, _, hf => absurd rfl hf | 24, _, hf => absurd rfl hf | 25, _, hf => absurd rfl hf | 26, _, hf => absurd rfl hf | 27, _, hf => absurd rfl hf | 28, _, hf => absurd rfl hf | 29, _, hf => absurd rfl hf | 30, _, hf => absurd rfl hf | 31, _, hf => absurd rfl hf | 32, _, hf => absurd rfl hf | 33, _, hf => absurd rfl hf | 34, _, hf => absurd rfl hf | 35, _, hf => absurd rfl hf | 36, _, hf => absurd rfl hf | 37, _, hf => absurd rfl hf | 38, _, hf => absurd rfl hf | 39, _, hf => absurd rfl hf | (n + 40), h40, _ => absurd h40 (by omega)
  have hB : ∀ f, f < 40 → (q_bn 6 f).1 ≤ ((([2, 1, 0, 4, 0, 0, 0, 0] : List Int32).getD f 0).toInt) ∧ (([2, 1, 0, 4, 0, 0, 0, 0] : List Int32).getD f 0).toInt ≤ (q_bn 6 f).2 := by decide +kernel
  have w147 : q_w X144 σ145 H137 := by
    rw [dX144, dσ145]
    exact w142.add k131 (q_hrk hrk) (fun q => absurd rfl q) (by decide) (fun q => absurd q (by decide)) (q_hB hB (by decide)) (fun q => by rcases q with q | q <;> exact absurd q (by decide)) (q_cfO D130 ⟨rfl, by decide⟩ (show vwCl[5]? = some (RX6, TX6, 8) from rfl) b140 (fun f hf => match f, hf with | 0, _ => rfl | 1, _ => rfl | 2, _ => rfl | 3, _ => rfl | 4, _ => rfl | 5, _ => rfl | 6, _ => rfl | 7, _ => rfl | (n + 8), hf => absurd hf (by omega)))
  have k148 : q_kd X144 h = 6 := by rw [dX144]; exact q_xg_h
  have x149 := x134.tr x146 (fun a e => Or.inl e)
  have k150 := x146.kd k135 (by decide)
  have k151 := x146.kd k136 (by decide)
  have k152 := x146.kd k123 (by decide)
  exact b_ret E hr hlk S141 x149 k148 trivial w147 dX6_init_68

set_option maxRecDepth 100000 in
set_option maxHeartbeats 4000000 in
theorem n_X1 (l : Launch) (D : DW) (X : XW) (σ : ST) (h sz : Nat) : Met l yX1_init (q_ws yX1_init cX1_init 1 none) { frames := 2, cells := 0 + 1 + (0 + 1) + 1 + (0 + 1) + 1 + (0 + 1) + 1 + (0 + 1) + 1 + (0 + 1) + 1 + (0 + 1) + 1 + (0 + 1), slots := 0 + 1 + (0 + 60) + 1 + (0 + 60) + 1 + (0 + 6) + 1 + (0 + 6) + 1 + (0 + 6) + 1 + (0 + 6) + 1 + (0 + 6), locals := 45 } (q_PN D X σ h sz 1 7 (fun k => defaultValue (tyX1 k)) [.ref h]) (q_QN X σ h sz 2 (fun _ _ => True)) (0 + 1 + (0 + 1) + 1 + (0 + 1) + 1 + (0 + 1) + 1 + (0 + 1) + 1 + (0 + 1) + 1 + (0 + 1) + 1 + (0 + 1)) (0 + 1 + (0 + 60) + 1 + (0 + 60) + 1 + (0 + 6) + 1 + (0 + 6) + 1 + (0 + 6) + 1 + (0 + 6) + 1 + (0 + 6)) (q_nw h sz) := by
  refine b_met (by decide +kernel) rfl rfl (Nat.le_of_ble_eq_true rfl) (fun p e s m below meth c E hml hr hlk hnm hsz hD hw0 h00 hob ls hl => ?_)
  subst hsz
  have hxx := E.1
  have hb := E.2.1
  have hl : lv_has ls 1 [(0, .ref h)] := hl
  have hS : va_S (q_nw h s.heap.size) s.heap s.heap [] := va_S.rf
  have hx0 : q_ext (q_nw h s.heap.size) X X σ σ := q_ext.rf
  have hAh : q_nw h s.heap.size h := Or.inl rfl
  have hlt := t_lt hob
  refine lv_aload_n hxx hb dX1_init_0 rfl (lv_at hl 0 rfl) ?_
  refine W.objInit hxx hb E.2.2.1 (E.2.2.2.1 _ bw_106) (E.2.2.2.1 _ bw_26) (E.2.2.2.1 _ bw_27) rfl (by rw [hml]; exact hl.1) rfl dX1_init_1 (Nat.le_of_ble_eq_true rfl) (Nat.le_of_ble_eq_true rfl) ?_
  refine W.eq (g2 := F0 m 4 ls []) rfl ?_
  refine lv_aload_n hxx hb dX1_init_4 rfl (lv_at hl 0 rfl) ?_
  refine b_new E hS bw_107 bw_43 bw_4 (show vwCl[4]? = some (RX5, TX5, 1) from rfl) q_inX5 tyX5 tyX5_ok (Nat.le_of_ble_eq_true rfl) (Nat.le_of_ble_eq_true rfl) dX1_init_5 (fun q1 H2 e3 z4 o5 b6 S7 => ?_)
  have w8 : q_w X σ H2 := hw0.kept (fun a ha => o5 a (hw0.lt ha))
  have b9 := hob.kept (o5 h hlt)
  have t10 := t_lt b9
  have k11 : q_kd X q1 = 0 := hw0.fresh (Nat.le_of_eq e3.symm)
  have g12 := S7.1
  refine lv_dup hxx hb dX1_init_8 rfl ?_
  refine lv_bipush (v := 60) hxx hb dX1_init_9 (by decide) ?_
  have a23 : ∀ a, q_nw q1 H2.size a → q_nw h s.heap.size a := by
    rintro a (e | e)
    · exact Or.inr (by omega)
    · exact Or.inr (by omega)
  refine b_cv (b_runI (As := [.int 60]) (rest := [.ref q1, .ref h]) E (hml.trans hl.1.symm) hD w8 k11 b6 rfl (n_X5 l D X σ q1 H2.size 60 60 (by decide) (by decide) (by decide)) bi_X1_11 rfl ⟨Nat.le_of_ble_eq_true rfl, Nat.le_of_ble_eq_true rfl⟩ ⟨Nat.le_of_ble_eq_true rfl, Nat.le_of_ble_eq_true rfl⟩ rfl (Nat.le_of_ble_eq_true rfl) dX1_init_11) S7 rfl a23 (fun X13 σ14 H15 locs1 x16 k17 p18 w19 z20 o21 S22 => ?_)
  have D24 : X13.1 = D := x16.1.trans hD
  have k25 : q_kd X13 h = 0 := x16.k0 h00 (by rintro (e | e) <;> omega)
  have b26 := b9.kept (o21 h t10 (by omega))
  have t27 := t_lt b26
  have x28 := hx0.tr x16 a23
  refine b_put E S22 hAh hnm (f := 0) b26 (show vwCl[1]? = some (RX1, TX1, 7) from rfl) q_inX1 tyX1_ok nmX1 (by decide) bw_109 rfl (fun _ => rfl) (tyX1_ok 0 (by decide)) rfl rfl dX1_init_14 (fun H29 locs1 z30 o31 b32 S33 => ?_)
  have w34 : q_w X13 σ14 H29 := w19.kept (fun a ha => o31 a (fun e => ha (by rw [e]; exact k25)))
  have t35 := t_lt b32
  refine lv_aload_n hxx hb dX1_init_17 rfl (lv_at hl 0 rfl) ?_
  refine b_new E S33 bw_107 bw_43 bw_4 (show vwCl[4]? = some (RX5, TX5, 1) from rfl) q_inX5 tyX5 tyX5_ok (Nat.le_of_ble_eq_true rfl) (Nat.le_of_ble_eq_true rfl) dX1_init_18 (fun q36 H37 e38 z39 o40 b41 S42 => ?_)
  have w43 : q_w X13 σ14 H37 := w34.kept (fun a ha => o40 a (w34.lt ha))
  have b44 := b32.kept (o40 h t35)
  have t45 := t_lt b44
  have k46 : q_kd X13 q36 = 0 := w34.fresh (Nat.le_of_eq e38.symm)
  have g47 := S42.1
  refine lv_dup hxx hb dX1_init_21 rfl ?_
  refine lv_bipush (v := 60) hxx hb dX1_init_22 (by decide) ?_
  have a58 : ∀ a, q_nw q36 H37.size a → q_nw h s.heap.size a := by
    rintro a (e | e)
    · exact Or.inr (by omega)
    · exact Or.inr (by omega)
  refine b_cv (b_runI (As := [.int 60]) (rest := [.ref q36, .ref h]) E (hml.trans hl.1.symm) D24 w43 k46 b41 rfl (n_X5 l D X13 σ14 q36 H37.size 60 60 (by decide) (by decide) (by decide)) bi_X1_11 rfl ⟨Nat.le_of_ble_eq_true rfl, Nat.le_of_ble_eq_true rfl⟩ ⟨Nat.le_of_ble_eq_true rfl, Nat.le_of_ble_eq_true rfl⟩ rfl (Nat.le_of_ble_eq_true rfl) dX1_init_24) S42 rfl a58 (fun X48 σ49 H50 locs1 x51 k52 p53 w54 z55 o56 S57 => ?_)
  have D59 : X48.1 = D := x51.1.trans D24
  have k60 : q_kd X48 h = 0 := x51.k0 k25 (by rintro (e | e) <;> omega)
  have b61 := b44.kept (o56 h t45 (by omega))
  have t62 := t_lt b61
  have x63 := x28.tr x51 a58
  have k64 := x51.kd k17 (by decide)
  refine b_put E S57 hAh hnm (f := 1) b61 (show vwCl[1]? = some (RX1, TX1, 7) from rfl) q_inX1 tyX1_ok nmX1 (by decide) bw_110 rfl (fun _ => rfl) (tyX1_ok 1 (by decide)) rfl rfl dX1_init_27 (fun H65 locs1 z66 o67 b68 S69 => ?_)
  have w70 : q_w X48 σ49 H65 := w54.kept (fun a ha => o67 a (fun e => ha (by rw [e]; exact k60)))
  have t71 := t_lt b68
  refine lv_aload_n hxx hb dX1_init_30 rfl (lv_at hl 0 rfl) ?_
  refine b_new E S69 bw_107 bw_43 bw_4 (show vwCl[4]? = some (RX5, TX5, 1) from rfl) q_inX5 tyX5 tyX5_ok (Nat.le_of_ble_eq_true rfl) (Nat.le_of_ble_eq_true rfl) dX1_init_31 (fun q72 H73 e74 z75 o76 b77 S78 => ?_)
  have w79 : q_w X48 σ49 H73 := w70.kept (fun a ha => o76 a (w70.lt ha))
  have b80 := b68.kept (o76 h t71)
  have t81 := t_lt b80
  have k82 : q_kd X48 q72 = 0 := w70.fresh (Nat.le_of_eq e74.symm)
  have g83 := S78.1
  refine lv_dup hxx hb dX1_init_34 rfl ?_
  refine lv_bipush (v := 6) hxx hb dX1_init_35 (by decide) ?_
  have a94 : ∀ a, q_nw q72 H73.size a → q_nw h s.heap.size a := by
    rintro a (e | e)
    · exact Or.inr (by omega)
    · exact Or.inr (by omega)
  refine b_cv (b_runI (As := [.int 6]) (rest := [.ref q72, .ref h]) E (hml.trans hl.1.symm) D59 w79 k82 b77 rfl (n_X5 l D X48 σ49 q72 H73.size 6 6 (by decide) (by decide) (by decide)) bi_X1_11 rfl ⟨Nat.le_of_ble_eq_true rfl, Nat.le_of_ble_eq_true rfl⟩ ⟨Nat.le_of_ble_eq_true rfl, Nat.le_of_ble_eq_true rfl⟩ rfl (Nat.le_of_ble_eq_true rfl) dX1_init_37) S78 rfl a94 (fun X84 σ85 H86 locs1 x87 k88 p89 w90 z91 o92 S93 => ?_)
  have D95 : X84.1 = D := x87.1.trans D59
  have k96 : q_kd X84 h = 0 := x87.k0 k60 (by rintro (e | e) <;> omega)
  have b97 := b80.kept (o92 h t81 (by omega))
  have t98 := t_lt b97
  have x99 := x63.tr x87 a94
  have k100 := x87.kd k64 (by decide)
  have k101 := x87.kd k52 (by decide)
  refine b_put E S93 hAh hnm (f := 2) b97 (show vwCl[1]? = some (RX1, TX1, 7) from rfl) q_inX1 tyX1_ok nmX1 (by decide) bw_111 rfl (fun _ => rfl) (tyX1_ok 2 (by decide)) rfl rfl dX1_init_40 (fun H102 locs1 z103 o104 b105 S106 => ?_)
  have w107 : q_w X84 σ85 H102 := w90.kept (fun a ha => o104 a (fun e => ha (by rw [e]; exact k96)))
  have t108 := t_lt b105
  refine lv_aload_n hxx hb dX1_init_43 rfl (lv_at hl 0 rfl) ?_
  refine b_new E S106 bw_107 bw_43 bw_4 (show vwCl[4]? = some (RX5, TX5, 1) from rfl) q_inX5 tyX5 tyX5_ok (Nat.le_of_ble_eq_true rfl) (Nat.le_of_ble_eq_true rfl) dX1_init_44 (fun q109 H110 e111 z112 o113 b114 S115 => ?_)
  have w116 : q_w X84 σ85 H110 := w107.kept (fun a ha => o113 a (w107.lt ha))
  have b117 := b105.kept (o113 h t108)
  have t118 := t_lt b117
  have k119 : q_kd X84 q109 = 0 := w107.fresh (Nat.le_of_eq e111.symm)
  have g120 := S115.1
  refine lv_dup hxx hb dX1_init_47 rfl ?_
  refine lv_bipush (v := 6) hxx hb dX1_init_48 (by decide) ?_
  have a131 : ∀ a, q_nw q109 H110.size a → q_nw h s.heap.size a := by
    rintro a (e | e)
    · exact Or.inr (by omega)
    · exact Or.inr (by omega)
  refine b_cv (b_runI (As := [.int 6]) (rest := [.ref q109, .ref h]) E (hml.trans hl.1.symm) D95 w116 k119 b114 rfl (n_X5 l D X84 σ85 q109 H110.size 6 6 (by decide) (by decide) (by decide)) bi_X1_11 rfl ⟨Nat.le_of_ble_eq_true rfl, Nat.le_of_ble_eq_true rfl⟩ ⟨Nat.le_of_ble_eq_true rfl, Nat.le_of_ble_eq_true rfl⟩ rfl (Nat.le_of_ble_eq_true rfl) dX1_init_50) S115 rfl a131 (fun X121 σ122 H123 locs1 x124 k125 p126 w127 z128 o129 S130 => ?_)
  have D132 : X121.1 = D := x124.1.trans D95
  have k133 : q_kd X121 h = 0 := x124.k0 k96 (by rintro (e | e) <;> omega)
  have b134 := b117.kept (o129 h t118 (by omega))
  have t135 := t_lt b134
  have x136 := x99.tr x124 a131
  have k137 := x124.kd k100 (by decide)
  have k138 := x124.kd k101 (by decide)
  have k139 := x124.kd k88 (by decide)
  refine b_put E S130 hAh hnm (f := 3) b134 (show vwCl[1]? = some (RX1, TX1, 7) from rfl) q_inX1 tyX1_ok nmX1 (by decide) bw_115 rfl (fun _ => rfl) (tyX1_ok 3 (by decide)) rfl rfl dX1_init_53 (fun H140 locs1 z141 o142 b143 S144 => ?_)
  have w145 : q_w X121 σ122 H140 := w127.kept (fun a ha => o142 a (fun e => ha (by rw [e]; exact k133)))
  have t146 := t_lt b143
  refine lv_aload_n hxx hb dX1_init_56 rfl (lv_at hl 0 rfl) ?_
  refine b_new E S144 bw_107 bw_43 bw_4 (show vwCl[4]? = some (RX5, TX5, 1) from rfl) q_inX5 tyX5 tyX5_ok (Nat.le_of_ble_eq_true rfl) (Nat.le_of_ble_eq_true rfl) dX1_init_57 (fun q147 H148 e149 z150 o151 b152 S153 => ?_)
  have w154 : q_w X121 σ122 H148 := w145.kept (fun a ha => o151 a (w145.lt ha))
  have b155 := b143.kept (o151 h t146)
  have t156 := t_lt b155
  have k157 : q_kd X121 q147 = 0 := w145.fresh (Nat.le_of_eq e149.symm)
  have g158 := S153.1
  refine lv_dup hxx hb dX1_init_60 rfl ?_
  refine lv_bipush (v := 6) hxx hb dX1_init_61 (by decide) ?_
  have a169 : ∀ a, q_nw q147 H148.size a → q_nw h s.heap.size a := by
    rintro a (e | e)
    · exact Or.inr (by omega)
    · exact Or.inr (by omega)
  refine b_cv (b_runI (As := [.int 6]) (rest := [.ref q147, .ref h]) E (hml.trans hl.1.symm) D132 w154 k157 b152 rfl (n_X5 l D X121 σ122 q147 H148.size 6 6 (by decide) (by decide) (by decide)) bi_X1_11 rfl ⟨Nat.le_of_ble_eq_true rfl, Nat.le_of_ble_eq_true rfl⟩ ⟨Nat.le_of_ble_eq_true rfl, Nat.le_of_ble_eq_true rfl⟩ rfl (Nat.le_of_ble_eq_true rfl) dX1_init_63) S153 rfl a169 (fun X159 σ160 H161 locs1 x162 k163 p164 w165 z166 o167 S168 => ?_)
  have D170 : X159.1 = D := x162.1.trans D132
  have k171 : q_kd X159 h = 0 := x162.k0 k133 (by rintro (e | e) <;> omega)
  have b172 := b155.kept (o167 h t156 (by omega))
  have t173 := t_lt b172
  have x174 := x136.tr x162 a169
  have k175 := x162.kd k137 (by decide)
  have k176 := x162.kd k138 (by decide)
  have k177 := x162.kd k139 (by decide)
  have k178 := x162.kd k125 (by decide)
  refine b_put E S168 hAh hnm (f := 4) b172 (show vwCl[1]? = some (RX1, TX1, 7) from rfl) q_inX1 tyX1_ok nmX1 (by decide) bw_119 rfl (fun _ => rfl) (tyX1_ok 4 (by decide)) rfl rfl dX1_init_66 (fun H179 locs1 z180 o181 b182 S183 => ?_)
  have w184 : q_w X159 σ160 H179 := w165.kept (fun a ha => o181 a (fun e => ha (by rw [e]; exact k171)))
  have t185 := t_lt b182
  refine lv_aload_n hxx hb dX1_init_69 rfl (lv_at hl 0 rfl) ?_
  refine b_new E S183 bw_107 bw_43 bw_4 (show vwCl[4]? = some (RX5, TX5, 1) from rfl) q_inX5 tyX5 tyX5_ok (Nat.le_of_ble_eq_true rfl) (Nat.le_of_ble_eq_true rfl) dX1_init_70 (fun q186 H187 e188 z189 o190 b191 S192 => ?_)
  have w193 : q_w X159 σ160 H187 := w184.kept (fun a ha => o190 a (w184.lt ha))
  have b194 := b182.kept (o190 h t185)
  have t195 := t_lt b194
  have k196 : q_kd X159 q186 = 0 := w184.fresh (Nat.le_of_eq e188.symm)
  have g197 := S192.1
  refine lv_dup hxx hb dX1_init_73 rfl ?_
  refine lv_bipush (v := 6) hxx hb dX1_init_74 (by decide) ?_
  have a208 : ∀ a, q_nw q186 H187.size a → q_nw h s.heap.size a := by
    rintro a (e | e)
    · exact Or.inr (by omega)
    · exact Or.inr (by omega)
  refine b_cv (b_runI (As := [.int 6]) (rest := [.ref q186, .ref h]) E (hml.trans hl.1.symm) D170 w193 k196 b191 rfl (n_X5 l D X159 σ160 q186 H187.size 6 6 (by decide) (by decide) (by decide)) bi_X1_11 rfl ⟨Nat.le_of_ble_eq_true rfl, Nat.le_of_ble_eq_true rfl⟩ ⟨Nat.le_of_ble_eq_true rfl, Nat.le_of_ble_eq_true rfl⟩ rfl (Nat.le_of_ble_eq_true rfl) dX1_init_76) S192 rfl a208 (fun X198 σ199 H200 locs1 x201 k202 p203 w204 z205 o206 S207 => ?_)
  have D209 : X198.1 = D := x201.1.trans D170
  have k210 : q_kd X198 h = 0 := x201.k0 k171 (by rintro (e | e) <;> omega)
  have b211 := b194.kept (o206 h t195 (by omega))
  have t212 := t_lt b211
  have x213 := x174.tr x201 a208
  have k214 := x201.kd k175 (by decide)
  have k215 := x201.kd k176 (by decide)
  have k216 := x201.kd k177 (by decide)
  have k217 := x201.kd k178 (by decide)
  have k218 := x201.kd k163 (by decide)
  refine b_put E S207 hAh hnm (f := 5) b211 (show vwCl[1]? = some (RX1, TX1, 7) from rfl) q_inX1 tyX1_ok nmX1 (by decide) bw_123 rfl (fun _ => rfl) (tyX1_ok 5 (by decide)) rfl rfl dX1_init_79 (fun H219 locs1 z220 o221 b222 S223 => ?_)
  have w224 : q_w X198 σ199 H219 := w204.kept (fun a ha => o221 a (fun e => ha (by rw [e]; exact k210)))
  have t225 := t_lt b222
  refine lv_aload_n hxx hb dX1_init_82 rfl (lv_at hl 0 rfl) ?_
  refine b_new E S223 bw_107 bw_43 bw_4 (show vwCl[4]? = some (RX5, TX5, 1) from rfl) q_inX5 tyX5 tyX5_ok (Nat.le_of_ble_eq_true rfl) (Nat.le_of_ble_eq_true rfl) dX1_init_83 (fun q226 H227 e228 z229 o230 b231 S232 => ?_)
  have w233 : q_w X198 σ199 H227 := w224.kept (fun a ha => o230 a (w224.lt ha))
  have b234 := b222.kept (o230 h t225)
  have t235 := t_lt b234
  have k236 : q_kd X198 q226 = 0 := w224.fresh (Nat.le_of_eq e228.symm)
  have g237 := S232.1
  refine lv_dup hxx hb dX1_init_86 rfl ?_
  refine lv_bipush (v := 6) hxx hb dX1_init_87 (by decide) ?_
  have a248 : ∀ a, q_nw q226 H227.size a → q_nw h s.heap.size a := by
    rintro a (e | e)
    · exact Or.inr (by omega)
    · exact Or.inr (by omega)
  refine b_cv (b_runI (As := [.int 6]) (rest := [.ref q226, .ref h]) E (hml.trans hl.1.symm) D209 w233 k236 b231 rfl (n_X5 l D X198 σ199 q226 H227.size 6 6 (by decide) (by decide) (by decide)) bi_X1_11 rfl ⟨Nat.le_of_ble_eq_true rfl, Nat.le_of_ble_eq_true rfl⟩ ⟨Nat.le_of_ble_eq_true rfl, Nat.le_of_ble_eq_true rfl⟩ rfl (Nat.le_of_ble_eq_true rfl) dX1_init_89) S232 rfl a248 (fun X238 σ239 H240 locs1 x241 k242 p243 w244 z245 o246 S247 => ?_)
  have D249 : X238.1 = D := x241.1.trans D209
  have k250 : q_kd X238 h = 0 := x241.k0 k210 (by rintro (e | e) <;> omega)
  have b251 := b234.kept (o246 h t235 (by omega))
  have t252 := t_lt b251
  have x253 := x213.tr x241 a248
  have k254 := x241.kd k214 (by decide)
  have k255 := x241.kd k215 (by decide)
  have k256 := x241.kd k216 (by decide)
  have k257 := x241.kd k217 (by decide)
  have k258 := x241.kd k218 (by decide)
  have k259 := x241.kd k202 (by decide)
  refine b_put E S247 hAh hnm (f := 6) b251 (show vwCl[1]? = some (RX1, TX1, 7) from rfl) q_inX1 tyX1_ok nmX1 (by decide) bw_127 rfl (fun _ => rfl) (tyX1_ok 6 (by decide)) rfl rfl dX1_init_92 (fun H260 locs1 z261 o262 b263 S264 => ?_)
  have w265 : q_w X238 σ239 H260 := w244.kept (fun a ha => o262 a (fun e => ha (by rw [e]; exact k250)))
  have t266 := t_lt b263
  obtain ⟨X267, dX267⟩ : ∃ Y, Y = q_xg X238 h 2 0 (fun f => ([q1, q36, q72, q109, q147, q186, q226] : List Nat).getD f 0) := ⟨_, rfl⟩
  obtain ⟨σ268, dσ268⟩ : ∃ τ, τ = q_sg σ239 h (fun f => ([0, 0, 0, 0, 0, 0, 0] : List Int32).getD f 0) (fun f => ([0, 0, 0, 0, 0, 0, 0] : List Int64).getD f 0) 0 := ⟨_, rfl⟩
  have x269 : q_ext (fun a => a = h) X238 X267 σ239 σ268 := by rw [dX267, dσ268]; exact q_ext.add k250
  have hrk : ∀ f, f < 40 → q_rk 2 f ≠ 0 → q_kd X238 (([q1, q36, q72, q109, q147, q186, q226] : List Nat).getD f 0) = q_rk 2 f := fun f h40 hf => match f, h40, hf with | 0, _, _ => k254 | 1, _, _ => k255 | 2, _, _ => k256 | 3, _, _ => k257 | 4, _, _ => k258 | 5, _, _ => k259 | 6, _, _ => k242 | 7, _, hf => absurd rfl hf | 8, _, hf => absurd rfl hf | 9, _, hf => absurd rfl hf | 10, _, hf => absurd rfl hf | 11, _, hf => absurd rfl hf | 12, _, hf => absurd rfl hf | 13, _, hf => absurd rfl hf | 14, _, hf => absurd rfl hf | 15, _, hf => absurd rfl hf | 16, _, hf => absurd rfl hf | 17, _, hf => absurd rfl hf | 18, _, hf => absurd rfl hf | 19, _, hf => absurd rfl hf | 20, _, hf => absurd rfl hf | 21, _, hf => absurd rfl hf | 22, _, hf => absurd rfl hf | 23, _, hf => absurd rfl hf | 24, _, hf => absurd rfl hf | 25, _, hf => absurd rfl hf | 26, _, hf => absurd rfl hf | 27, _, hf => absurd rfl hf | 28, _, hf => absurd rfl hf | 29, _, hf => absurd rfl hf | 30, _, hf => absurd rfl hf | 31, _, hf => absurd rfl hf | 32, _, hf => absurd rfl hf | 33, _, hf => absurd rfl hf | 34, _, hf => absurd rfl hf | 35, _, hf => absurd rfl hf | 36, _, hf => absurd rfl hf | 37, _, hf => absurd rfl hf | 38, _, hf => absurd rfl hf | 39, _, hf => absurd rfl hf | (n + 40), h40, _ => absurd h40 (by omega)
  have hB : ∀ f, f < 40 → (q_bn 2 f).1 ≤ ((([0, 0, 0, 0, 0, 0, 0] : List Int32).getD f 0).toInt) ∧ (([0, 0, 0, 0, 0, 0, 0] : List Int32).getD f 0).toInt ≤ (q_bn 2 f).2 := by decide +kernel
  have w270 : q_w X267 σ268 H260 := by
    rw [dX267, dσ268]
    exact w265.add k250 (q_hrk hrk) (fun q => absurd rfl q) (by decide) (fun q => absurd q (by decide)) (q_hB hB (by decide)) (fun q => by rcases q with q | q <;> exact absurd q (by decide)) (q_cfO D249 ⟨rfl, by decide⟩ (show vwCl[1]? = some (RX1, TX1, 7) from rfl) b263 (fun f hf => match f, hf with | 0, _ => rfl | 1, _ => rfl | 2, _ => rfl | 3, _ => rfl | 4, _ => rfl | 5, _ => rfl | 6, _ => rfl | (n + 7), hf => absurd hf (by omega)))
  have k271 : q_kd X267 h = 2 := by rw [dX267]; exact q_xg_h
  have x272 := x253.tr x269 (fun a e => Or.inl e)
  have k273 := x269.kd k254 (by decide)
  have k274 := x269.kd k255 (by decide)
  have k275 := x269.kd k256 (by decide)
  have k276 := x269.kd k257 (by decide)
  have k277 := x269.kd k258 (by decide)
  have k278 := x269.kd k259 (by decide)
  have k279 := x269.kd k242 (by decide)
  exact b_ret E hr hlk S264 x272 k271 trivial w270 dX1_init_95

set_option maxRecDepth 100000 in
set_option maxHeartbeats 4000000 in
theorem n_X2 (l : Launch) (D : DW) (X : XW) (σ : ST) (h sz : Nat) : Met l yX2_init (q_ws yX2_init cX2_init 1 none) { frames := 2, cells := 0 + 1 + (0 + 1) + 1 + (0 + 1) + 1 + (0 + 1) + 1 + (0 + 1), slots := 0 + 1 + (0 + 80) + 1 + (0 + 80) + 1 + (0 + 80) + 1 + (0 + 320), locals := 45 } (q_PN D X σ h sz 2 6 (fun k => defaultValue (tyX2 k)) [.ref h]) (q_QN X σ h sz 3 (fun _ _ => True)) (0 + 1 + (0 + 1) + 1 + (0 + 1) + 1 + (0 + 1) + 1 + (0 + 1)) (0 + 1 + (0 + 80) + 1 + (0 + 80) + 1 + (0 + 80) + 1 + (0 + 320)) (q_nw h sz) := by
  refine b_met (by decide +kernel) rfl rfl (Nat.le_of_ble_eq_true rfl) (fun p e s m below meth c E hml hr hlk hnm hsz hD hw0 h00 hob ls hl => ?_)
  subst hsz
  have hxx := E.1
  have hb := E.2.1
  have hl : lv_has ls 1 [(0, .ref h)] := hl
  have hS : va_S (q_nw h s.heap.size) s.heap s.heap [] := va_S.rf
  have hx0 : q_ext (q_nw h s.heap.size) X X σ σ := q_ext.rf
  have hAh : q_nw h s.heap.size h := Or.inl rfl
  have hlt := t_lt hob
  refine lv_aload_n hxx hb dX2_init_0 rfl (lv_at hl 0 rfl) ?_
  refine W.objInit hxx hb E.2.2.1 (E.2.2.2.1 _ bw_150) (E.2.2.2.1 _ bw_26) (E.2.2.2.1 _ bw_27) rfl (by rw [hml]; exact hl.1) rfl dX2_init_1 (Nat.le_of_ble_eq_true rfl) (Nat.le_of_ble_eq_true rfl) ?_
  refine W.eq (g2 := F0 m 4 ls []) rfl ?_
  refine lv_aload_n hxx hb dX2_init_4 rfl (lv_at hl 0 rfl) ?_
  refine lv_iconst (v := 0) hxx hb dX2_init_5 (by decide) ?_
  refine b_put E hS hAh hnm (f := 0) hob (show vwCl[2]? = some (RX2, TX2, 6) from rfl) q_inX2 tyX2_ok nmX2 (by decide) bw_153 rfl (fun _ => rfl) (tyX2_ok 0 (by decide)) rfl rfl dX2_init_6 (fun H1 locs1 z2 o3 b4 S5 => ?_)
  have w6 : q_w X σ H1 := hw0.kept (fun a ha => o3 a (fun e => ha (by rw [e]; exact h00)))
  have t7 := t_lt b4
  refine lv_aload_n hxx hb dX2_init_9 rfl (lv_at hl 0 rfl) ?_
  refine lv_iconst (v := 0) hxx hb dX2_init_10 (by decide) ?_
  refine b_put E S5 hAh hnm (f := 1) b4 (show vwCl[2]? = some (RX2, TX2, 6) from rfl) q_inX2 tyX2_ok nmX2 (by decide) bw_155 rfl (fun _ => rfl) (tyX2_ok 1 (by decide)) rfl rfl dX2_init_11 (fun H8 locs1 z9 o10 b11 S12 => ?_)
  have w13 : q_w X σ H8 := w6.kept (fun a ha => o10 a (fun e => ha (by rw [e]; exact h00)))
  have t14 := t_lt b11
  refine lv_aload_n hxx hb dX2_init_14 rfl (lv_at hl 0 rfl) ?_
  refine b_new E S12 bw_151 bw_43 bw_4 (show vwCl[4]? = some (RX5, TX5, 1) from rfl) q_inX5 tyX5 tyX5_ok (Nat.le_of_ble_eq_true rfl) (Nat.le_of_ble_eq_true rfl) dX2_init_15 (fun q15 H16 e17 z18 o19 b20 S21 => ?_)
  have w22 : q_w X σ H16 := w13.kept (fun a ha => o19 a (w13.lt ha))
  have b23 := b11.kept (o19 h t14)
  have t24 := t_lt b23
  have k25 : q_kd X q15 = 0 := w13.fresh (Nat.le_of_eq e17.symm)
  have g26 := S21.1
  refine lv_dup hxx hb dX2_init_18 rfl ?_
  refine lv_bipush (v := 80) hxx hb dX2_init_19 (by decide) ?_
  have a37 : ∀ a, q_nw q15 H16.size a → q_nw h s.heap.size a := by
    rintro a (e | e)
    · exact Or.inr (by omega)
    · exact Or.inr (by omega)
  refine b_cv (b_runI (As := [.int 80]) (rest := [.ref q15, .ref h]) E (hml.trans hl.1.symm) hD w22 k25 b20 rfl (n_X5 l D X σ q15 H16.size 80 80 (by decide) (by decide) (by decide)) bi_X2_20 rfl ⟨Nat.le_of_ble_eq_true rfl, Nat.le_of_ble_eq_true rfl⟩ ⟨Nat.le_of_ble_eq_true rfl, Nat.le_of_ble_eq_true rfl⟩ rfl (Nat.le_of_ble_eq_true rfl) dX2_init_21) S21 rfl a37 (fun X27 σ28 H29 locs1 x30 k31 p32 w33 z34 o35 S36 => ?_)
  have D38 : X27.1 = D := x30.1.trans hD
  have k39 : q_kd X27 h = 0 := x30.k0 h00 (by rintro (e | e) <;> omega)
  have b40 := b23.kept (o35 h t24 (by omega))
  have t41 := t_lt b40
  have x42 := hx0.tr x30 a37
  refine b_put E S36 hAh hnm (f := 2) b40 (show vwCl[2]? = some (RX2, TX2, 6) from rfl) q_inX2 tyX2_ok nmX2 (by decide) bw_159 rfl (fun _ => rfl) (tyX2_ok 2 (by decide)) rfl rfl dX2_init_24 (fun H43 locs1 z44 o45 b46 S47 => ?_)
  have w48 : q_w X27 σ28 H43 := w33.kept (fun a ha => o45 a (fun e => ha (by rw [e]; exact k39)))
  have t49 := t_lt b46
  refine lv_aload_n hxx hb dX2_init_27 rfl (lv_at hl 0 rfl) ?_
  refine b_new E S47 bw_151 bw_43 bw_4 (show vwCl[4]? = some (RX5, TX5, 1) from rfl) q_inX5 tyX5 tyX5_ok (Nat.le_of_ble_eq_true rfl) (Nat.le_of_ble_eq_true rfl) dX2_init_28 (fun q50 H51 e52 z53 o54 b55 S56 => ?_)
  have w57 : q_w X27 σ28 H51 := w48.kept (fun a ha => o54 a (w48.lt ha))
  have b58 := b46.kept (o54 h t49)
  have t59 := t_lt b58
  have k60 : q_kd X27 q50 = 0 := w48.fresh (Nat.le_of_eq e52.symm)
  have g61 := S56.1
  refine lv_dup hxx hb dX2_init_31 rfl ?_
  refine lv_bipush (v := 80) hxx hb dX2_init_32 (by decide) ?_
  have a72 : ∀ a, q_nw q50 H51.size a → q_nw h s.heap.size a := by
    rintro a (e | e)
    · exact Or.inr (by omega)
    · exact Or.inr (by omega)
  refine b_cv (b_runI (As := [.int 80]) (rest := [.ref q50, .ref h]) E (hml.trans hl.1.symm) D38 w57 k60 b55 rfl (n_X5 l D X27 σ28 q50 H51.size 80 80 (by decide) (by decide) (by decide)) bi_X2_20 rfl ⟨Nat.le_of_ble_eq_true rfl, Nat.le_of_ble_eq_true rfl⟩ ⟨Nat.le_of_ble_eq_true rfl, Nat.le_of_ble_eq_true rfl⟩ rfl (Nat.le_of_ble_eq_true rfl) dX2_init_34) S56 rfl a72 (fun X62 σ63 H64 locs1 x65 k66 p67 w68 z69 o70 S71 => ?_)
  have D73 : X62.1 = D := x65.1.trans D38
  have k74 : q_kd X62 h = 0 := x65.k0 k39 (by rintro (e | e) <;> omega)
  have b75 := b58.kept (o70 h t59 (by omega))
  have t76 := t_lt b75
  have x77 := x42.tr x65 a72
  have k78 := x65.kd k31 (by decide)
  refine b_put E S71 hAh hnm (f := 3) b75 (show vwCl[2]? = some (RX2, TX2, 6) from rfl) q_inX2 tyX2_ok nmX2 (by decide) bw_161 rfl (fun _ => rfl) (tyX2_ok 3 (by decide)) rfl rfl dX2_init_37 (fun H79 locs1 z80 o81 b82 S83 => ?_)
  have w84 : q_w X62 σ63 H79 := w68.kept (fun a ha => o81 a (fun e => ha (by rw [e]; exact k74)))
  have t85 := t_lt b82
  refine lv_aload_n hxx hb dX2_init_40 rfl (lv_at hl 0 rfl) ?_
  refine b_new E S83 bw_151 bw_43 bw_4 (show vwCl[4]? = some (RX5, TX5, 1) from rfl) q_inX5 tyX5 tyX5_ok (Nat.le_of_ble_eq_true rfl) (Nat.le_of_ble_eq_true rfl) dX2_init_41 (fun q86 H87 e88 z89 o90 b91 S92 => ?_)
  have w93 : q_w X62 σ63 H87 := w84.kept (fun a ha => o90 a (w84.lt ha))
  have b94 := b82.kept (o90 h t85)
  have t95 := t_lt b94
  have k96 : q_kd X62 q86 = 0 := w84.fresh (Nat.le_of_eq e88.symm)
  have g97 := S92.1
  refine lv_dup hxx hb dX2_init_44 rfl ?_
  refine lv_bipush (v := 80) hxx hb dX2_init_45 (by decide) ?_
  have a108 : ∀ a, q_nw q86 H87.size a → q_nw h s.heap.size a := by
    rintro a (e | e)
    · exact Or.inr (by omega)
    · exact Or.inr (by omega)
  refine b_cv (b_runI (As := [.int 80]) (rest := [.ref q86, .ref h]) E (hml.trans hl.1.symm) D73 w93 k96 b91 rfl (n_X5 l D X62 σ63 q86 H87.size 80 80 (by decide) (by decide) (by decide)) bi_X2_20 rfl ⟨Nat.le_of_ble_eq_true rfl, Nat.le_of_ble_eq_true rfl⟩ ⟨Nat.le_of_ble_eq_true rfl, Nat.le_of_ble_eq_true rfl⟩ rfl (Nat.le_of_ble_eq_true rfl) dX2_init_47) S92 rfl a108 (fun X98 σ99 H100 locs1 x101 k102 p103 w104 z105 o106 S107 => ?_)
  have D109 : X98.1 = D := x101.1.trans D73
  have k110 : q_kd X98 h = 0 := x101.k0 k74 (by rintro (e | e) <;> omega)
  have b111 := b94.kept (o106 h t95 (by omega))
  have t112 := t_lt b111
  have x113 := x77.tr x101 a108
  have k114 := x101.kd k78 (by decide)
  have k115 := x101.kd k66 (by decide)
  refine b_put E S107 hAh hnm (f := 4) b111 (show vwCl[2]? = some (RX2, TX2, 6) from rfl) q_inX2 tyX2_ok nmX2 (by decide) bw_163 rfl (fun _ => rfl) (tyX2_ok 4 (by decide)) rfl rfl dX2_init_50 (fun H116 locs1 z117 o118 b119 S120 => ?_)
  have w121 : q_w X98 σ99 H116 := w104.kept (fun a ha => o118 a (fun e => ha (by rw [e]; exact k110)))
  have t122 := t_lt b119
  refine lv_aload_n hxx hb dX2_init_53 rfl (lv_at hl 0 rfl) ?_
  refine b_new E S120 bw_151 bw_43 bw_4 (show vwCl[4]? = some (RX5, TX5, 1) from rfl) q_inX5 tyX5 tyX5_ok (Nat.le_of_ble_eq_true rfl) (Nat.le_of_ble_eq_true rfl) dX2_init_54 (fun q123 H124 e125 z126 o127 b128 S129 => ?_)
  have w130 : q_w X98 σ99 H124 := w121.kept (fun a ha => o127 a (w121.lt ha))
  have b131 := b119.kept (o127 h t122)
  have t132 := t_lt b131
  have k133 : q_kd X98 q123 = 0 := w121.fresh (Nat.le_of_eq e125.symm)
  have g134 := S129.1
  refine lv_dup hxx hb dX2_init_57 rfl ?_
  refine lv_sipush (v := 320) hxx hb dX2_init_58 (by decide) ?_
  have a145 : ∀ a, q_nw q123 H124.size a → q_nw h s.heap.size a := by
    rintro a (e | e)
    · exact Or.inr (by omega)
    · exact Or.inr (by omega)
  refine b_cv (b_runI (As := [.int 320]) (rest := [.ref q123, .ref h]) E (hml.trans hl.1.symm) D109 w130 k133 b128 rfl (n_X5 l D X98 σ99 q123 H124.size 320 320 (by decide) (by decide) (by decide)) bi_X2_20 rfl ⟨Nat.le_of_ble_eq_true rfl, Nat.le_of_ble_eq_true rfl⟩ ⟨Nat.le_of_ble_eq_true rfl, Nat.le_of_ble_eq_true rfl⟩ rfl (Nat.le_of_ble_eq_true rfl) dX2_init_61) S129 rfl a145 (fun X135 σ136 H137 locs1 x138 k139 p140 w141 z142 o143 S144 => ?_)
  have D146 : X135.1 = D := x138.1.trans D109
  have k147 : q_kd X135 h = 0 := x138.k0 k110 (by rintro (e | e) <;> omega)
  have b148 := b131.kept (o143 h t132 (by omega))
  have t149 := t_lt b148
  have x150 := x113.tr x138 a145
  have k151 := x138.kd k114 (by decide)
  have k152 := x138.kd k115 (by decide)
  have k153 := x138.kd k102 (by decide)
  refine b_put E S144 hAh hnm (f := 5) b148 (show vwCl[2]? = some (RX2, TX2, 6) from rfl) q_inX2 tyX2_ok nmX2 (by decide) bw_165 rfl (fun _ => rfl) (tyX2_ok 5 (by decide)) rfl rfl dX2_init_64 (fun H154 locs1 z155 o156 b157 S158 => ?_)
  have w159 : q_w X135 σ136 H154 := w141.kept (fun a ha => o156 a (fun e => ha (by rw [e]; exact k147)))
  have t160 := t_lt b157
  obtain ⟨X161, dX161⟩ : ∃ Y, Y = q_xg X135 h 3 0 (fun f => ([0, 0, q15, q50, q86, q123] : List Nat).getD f 0) := ⟨_, rfl⟩
  obtain ⟨σ162, dσ162⟩ : ∃ τ, τ = q_sg σ136 h (fun f => ([0, 0, 0, 0, 0, 0] : List Int32).getD f 0) (fun f => ([0, 0, 0, 0, 0, 0] : List Int64).getD f 0) 0 := ⟨_, rfl⟩
  have x163 : q_ext (fun a => a = h) X135 X161 σ136 σ162 := by rw [dX161, dσ162]; exact q_ext.add k147
  have hrk : ∀ f, f < 40 → q_rk 3 f ≠ 0 → q_kd X135 (([0, 0, q15, q50, q86, q123] : List Nat).getD f 0) = q_rk 3 f := fun f h40 hf => match f, h40, hf with | 0, _, hf => absurd rfl hf | 1, _, hf => absurd rfl hf | 2, _, _ => k151 | 3, _, _ => k152 | 4, _, _ => k153 | 5, _, _ => k139 | 6, _, hf => absurd rfl hf | 7, _, hf => absurd rfl hf | 8, _, hf => absurd rfl hf | 9, _, hf => absurd rfl hf | 10, _, hf => absurd rfl hf | 11, _, hf => absurd rfl hf | 12, _, hf => absurd rfl hf | 13, _, hf => absurd rfl hf | 14, _, hf => absurd rfl hf | 15, _, hf => absurd rfl hf | 16, _, hf => absurd rfl hf | 17, _, hf => absurd rfl hf | 18, _, hf => absurd rfl hf | 19, _, hf => absurd rfl hf | 20, _, hf => absurd rfl hf | 21, _, hf => absurd rfl hf | 22, _, hf => absurd rfl hf | 23, _, hf => absurd rfl hf | 24, _, hf => absurd rfl hf | 25, _, hf => absurd rfl hf | 26, _, hf => absurd rfl hf | 27, _, hf => absurd rfl hf | 28, _, hf => absurd rfl hf | 29, _, hf => absurd rfl hf | 30, _, hf => absurd rfl hf | 31, _, hf => absurd rfl hf | 32, _, hf => absurd rfl hf | 33, _, hf => absurd rfl hf | 34, _, hf => absurd rfl hf | 35, _, hf => absurd rfl hf | 36, _, hf => absurd rfl hf | 37, _, hf => absurd rfl hf | 38, _, hf => absurd rfl hf | 39, _, hf => absurd rfl hf | (n + 40), h40, _ => absurd h40 (by omega)
  have hB : ∀ f, f < 40 → (q_bn 3 f).1 ≤ ((([0, 0, 0, 0, 0, 0] : List Int32).getD f 0).toInt) ∧ (([0, 0, 0, 0, 0, 0] : List Int32).getD f 0).toInt ≤ (q_bn 3 f).2 := by decide +kernel
  have w164 : q_w X161 σ162 H154 := by
    rw [dX161, dσ162]
    exact w159.add k147 (q_hrk hrk) (fun q => absurd rfl q) (by decide) (fun q => absurd q (by decide)) (q_hB hB (by decide)) (fun q => by rcases q with q | q <;> exact absurd q (by decide)) (q_cfO D146 ⟨rfl, by decide⟩ (show vwCl[2]? = some (RX2, TX2, 6) from rfl) b157 (fun f hf => match f, hf with | 0, _ => rfl | 1, _ => rfl | 2, _ => rfl | 3, _ => rfl | 4, _ => rfl | 5, _ => rfl | (n + 6), hf => absurd hf (by omega)))
  have k165 : q_kd X161 h = 3 := by rw [dX161]; exact q_xg_h
  have x166 := x150.tr x163 (fun a e => Or.inl e)
  have k167 := x163.kd k151 (by decide)
  have k168 := x163.kd k152 (by decide)
  have k169 := x163.kd k153 (by decide)
  have k170 := x163.kd k139 (by decide)
  exact b_ret E hr hlk S158 x166 k165 trivial w164 dX2_init_67

set_option maxRecDepth 100000 in
set_option maxHeartbeats 4000000 in
theorem n_X8 (l : Launch) (D : DW) (X : XW) (σ : ST) (h sz : Nat) : Met l yX8_init (q_ws yX8_init cX8_init 1 none) { frames := 2, cells := 0 + 1 + (0 + 1) + 1 + (0 + 1) + 1 + (0 + 1) + 1 + (0 + 1) + 1 + (0 + 1), slots := 0 + 1 + (0 + 60) + 1 + (0 + 60) + 1 + (0 + 60) + 1 + (0 + 60) + 1 + (0 + 60), locals := 45 } (q_PN D X σ h sz 7 8 (fun k => defaultValue (tyX8 k)) [.ref h]) (q_QN X σ h sz 8 (fun _ _ => True)) (0 + 1 + (0 + 1) + 1 + (0 + 1) + 1 + (0 + 1) + 1 + (0 + 1) + 1 + (0 + 1)) (0 + 1 + (0 + 60) + 1 + (0 + 60) + 1 + (0 + 60) + 1 + (0 + 60) + 1 + (0 + 60)) (q_nw h sz) := by
  refine b_met (by decide +kernel) rfl rfl (Nat.le_of_ble_eq_true rfl) (fun p e s m below meth c E hml hr hlk hnm hsz hD hw0 h00 hob ls hl => ?_)
  subst hsz
  have hxx := E.1
  have hb := E.2.1
  have hl : lv_has ls 1 [(0, .ref h)] := hl
  have hS : va_S (q_nw h s.heap.size) s.heap s.heap [] := va_S.rf
  have hx0 : q_ext (q_nw h s.heap.size) X X σ σ := q_ext.rf
  have hAh : q_nw h s.heap.size h := Or.inl rfl
  have hlt := t_lt hob
  refine lv_aload_n hxx hb dX8_init_0 rfl (lv_at hl 0 rfl) ?_
  refine W.objInit hxx hb E.2.2.1 (E.2.2.2.1 _ bw_184) (E.2.2.2.1 _ bw_26) (E.2.2.2.1 _ bw_27) rfl (by rw [hml]; exact hl.1) rfl dX8_init_1 (Nat.le_of_ble_eq_true rfl) (Nat.le_of_ble_eq_true rfl) ?_
  refine W.eq (g2 := F0 m 4 ls []) rfl ?_
  refine lv_aload_n hxx hb dX8_init_4 rfl (lv_at hl 0 rfl) ?_
  refine lv_iconst (v := 0) hxx hb dX8_init_5 (by decide) ?_
  refine b_put E hS hAh hnm (f := 0) hob (show vwCl[7]? = some (RX8, TX8, 8) from rfl) q_inX8 tyX8_ok nmX8 (by decide) bw_187 rfl (fun _ => rfl) (tyX8_ok 0 (by decide)) rfl rfl dX8_init_6 (fun H1 locs1 z2 o3 b4 S5 => ?_)
  have w6 : q_w X σ H1 := hw0.kept (fun a ha => o3 a (fun e => ha (by rw [e]; exact h00)))
  have t7 := t_lt b4
  refine lv_aload_n hxx hb dX8_init_9 rfl (lv_at hl 0 rfl) ?_
  refine lv_iconst (v := 0) hxx hb dX8_init_10 (by decide) ?_
  refine b_put E S5 hAh hnm (f := 1) b4 (show vwCl[7]? = some (RX8, TX8, 8) from rfl) q_inX8 tyX8_ok nmX8 (by decide) bw_190 rfl (fun _ => rfl) (tyX8_ok 1 (by decide)) rfl rfl dX8_init_11 (fun H8 locs1 z9 o10 b11 S12 => ?_)
  have w13 : q_w X σ H8 := w6.kept (fun a ha => o10 a (fun e => ha (by rw [e]; exact h00)))
  have t14 := t_lt b11
  refine lv_aload_n hxx hb dX8_init_14 rfl (lv_at hl 0 rfl) ?_
  refine lv_iconst (v := 0) hxx hb dX8_init_15 (by decide) ?_
  refine b_put E S12 hAh hnm (f := 2) b11 (show vwCl[7]? = some (RX8, TX8, 8) from rfl) q_inX8 tyX8_ok nmX8 (by decide) bw_193 rfl (fun _ => rfl) (tyX8_ok 2 (by decide)) rfl rfl dX8_init_16 (fun H15 locs1 z16 o17 b18 S19 => ?_)
  have w20 : q_w X σ H15 := w13.kept (fun a ha => o17 a (fun e => ha (by rw [e]; exact h00)))
  have t21 := t_lt b18
  refine lv_aload_n hxx hb dX8_init_19 rfl (lv_at hl 0 rfl) ?_
  refine b_new E S19 bw_185 bw_43 bw_4 (show vwCl[4]? = some (RX5, TX5, 1) from rfl) q_inX5 tyX5 tyX5_ok (Nat.le_of_ble_eq_true rfl) (Nat.le_of_ble_eq_true rfl) dX8_init_20 (fun q22 H23 e24 z25 o26 b27 S28 => ?_)
  have w29 : q_w X σ H23 := w20.kept (fun a ha => o26 a (w20.lt ha))
  have b30 := b18.kept (o26 h t21)
  have t31 := t_lt b30
  have k32 : q_kd X q22 = 0 := w20.fresh (Nat.le_of_eq e24.symm)
  have g33 := S28.1
  refine lv_dup hxx hb dX8_init_23 rfl ?_
  refine lv_bipush (v := 60) hxx hb dX8_init_24 (by decide) ?_
  have a44 : ∀ a, q_nw q22 H23.size a → q_nw h s.heap.size a := by
    rintro a (e | e)
    · exact Or.inr (by omega)
    · exact Or.inr (by omega)
  refine b_cv (b_runI (As := [.int 60]) (rest := [.ref q22, .ref h]) E (hml.trans hl.1.symm) hD w29 k32 b27 rfl (n_X5 l D X σ q22 H23.size 60 60 (by decide) (by decide) (by decide)) bi_X8_24 rfl ⟨Nat.le_of_ble_eq_true rfl, Nat.le_of_ble_eq_true rfl⟩ ⟨Nat.le_of_ble_eq_true rfl, Nat.le_of_ble_eq_true rfl⟩ rfl (Nat.le_of_ble_eq_true rfl) dX8_init_26) S28 rfl a44 (fun X34 σ35 H36 locs1 x37 k38 p39 w40 z41 o42 S43 => ?_)
  have D45 : X34.1 = D := x37.1.trans hD
  have k46 : q_kd X34 h = 0 := x37.k0 h00 (by rintro (e | e) <;> omega)
  have b47 := b30.kept (o42 h t31 (by omega))
  have t48 := t_lt b47
  have x49 := hx0.tr x37 a44
  refine b_put E S43 hAh hnm (f := 3) b47 (show vwCl[7]? = some (RX8, TX8, 8) from rfl) q_inX8 tyX8_ok nmX8 (by decide) bw_195 rfl (fun _ => rfl) (tyX8_ok 3 (by decide)) rfl rfl dX8_init_29 (fun H50 locs1 z51 o52 b53 S54 => ?_)
  have w55 : q_w X34 σ35 H50 := w40.kept (fun a ha => o52 a (fun e => ha (by rw [e]; exact k46)))
  have t56 := t_lt b53
  refine lv_aload_n hxx hb dX8_init_32 rfl (lv_at hl 0 rfl) ?_
  refine b_new E S54 bw_185 bw_43 bw_4 (show vwCl[4]? = some (RX5, TX5, 1) from rfl) q_inX5 tyX5 tyX5_ok (Nat.le_of_ble_eq_true rfl) (Nat.le_of_ble_eq_true rfl) dX8_init_33 (fun q57 H58 e59 z60 o61 b62 S63 => ?_)
  have w64 : q_w X34 σ35 H58 := w55.kept (fun a ha => o61 a (w55.lt ha))
  have b65 := b53.kept (o61 h t56)
  have t66 := t_lt b65
  have k67 : q_kd X34 q57 = 0 := w55.fresh (Nat.le_of_eq e59.symm)
  have g68 := S63.1
  refine lv_dup hxx hb dX8_init_36 rfl ?_
  refine lv_bipush (v := 60) hxx hb dX8_init_37 (by decide) ?_
  have a79 : ∀ a, q_nw q57 H58.size a → q_nw h s.heap.size a := by
    rintro a (e | e)
    · exact Or.inr (by omega)
    · exact Or.inr (by omega)
  refine b_cv (b_runI (As := [.int 60]) (rest := [.ref q57, .ref h]) E (hml.trans hl.1.symm) D45 w64 k67 b62 rfl (n_X5 l D X34 σ35 q57 H58.size 60 60 (by decide) (by decide) (by decide)) bi_X8_24 rfl ⟨Nat.le_of_ble_eq_true rfl, Nat.le_of_ble_eq_true rfl⟩ ⟨Nat.le_of_ble_eq_true rfl, Nat.le_of_ble_eq_true rfl⟩ rfl (Nat.le_of_ble_eq_true rfl) dX8_init_39) S63 rfl a79 (fun X69 σ70 H71 locs1 x72 k73 p74 w75 z76 o77 S78 => ?_)
  have D80 : X69.1 = D := x72.1.trans D45
  have k81 : q_kd X69 h = 0 := x72.k0 k46 (by rintro (e | e) <;> omega)
  have b82 := b65.kept (o77 h t66 (by omega))
  have t83 := t_lt b82
  have x84 := x49.tr x72 a79
  have k85 := x72.kd k38 (by decide)
  refine b_put E S78 hAh hnm (f := 4) b82 (show vwCl[7]? = some (RX8, TX8, 8) from rfl) q_inX8 tyX8_ok nmX8 (by decide) bw_198 rfl (fun _ => rfl) (tyX8_ok 4 (by decide)) rfl rfl dX8_init_42 (fun H86 locs1 z87 o88 b89 S90 => ?_)
  have w91 : q_w X69 σ70 H86 := w75.kept (fun a ha => o88 a (fun e => ha (by rw [e]; exact k81)))
  have t92 := t_lt b89
  refine lv_aload_n hxx hb dX8_init_45 rfl (lv_at hl 0 rfl) ?_
  refine b_new E S90 bw_185 bw_43 bw_4 (show vwCl[4]? = some (RX5, TX5, 1) from rfl) q_inX5 tyX5 tyX5_ok (Nat.le_of_ble_eq_true rfl) (Nat.le_of_ble_eq_true rfl) dX8_init_46 (fun q93 H94 e95 z96 o97 b98 S99 => ?_)
  have w100 : q_w X69 σ70 H94 := w91.kept (fun a ha => o97 a (w91.lt ha))
  have b101 := b89.kept (o97 h t92)
  have t102 := t_lt b101
  have k103 : q_kd X69 q93 = 0 := w91.fresh (Nat.le_of_eq e95.symm)
  have g104 := S99.1
  refine lv_dup hxx hb dX8_init_49 rfl ?_
  refine lv_bipush (v := 60) hxx hb dX8_init_50 (by decide) ?_
  have a115 : ∀ a, q_nw q93 H94.size a → q_nw h s.heap.size a := by
    rintro a (e | e)
    · exact Or.inr (by omega)
    · exact Or.inr (by omega)
  refine b_cv (b_runI (As := [.int 60]) (rest := [.ref q93, .ref h]) E (hml.trans hl.1.symm) D80 w100 k103 b98 rfl (n_X5 l D X69 σ70 q93 H94.size 60 60 (by decide) (by decide) (by decide)) bi_X8_24 rfl ⟨Nat.le_of_ble_eq_true rfl, Nat.le_of_ble_eq_true rfl⟩ ⟨Nat.le_of_ble_eq_true rfl, Nat.le_of_ble_eq_true rfl⟩ rfl (Nat.le_of_ble_eq_true rfl) dX8_init_52) S99 rfl a115 (fun X105 σ106 H107 locs1 x108 k109 p110 w111 z112 o113 S114 => ?_)
  have D116 : X105.1 = D := x108.1.trans D80
  have k117 : q_kd X105 h = 0 := x108.k0 k81 (by rintro (e | e) <;> omega)
  have b118 := b101.kept (o113 h t102 (by omega))
  have t119 := t_lt b118
  have x120 := x84.tr x108 a115
  have k121 := x108.kd k85 (by decide)
  have k122 := x108.kd k73 (by decide)
  refine b_put E S114 hAh hnm (f := 5) b118 (show vwCl[7]? = some (RX8, TX8, 8) from rfl) q_inX8 tyX8_ok nmX8 (by decide) bw_201 rfl (fun _ => rfl) (tyX8_ok 5 (by decide)) rfl rfl dX8_init_55 (fun H123 locs1 z124 o125 b126 S127 => ?_)
  have w128 : q_w X105 σ106 H123 := w111.kept (fun a ha => o125 a (fun e => ha (by rw [e]; exact k117)))
  have t129 := t_lt b126
  refine lv_aload_n hxx hb dX8_init_58 rfl (lv_at hl 0 rfl) ?_
  refine b_new E S127 bw_185 bw_43 bw_4 (show vwCl[4]? = some (RX5, TX5, 1) from rfl) q_inX5 tyX5 tyX5_ok (Nat.le_of_ble_eq_true rfl) (Nat.le_of_ble_eq_true rfl) dX8_init_59 (fun q130 H131 e132 z133 o134 b135 S136 => ?_)
  have w137 : q_w X105 σ106 H131 := w128.kept (fun a ha => o134 a (w128.lt ha))
  have b138 := b126.kept (o134 h t129)
  have t139 := t_lt b138
  have k140 : q_kd X105 q130 = 0 := w128.fresh (Nat.le_of_eq e132.symm)
  have g141 := S136.1
  refine lv_dup hxx hb dX8_init_62 rfl ?_
  refine lv_bipush (v := 60) hxx hb dX8_init_63 (by decide) ?_
  have a152 : ∀ a, q_nw q130 H131.size a → q_nw h s.heap.size a := by
    rintro a (e | e)
    · exact Or.inr (by omega)
    · exact Or.inr (by omega)
  refine b_cv (b_runI (As := [.int 60]) (rest := [.ref q130, .ref h]) E (hml.trans hl.1.symm) D116 w137 k140 b135 rfl (n_X5 l D X105 σ106 q130 H131.size 60 60 (by decide) (by decide) (by decide)) bi_X8_24 rfl ⟨Nat.le_of_ble_eq_true rfl, Nat.le_of_ble_eq_true rfl⟩ ⟨Nat.le_of_ble_eq_true rfl, Nat.le_of_ble_eq_true rfl⟩ rfl (Nat.le_of_ble_eq_true rfl) dX8_init_65) S136 rfl a152 (fun X142 σ143 H144 locs1 x145 k146 p147 w148 z149 o150 S151 => ?_)
  have D153 : X142.1 = D := x145.1.trans D116
  have k154 : q_kd X142 h = 0 := x145.k0 k117 (by rintro (e | e) <;> omega)
  have b155 := b138.kept (o150 h t139 (by omega))
  have t156 := t_lt b155
  have x157 := x120.tr x145 a152
  have k158 := x145.kd k121 (by decide)
  have k159 := x145.kd k122 (by decide)
  have k160 := x145.kd k109 (by decide)
  refine b_put E S151 hAh hnm (f := 6) b155 (show vwCl[7]? = some (RX8, TX8, 8) from rfl) q_inX8 tyX8_ok nmX8 (by decide) bw_204 rfl (fun _ => rfl) (tyX8_ok 6 (by decide)) rfl rfl dX8_init_68 (fun H161 locs1 z162 o163 b164 S165 => ?_)
  have w166 : q_w X142 σ143 H161 := w148.kept (fun a ha => o163 a (fun e => ha (by rw [e]; exact k154)))
  have t167 := t_lt b164
  refine lv_aload_n hxx hb dX8_init_71 rfl (lv_at hl 0 rfl) ?_
  refine b_new E S165 bw_185 bw_43 bw_4 (show vwCl[4]? = some (RX5, TX5, 1) from rfl) q_inX5 tyX5 tyX5_ok (Nat.le_of_ble_eq_true rfl) (Nat.le_of_ble_eq_true rfl) dX8_init_72 (fun q168 H169 e170 z171 o172 b173 S174 => ?_)
  have w175 : q_w X142 σ143 H169 := w166.kept (fun a ha => o172 a (w166.lt ha))
  have b176 := b164.kept (o172 h t167)
  have t177 := t_lt b176
  have k178 : q_kd X142 q168 = 0 := w166.fresh (Nat.le_of_eq e170.symm)
  have g179 := S174.1
  refine lv_dup hxx hb dX8_init_75 rfl ?_
  refine lv_bipush (v := 60) hxx hb dX8_init_76 (by decide) ?_
  have a190 : ∀ a, q_nw q168 H169.size a → q_nw h s.heap.size a := by
    rintro a (e | e)
    · exact Or.inr (by omega)
    · exact Or.inr (by omega)
  refine b_cv (b_runI (As := [.int 60]) (rest := [.ref q168, .ref h]) E (hml.trans hl.1.symm) D153 w175 k178 b173 rfl (n_X5 l D X142 σ143 q168 H169.size 60 60 (by decide) (by decide) (by decide)) bi_X8_24 rfl ⟨Nat.le_of_ble_eq_true rfl, Nat.le_of_ble_eq_true rfl⟩ ⟨Nat.le_of_ble_eq_true rfl, Nat.le_of_ble_eq_true rfl⟩ rfl (Nat.le_of_ble_eq_true rfl) dX8_init_78) S174 rfl a190 (fun X180 σ181 H182 locs1 x183 k184 p185 w186 z187 o188 S189 => ?_)
  have D191 : X180.1 = D := x183.1.trans D153
  have k192 : q_kd X180 h = 0 := x183.k0 k154 (by rintro (e | e) <;> omega)
  have b193 := b176.kept (o188 h t177 (by omega))
  have t194 := t_lt b193
  have x195 := x157.tr x183 a190
  have k196 := x183.kd k158 (by decide)
  have k197 := x183.kd k159 (by decide)
  have k198 := x183.kd k160 (by decide)
  have k199 := x183.kd k146 (by decide)
  refine b_put E S189 hAh hnm (f := 7) b193 (show vwCl[7]? = some (RX8, TX8, 8) from rfl) q_inX8 tyX8_ok nmX8 (by decide) bw_206 rfl (fun _ => rfl) (tyX8_ok 7 (by decide)) rfl rfl dX8_init_81 (fun H200 locs1 z201 o202 b203 S204 => ?_)
  have w205 : q_w X180 σ181 H200 := w186.kept (fun a ha => o202 a (fun e => ha (by rw [e]; exact k192)))
  have t206 := t_lt b203
  obtain ⟨X207, dX207⟩ : ∃ Y, Y = q_xg X180 h 8 0 (fun f => ([0, 0, 0, q22, q57, q93, q130, q168] : List Nat).getD f 0) := ⟨_, rfl⟩
  obtain ⟨σ208, dσ208⟩ : ∃ τ, τ = q_sg σ181 h (fun f => ([0, 0, 0, 0, 0, 0, 0, 0] : List Int32).getD f 0) (fun f => ([0, 0, 0, 0, 0, 0, 0, 0] : List Int64).getD f 0) 0 := ⟨_, rfl⟩
  have x209 : q_ext (fun a => a = h) X180 X207 σ181 σ208 := by rw [dX207, dσ208]; exact q_ext.add k192
  have hrk : ∀ f, f < 40 → q_rk 8 f ≠ 0 → q_kd X180 (([0, 0, 0, q22, q57, q93, q130, q168] : List Nat).getD f 0) = q_rk 8 f := fun f h40 hf => match f, h40, hf with | 0, _, hf => absurd rfl hf | 1, _, hf => absurd rfl hf | 2, _, hf => absurd rfl hf | 3, _, _ => k196 | 4, _, _ => k197 | 5, _, _ => k198 | 6, _, _ => k199 | 7, _, _ => k184 | 8, _, hf => absurd rfl hf | 9, _, hf => absurd rfl hf | 10, _, hf => absurd rfl hf | 11, _, hf => absurd rfl hf | 12, _, hf => absurd rfl hf | 13, _, hf => absurd rfl hf | 14, _, hf => absurd rfl hf | 15, _, hf => absurd rfl hf | 16, _, hf => absurd rfl hf | 17, _, hf => absurd rfl hf | 18, _, hf => absurd rfl hf | 19, _, hf => absurd rfl hf | 20, _, hf => absurd rfl hf | 21, _, hf => absurd rfl hf | 22, _, hf => absurd rfl hf | 23, _, hf => absurd rfl hf | 24, _, hf => absurd rfl hf | 25, _, hf => absurd rfl hf | 26, _, hf => absurd rfl hf | 27, _, hf => absurd rfl hf | 28, _, hf => absurd rfl hf | 29, _, hf => absurd rfl hf | 30, _, hf => absurd rfl hf | 31, _, hf => absurd rfl hf | 32, _, hf => absurd rfl hf | 33, _, hf => absurd rfl hf | 34, _, hf => absurd rfl hf | 35, _, hf => absurd rfl hf | 36, _, hf => absurd rfl hf | 37, _, hf => absurd rfl hf | 38, _, hf => absurd rfl hf | 39, _, hf => absurd rfl hf | (n + 40), h40, _ => absurd h40 (by omega)
  have hB : ∀ f, f < 40 → (q_bn 8 f).1 ≤ ((([0, 0, 0, 0, 0, 0, 0, 0] : List Int32).getD f 0).toInt) ∧ (([0, 0, 0, 0, 0, 0, 0, 0] : List Int32).getD f 0).toInt ≤ (q_bn 8 f).2 := by decide +kernel
  have w210 : q_w X207 σ208 H200 := by
    rw [dX207, dσ208]
    exact w205.add k192 (q_hrk hrk) (fun q => absurd rfl q) (by decide) (fun q => absurd q (by decide)) (q_hB hB (by decide)) (fun q => by rcases q with q | q <;> exact absurd q (by decide)) (q_cfO D191 ⟨rfl, by decide⟩ (show vwCl[7]? = some (RX8, TX8, 8) from rfl) b203 (fun f hf => match f, hf with | 0, _ => rfl | 1, _ => rfl | 2, _ => rfl | 3, _ => rfl | 4, _ => rfl | 5, _ => rfl | 6, _ => rfl | 7, _ => rfl | (n + 8), hf => absurd hf (by omega)))
  have k211 : q_kd X207 h = 8 := by rw [dX207]; exact q_xg_h
  have x212 := x195.tr x209 (fun a e => Or.inl e)
  have k213 := x209.kd k196 (by decide)
  have k214 := x209.kd k197 (by decide)
  have k215 := x209.kd k198 (by decide)
  have k216 := x209.kd k199 (by decide)
  have k217 := x209.kd k184 (by decide)
  exact b_ret E hr hlk S204 x212 k211 trivial w210 dX8_init_84

set_option maxRecDepth 100000 in
set_option maxHeartbeats 4000000 in
theorem n_X7 (l : Launch) (D : DW) (X : XW) (σ : ST) (h sz : Nat) : Met l yX7_init (q_ws yX7_init cX7_init 1 none) { frames := 2, cells := 0 + 1 + (0 + 1), slots := 0 + 1 + (0 + 60), locals := 45 } (q_PN D X σ h sz 6 8 (fun k => defaultValue (tyX7 k)) [.ref h]) (q_QN X σ h sz 7 (fun _ _ => True)) (0 + 1 + (0 + 1)) (0 + 1 + (0 + 60)) (q_nw h sz) := by
  refine b_met (by decide +kernel) rfl rfl (Nat.le_of_ble_eq_true rfl) (fun p e s m below meth c E hml hr hlk hnm hsz hD hw0 h00 hob ls hl => ?_)
  subst hsz
  have hxx := E.1
  have hb := E.2.1
  have hl : lv_has ls 1 [(0, .ref h)] := hl
  have hS : va_S (q_nw h s.heap.size) s.heap s.heap [] := va_S.rf
  have hx0 : q_ext (q_nw h s.heap.size) X X σ σ := q_ext.rf
  have hAh : q_nw h s.heap.size h := Or.inl rfl
  have hlt := t_lt hob
  refine lv_aload_n hxx hb dX7_init_0 rfl (lv_at hl 0 rfl) ?_
  refine W.objInit hxx hb E.2.2.1 (E.2.2.2.1 _ bw_391) (E.2.2.2.1 _ bw_26) (E.2.2.2.1 _ bw_27) rfl (by rw [hml]; exact hl.1) rfl dX7_init_1 (Nat.le_of_ble_eq_true rfl) (Nat.le_of_ble_eq_true rfl) ?_
  refine W.eq (g2 := F0 m 4 ls []) rfl ?_
  refine lv_aload_n hxx hb dX7_init_4 rfl (lv_at hl 0 rfl) ?_
  refine lv_iconst (v := 0) hxx hb dX7_init_5 (by decide) ?_
  refine b_put E hS hAh hnm (f := 0) hob (show vwCl[6]? = some (RX7, TX7, 8) from rfl) q_inX7 tyX7_ok nmX7 (by decide) bw_394 rfl (fun _ => rfl) (tyX7_ok 0 (by decide)) rfl rfl dX7_init_6 (fun H1 locs1 z2 o3 b4 S5 => ?_)
  have w6 : q_w X σ H1 := hw0.kept (fun a ha => o3 a (fun e => ha (by rw [e]; exact h00)))
  have t7 := t_lt b4
  refine lv_aload_n hxx hb dX7_init_9 rfl (lv_at hl 0 rfl) ?_
  refine lv_iconst (v := 0) hxx hb dX7_init_10 (by decide) ?_
  refine b_put E S5 hAh hnm (f := 1) b4 (show vwCl[6]? = some (RX7, TX7, 8) from rfl) q_inX7 tyX7_ok nmX7 (by decide) bw_396 rfl (fun _ => rfl) (tyX7_ok 1 (by decide)) rfl rfl dX7_init_11 (fun H8 locs1 z9 o10 b11 S12 => ?_)
  have w13 : q_w X σ H8 := w6.kept (fun a ha => o10 a (fun e => ha (by rw [e]; exact h00)))
  have t14 := t_lt b11
  refine lv_aload_n hxx hb dX7_init_14 rfl (lv_at hl 0 rfl) ?_
  refine lv_iconst (v := 0) hxx hb dX7_init_15 (by decide) ?_
  refine b_put E S12 hAh hnm (f := 2) b11 (show vwCl[6]? = some (RX7, TX7, 8) from rfl) q_inX7 tyX7_ok nmX7 (by decide) bw_398 rfl (fun _ => rfl) (tyX7_ok 2 (by decide)) rfl rfl dX7_init_16 (fun H15 locs1 z16 o17 b18 S19 => ?_)
  have w20 : q_w X σ H15 := w13.kept (fun a ha => o17 a (fun e => ha (by rw [e]; exact h00)))
  have t21 := t_lt b18
  refine lv_aload_n hxx hb dX7_init_19 rfl (lv_at hl 0 rfl) ?_
  refine lv_iconst (v := 0) hxx hb dX7_init_20 (by decide) ?_
  refine b_put E S19 hAh hnm (f := 3) b18 (show vwCl[6]? = some (RX7, TX7, 8) from rfl) q_inX7 tyX7_ok nmX7 (by decide) bw_400 rfl (fun _ => rfl) (tyX7_ok 3 (by decide)) rfl rfl dX7_init_21 (fun H22 locs1 z23 o24 b25 S26 => ?_)
  have w27 : q_w X σ H22 := w20.kept (fun a ha => o24 a (fun e => ha (by rw [e]; exact h00)))
  have t28 := t_lt b25
  refine lv_aload_n hxx hb dX7_init_24 rfl (lv_at hl 0 rfl) ?_
  refine lv_iconst (v := 0) hxx hb dX7_init_25 (by decide) ?_
  refine b_put E S26 hAh hnm (f := 4) b25 (show vwCl[6]? = some (RX7, TX7, 8) from rfl) q_inX7 tyX7_ok nmX7 (by decide) bw_402 rfl (fun _ => rfl) (tyX7_ok 4 (by decide)) rfl rfl dX7_init_26 (fun H29 locs1 z30 o31 b32 S33 => ?_)
  have w34 : q_w X σ H29 := w27.kept (fun a ha => o31 a (fun e => ha (by rw [e]; exact h00)))
  have t35 := t_lt b32
  refine lv_aload_n hxx hb dX7_init_29 rfl (lv_at hl 0 rfl) ?_
  refine lv_iconst (v := 0) hxx hb dX7_init_30 (by decide) ?_
  refine b_put E S33 hAh hnm (f := 5) b32 (show vwCl[6]? = some (RX7, TX7, 8) from rfl) q_inX7 tyX7_ok nmX7 (by decide) bw_404 rfl (fun _ => rfl) (tyX7_ok 5 (by decide)) rfl rfl dX7_init_31 (fun H36 locs1 z37 o38 b39 S40 => ?_)
  have w41 : q_w X σ H36 := w34.kept (fun a ha => o38 a (fun e => ha (by rw [e]; exact h00)))
  have t42 := t_lt b39
  refine lv_aload_n hxx hb dX7_init_34 rfl (lv_at hl 0 rfl) ?_
  refine lv_iconst (v := 0) hxx hb dX7_init_35 (by decide) ?_
  refine b_put E S40 hAh hnm (f := 6) b39 (show vwCl[6]? = some (RX7, TX7, 8) from rfl) q_inX7 tyX7_ok nmX7 (by decide) bw_406 rfl (fun _ => rfl) (tyX7_ok 6 (by decide)) rfl rfl dX7_init_36 (fun H43 locs1 z44 o45 b46 S47 => ?_)
  have w48 : q_w X σ H43 := w41.kept (fun a ha => o45 a (fun e => ha (by rw [e]; exact h00)))
  have t49 := t_lt b46
  refine lv_aload_n hxx hb dX7_init_39 rfl (lv_at hl 0 rfl) ?_
  refine b_new E S47 bw_392 bw_43 bw_4 (show vwCl[4]? = some (RX5, TX5, 1) from rfl) q_inX5 tyX5 tyX5_ok (Nat.le_of_ble_eq_true rfl) (Nat.le_of_ble_eq_true rfl) dX7_init_40 (fun q50 H51 e52 z53 o54 b55 S56 => ?_)
  have w57 : q_w X σ H51 := w48.kept (fun a ha => o54 a (w48.lt ha))
  have b58 := b46.kept (o54 h t49)
  have t59 := t_lt b58
  have k60 : q_kd X q50 = 0 := w48.fresh (Nat.le_of_eq e52.symm)
  have g61 := S56.1
  refine lv_dup hxx hb dX7_init_43 rfl ?_
  refine lv_bipush (v := 60) hxx hb dX7_init_44 (by decide) ?_
  have a72 : ∀ a, q_nw q50 H51.size a → q_nw h s.heap.size a := by
    rintro a (e | e)
    · exact Or.inr (by omega)
    · exact Or.inr (by omega)
  refine b_cv (b_runI (As := [.int 60]) (rest := [.ref q50, .ref h]) E (hml.trans hl.1.symm) hD w57 k60 b55 rfl (n_X5 l D X σ q50 H51.size 60 60 (by decide) (by decide) (by decide)) bi_X7_38 rfl ⟨Nat.le_of_ble_eq_true rfl, Nat.le_of_ble_eq_true rfl⟩ ⟨Nat.le_of_ble_eq_true rfl, Nat.le_of_ble_eq_true rfl⟩ rfl (Nat.le_of_ble_eq_true rfl) dX7_init_46) S56 rfl a72 (fun X62 σ63 H64 locs1 x65 k66 p67 w68 z69 o70 S71 => ?_)
  have D73 : X62.1 = D := x65.1.trans hD
  have k74 : q_kd X62 h = 0 := x65.k0 h00 (by rintro (e | e) <;> omega)
  have b75 := b58.kept (o70 h t59 (by omega))
  have t76 := t_lt b75
  have x77 := hx0.tr x65 a72
  refine b_put E S71 hAh hnm (f := 7) b75 (show vwCl[6]? = some (RX7, TX7, 8) from rfl) q_inX7 tyX7_ok nmX7 (by decide) bw_407 rfl (fun _ => rfl) (tyX7_ok 7 (by decide)) rfl rfl dX7_init_49 (fun H78 locs1 z79 o80 b81 S82 => ?_)
  have w83 : q_w X62 σ63 H78 := w68.kept (fun a ha => o80 a (fun e => ha (by rw [e]; exact k74)))
  have t84 := t_lt b81
  obtain ⟨X85, dX85⟩ : ∃ Y, Y = q_xg X62 h 7 0 (fun f => ([0, 0, 0, 0, 0, 0, 0, q50] : List Nat).getD f 0) := ⟨_, rfl⟩
  obtain ⟨σ86, dσ86⟩ : ∃ τ, τ = q_sg σ63 h (fun f => ([0, 0, 0, 0, 0, 0, 0, 0] : List Int32).getD f 0) (fun f => ([0, 0, 0, 0, 0, 0, 0, 0] : List Int64).getD f 0) 0 := ⟨_, rfl⟩
  have x87 : q_ext (fun a => a = h) X62 X85 σ63 σ86 := by rw [dX85, dσ86]; exact q_ext.add k74
  have hrk : ∀ f, f < 40 → q_rk 7 f ≠ 0 → q_kd X62 (([0, 0, 0, 0, 0, 0, 0, q50] : List Nat).getD f 0) = q_rk 7 f := fun f h40 hf => match f, h40, hf with | 0, _, hf => absurd rfl hf | 1, _, hf => absurd rfl hf | 2, _, hf => absurd rfl hf | 3, _, hf => absurd rfl hf | 4, _, hf => absurd rfl hf | 5, _, hf => absurd rfl hf | 6, _, hf => absurd rfl hf | 7, _, _ => k66 | 8, _, hf => absurd rfl hf | 9, _, hf => absurd rfl hf | 10, _, hf => absurd rfl hf | 11, _, hf => absurd rfl hf | 12, _, hf => absurd rfl hf | 13, _, hf => absurd rfl hf | 14, _, hf => absurd rfl hf | 15, _, hf => absurd rfl hf | 16, _, hf => absurd rfl hf | 17, _, hf => absurd rfl hf | 18, _, hf => absurd rfl hf | 19, _, hf => absurd rfl hf | 20, _, hf => absurd rfl hf | 21, _, hf => absurd rfl hf | 22, _, hf => absurd rfl hf | 23, _, hf => absurd rfl hf | 24, _, hf => absurd rfl hf | 25, _, hf => absurd rfl hf | 26, _, hf => absurd rfl hf | 27, _, hf => absurd rfl hf | 28, _, hf => absurd rfl hf | 29, _, hf => absurd rfl hf | 30, _, hf => absurd rfl hf | 31, _, hf => absurd rfl hf | 32, _, hf => absurd rfl hf | 33, _, hf => absurd rfl hf | 34, _, hf => absurd rfl hf | 35, _, hf => absurd rfl hf | 36, _, hf => absurd rfl hf | 37, _, hf => absurd rfl hf | 38, _, hf => absurd rfl hf | 39, _, hf => absurd rfl hf | (n + 40), h40, _ => absurd h40 (by omega)
  have hB : ∀ f, f < 40 → (q_bn 7 f).1 ≤ ((([0, 0, 0, 0, 0, 0, 0, 0] : List Int32).getD f 0).toInt) ∧ (([0, 0, 0, 0, 0, 0, 0, 0] : List Int32).getD f 0).toInt ≤ (q_bn 7 f).2 := by decide +kernel
  have w88 : q_w X85 σ86 H78 := by
    rw [dX85, dσ86]
    exact w83.add k74 (q_hrk hrk) (fun q => absurd rfl q) (by decide) (fun q => absurd q (by decide)) (q_hB hB (by decide)) (fun q => by rcases q with q | q <;> exact absurd q (by decide)) (q_cfO D73 ⟨rfl, by decide⟩ (show vwCl[6]? = some (RX7, TX7, 8) from rfl) b81 (fun f hf => match f, hf with | 0, _ => rfl | 1, _ => rfl | 2, _ => rfl | 3, _ => rfl | 4, _ => rfl | 5, _ => rfl | 6, _ => rfl | 7, _ => rfl | (n + 8), hf => absurd hf (by omega)))
  have k89 : q_kd X85 h = 7 := by rw [dX85]; exact q_xg_h
  have x90 := x77.tr x87 (fun a e => Or.inl e)
  have k91 := x87.kd k66 (by decide)
  exact b_ret E hr hlk S82 x90 k89 trivial w88 dX7_init_52

set_option maxRecDepth 100000 in
set_option maxHeartbeats 4000000 in
theorem n_X0 (l : Launch) (D : DW) (X : XW) (σ : ST) (h sz : Nat) : Met l yX0_init (q_ws yX0_init cX0_init 1 none) { frames := 3, cells := 0 + 1 + (0 + 1 + (0 + 1) + 1 + (0 + 1) + 1 + (0 + 1)) + 1 + (0 + 1 + (0 + 1) + 1 + (0 + 1) + 1 + (0 + 1) + 1 + (0 + 1) + 1 + (0 + 1) + 1 + (0 + 1) + 1 + (0 + 1)) + 1 + (0 + 1 + (0 + 1) + 1 + (0 + 1) + 1 + (0 + 1) + 1 + (0 + 1)) + 1 + (0 + 1 + (0 + 1) + 1 + (0 + 1) + 1 + (0 + 1) + 1 + (0 + 1) + 1 + (0 + 1)) + 1 + (0 + 1) + 1 + (0 + 1), slots := 0 + 8 + (0 + 1 + (0 + 10) + 1 + (0 + 48) + 1 + (0 + 6)) + 7 + (0 + 1 + (0 + 60) + 1 + (0 + 60) + 1 + (0 + 6) + 1 + (0 + 6) + 1 + (0 + 6) + 1 + (0 + 6) + 1 + (0 + 6)) + 6 + (0 + 1 + (0 + 80) + 1 + (0 + 80) + 1 + (0 + 80) + 1 + (0 + 320)) + 8 + (0 + 1 + (0 + 60) + 1 + (0 + 60) + 1 + (0 + 60) + 1 + (0 + 60) + 1 + (0 + 60)) + 1 + (0 + 10) + 1 + (0 + 10), locals := 65 } (q_PN D X σ h sz 0 15 (fun k => defaultValue (tyX0 k)) [.ref h]) (q_QN X σ h sz 1 (fun _ _ => True)) (0 + 1 + (0 + 1 + (0 + 1) + 1 + (0 + 1) + 1 + (0 + 1)) + 1 + (0 + 1 + (0 + 1) + 1 + (0 + 1) + 1 + (0 + 1) + 1 + (0 + 1) + 1 + (0 + 1) + 1 + (0 + 1) + 1 + (0 + 1)) + 1 + (0 + 1 + (0 + 1) + 1 + (0 + 1) + 1 + (0 + 1) + 1 + (0 + 1)) + 1 + (0 + 1 + (0 + 1) + 1 + (0 + 1) + 1 + (0 + 1) + 1 + (0 + 1) + 1 + (0 + 1)) + 1 + (0 + 1) + 1 + (0 + 1)) (0 + 8 + (0 + 1 + (0 + 10) + 1 + (0 + 48) + 1 + (0 + 6)) + 7 + (0 + 1 + (0 + 60) + 1 + (0 + 60) + 1 + (0 + 6) + 1 + (0 + 6) + 1 + (0 + 6) + 1 + (0 + 6) + 1 + (0 + 6)) + 6 + (0 + 1 + (0 + 80) + 1 + (0 + 80) + 1 + (0 + 80) + 1 + (0 + 320)) + 8 + (0 + 1 + (0 + 60) + 1 + (0 + 60) + 1 + (0 + 60) + 1 + (0 + 60) + 1 + (0 + 60)) + 1 + (0 + 10) + 1 + (0 + 10)) (q_nw h sz) := by
  refine b_met (by decide +kernel) rfl rfl (Nat.le_of_ble_eq_true rfl) (fun p e s m below meth c E hml hr hlk hnm hsz hD hw0 h00 hob ls hl => ?_)
  subst hsz
  have hxx := E.1
  have hb := E.2.1
  have hl : lv_has ls 1 [(0, .ref h)] := hl
  have hS : va_S (q_nw h s.heap.size) s.heap s.heap [] := va_S.rf
  have hx0 : q_ext (q_nw h s.heap.size) X X σ σ := q_ext.rf
  have hAh : q_nw h s.heap.size h := Or.inl rfl
  have hlt := t_lt hob
  refine lv_aload_n hxx hb dX0_init_0 rfl (lv_at hl 0 rfl) ?_
  refine W.objInit hxx hb E.2.2.1 (E.2.2.2.1 _ bw_35) (E.2.2.2.1 _ bw_26) (E.2.2.2.1 _ bw_27) rfl (by rw [hml]; exact hl.1) rfl dX0_init_1 (Nat.le_of_ble_eq_true rfl) (Nat.le_of_ble_eq_true rfl) ?_
  refine W.eq (g2 := F0 m 4 ls []) rfl ?_
  refine lv_aload_n hxx hb dX0_init_4 rfl (lv_at hl 0 rfl) ?_
  refine b_new E hS bw_36 bw_37 bw_3 (show vwCl[5]? = some (RX6, TX6, 8) from rfl) q_inX6 tyX6 tyX6_ok (Nat.le_of_ble_eq_true rfl) (Nat.le_of_ble_eq_true rfl) dX0_init_5 (fun q1 H2 e3 z4 o5 b6 S7 => ?_)
  have w8 : q_w X σ H2 := hw0.kept (fun a ha => o5 a (hw0.lt ha))
  have b9 := hob.kept (o5 h hlt)
  have t10 := t_lt b9
  have k11 : q_kd X q1 = 0 := hw0.fresh (Nat.le_of_eq e3.symm)
  have g12 := S7.1
  refine lv_dup hxx hb dX0_init_8 rfl ?_
  have a23 : ∀ a, q_nw q1 H2.size a → q_nw h s.heap.size a := by
    rintro a (e | e)
    · exact Or.inr (by omega)
    · exact Or.inr (by omega)
  refine b_cv (b_runN (As := []) (rest := [.ref q1, .ref h]) E (hml.trans hl.1.symm) hD w8 k11 b6 rfl (n_X6 l D X σ q1 H2.size) bi_X0_11 rfl ⟨Nat.le_of_ble_eq_true rfl, Nat.le_of_ble_eq_true rfl⟩ ⟨Nat.le_of_ble_eq_true rfl, Nat.le_of_ble_eq_true rfl⟩ rfl (Nat.le_of_ble_eq_true rfl) dX0_init_9) S7 rfl a23 (fun X13 σ14 H15 locs1 x16 k17 p18 w19 z20 o21 S22 => ?_)
  have D24 : X13.1 = D := x16.1.trans hD
  have k25 : q_kd X13 h = 0 := x16.k0 h00 (by rintro (e | e) <;> omega)
  have b26 := b9.kept (o21 h t10 (by omega))
  have t27 := t_lt b26
  have x28 := hx0.tr x16 a23
  refine b_put E S22 hAh hnm (f := 0) b26 (show vwCl[0]? = some (RX0, TX0, 15) from rfl) q_inX0 tyX0_ok nmX0 (by decide) bw_228 rfl (fun _ => rfl) (tyX0_ok 0 (by decide)) rfl rfl dX0_init_12 (fun H29 locs1 z30 o31 b32 S33 => ?_)
  have w34 : q_w X13 σ14 H29 := w19.kept (fun a ha => o31 a (fun e => ha (by rw [e]; exact k25)))
  have t35 := t_lt b32
  refine lv_aload_n hxx hb dX0_init_15 rfl (lv_at hl 0 rfl) ?_
  refine b_new E S33 bw_101 bw_102 bw_6 (show vwCl[1]? = some (RX1, TX1, 7) from rfl) q_inX1 tyX1 tyX1_ok (Nat.le_of_ble_eq_true rfl) (Nat.le_of_ble_eq_true rfl) dX0_init_16 (fun q36 H37 e38 z39 o40 b41 S42 => ?_)
  have w43 : q_w X13 σ14 H37 := w34.kept (fun a ha => o40 a (w34.lt ha))
  have b44 := b32.kept (o40 h t35)
  have t45 := t_lt b44
  have k46 : q_kd X13 q36 = 0 := w34.fresh (Nat.le_of_eq e38.symm)
  have g47 := S42.1
  refine lv_dup hxx hb dX0_init_19 rfl ?_
  have a58 : ∀ a, q_nw q36 H37.size a → q_nw h s.heap.size a := by
    rintro a (e | e)
    · exact Or.inr (by omega)
    · exact Or.inr (by omega)
  refine b_cv (b_runN (As := []) (rest := [.ref q36, .ref h]) E (hml.trans hl.1.symm) D24 w43 k46 b41 rfl (n_X1 l D X13 σ14 q36 H37.size) bi_X0_20 rfl ⟨Nat.le_of_ble_eq_true rfl, Nat.le_of_ble_eq_true rfl⟩ ⟨Nat.le_of_ble_eq_true rfl, Nat.le_of_ble_eq_true rfl⟩ rfl (Nat.le_of_ble_eq_true rfl) dX0_init_20) S42 rfl a58 (fun X48 σ49 H50 locs1 x51 k52 p53 w54 z55 o56 S57 => ?_)
  have D59 : X48.1 = D := x51.1.trans D24
  have k60 : q_kd X48 h = 0 := x51.k0 k25 (by rintro (e | e) <;> omega)
  have b61 := b44.kept (o56 h t45 (by omega))
  have t62 := t_lt b61
  have x63 := x28.tr x51 a58
  have k64 := x51.kd k17 (by decide)
  refine b_put E S57 hAh hnm (f := 1) b61 (show vwCl[0]? = some (RX0, TX0, 15) from rfl) q_inX0 tyX0_ok nmX0 (by decide) bw_232 rfl (fun _ => rfl) (tyX0_ok 1 (by decide)) rfl rfl dX0_init_23 (fun H65 locs1 z66 o67 b68 S69 => ?_)
  have w70 : q_w X48 σ49 H65 := w54.kept (fun a ha => o67 a (fun e => ha (by rw [e]; exact k60)))
  have t71 := t_lt b68
  refine lv_aload_n hxx hb dX0_init_26 rfl (lv_at hl 0 rfl) ?_
  refine b_new E S69 bw_145 bw_146 bw_7 (show vwCl[2]? = some (RX2, TX2, 6) from rfl) q_inX2 tyX2 tyX2_ok (Nat.le_of_ble_eq_true rfl) (Nat.le_of_ble_eq_true rfl) dX0_init_27 (fun q72 H73 e74 z75 o76 b77 S78 => ?_)
  have w79 : q_w X48 σ49 H73 := w70.kept (fun a ha => o76 a (w70.lt ha))
  have b80 := b68.kept (o76 h t71)
  have t81 := t_lt b80
  have k82 : q_kd X48 q72 = 0 := w70.fresh (Nat.le_of_eq e74.symm)
  have g83 := S78.1
  refine lv_dup hxx hb dX0_init_30 rfl ?_
  have a94 : ∀ a, q_nw q72 H73.size a → q_nw h s.heap.size a := by
    rintro a (e | e)
    · exact Or.inr (by omega)
    · exact Or.inr (by omega)
  refine b_cv (b_runN (As := []) (rest := [.ref q72, .ref h]) E (hml.trans hl.1.symm) D59 w79 k82 b77 rfl (n_X2 l D X48 σ49 q72 H73.size) bi_X0_27 rfl ⟨Nat.le_of_ble_eq_true rfl, Nat.le_of_ble_eq_true rfl⟩ ⟨Nat.le_of_ble_eq_true rfl, Nat.le_of_ble_eq_true rfl⟩ rfl (Nat.le_of_ble_eq_true rfl) dX0_init_31) S78 rfl a94 (fun X84 σ85 H86 locs1 x87 k88 p89 w90 z91 o92 S93 => ?_)
  have D95 : X84.1 = D := x87.1.trans D59
  have k96 : q_kd X84 h = 0 := x87.k0 k60 (by rintro (e | e) <;> omega)
  have b97 := b80.kept (o92 h t81 (by omega))
  have t98 := t_lt b97
  have x99 := x63.tr x87 a94
  have k100 := x87.kd k64 (by decide)
  have k101 := x87.kd k52 (by decide)
  refine b_put E S93 hAh hnm (f := 2) b97 (show vwCl[0]? = some (RX0, TX0, 15) from rfl) q_inX0 tyX0_ok nmX0 (by decide) bw_236 rfl (fun _ => rfl) (tyX0_ok 2 (by decide)) rfl rfl dX0_init_34 (fun H102 locs1 z103 o104 b105 S106 => ?_)
  have w107 : q_w X84 σ85 H102 := w90.kept (fun a ha => o104 a (fun e => ha (by rw [e]; exact k96)))
  have t108 := t_lt b105
  refine lv_aload_n hxx hb dX0_init_37 rfl (lv_at hl 0 rfl) ?_
  refine b_new E S106 bw_179 bw_180 bw_8 (show vwCl[7]? = some (RX8, TX8, 8) from rfl) q_inX8 tyX8 tyX8_ok (Nat.le_of_ble_eq_true rfl) (Nat.le_of_ble_eq_true rfl) dX0_init_38 (fun q109 H110 e111 z112 o113 b114 S115 => ?_)
  have w116 : q_w X84 σ85 H110 := w107.kept (fun a ha => o113 a (w107.lt ha))
  have b117 := b105.kept (o113 h t108)
  have t118 := t_lt b117
  have k119 : q_kd X84 q109 = 0 := w107.fresh (Nat.le_of_eq e111.symm)
  have g120 := S115.1
  refine lv_dup hxx hb dX0_init_41 rfl ?_
  have a131 : ∀ a, q_nw q109 H110.size a → q_nw h s.heap.size a := by
    rintro a (e | e)
    · exact Or.inr (by omega)
    · exact Or.inr (by omega)
  refine b_cv (b_runN (As := []) (rest := [.ref q109, .ref h]) E (hml.trans hl.1.symm) D95 w116 k119 b114 rfl (n_X8 l D X84 σ85 q109 H110.size) bi_X0_34 rfl ⟨Nat.le_of_ble_eq_true rfl, Nat.le_of_ble_eq_true rfl⟩ ⟨Nat.le_of_ble_eq_true rfl, Nat.le_of_ble_eq_true rfl⟩ rfl (Nat.le_of_ble_eq_true rfl) dX0_init_42) S115 rfl a131 (fun X121 σ122 H123 locs1 x124 k125 p126 w127 z128 o129 S130 => ?_)
  have D132 : X121.1 = D := x124.1.trans D95
  have k133 : q_kd X121 h = 0 := x124.k0 k96 (by rintro (e | e) <;> omega)
  have b134 := b117.kept (o129 h t118 (by omega))
  have t135 := t_lt b134
  have x136 := x99.tr x124 a131
  have k137 := x124.kd k100 (by decide)
  have k138 := x124.kd k101 (by decide)
  have k139 := x124.kd k88 (by decide)
  refine b_put E S130 hAh hnm (f := 3) b134 (show vwCl[0]? = some (RX0, TX0, 15) from rfl) q_inX0 tyX0_ok nmX0 (by decide) bw_239 rfl (fun _ => rfl) (tyX0_ok 3 (by decide)) rfl rfl dX0_init_45 (fun H140 locs1 z141 o142 b143 S144 => ?_)
  have w145 : q_w X121 σ122 H140 := w127.kept (fun a ha => o142 a (fun e => ha (by rw [e]; exact k133)))
  have t146 := t_lt b143
  refine lv_aload_n hxx hb dX0_init_48 rfl (lv_at hl 0 rfl) ?_
  refine lv_iconst (v := 0) hxx hb dX0_init_49 (by decide) ?_
  refine b_put E S144 hAh hnm (f := 4) b143 (show vwCl[0]? = some (RX0, TX0, 15) from rfl) q_inX0 tyX0_ok nmX0 (by decide) bw_242 rfl (fun _ => rfl) (tyX0_ok 4 (by decide)) rfl rfl dX0_init_50 (fun H147 locs1 z148 o149 b150 S151 => ?_)
  have w152 : q_w X121 σ122 H147 := w145.kept (fun a ha => o149 a (fun e => ha (by rw [e]; exact k133)))
  have t153 := t_lt b150
  refine lv_aload_n hxx hb dX0_init_53 rfl (lv_at hl 0 rfl) ?_
  refine lv_iconst (v := 0) hxx hb dX0_init_54 (by decide) ?_
  refine b_put E S151 hAh hnm (f := 5) b150 (show vwCl[0]? = some (RX0, TX0, 15) from rfl) q_inX0 tyX0_ok nmX0 (by decide) bw_245 rfl (fun _ => rfl) (tyX0_ok 5 (by decide)) rfl rfl dX0_init_55 (fun H154 locs1 z155 o156 b157 S158 => ?_)
  have w159 : q_w X121 σ122 H154 := w152.kept (fun a ha => o156 a (fun e => ha (by rw [e]; exact k133)))
  have t160 := t_lt b157
  refine lv_aload_n hxx hb dX0_init_58 rfl (lv_at hl 0 rfl) ?_
  refine lv_iconst (v := (-1)) hxx hb dX0_init_59 (by decide) ?_
  refine b_put E S158 hAh hnm (f := 6) b157 (show vwCl[0]? = some (RX0, TX0, 15) from rfl) q_inX0 tyX0_ok nmX0 (by decide) bw_248 rfl (fun _ => rfl) (tyX0_ok 6 (by decide)) rfl rfl dX0_init_60 (fun H161 locs1 z162 o163 b164 S165 => ?_)
  have w166 : q_w X121 σ122 H161 := w159.kept (fun a ha => o163 a (fun e => ha (by rw [e]; exact k133)))
  have t167 := t_lt b164
  refine lv_aload_n hxx hb dX0_init_63 rfl (lv_at hl 0 rfl) ?_
  refine lv_iconst (v := 0) hxx hb dX0_init_64 (by decide) ?_
  refine b_put E S165 hAh hnm (f := 7) b164 (show vwCl[0]? = some (RX0, TX0, 15) from rfl) q_inX0 tyX0_ok nmX0 (by decide) bw_251 rfl (fun _ => rfl) (tyX0_ok 7 (by decide)) rfl rfl dX0_init_65 (fun H168 locs1 z169 o170 b171 S172 => ?_)
  have w173 : q_w X121 σ122 H168 := w166.kept (fun a ha => o170 a (fun e => ha (by rw [e]; exact k133)))
  have t174 := t_lt b171
  refine lv_aload_n hxx hb dX0_init_68 rfl (lv_at hl 0 rfl) ?_
  refine b_new E S172 bw_226 bw_43 bw_4 (show vwCl[4]? = some (RX5, TX5, 1) from rfl) q_inX5 tyX5 tyX5_ok (Nat.le_of_ble_eq_true rfl) (Nat.le_of_ble_eq_true rfl) dX0_init_69 (fun q175 H176 e177 z178 o179 b180 S181 => ?_)
  have w182 : q_w X121 σ122 H176 := w173.kept (fun a ha => o179 a (w173.lt ha))
  have b183 := b171.kept (o179 h t174)
  have t184 := t_lt b183
  have k185 : q_kd X121 q175 = 0 := w173.fresh (Nat.le_of_eq e177.symm)
  have g186 := S181.1
  refine lv_dup hxx hb dX0_init_72 rfl ?_
  refine lv_bipush (v := 10) hxx hb dX0_init_73 (by decide) ?_
  have a197 : ∀ a, q_nw q175 H176.size a → q_nw h s.heap.size a := by
    rintro a (e | e)
    · exact Or.inr (by omega)
    · exact Or.inr (by omega)
  refine b_cv (b_runI (As := [.int 10]) (rest := [.ref q175, .ref h]) E (hml.trans hl.1.symm) D132 w182 k185 b180 rfl (n_X5 l D X121 σ122 q175 H176.size 10 10 (by decide) (by decide) (by decide)) bi_X0_55 rfl ⟨Nat.le_of_ble_eq_true rfl, Nat.le_of_ble_eq_true rfl⟩ ⟨Nat.le_of_ble_eq_true rfl, Nat.le_of_ble_eq_true rfl⟩ rfl (Nat.le_of_ble_eq_true rfl) dX0_init_75) S181 rfl a197 (fun X187 σ188 H189 locs1 x190 k191 p192 w193 z194 o195 S196 => ?_)
  have D198 : X187.1 = D := x190.1.trans D132
  have k199 : q_kd X187 h = 0 := x190.k0 k133 (by rintro (e | e) <;> omega)
  have b200 := b183.kept (o195 h t184 (by omega))
  have t201 := t_lt b200
  have x202 := x136.tr x190 a197
  have k203 := x190.kd k137 (by decide)
  have k204 := x190.kd k138 (by decide)
  have k205 := x190.kd k139 (by decide)
  have k206 := x190.kd k125 (by decide)
  refine b_put E S196 hAh hnm (f := 8) b200 (show vwCl[0]? = some (RX0, TX0, 15) from rfl) q_inX0 tyX0_ok nmX0 (by decide) bw_254 rfl (fun _ => rfl) (tyX0_ok 8 (by decide)) rfl rfl dX0_init_78 (fun H207 locs1 z208 o209 b210 S211 => ?_)
  have w212 : q_w X187 σ188 H207 := w193.kept (fun a ha => o209 a (fun e => ha (by rw [e]; exact k199)))
  have t213 := t_lt b210
  refine lv_aload_n hxx hb dX0_init_81 rfl (lv_at hl 0 rfl) ?_
  refine lv_iconst (v := 0) hxx hb dX0_init_82 (by decide) ?_
  refine b_put E S211 hAh hnm (f := 9) b210 (show vwCl[0]? = some (RX0, TX0, 15) from rfl) q_inX0 tyX0_ok nmX0 (by decide) bw_255 rfl (fun _ => rfl) (tyX0_ok 9 (by decide)) rfl rfl dX0_init_83 (fun H214 locs1 z215 o216 b217 S218 => ?_)
  have w219 : q_w X187 σ188 H214 := w212.kept (fun a ha => o216 a (fun e => ha (by rw [e]; exact k199)))
  have t220 := t_lt b217
  refine lv_aload_n hxx hb dX0_init_86 rfl (lv_at hl 0 rfl) ?_
  refine b_new E S218 bw_226 bw_43 bw_4 (show vwCl[4]? = some (RX5, TX5, 1) from rfl) q_inX5 tyX5 tyX5_ok (Nat.le_of_ble_eq_true rfl) (Nat.le_of_ble_eq_true rfl) dX0_init_87 (fun q221 H222 e223 z224 o225 b226 S227 => ?_)
  have w228 : q_w X187 σ188 H222 := w219.kept (fun a ha => o225 a (w219.lt ha))
  have b229 := b217.kept (o225 h t220)
  have t230 := t_lt b229
  have k231 : q_kd X187 q221 = 0 := w219.fresh (Nat.le_of_eq e223.symm)
  have g232 := S227.1
  refine lv_dup hxx hb dX0_init_90 rfl ?_
  refine lv_bipush (v := 10) hxx hb dX0_init_91 (by decide) ?_
  have a243 : ∀ a, q_nw q221 H222.size a → q_nw h s.heap.size a := by
    rintro a (e | e)
    · exact Or.inr (by omega)
    · exact Or.inr (by omega)
  refine b_cv (b_runI (As := [.int 10]) (rest := [.ref q221, .ref h]) E (hml.trans hl.1.symm) D198 w228 k231 b226 rfl (n_X5 l D X187 σ188 q221 H222.size 10 10 (by decide) (by decide) (by decide)) bi_X0_55 rfl ⟨Nat.le_of_ble_eq_true rfl, Nat.le_of_ble_eq_true rfl⟩ ⟨Nat.le_of_ble_eq_true rfl, Nat.le_of_ble_eq_true rfl⟩ rfl (Nat.le_of_ble_eq_true rfl) dX0_init_93) S227 rfl a243 (fun X233 σ234 H235 locs1 x236 k237 p238 w239 z240 o241 S242 => ?_)
  have D244 : X233.1 = D := x236.1.trans D198
  have k245 : q_kd X233 h = 0 := x236.k0 k199 (by rintro (e | e) <;> omega)
  have b246 := b229.kept (o241 h t230 (by omega))
  have t247 := t_lt b246
  have x248 := x202.tr x236 a243
  have k249 := x236.kd k203 (by decide)
  have k250 := x236.kd k204 (by decide)
  have k251 := x236.kd k205 (by decide)
  have k252 := x236.kd k206 (by decide)
  have k253 := x236.kd k191 (by decide)
  refine b_put E S242 hAh hnm (f := 10) b246 (show vwCl[0]? = some (RX0, TX0, 15) from rfl) q_inX0 tyX0_ok nmX0 (by decide) bw_257 rfl (fun _ => rfl) (tyX0_ok 10 (by decide)) rfl rfl dX0_init_96 (fun H254 locs1 z255 o256 b257 S258 => ?_)
  have w259 : q_w X233 σ234 H254 := w239.kept (fun a ha => o256 a (fun e => ha (by rw [e]; exact k245)))
  have t260 := t_lt b257
  refine lv_aload_n hxx hb dX0_init_99 rfl (lv_at hl 0 rfl) ?_
  refine lv_iconst (v := 0) hxx hb dX0_init_100 (by decide) ?_
  refine b_put E S258 hAh hnm (f := 11) b257 (show vwCl[0]? = some (RX0, TX0, 15) from rfl) q_inX0 tyX0_ok nmX0 (by decide) bw_258 rfl (fun _ => rfl) (tyX0_ok 11 (by decide)) rfl rfl dX0_init_101 (fun H261 locs1 z262 o263 b264 S265 => ?_)
  have w266 : q_w X233 σ234 H261 := w259.kept (fun a ha => o263 a (fun e => ha (by rw [e]; exact k245)))
  have t267 := t_lt b264
  refine lv_aload_n hxx hb dX0_init_104 rfl (lv_at hl 0 rfl) ?_
  refine lv_iconst (v := (-1)) hxx hb dX0_init_105 (by decide) ?_
  refine b_put E S265 hAh hnm (f := 12) b264 (show vwCl[0]? = some (RX0, TX0, 15) from rfl) q_inX0 tyX0_ok nmX0 (by decide) bw_260 rfl (fun _ => rfl) (tyX0_ok 12 (by decide)) rfl rfl dX0_init_106 (fun H268 locs1 z269 o270 b271 S272 => ?_)
  have w273 : q_w X233 σ234 H268 := w266.kept (fun a ha => o270 a (fun e => ha (by rw [e]; exact k245)))
  have t274 := t_lt b271
  refine lv_aload_n hxx hb dX0_init_109 rfl (lv_at hl 0 rfl) ?_
  refine lv_iconst (v := (-1)) hxx hb dX0_init_110 (by decide) ?_
  refine b_put E S272 hAh hnm (f := 13) b271 (show vwCl[0]? = some (RX0, TX0, 15) from rfl) q_inX0 tyX0_ok nmX0 (by decide) bw_262 rfl (fun _ => rfl) (tyX0_ok 13 (by decide)) rfl rfl dX0_init_111 (fun H275 locs1 z276 o277 b278 S279 => ?_)
  have w280 : q_w X233 σ234 H275 := w273.kept (fun a ha => o277 a (fun e => ha (by rw [e]; exact k245)))
  have t281 := t_lt b278
  refine lv_aload_n hxx hb dX0_init_114 rfl (lv_at hl 0 rfl) ?_
  refine lv_iconst (v := (-1)) hxx hb dX0_init_115 (by decide) ?_
  refine b_put E S279 hAh hnm (f := 14) b278 (show vwCl[0]? = some (RX0, TX0, 15) from rfl) q_inX0 tyX0_ok nmX0 (by decide) bw_264 rfl (fun _ => rfl) (tyX0_ok 14 (by decide)) rfl rfl dX0_init_116 (fun H282 locs1 z283 o284 b285 S286 => ?_)
  have w287 : q_w X233 σ234 H282 := w280.kept (fun a ha => o284 a (fun e => ha (by rw [e]; exact k245)))
  have t288 := t_lt b285
  obtain ⟨X289, dX289⟩ : ∃ Y, Y = q_xg X233 h 1 0 (fun f => ([q1, q36, q72, q109, 0, 0, 0, 0, q175, 0, q221, 0, 0, 0, 0] : List Nat).getD f 0) := ⟨_, rfl⟩
  obtain ⟨σ290, dσ290⟩ : ∃ τ, τ = q_sg σ234 h (fun f => ([0, 0, 0, 0, 0, 0, (-1), 0, 0, 0, 0, 0, (-1), (-1), (-1)] : List Int32).getD f 0) (fun f => ([0, 0, 0, 0, 0, 0, 0, 0, 0, 0, 0, 0, 0, 0, 0] : List Int64).getD f 0) 0 := ⟨_, rfl⟩
  have x291 : q_ext (fun a => a = h) X233 X289 σ234 σ290 := by rw [dX289, dσ290]; exact q_ext.add k245
  have hrk : ∀ f, f < 40 → q_rk 1 f ≠ 0 → q_kd X233 (([q1, q36, q72, q109, 0, 0, 0, 0, q175, 0, q221, 0, 0, 0, 0] : List Nat).getD f 0) = q_rk 1 f := fun f h40 hf => match f, h40, hf with | 0, _, _ => k249 | 1, _, _ => k250 | 2, _, _ => k251 | 3, _, _ => k252 | 4, _, hf => absurd rfl hf | 5, _, hf => absurd rfl hf | 6, _, hf => absurd rfl hf | 7, _, hf => absurd rfl hf | 8, _, _ => k253 | 9, _, hf => absurd rfl hf | 10, _, _ => k237 | 11, _, hf => absurd rfl hf | 12, _, hf => absurd rfl hf | 13, _, hf => absurd rfl hf | 14, _, hf => absurd rfl hf | 15, _, hf => absurd rfl hf | 16, _, hf => absurd rfl hf | 17, _, hf => absurd rfl hf | 18, _, hf => absurd rfl hf | 19, _, hf => absurd rfl hf | 20, _, hf => absurd rfl hf | 21, _, hf => absurd rfl hf | 22, _, hf => absurd rfl hf | 23, _, hf => absurd rfl hf | 24, _, hf => absurd rfl hf | 25, _, hf => absurd rfl hf | 26, _, hf => absurd rfl hf | 27, _, hf => absurd rfl hf | 28, _, hf => absurd rfl hf | 29, _, hf => absurd rfl hf | 30, _, hf => absurd rfl hf | 31, _, hf => absurd rfl hf | 32, _, hf => absurd rfl hf | 33, _, hf => absurd rfl hf | 34, _, hf => absurd rfl hf | 35, _, hf => absurd rfl hf | 36, _, hf => absurd rfl hf | 37, _, hf => absurd rfl hf | 38, _, hf => absurd rfl hf | 39, _, hf => absurd rfl hf | (n + 40), h40, _ => absurd h40 (by omega)
  have hB : ∀ f, f < 40 → (q_bn 1 f).1 ≤ ((([0, 0, 0, 0, 0, 0, (-1), 0, 0, 0, 0, 0, (-1), (-1), (-1)] : List Int32).getD f 0).toInt) ∧ (([0, 0, 0, 0, 0, 0, (-1), 0, 0, 0, 0, 0, (-1), (-1), (-1)] : List Int32).getD f 0).toInt ≤ (q_bn 1 f).2 := by decide +kernel
  have w292 : q_w X289 σ290 H282 := by
    rw [dX289, dσ290]
    exact w287.add k245 (q_hrk hrk) (fun q => absurd rfl q) (by decide) (fun q => absurd q (by decide)) (q_hB hB (by decide)) (fun q => by rcases q with q | q <;> exact absurd q (by decide)) (q_cfO D244 ⟨rfl, by decide⟩ (show vwCl[0]? = some (RX0, TX0, 15) from rfl) b285 (fun f hf => match f, hf with | 0, _ => rfl | 1, _ => rfl | 2, _ => rfl | 3, _ => rfl | 4, _ => rfl | 5, _ => rfl | 6, _ => rfl | 7, _ => rfl | 8, _ => rfl | 9, _ => rfl | 10, _ => rfl | 11, _ => rfl | 12, _ => rfl | 13, _ => rfl | 14, _ => rfl | (n + 15), hf => absurd hf (by omega)))
  have k293 : q_kd X289 h = 1 := by rw [dX289]; exact q_xg_h
  have x294 := x248.tr x291 (fun a e => Or.inl e)
  have k295 := x291.kd k249 (by decide)
  have k296 := x291.kd k250 (by decide)
  have k297 := x291.kd k251 (by decide)
  have k298 := x291.kd k252 (by decide)
  have k299 := x291.kd k253 (by decide)
  have k300 := x291.kd k237 (by decide)
  exact b_ret E hr hlk S286 x294 k293 trivial w292 dX0_init_119
