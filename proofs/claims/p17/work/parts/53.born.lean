set_option maxRecDepth 100000 in
set_option maxHeartbeats 4000000 in
theorem n_X3_k9 (l : Launch) (D : DW) (X : XW) (σ : ST) (h sz : Nat) : Met l yX3_init (q_ws yX3_init cX3_init 1 none) { frames := 1, cells := 1, slots := 0, locals := 12 } (q_PN D X σ h sz 8 12 (fun k => defaultValue (tyX9 k)) [.ref h]) (va_Qv (S := XW × ST × Nat) (fun u => q_ext (q_nw h sz) X u.1 σ u.2.1 ∧ q_kd u.1 h = 0 ∧ q_kd u.1 u.2.2 = 22 ∧ y_rt X u.1) (fun u t => q_w u.1 u.2.1 t.heap ∧ t_OB h (D.1.1 8) 12 (D.1.2 8) t.heap (updV (updV (updV (updV (updV (updV (updV (updV (fun k => defaultValue (tyX9 k)) 0 (.ref u.2.2)) 1 (.int 0)) 2 (.int 0)) 3 (.int 0)) 4 (.int 0)) 5 (.int 0)) 6 (.int 0)) 7 (.int (-1)))) (q_nw h sz)) 1 0 (q_nw h sz) := by
  refine b_met  (by first | exact rfl | decide +kernel) rfl rfl (Nat.le_of_ble_eq_true rfl) (fun p e s m below meth c E hml hr hlk hnm hsz hD hw0 h00 hob ls hl => ?_)
  subst hsz
  have hxx := E.1
  have hb := E.2.1
  have hl : lv_has ls 1 [(0, .ref h)] := hl
  have hS : va_S (q_nw h s.heap.size) s.heap s.heap [] := va_S.rf
  have hx0 : q_ext (q_nw h s.heap.size) X X σ σ := q_ext.rf
  have hAh : q_nw h s.heap.size h := Or.inl rfl
  have yr0 : y_rt X X := y_rt.rf
  have hlt := t_lt hob
  refine lv_aload_n hxx hb dX3_init_0 rfl (lv_at hl 0 rfl) ?_
  refine W.objInit hxx hb E.2.2.1 (E.2.2.2.1 _ bw_306) (E.2.2.2.1 _ bw_26) (E.2.2.2.1 _ bw_27) rfl (by rw [hml]; exact hl.1) rfl dX3_init_1 (Nat.le_of_ble_eq_true rfl) (Nat.le_of_ble_eq_true rfl) ?_
  refine W.eq (g2 := F0 m 4 ls []) rfl ?_
  refine lv_aload_n hxx hb dX3_init_4 rfl (lv_at hl 0 rfl) ?_
  refine lv_iconst (v := 0) hxx hb dX3_init_5 (by decide) ?_
  refine b_newa E hS bw_55 (t := 0) rfl (fun _ _ => rfl) (N' := 0) (by decide) (by decide) (by decide) (Nat.le_of_ble_eq_true rfl) (Nat.le_of_ble_eq_true rfl) dX3_init_6 (fun q1 H2 e3 z4 o5 r6 S7 => ?_)
  have hq1 : h < q1 := by first | exact Nat.lt_of_lt_of_eq hlt e3.symm | omega
  have gg_q1 : s.heap.size ≤ q1 := Nat.le_trans hS.1 (Nat.le_of_eq e3.symm)
  have mm_q1 : q1 < H2.size := by rw [z4, e3]; exact Nat.lt_succ_self _
  have w8 : q_w X σ H2 := hw0.kept (fun a ha => o5 a (hw0.lt ha))
  have b9 := hob.kept (o5 h hlt)
  try clear o5
  have t10 := t_lt b9
  have k11 : q_kd X q1 = 0 := hw0.fresh (Nat.le_of_eq e3.symm)
  have g12 := S7.1
  refine b_put E S7 hAh hnm (f := 0) b9 (show vwCl[8]? = some (RX9, TX9, 12) from rfl) q_inX9 tyX9_ok nmX9 (by decide) bw_316 rfl (fun _ => rfl) (tyX9_ok 0 (by decide)) rfl rfl dX3_init_8 (fun H13 locs1 z14 o15 b16 S17 => ?_)
  try clear b9; try clear S7
  have w18 : q_w X σ H13 := w8.kept (fun a ha => o15 a (fun e => ha (by rw [e]; exact h00)))
  try clear w8
  have t19 := t_lt b16
  try clear t10
  have r20 := (o15 q1 (by first | exact (Nat.ne_of_gt hq1) | omega)).trans r6
  try clear o15; try clear r6
  refine lv_aload_n hxx hb dX3_init_11 rfl (lv_at hl 0 rfl) ?_
  refine lv_iconst (v := 0) hxx hb dX3_init_12 (by decide) ?_
  refine b_put E S17 hAh hnm (f := 1) b16 (show vwCl[8]? = some (RX9, TX9, 12) from rfl) q_inX9 tyX9_ok nmX9 (by decide) bw_317 rfl (fun _ => rfl) (tyX9_ok 1 (by decide)) rfl rfl dX3_init_13 (fun H21 locs1 z22 o23 b24 S25 => ?_)
  try clear S17; try clear b16
  have w26 : q_w X σ H21 := w18.kept (fun a ha => o23 a (fun e => ha (by rw [e]; exact h00)))
  try clear w18
  have t27 := t_lt b24
  try clear t19
  have r28 := (o23 q1 (by first | exact (Nat.ne_of_gt hq1) | omega)).trans r20
  try clear o23; try clear r20
  refine lv_aload_n hxx hb dX3_init_16 rfl (lv_at hl 0 rfl) ?_
  refine lv_iconst (v := 0) hxx hb dX3_init_17 (by decide) ?_
  refine b_put E S25 hAh hnm (f := 2) b24 (show vwCl[8]? = some (RX9, TX9, 12) from rfl) q_inX9 tyX9_ok nmX9 (by decide) bw_318 rfl (fun _ => rfl) (tyX9_ok 2 (by decide)) rfl rfl dX3_init_18 (fun H29 locs1 z30 o31 b32 S33 => ?_)
  try clear S25; try clear b24
  have w34 : q_w X σ H29 := w26.kept (fun a ha => o31 a (fun e => ha (by rw [e]; exact h00)))
  try clear w26
  have t35 := t_lt b32
  try clear t27
  have r36 := (o31 q1 (by first | exact (Nat.ne_of_gt hq1) | omega)).trans r28
  try clear o31; try clear r28
  refine lv_aload_n hxx hb dX3_init_21 rfl (lv_at hl 0 rfl) ?_
  refine lv_iconst (v := 0) hxx hb dX3_init_22 (by decide) ?_
  refine b_put E S33 hAh hnm (f := 3) b32 (show vwCl[8]? = some (RX9, TX9, 12) from rfl) q_inX9 tyX9_ok nmX9 (by decide) bw_319 rfl (fun _ => rfl) (tyX9_ok 3 (by decide)) rfl rfl dX3_init_23 (fun H37 locs1 z38 o39 b40 S41 => ?_)
  try clear S33; try clear b32
  have w42 : q_w X σ H37 := w34.kept (fun a ha => o39 a (fun e => ha (by rw [e]; exact h00)))
  try clear w34
  have t43 := t_lt b40
  try clear t35
  have r44 := (o39 q1 (by first | exact (Nat.ne_of_gt hq1) | omega)).trans r36
  try clear o39; try clear r36
  refine lv_aload_n hxx hb dX3_init_26 rfl (lv_at hl 0 rfl) ?_
  refine lv_iconst (v := 0) hxx hb dX3_init_27 (by decide) ?_
  refine b_put E S41 hAh hnm (f := 4) b40 (show vwCl[8]? = some (RX9, TX9, 12) from rfl) q_inX9 tyX9_ok nmX9 (by decide) bw_320 rfl (fun _ => rfl) (tyX9_ok 4 (by decide)) rfl rfl dX3_init_28 (fun H45 locs1 z46 o47 b48 S49 => ?_)
  try clear S41; try clear b40
  have w50 : q_w X σ H45 := w42.kept (fun a ha => o47 a (fun e => ha (by rw [e]; exact h00)))
  try clear w42
  have t51 := t_lt b48
  try clear t43
  have r52 := (o47 q1 (by first | exact (Nat.ne_of_gt hq1) | omega)).trans r44
  try clear o47; try clear r44
  refine lv_aload_n hxx hb dX3_init_31 rfl (lv_at hl 0 rfl) ?_
  refine lv_iconst (v := 0) hxx hb dX3_init_32 (by decide) ?_
  refine b_put E S49 hAh hnm (f := 5) b48 (show vwCl[8]? = some (RX9, TX9, 12) from rfl) q_inX9 tyX9_ok nmX9 (by decide) bw_325 rfl (fun _ => rfl) (tyX9_ok 5 (by decide)) rfl rfl dX3_init_33 (fun H53 locs1 z54 o55 b56 S57 => ?_)
  try clear S49; try clear b48
  have w58 : q_w X σ H53 := w50.kept (fun a ha => o55 a (fun e => ha (by rw [e]; exact h00)))
  try clear w50
  have t59 := t_lt b56
  try clear t51
  have r60 := (o55 q1 (by first | exact (Nat.ne_of_gt hq1) | omega)).trans r52
  try clear o55; try clear r52
  refine lv_aload_n hxx hb dX3_init_36 rfl (lv_at hl 0 rfl) ?_
  refine lv_iconst (v := 0) hxx hb dX3_init_37 (by decide) ?_
  refine b_put E S57 hAh hnm (f := 6) b56 (show vwCl[8]? = some (RX9, TX9, 12) from rfl) q_inX9 tyX9_ok nmX9 (by decide) bw_328 rfl (fun _ => rfl) (tyX9_ok 6 (by decide)) rfl rfl dX3_init_38 (fun H61 locs1 z62 o63 b64 S65 => ?_)
  try clear S57; try clear b56
  have w66 : q_w X σ H61 := w58.kept (fun a ha => o63 a (fun e => ha (by rw [e]; exact h00)))
  try clear w58
  have t67 := t_lt b64
  try clear t59
  have r68 := (o63 q1 (by first | exact (Nat.ne_of_gt hq1) | omega)).trans r60
  try clear o63; try clear r60
  refine lv_aload_n hxx hb dX3_init_41 rfl (lv_at hl 0 rfl) ?_
  refine lv_iconst (v := (-1)) hxx hb dX3_init_42 (by decide) ?_
  refine b_put E S65 hAh hnm (f := 7) b64 (show vwCl[8]? = some (RX9, TX9, 12) from rfl) q_inX9 tyX9_ok nmX9 (by decide) bw_330 rfl (fun _ => rfl) (tyX9_ok 7 (by decide)) rfl rfl dX3_init_43 (fun H69 locs1 z70 o71 b72 S73 => ?_)
  try clear S65; try clear b64
  have w74 : q_w X σ H69 := w66.kept (fun a ha => o71 a (fun e => ha (by rw [e]; exact h00)))
  try clear w66
  have t75 := t_lt b72
  try clear t67
  have r76 := (o71 q1 (by first | exact (Nat.ne_of_gt hq1) | omega)).trans r68
  try clear o71; try clear r68
  have y81 := raw_lt r76
  try clear y81
  obtain ⟨X77, dX77⟩ : ∃ Y, Y = q_xg X q1 22 0 (fun _ => 0) := ⟨_, rfl⟩
  obtain ⟨σ78, dσ78⟩ : ∃ τ, τ = q_sg σ q1 (fun _ => 0 : Nat → Int32) (fun _ => 0) 0 := ⟨_, rfl⟩
  have x79 : q_ext (fun a => a = q1) X X77 σ σ78 := by rw [dX77, dσ78]; exact q_ext.add k11
  have y82 : y_root X77 q1 := by rw [dX77]; exact (y_root.out w74.1 k11).add y_xg (fun f hf => absurd rfl hf)
  try clear y82
  have y83 : y_rt X X77 := by rw [dX77]; exact yr0.add y_xg (fun f hf => absurd rfl hf)
  have w80 : q_w X77 σ78 H69 := by
    rw [dX77, dσ78]
    exact w74.add k11 (fun f hf => absurd rfl hf) (fun q => absurd rfl q) (by decide) (fun q => absurd q (by decide)) (fun f => q_inU rfl) (fun q => by rcases q with q | q <;> exact absurd q (by decide)) (q_cfA hD (by decide) (t0 := 0) rfl r76 (fun j => rfl)) (fun f hf => absurd rfl hf) (fun f g hf _ _ => absurd rfl hf) (fun f hf => absurd rfl hf) (fun f hf => absurd (show (0 : Nat) = 5 from hf) (by decide)) (fun q => absurd q (by decide))
  try clear r76; try clear w74; try clear k11; try clear t0
  have D84 : X77.1 = D := x79.1.trans hD
  try clear D84
  have k85 : q_kd X77 q1 = 22 := by rw [dX77]; exact q_xg_h
  have n86 : q_ln X77 q1 = 0 := by rw [dX77]; exact if_pos rfl
  have x87 := hx0.tr x79 (fun a e => Or.inr (by rw [e]; exact gg_q1))
  have k88 : q_kd X77 h = 0 := x79.k0 h00 (by first | exact (Nat.ne_of_lt hq1) | (omega))
  try clear x79
  exact W.vret E.1 E.2.1 hr (fun t ht _ => ⟨⟨(X77, σ78, q1), rfl, ⟨x87, k88, k85, y83⟩, by show q_w X77 σ78 t.heap ∧ _; rw [ht]; exact ⟨w80, b72⟩⟩, S73.F ht⟩) S73.2.2 dX3_init_46 hlk

set_option maxRecDepth 100000 in
set_option maxHeartbeats 4000000 in
theorem n_X9 (l : Launch) (D : DW) (X : XW) (σ : ST) (h sz : Nat) : Met l yX9_init (q_ws yX9_init cX9_init 1 none) { frames := 4, cells := 50, slots := 1166, locals := 85 } (q_PN D X σ h sz 8 12 (fun k => defaultValue (tyX9 k)) [.ref h]) (q_QN X σ h sz 9 (fun X' _ => (y_rt X X' ∧ y_root X' h) ∧ True)) 50 1166 (q_nw h sz) := by
  refine b_met  (by first | exact rfl | decide +kernel) rfl rfl (Nat.le_of_ble_eq_true rfl) (fun p e s m below meth c E hml hr hlk hnm hsz hD hw0 h00 hob ls hl => ?_)
  subst hsz
  have hxx := E.1
  have hb := E.2.1
  have hl : lv_has ls 1 [(0, .ref h)] := hl
  have hS : va_S (q_nw h s.heap.size) s.heap s.heap [] := va_S.rf
  have hx0 : q_ext (q_nw h s.heap.size) X X σ σ := q_ext.rf
  have hAh : q_nw h s.heap.size h := Or.inl rfl
  have yr0 : y_rt X X := y_rt.rf
  have hlt := t_lt hob
  refine lv_aload_n hxx hb dX9_init_0 rfl (lv_at hl 0 rfl) ?_
  refine va_callv (b_runN (rest := []) E (hml.trans hl.1.symm) hD hw0 h00 hob rfl (n_X3_k9 l D X σ h s.heap.size) bi_X9_3 rfl ⟨Nat.le_of_ble_eq_true rfl, Nat.le_of_ble_eq_true rfl⟩ ⟨Nat.le_of_ble_eq_true rfl, Nat.le_of_ble_eq_true rfl⟩ rfl (Nat.le_of_ble_eq_true rfl) dX9_init_1) hS (fun a _ qa => qa) (fun a qa => qa) (fun u3 t H4 locs1 e1 _ hp hbb hz2 hk2 S2 => ?_)
  obtain ⟨X1, σ2, rt⟩ := u3
  obtain ⟨x5, hkh, hkt, hyr⟩ := hp
  obtain ⟨w2, b2⟩ := hbb
  rw [e1] at w2 b2
  have hD2 : X1.1 = D := x5.1.trans hD
  have yr2 := yr0.tr hyr (fun c hc => by rw [(hx0.2.2.2.1 c hc).1]; exact hc)
  have x2 := hx0.tr x5 (fun a qa => qa)
  try clear x5
  have lt2 := t_lt b2
  refine lv_aload_n hxx hb dX9_init_4 rfl (lv_at hl 0 rfl) ?_
  refine b_new E S2 bw_307 bw_31 bw_2 (show vwCl[0]? = some (RX0, TX0, 15) from rfl) q_inX0 tyX0 tyX0_ok (Nat.le_of_ble_eq_true rfl) (Nat.le_of_ble_eq_true rfl) dX9_init_5 (fun q6 H7 e8 z9 o10 b11 S12 => ?_)
  have hq6 : h < q6 := by first | exact Nat.lt_of_lt_of_eq lt2 e8.symm | omega
  have gg_q6 : s.heap.size ≤ q6 := Nat.le_trans S2.1 (Nat.le_of_eq e8.symm)
  have mm_q6 : q6 < H7.size := by rw [z9, e8]; exact Nat.lt_succ_self _
  try clear S2
  have w13 : q_w X1 σ2 H7 := w2.kept (fun a ha => o10 a (w2.lt ha))
  have b14 := b2.kept (o10 h lt2)
  try clear o10; try clear b2
  have t15 := t_lt b14
  have k16 : q_kd X1 q6 = 0 := w2.fresh (Nat.le_of_eq e8.symm)
  try clear w2
  have g17 := S12.1
  refine lv_dup hxx hb dX9_init_8 rfl ?_
  have a28 : ∀ a, q_nw q6 H7.size a → q_nw h s.heap.size a := nw_in gg_q6 (Nat.le_trans gg_q6 (Nat.le_of_lt mm_q6))
  refine b_cv (b_runN (As := []) (rest := [.ref q6, .ref h]) E (hml.trans hl.1.symm) hD2 w13 k16 b11 rfl (n_X0 l D X1 σ2 q6 H7.size) bi_X9_11 rfl ⟨Nat.le_of_ble_eq_true rfl, Nat.le_of_ble_eq_true rfl⟩ ⟨Nat.le_of_ble_eq_true rfl, Nat.le_of_ble_eq_true rfl⟩ rfl (Nat.le_of_ble_eq_true rfl) dX9_init_9) S12 rfl a28 (fun X18 σ19 H20 locs1 x21 k22 p23 w24 z25 o26 S27 => ?_)
  try clear k16; try clear w13; try clear S12; try clear b11
  have D29 : X18.1 = D := x21.1.trans hD2
  have k30 : q_kd X18 h = 0 := x21.k0 hkh (by first | exact (nw_no hq6 (Nat.lt_trans hq6 mm_q6)) | (rintro (e | e) <;> omega))
  have b31 := b14.kept (o26 h t15 (by first | exact (Nat.ne_of_lt hq6) | omega))
  try clear o26; try clear b14
  have t32 := t_lt b31
  try clear t15
  have y33 := yr2.tr p23.1.1 (fun c hc => by rw [(x2.2.2.2.1 c hc).1]; exact hc)
  have x34 := x2.tr x21 a28
  try clear x2
  have k35 := x21.kd hkt (by decide)
  try clear x21
  have y36 := p23.1.2
  try clear p23
  refine b_put E S27 hAh hnm (f := 8) b31 (show vwCl[8]? = some (RX9, TX9, 12) from rfl) q_inX9 tyX9_ok nmX9 (by decide) bw_311 rfl (fun _ => rfl) (tyX9_ok 8 (by decide)) rfl rfl dX9_init_12 (fun H37 locs1 z38 o39 b40 S41 => ?_)
  try clear b31; try clear S27
  have w42 : q_w X18 σ19 H37 := w24.kept (fun a ha => o39 a (fun e => ha (by rw [e]; exact k30)))
  try clear o39; try clear w24
  have t43 := t_lt b40
  try clear t32
  refine lv_aload_n hxx hb dX9_init_15 rfl (lv_at hl 0 rfl) ?_
  refine lv_iconst (v := 0) hxx hb dX9_init_16 (by decide) ?_
  refine b_put E S41 hAh hnm (f := 9) b40 (show vwCl[8]? = some (RX9, TX9, 12) from rfl) q_inX9 tyX9_ok nmX9 (by decide) bw_313 rfl (fun _ => rfl) (tyX9_ok 9 (by decide)) rfl rfl dX9_init_17 (fun H44 locs1 z45 o46 b47 S48 => ?_)
  try clear S41; try clear b40
  have w49 : q_w X18 σ19 H44 := w42.kept (fun a ha => o46 a (fun e => ha (by rw [e]; exact k30)))
  try clear o46; try clear w42
  have t50 := t_lt b47
  try clear t43
  refine lv_aload_n hxx hb dX9_init_20 rfl (lv_at hl 0 rfl) ?_
  refine lv_iconst (v := 0) hxx hb dX9_init_21 (by decide) ?_
  refine b_put E S48 hAh hnm (f := 10) b47 (show vwCl[8]? = some (RX9, TX9, 12) from rfl) q_inX9 tyX9_ok nmX9 (by decide) bw_314 rfl (fun _ => rfl) (tyX9_ok 10 (by decide)) rfl rfl dX9_init_22 (fun H51 locs1 z52 o53 b54 S55 => ?_)
  try clear S48; try clear b47
  have w56 : q_w X18 σ19 H51 := w49.kept (fun a ha => o53 a (fun e => ha (by rw [e]; exact k30)))
  try clear o53; try clear w49
  have t57 := t_lt b54
  try clear t50
  refine lv_aload_n hxx hb dX9_init_25 rfl (lv_at hl 0 rfl) ?_
  refine b_new E S55 bw_309 bw_43 bw_4 (show vwCl[4]? = some (RX5, TX5, 1) from rfl) q_inX5 tyX5 tyX5_ok (Nat.le_of_ble_eq_true rfl) (Nat.le_of_ble_eq_true rfl) dX9_init_26 (fun q58 H59 e60 z61 o62 b63 S64 => ?_)
  have hq58 : h < q58 := by first | exact Nat.lt_of_lt_of_eq t57 e60.symm | omega
  have gg_q58 : s.heap.size ≤ q58 := Nat.le_trans S55.1 (Nat.le_of_eq e60.symm)
  have mm_q58 : q58 < H59.size := by rw [z61, e60]; exact Nat.lt_succ_self _
  have cc_q58 : q6 < q58 := by first | exact Nat.lt_of_lt_of_eq (Nat.lt_of_lt_of_le (Nat.lt_of_lt_of_le (Nat.lt_of_lt_of_le (Nat.lt_of_lt_of_le mm_q6 z25) (Nat.le_of_eq z38.symm)) (Nat.le_of_eq z45.symm)) (Nat.le_of_eq z52.symm)) e60.symm | omega
  try clear S55
  have w65 : q_w X18 σ19 H59 := w56.kept (fun a ha => o62 a (w56.lt ha))
  have b66 := b54.kept (o62 h t57)
  try clear o62; try clear b54
  have t67 := t_lt b66
  try clear t57
  have k68 : q_kd X18 q58 = 0 := w56.fresh (Nat.le_of_eq e60.symm)
  try clear w56
  have g69 := S64.1
  refine lv_dup hxx hb dX9_init_29 rfl ?_
  refine lv_bipush (v := 6) hxx hb dX9_init_30 (by decide) ?_
  have a80 : ∀ a, q_nw q58 H59.size a → q_nw h s.heap.size a := nw_in gg_q58 (Nat.le_trans gg_q58 (Nat.le_of_lt mm_q58))
  refine b_cv (b_runI (As := [.int 6]) (rest := [.ref q58, .ref h]) E (hml.trans hl.1.symm) D29 w65 k68 b63 rfl (n_X5 l D X18 σ19 q58 H59.size 6 6 (by decide) (by decide) (by decide)) bi_X9_27 rfl ⟨Nat.le_of_ble_eq_true rfl, Nat.le_of_ble_eq_true rfl⟩ ⟨Nat.le_of_ble_eq_true rfl, Nat.le_of_ble_eq_true rfl⟩ rfl (Nat.le_of_ble_eq_true rfl) dX9_init_32) S64 rfl a80 (fun X70 σ71 H72 locs1 x73 k74 p75 w76 z77 o78 S79 => ?_)
  try clear k68; try clear w65; try clear S64; try clear b63
  have D81 : X70.1 = D := x73.1.trans D29
  try clear D29
  have k82 : q_kd X70 h = 0 := x73.k0 k30 (by first | exact (nw_no hq58 (Nat.lt_trans hq58 mm_q58)) | (rintro (e | e) <;> omega))
  try clear k30
  have b83 := b66.kept (o78 h t67 (by first | exact (Nat.ne_of_lt hq58) | omega))
  try clear o78; try clear b66
  have t84 := t_lt b83
  try clear t67
  have y85 := y33.tr p75.1.1 (fun c hc => by rw [(x34.2.2.2.1 c hc).1]; exact hc)
  try clear y33
  have x86 := x34.tr x73 a80
  try clear x34
  have k87 := x73.kd k35 (by decide)
  try clear k35
  have k88 := x73.kd k22 (by decide)
  try clear x73
  have y89 := p75.1.1 q6 (by rw [k22]; decide) y36
  try clear y36; try clear k22
  have y90 := p75.1.2
  have y91 := p75.2
  try clear p75
  refine b_put E S79 hAh hnm (f := 11) b83 (show vwCl[8]? = some (RX9, TX9, 12) from rfl) q_inX9 tyX9_ok nmX9 (by decide) bw_315 rfl (fun _ => rfl) (tyX9_ok 11 (by decide)) rfl rfl dX9_init_35 (fun H92 locs1 z93 o94 b95 S96 => ?_)
  try clear b83; try clear S79
  have w97 : q_w X70 σ71 H92 := w76.kept (fun a ha => o94 a (fun e => ha (by rw [e]; exact k82)))
  try clear o94; try clear w76
  have t98 := t_lt b95
  try clear t84
  obtain ⟨X99, dX99⟩ : ∃ Y, Y = q_xg X70 h 9 0 (fun f => ([0, 0, 0, 0, 0, 0, 0, 0, q6, 0, 0, q58] : List Nat).getD f 0) := ⟨_, rfl⟩
  obtain ⟨σ100, dσ100⟩ : ∃ τ, τ = q_sg σ71 h (fun f => ([0, 0, 0, 0, 0, 0, 0, (-1), 0, 0, 0, 0] : List Int32).getD f 0) (fun f => ([0, 0, 0, 0, 0, 0, 0, 0, 0, 0, 0, 0] : List Int64).getD f 0) rt := ⟨_, rfl⟩
  have x101 : q_ext (fun a => a = h) X70 X99 σ71 σ100 := by rw [dX99, dσ100]; exact q_ext.add k82
  have hrk : ∀ f, f < 40 → q_rk 9 f ≠ 0 → q_kd X70 (([0, 0, 0, 0, 0, 0, 0, 0, q6, 0, 0, q58] : List Nat).getD f 0) = q_rk 9 f := fun f h40 hf => match f, h40, hf with | 0, _, hf => absurd rfl hf | 1, _, hf => absurd rfl hf | 2, _, hf => absurd rfl hf | 3, _, hf => absurd rfl hf | 4, _, hf => absurd rfl hf | 5, _, hf => absurd rfl hf | 6, _, hf => absurd rfl hf | 7, _, hf => absurd rfl hf | 8, _, _ => k88 | 9, _, hf => absurd rfl hf | 10, _, hf => absurd rfl hf | 11, _, _ => k74 | 12, _, hf => absurd rfl hf | 13, _, hf => absurd rfl hf | 14, _, hf => absurd rfl hf | 15, _, hf => absurd rfl hf | 16, _, hf => absurd rfl hf | 17, _, hf => absurd rfl hf | 18, _, hf => absurd rfl hf | 19, _, hf => absurd rfl hf | 20, _, hf => absurd rfl hf | 21, _, hf => absurd rfl hf | 22, _, hf => absurd rfl hf | 23, _, hf => absurd rfl hf | 24, _, hf => absurd rfl hf | 25, _, hf => absurd rfl hf | 26, _, hf => absurd rfl hf | 27, _, hf => absurd rfl hf | 28, _, hf => absurd rfl hf | 29, _, hf => absurd rfl hf | 30, _, hf => absurd rfl hf | 31, _, hf => absurd rfl hf | 32, _, hf => absurd rfl hf | 33, _, hf => absurd rfl hf | 34, _, hf => absurd rfl hf | 35, _, hf => absurd rfl hf | 36, _, hf => absurd rfl hf | 37, _, hf => absurd rfl hf | 38, _, hf => absurd rfl hf | 39, _, hf => absurd rfl hf | (n + 40), h40, _ => absurd h40 (Nat.not_lt_of_ge (Nat.le_add_left 40 n))
  have hB : ∀ f, f < 40 → (q_bn 9 f).1 ≤ ((([0, 0, 0, 0, 0, 0, 0, (-1), 0, 0, 0, 0] : List Int32).getD f 0).toInt) ∧ (([0, 0, 0, 0, 0, 0, 0, (-1), 0, 0, 0, 0] : List Int32).getD f 0).toInt ≤ (q_bn 9 f).2 := by decide +kernel
  have y103 : ∀ f, q_rk 9 f ≠ 0 → h < ([0, 0, 0, 0, 0, 0, 0, 0, q6, 0, 0, q58] : List Nat).getD f 0 := by
    intro f hf
    rcases y_fs9 hf with rfl | rfl
    · exact (hq6)
    · exact (hq58)
  have y104 : ∀ f, q_rk 9 f ≠ 0 → y_root X70 (([0, 0, 0, 0, 0, 0, 0, 0, q6, 0, 0, q58] : List Nat).getD f 0) := by
    intro f hf
    rcases y_fs9 hf with rfl | rfl
    · exact y89
    · exact y90
  try clear y90; try clear y89
  have y105 : ∀ f, q_rk 9 f = 5 → q_ln X70 (q_rf X70 (([0, 0, 0, 0, 0, 0, 0, 0, q6, 0, 0, q58] : List Nat).getD f 0) 0) = y_rl 9 f := by
    intro f hf
    rcases y_fs9 (show q_rk 9 f ≠ 0 by rw [hf]; decide) with rfl | rfl
    · exact absurd hf (by decide)
    · exact y91
  have y106 : ∀ f, q_rk 9 f ≠ 0 → ([0, 0, 0, 0, 0, 0, 0, 0, q6, 0, 0, q58] : List Nat).getD f 0 ≠ h := by
    intro f hf
    rcases y_fs9 hf with rfl | rfl
    · exact ((Nat.ne_of_gt hq6))
    · exact ((Nat.ne_of_gt hq58))
  have y107 : ∀ f, q_rk 9 f ≠ 0 → q_kd X (([0, 0, 0, 0, 0, 0, 0, 0, q6, 0, 0, q58] : List Nat).getD f 0) = 0 := by
    intro f hf
    rcases y_fs9 hf with rfl | rfl
    · exact hw0.fresh (gg_q6)
    · exact hw0.fresh (gg_q58)
  have w102 : q_w X99 σ100 H92 := by
    rw [dX99, dσ100]
    exact w97.add k82 (q_hrk hrk) (fun q => absurd rfl q) (by decide) (fun q => absurd q (by decide)) (q_hB hB (by decide)) (fun _ => k87) (q_cfO D81 ⟨rfl, by decide⟩ (show vwCl[8]? = some (RX9, TX9, 12) from rfl) b95 (fun f hf => match f, hf with | 0, _ => rfl | 1, _ => rfl | 2, _ => rfl | 3, _ => rfl | 4, _ => rfl | 5, _ => rfl | 6, _ => rfl | 7, _ => rfl | 8, _ => rfl | 9, _ => rfl | 10, _ => rfl | 11, _ => rfl | (n + 12), hf => absurd hf (Nat.not_lt_of_ge (Nat.le_add_left 12 n)))) y103 (y_in9 (rf := (fun f => ([0, 0, 0, 0, 0, 0, 0, 0, q6, 0, 0, q58] : List Nat).getD f 0)) (show q6 < q58 from cc_q58)) y104 y105 (fun q => absurd q (by decide))
  try clear y105; try clear y104; try clear y103; try clear b95; try clear D81
  have y108 : y_root X99 h := by
    rw [dX99]
    exact (y_root.out w97.1 k82).add y_xg y106
  try clear y106; try clear k82
  have y109 : y_rt X X99 := by
    rw [dX99]
    exact y85.add y_xg y107
  try clear y107; try clear y85
  have k110 : q_kd X99 h = 9 := by rw [dX99]; exact q_xg_h
  have x111 := x86.tr x101 (fun a e => Or.inl e)
  try clear x86
  have y112 := y_rlx x101 w97.1 k74 y91
  try clear y112; try clear w97; try clear y91
  have k113 := x101.kd k87 (by decide)
  try clear k113; try clear k87
  have k114 := x101.kd k88 (by decide)
  try clear k114; try clear k88
  have k115 := x101.kd k74 (by decide)
  try clear k115; try clear x101; try clear k74
  exact b_ret E hr hlk S96 x111 k110 ⟨⟨y109, y108⟩, trivial⟩ w102 dX9_init_38

set_option maxRecDepth 100000 in
set_option maxHeartbeats 4000000 in
theorem n_X3_k4 (l : Launch) (D : DW) (X : XW) (σ : ST) (h sz : Nat) : Met l yX3_init (q_ws yX3_init cX3_init 1 none) { frames := 1, cells := 1, slots := 0, locals := 12 } (q_PN D X σ h sz 3 11 (fun k => defaultValue (tyX4 k)) [.ref h]) (va_Qv (S := XW × ST × Nat) (fun u => q_ext (q_nw h sz) X u.1 σ u.2.1 ∧ q_kd u.1 h = 0 ∧ q_kd u.1 u.2.2 = 22 ∧ y_rt X u.1) (fun u t => q_w u.1 u.2.1 t.heap ∧ t_OB h (D.1.1 3) 11 (D.1.2 3) t.heap (updV (updV (updV (updV (updV (updV (updV (updV (fun k => defaultValue (tyX4 k)) 0 (.ref u.2.2)) 1 (.int 0)) 2 (.int 0)) 3 (.int 0)) 4 (.int 0)) 5 (.int 0)) 6 (.int 0)) 7 (.int (-1)))) (q_nw h sz)) 1 0 (q_nw h sz) := by
  refine b_met  (by first | exact rfl | decide +kernel) rfl rfl (Nat.le_of_ble_eq_true rfl) (fun p e s m below meth c E hml hr hlk hnm hsz hD hw0 h00 hob ls hl => ?_)
  subst hsz
  have hxx := E.1
  have hb := E.2.1
  have hl : lv_has ls 1 [(0, .ref h)] := hl
  have hS : va_S (q_nw h s.heap.size) s.heap s.heap [] := va_S.rf
  have hx0 : q_ext (q_nw h s.heap.size) X X σ σ := q_ext.rf
  have hAh : q_nw h s.heap.size h := Or.inl rfl
  have yr0 : y_rt X X := y_rt.rf
  have hlt := t_lt hob
  refine lv_aload_n hxx hb dX3_init_0 rfl (lv_at hl 0 rfl) ?_
  refine W.objInit hxx hb E.2.2.1 (E.2.2.2.1 _ bw_306) (E.2.2.2.1 _ bw_26) (E.2.2.2.1 _ bw_27) rfl (by rw [hml]; exact hl.1) rfl dX3_init_1 (Nat.le_of_ble_eq_true rfl) (Nat.le_of_ble_eq_true rfl) ?_
  refine W.eq (g2 := F0 m 4 ls []) rfl ?_
  refine lv_aload_n hxx hb dX3_init_4 rfl (lv_at hl 0 rfl) ?_
  refine lv_iconst (v := 0) hxx hb dX3_init_5 (by decide) ?_
  refine b_newa E hS bw_55 (t := 0) rfl (fun _ _ => rfl) (N' := 0) (by decide) (by decide) (by decide) (Nat.le_of_ble_eq_true rfl) (Nat.le_of_ble_eq_true rfl) dX3_init_6 (fun q1 H2 e3 z4 o5 r6 S7 => ?_)
  have hq1 : h < q1 := by first | exact Nat.lt_of_lt_of_eq hlt e3.symm | omega
  have gg_q1 : s.heap.size ≤ q1 := Nat.le_trans hS.1 (Nat.le_of_eq e3.symm)
  have mm_q1 : q1 < H2.size := by rw [z4, e3]; exact Nat.lt_succ_self _
  have w8 : q_w X σ H2 := hw0.kept (fun a ha => o5 a (hw0.lt ha))
  have b9 := hob.kept (o5 h hlt)
  try clear o5
  have t10 := t_lt b9
  have k11 : q_kd X q1 = 0 := hw0.fresh (Nat.le_of_eq e3.symm)
  have g12 := S7.1
  refine b_put E S7 hAh hnm (f := 0) b9 (show vwCl[3]? = some (RX4, TX4, 11) from rfl) q_inX4 tyX4_ok nmX4 (by decide) bw_316 rfl (fun _ => rfl) (tyX4_ok 0 (by decide)) rfl rfl dX3_init_8 (fun H13 locs1 z14 o15 b16 S17 => ?_)
  try clear b9; try clear S7
  have w18 : q_w X σ H13 := w8.kept (fun a ha => o15 a (fun e => ha (by rw [e]; exact h00)))
  try clear w8
  have t19 := t_lt b16
  try clear t10
  have r20 := (o15 q1 (by first | exact (Nat.ne_of_gt hq1) | omega)).trans r6
  try clear o15; try clear r6
  refine lv_aload_n hxx hb dX3_init_11 rfl (lv_at hl 0 rfl) ?_
  refine lv_iconst (v := 0) hxx hb dX3_init_12 (by decide) ?_
  refine b_put E S17 hAh hnm (f := 1) b16 (show vwCl[3]? = some (RX4, TX4, 11) from rfl) q_inX4 tyX4_ok nmX4 (by decide) bw_317 rfl (fun _ => rfl) (tyX4_ok 1 (by decide)) rfl rfl dX3_init_13 (fun H21 locs1 z22 o23 b24 S25 => ?_)
  try clear S17; try clear b16
  have w26 : q_w X σ H21 := w18.kept (fun a ha => o23 a (fun e => ha (by rw [e]; exact h00)))
  try clear w18
  have t27 := t_lt b24
  try clear t19
  have r28 := (o23 q1 (by first | exact (Nat.ne_of_gt hq1) | omega)).trans r20
  try clear o23; try clear r20
  refine lv_aload_n hxx hb dX3_init_16 rfl (lv_at hl 0 rfl) ?_
  refine lv_iconst (v := 0) hxx hb dX3_init_17 (by decide) ?_
  refine b_put E S25 hAh hnm (f := 2) b24 (show vwCl[3]? = some (RX4, TX4, 11) from rfl) q_inX4 tyX4_ok nmX4 (by decide) bw_318 rfl (fun _ => rfl) (tyX4_ok 2 (by decide)) rfl rfl dX3_init_18 (fun H29 locs1 z30 o31 b32 S33 => ?_)
  try clear S25; try clear b24
  have w34 : q_w X σ H29 := w26.kept (fun a ha => o31 a (fun e => ha (by rw [e]; exact h00)))
  try clear w26
  have t35 := t_lt b32
  try clear t27
  have r36 := (o31 q1 (by first | exact (Nat.ne_of_gt hq1) | omega)).trans r28
  try clear o31; try clear r28
  refine lv_aload_n hxx hb dX3_init_21 rfl (lv_at hl 0 rfl) ?_
  refine lv_iconst (v := 0) hxx hb dX3_init_22 (by decide) ?_
  refine b_put E S33 hAh hnm (f := 3) b32 (show vwCl[3]? = some (RX4, TX4, 11) from rfl) q_inX4 tyX4_ok nmX4 (by decide) bw_319 rfl (fun _ => rfl) (tyX4_ok 3 (by decide)) rfl rfl dX3_init_23 (fun H37 locs1 z38 o39 b40 S41 => ?_)
  try clear S33; try clear b32
  have w42 : q_w X σ H37 := w34.kept (fun a ha => o39 a (fun e => ha (by rw [e]; exact h00)))
  try clear w34
  have t43 := t_lt b40
  try clear t35
  have r44 := (o39 q1 (by first | exact (Nat.ne_of_gt hq1) | omega)).trans r36
  try clear o39; try clear r36
  refine lv_aload_n hxx hb dX3_init_26 rfl (lv_at hl 0 rfl) ?_
  refine lv_iconst (v := 0) hxx hb dX3_init_27 (by decide) ?_
  refine b_put E S41 hAh hnm (f := 4) b40 (show vwCl[3]? = some (RX4, TX4, 11) from rfl) q_inX4 tyX4_ok nmX4 (by decide) bw_320 rfl (fun _ => rfl) (tyX4_ok 4 (by decide)) rfl rfl dX3_init_28 (fun H45 locs1 z46 o47 b48 S49 => ?_)
  try clear S41; try clear b40
  have w50 : q_w X σ H45 := w42.kept (fun a ha => o47 a (fun e => ha (by rw [e]; exact h00)))
  try clear w42
  have t51 := t_lt b48
  try clear t43
  have r52 := (o47 q1 (by first | exact (Nat.ne_of_gt hq1) | omega)).trans r44
  try clear o47; try clear r44
  refine lv_aload_n hxx hb dX3_init_31 rfl (lv_at hl 0 rfl) ?_
  refine lv_iconst (v := 0) hxx hb dX3_init_32 (by decide) ?_
  refine b_put E S49 hAh hnm (f := 5) b48 (show vwCl[3]? = some (RX4, TX4, 11) from rfl) q_inX4 tyX4_ok nmX4 (by decide) bw_325 rfl (fun _ => rfl) (tyX4_ok 5 (by decide)) rfl rfl dX3_init_33 (fun H53 locs1 z54 o55 b56 S57 => ?_)
  try clear S49; try clear b48
  have w58 : q_w X σ H53 := w50.kept (fun a ha => o55 a (fun e => ha (by rw [e]; exact h00)))
  try clear w50
  have t59 := t_lt b56
  try clear t51
  have r60 := (o55 q1 (by first | exact (Nat.ne_of_gt hq1) | omega)).trans r52
  try clear o55; try clear r52
  refine lv_aload_n hxx hb dX3_init_36 rfl (lv_at hl 0 rfl) ?_
  refine lv_iconst (v := 0) hxx hb dX3_init_37 (by decide) ?_
  refine b_put E S57 hAh hnm (f := 6) b56 (show vwCl[3]? = some (RX4, TX4, 11) from rfl) q_inX4 tyX4_ok nmX4 (by decide) bw_328 rfl (fun _ => rfl) (tyX4_ok 6 (by decide)) rfl rfl dX3_init_38 (fun H61 locs1 z62 o63 b64 S65 => ?_)
  try clear S57; try clear b56
  have w66 : q_w X σ H61 := w58.kept (fun a ha => o63 a (fun e => ha (by rw [e]; exact h00)))
  try clear w58
  have t67 := t_lt b64
  try clear t59
  have r68 := (o63 q1 (by first | exact (Nat.ne_of_gt hq1) | omega)).trans r60
  try clear o63; try clear r60
  refine lv_aload_n hxx hb dX3_init_41 rfl (lv_at hl 0 rfl) ?_
  refine lv_iconst (v := (-1)) hxx hb dX3_init_42 (by decide) ?_
  refine b_put E S65 hAh hnm (f := 7) b64 (show vwCl[3]? = some (RX4, TX4, 11) from rfl) q_inX4 tyX4_ok nmX4 (by decide) bw_330 rfl (fun _ => rfl) (tyX4_ok 7 (by decide)) rfl rfl dX3_init_43 (fun H69 locs1 z70 o71 b72 S73 => ?_)
  try clear S65; try clear b64
  have w74 : q_w X σ H69 := w66.kept (fun a ha => o71 a (fun e => ha (by rw [e]; exact h00)))
  try clear w66
  have t75 := t_lt b72
  try clear t67
  have r76 := (o71 q1 (by first | exact (Nat.ne_of_gt hq1) | omega)).trans r68
  try clear o71; try clear r68
  have y81 := raw_lt r76
  try clear y81
  obtain ⟨X77, dX77⟩ : ∃ Y, Y = q_xg X q1 22 0 (fun _ => 0) := ⟨_, rfl⟩
  obtain ⟨σ78, dσ78⟩ : ∃ τ, τ = q_sg σ q1 (fun _ => 0 : Nat → Int32) (fun _ => 0) 0 := ⟨_, rfl⟩
  have x79 : q_ext (fun a => a = q1) X X77 σ σ78 := by rw [dX77, dσ78]; exact q_ext.add k11
  have y82 : y_root X77 q1 := by rw [dX77]; exact (y_root.out w74.1 k11).add y_xg (fun f hf => absurd rfl hf)
  try clear y82
  have y83 : y_rt X X77 := by rw [dX77]; exact yr0.add y_xg (fun f hf => absurd rfl hf)
  have w80 : q_w X77 σ78 H69 := by
    rw [dX77, dσ78]
    exact w74.add k11 (fun f hf => absurd rfl hf) (fun q => absurd rfl q) (by decide) (fun q => absurd q (by decide)) (fun f => q_inU rfl) (fun q => by rcases q with q | q <;> exact absurd q (by decide)) (q_cfA hD (by decide) (t0 := 0) rfl r76 (fun j => rfl)) (fun f hf => absurd rfl hf) (fun f g hf _ _ => absurd rfl hf) (fun f hf => absurd rfl hf) (fun f hf => absurd (show (0 : Nat) = 5 from hf) (by decide)) (fun q => absurd q (by decide))
  try clear r76; try clear w74; try clear k11; try clear t0
  have D84 : X77.1 = D := x79.1.trans hD
  try clear D84
  have k85 : q_kd X77 q1 = 22 := by rw [dX77]; exact q_xg_h
  have n86 : q_ln X77 q1 = 0 := by rw [dX77]; exact if_pos rfl
  have x87 := hx0.tr x79 (fun a e => Or.inr (by rw [e]; exact gg_q1))
  have k88 : q_kd X77 h = 0 := x79.k0 h00 (by first | exact (Nat.ne_of_lt hq1) | (omega))
  try clear x79
  exact W.vret E.1 E.2.1 hr (fun t ht _ => ⟨⟨(X77, σ78, q1), rfl, ⟨x87, k88, k85, y83⟩, by show q_w X77 σ78 t.heap ∧ _; rw [ht]; exact ⟨w80, b72⟩⟩, S73.F ht⟩) S73.2.2 dX3_init_46 hlk

set_option maxRecDepth 100000 in
set_option maxHeartbeats 4000000 in
theorem n_X4 (l : Launch) (D : DW) (X : XW) (σ : ST) (h sz : Nat) : Met l yX4_init (q_ws yX4_init cX4_init 1 none) { frames := 3, cells := 14, slots := 317, locals := 65 } (q_PN D X σ h sz 3 11 (fun k => defaultValue (tyX4 k)) [.ref h]) (q_QN X σ h sz 4 (fun X' _ => (y_rt X X' ∧ y_root X' h) ∧ True)) 14 317 (q_nw h sz) := by
  refine b_met  (by first | exact rfl | decide +kernel) rfl rfl (Nat.le_of_ble_eq_true rfl) (fun p e s m below meth c E hml hr hlk hnm hsz hD hw0 h00 hob ls hl => ?_)
  subst hsz
  have hxx := E.1
  have hb := E.2.1
  have hl : lv_has ls 1 [(0, .ref h)] := hl
  have hS : va_S (q_nw h s.heap.size) s.heap s.heap [] := va_S.rf
  have hx0 : q_ext (q_nw h s.heap.size) X X σ σ := q_ext.rf
  have hAh : q_nw h s.heap.size h := Or.inl rfl
  have yr0 : y_rt X X := y_rt.rf
  have hlt := t_lt hob
  refine lv_aload_n hxx hb dX4_init_0 rfl (lv_at hl 0 rfl) ?_
  refine va_callv (b_runN (rest := []) E (hml.trans hl.1.symm) hD hw0 h00 hob rfl (n_X3_k4 l D X σ h s.heap.size) bi_X4_3 rfl ⟨Nat.le_of_ble_eq_true rfl, Nat.le_of_ble_eq_true rfl⟩ ⟨Nat.le_of_ble_eq_true rfl, Nat.le_of_ble_eq_true rfl⟩ rfl (Nat.le_of_ble_eq_true rfl) dX4_init_1) hS (fun a _ qa => qa) (fun a qa => qa) (fun u3 t H4 locs1 e1 _ hp hbb hz2 hk2 S2 => ?_)
  obtain ⟨X1, σ2, rt⟩ := u3
  obtain ⟨x5, hkh, hkt, hyr⟩ := hp
  obtain ⟨w2, b2⟩ := hbb
  rw [e1] at w2 b2
  have hD2 : X1.1 = D := x5.1.trans hD
  have yr2 := yr0.tr hyr (fun c hc => by rw [(hx0.2.2.2.1 c hc).1]; exact hc)
  have x2 := hx0.tr x5 (fun a qa => qa)
  try clear x5
  have lt2 := t_lt b2
  refine lv_aload_n hxx hb dX4_init_4 rfl (lv_at hl 0 rfl) ?_
  refine b_new E S2 bw_363 bw_180 bw_8 (show vwCl[7]? = some (RX8, TX8, 8) from rfl) q_inX8 tyX8 tyX8_ok (Nat.le_of_ble_eq_true rfl) (Nat.le_of_ble_eq_true rfl) dX4_init_5 (fun q6 H7 e8 z9 o10 b11 S12 => ?_)
  have hq6 : h < q6 := by first | exact Nat.lt_of_lt_of_eq lt2 e8.symm | omega
  have gg_q6 : s.heap.size ≤ q6 := Nat.le_trans S2.1 (Nat.le_of_eq e8.symm)
  have mm_q6 : q6 < H7.size := by rw [z9, e8]; exact Nat.lt_succ_self _
  try clear S2
  have w13 : q_w X1 σ2 H7 := w2.kept (fun a ha => o10 a (w2.lt ha))
  have b14 := b2.kept (o10 h lt2)
  try clear o10; try clear b2
  have t15 := t_lt b14
  have k16 : q_kd X1 q6 = 0 := w2.fresh (Nat.le_of_eq e8.symm)
  try clear w2
  have g17 := S12.1
  refine lv_dup hxx hb dX4_init_8 rfl ?_
  have a28 : ∀ a, q_nw q6 H7.size a → q_nw h s.heap.size a := nw_in gg_q6 (Nat.le_trans gg_q6 (Nat.le_of_lt mm_q6))
  refine b_cv (b_runN (As := []) (rest := [.ref q6, .ref h]) E (hml.trans hl.1.symm) hD2 w13 k16 b11 rfl (n_X8 l D X1 σ2 q6 H7.size) bi_X4_11 rfl ⟨Nat.le_of_ble_eq_true rfl, Nat.le_of_ble_eq_true rfl⟩ ⟨Nat.le_of_ble_eq_true rfl, Nat.le_of_ble_eq_true rfl⟩ rfl (Nat.le_of_ble_eq_true rfl) dX4_init_9) S12 rfl a28 (fun X18 σ19 H20 locs1 x21 k22 p23 w24 z25 o26 S27 => ?_)
  try clear k16; try clear w13; try clear S12; try clear b11
  have D29 : X18.1 = D := x21.1.trans hD2
  have k30 : q_kd X18 h = 0 := x21.k0 hkh (by first | exact (nw_no hq6 (Nat.lt_trans hq6 mm_q6)) | (rintro (e | e) <;> omega))
  have b31 := b14.kept (o26 h t15 (by first | exact (Nat.ne_of_lt hq6) | omega))
  try clear o26; try clear b14
  have t32 := t_lt b31
  try clear t15
  have y33 := yr2.tr p23.1.1 (fun c hc => by rw [(x2.2.2.2.1 c hc).1]; exact hc)
  have x34 := x2.tr x21 a28
  try clear x2
  have k35 := x21.kd hkt (by decide)
  try clear x21
  have y36 := p23.1.2
  try clear p23
  refine b_put E S27 hAh hnm (f := 8) b31 (show vwCl[3]? = some (RX4, TX4, 11) from rfl) q_inX4 tyX4_ok nmX4 (by decide) bw_367 rfl (fun _ => rfl) (tyX4_ok 8 (by decide)) rfl rfl dX4_init_12 (fun H37 locs1 z38 o39 b40 S41 => ?_)
  try clear b31; try clear S27
  have w42 : q_w X18 σ19 H37 := w24.kept (fun a ha => o39 a (fun e => ha (by rw [e]; exact k30)))
  try clear o39; try clear w24
  have t43 := t_lt b40
  try clear t32
  refine lv_aload_n hxx hb dX4_init_15 rfl (lv_at hl 0 rfl) ?_
  refine b_new E S41 bw_365 bw_43 bw_4 (show vwCl[4]? = some (RX5, TX5, 1) from rfl) q_inX5 tyX5 tyX5_ok (Nat.le_of_ble_eq_true rfl) (Nat.le_of_ble_eq_true rfl) dX4_init_16 (fun q44 H45 e46 z47 o48 b49 S50 => ?_)
  have hq44 : h < q44 := by first | exact Nat.lt_of_lt_of_eq t43 e46.symm | omega
  have gg_q44 : s.heap.size ≤ q44 := Nat.le_trans S41.1 (Nat.le_of_eq e46.symm)
  have mm_q44 : q44 < H45.size := by rw [z47, e46]; exact Nat.lt_succ_self _
  have cc_q44 : q6 < q44 := by first | exact Nat.lt_of_lt_of_eq (Nat.lt_of_lt_of_le (Nat.lt_of_lt_of_le mm_q6 z25) (Nat.le_of_eq z38.symm)) e46.symm | omega
  try clear S41
  have w51 : q_w X18 σ19 H45 := w42.kept (fun a ha => o48 a (w42.lt ha))
  have b52 := b40.kept (o48 h t43)
  try clear o48; try clear b40
  have t53 := t_lt b52
  try clear t43
  have k54 : q_kd X18 q44 = 0 := w42.fresh (Nat.le_of_eq e46.symm)
  try clear w42
  have g55 := S50.1
  refine lv_dup hxx hb dX4_init_19 rfl ?_
  refine lv_iconst (v := 3) hxx hb dX4_init_20 (by decide) ?_
  have a66 : ∀ a, q_nw q44 H45.size a → q_nw h s.heap.size a := nw_in gg_q44 (Nat.le_trans gg_q44 (Nat.le_of_lt mm_q44))
  refine b_cv (b_runI (As := [.int 3]) (rest := [.ref q44, .ref h]) E (hml.trans hl.1.symm) D29 w51 k54 b49 rfl (n_X5 l D X18 σ19 q44 H45.size 3 3 (by decide) (by decide) (by decide)) bi_X4_20 rfl ⟨Nat.le_of_ble_eq_true rfl, Nat.le_of_ble_eq_true rfl⟩ ⟨Nat.le_of_ble_eq_true rfl, Nat.le_of_ble_eq_true rfl⟩ rfl (Nat.le_of_ble_eq_true rfl) dX4_init_21) S50 rfl a66 (fun X56 σ57 H58 locs1 x59 k60 p61 w62 z63 o64 S65 => ?_)
  try clear k54; try clear w51; try clear S50; try clear b49
  have D67 : X56.1 = D := x59.1.trans D29
  try clear D29
  have k68 : q_kd X56 h = 0 := x59.k0 k30 (by first | exact (nw_no hq44 (Nat.lt_trans hq44 mm_q44)) | (rintro (e | e) <;> omega))
  try clear k30
  have b69 := b52.kept (o64 h t53 (by first | exact (Nat.ne_of_lt hq44) | omega))
  try clear o64; try clear b52
  have t70 := t_lt b69
  try clear t53
  have y71 := y33.tr p61.1.1 (fun c hc => by rw [(x34.2.2.2.1 c hc).1]; exact hc)
  try clear y33
  have x72 := x34.tr x59 a66
  try clear x34
  have k73 := x59.kd k35 (by decide)
  try clear k35
  have k74 := x59.kd k22 (by decide)
  try clear x59
  have y75 := p61.1.1 q6 (by rw [k22]; decide) y36
  try clear y36; try clear k22
  have y76 := p61.1.2
  have y77 := p61.2
  try clear p61
  refine b_put E S65 hAh hnm (f := 9) b69 (show vwCl[3]? = some (RX4, TX4, 11) from rfl) q_inX4 tyX4_ok nmX4 (by decide) bw_369 rfl (fun _ => rfl) (tyX4_ok 9 (by decide)) rfl rfl dX4_init_24 (fun H78 locs1 z79 o80 b81 S82 => ?_)
  try clear b69; try clear S65
  have w83 : q_w X56 σ57 H78 := w62.kept (fun a ha => o80 a (fun e => ha (by rw [e]; exact k68)))
  try clear o80; try clear w62
  have t84 := t_lt b81
  try clear t70
  refine lv_aload_n hxx hb dX4_init_27 rfl (lv_at hl 0 rfl) ?_
  refine lv_iconst (v := 0) hxx hb dX4_init_28 (by decide) ?_
  refine b_put E S82 hAh hnm (f := 10) b81 (show vwCl[3]? = some (RX4, TX4, 11) from rfl) q_inX4 tyX4_ok nmX4 (by decide) bw_370 rfl (fun _ => rfl) (tyX4_ok 10 (by decide)) rfl rfl dX4_init_29 (fun H85 locs1 z86 o87 b88 S89 => ?_)
  try clear S82; try clear b81
  have w90 : q_w X56 σ57 H85 := w83.kept (fun a ha => o87 a (fun e => ha (by rw [e]; exact k68)))
  try clear o87; try clear w83
  have t91 := t_lt b88
  try clear t84
  obtain ⟨X92, dX92⟩ : ∃ Y, Y = q_xg X56 h 4 0 (fun f => ([0, 0, 0, 0, 0, 0, 0, 0, q6, q44, 0] : List Nat).getD f 0) := ⟨_, rfl⟩
  obtain ⟨σ93, dσ93⟩ : ∃ τ, τ = q_sg σ57 h (fun f => ([0, 0, 0, 0, 0, 0, 0, (-1), 0, 0, 0] : List Int32).getD f 0) (fun f => ([0, 0, 0, 0, 0, 0, 0, 0, 0, 0, 0] : List Int64).getD f 0) rt := ⟨_, rfl⟩
  have x94 : q_ext (fun a => a = h) X56 X92 σ57 σ93 := by rw [dX92, dσ93]; exact q_ext.add k68
  have hrk : ∀ f, f < 40 → q_rk 4 f ≠ 0 → q_kd X56 (([0, 0, 0, 0, 0, 0, 0, 0, q6, q44, 0] : List Nat).getD f 0) = q_rk 4 f := fun f h40 hf => match f, h40, hf with | 0, _, hf => absurd rfl hf | 1, _, hf => absurd rfl hf | 2, _, hf => absurd rfl hf | 3, _, hf => absurd rfl hf | 4, _, hf => absurd rfl hf | 5, _, hf => absurd rfl hf | 6, _, hf => absurd rfl hf | 7, _, hf => absurd rfl hf | 8, _, _ => k74 | 9, _, _ => k60 | 10, _, hf => absurd rfl hf | 11, _, hf => absurd rfl hf | 12, _, hf => absurd rfl hf | 13, _, hf => absurd rfl hf | 14, _, hf => absurd rfl hf | 15, _, hf => absurd rfl hf | 16, _, hf => absurd rfl hf | 17, _, hf => absurd rfl hf | 18, _, hf => absurd rfl hf | 19, _, hf => absurd rfl hf | 20, _, hf => absurd rfl hf | 21, _, hf => absurd rfl hf | 22, _, hf => absurd rfl hf | 23, _, hf => absurd rfl hf | 24, _, hf => absurd rfl hf | 25, _, hf => absurd rfl hf | 26, _, hf => absurd rfl hf | 27, _, hf => absurd rfl hf | 28, _, hf => absurd rfl hf | 29, _, hf => absurd rfl hf | 30, _, hf => absurd rfl hf | 31, _, hf => absurd rfl hf | 32, _, hf => absurd rfl hf | 33, _, hf => absurd rfl hf | 34, _, hf => absurd rfl hf | 35, _, hf => absurd rfl hf | 36, _, hf => absurd rfl hf | 37, _, hf => absurd rfl hf | 38, _, hf => absurd rfl hf | 39, _, hf => absurd rfl hf | (n + 40), h40, _ => absurd h40 (Nat.not_lt_of_ge (Nat.le_add_left 40 n))
  have hB : ∀ f, f < 40 → (q_bn 4 f).1 ≤ ((([0, 0, 0, 0, 0, 0, 0, (-1), 0, 0, 0] : List Int32).getD f 0).toInt) ∧ (([0, 0, 0, 0, 0, 0, 0, (-1), 0, 0, 0] : List Int32).getD f 0).toInt ≤ (q_bn 4 f).2 := by decide +kernel
  have y96 : ∀ f, q_rk 4 f ≠ 0 → h < ([0, 0, 0, 0, 0, 0, 0, 0, q6, q44, 0] : List Nat).getD f 0 := by
    intro f hf
    rcases y_fs4 hf with rfl | rfl
    · exact (hq6)
    · exact (hq44)
  have y97 : ∀ f, q_rk 4 f ≠ 0 → y_root X56 (([0, 0, 0, 0, 0, 0, 0, 0, q6, q44, 0] : List Nat).getD f 0) := by
    intro f hf
    rcases y_fs4 hf with rfl | rfl
    · exact y75
    · exact y76
  try clear y76; try clear y75
  have y98 : ∀ f, q_rk 4 f = 5 → q_ln X56 (q_rf X56 (([0, 0, 0, 0, 0, 0, 0, 0, q6, q44, 0] : List Nat).getD f 0) 0) = y_rl 4 f := by
    intro f hf
    rcases y_fs4 (show q_rk 4 f ≠ 0 by rw [hf]; decide) with rfl | rfl
    · exact absurd hf (by decide)
    · exact y77
  have y99 : ∀ f, q_rk 4 f ≠ 0 → ([0, 0, 0, 0, 0, 0, 0, 0, q6, q44, 0] : List Nat).getD f 0 ≠ h := by
    intro f hf
    rcases y_fs4 hf with rfl | rfl
    · exact ((Nat.ne_of_gt hq6))
    · exact ((Nat.ne_of_gt hq44))
  have y100 : ∀ f, q_rk 4 f ≠ 0 → q_kd X (([0, 0, 0, 0, 0, 0, 0, 0, q6, q44, 0] : List Nat).getD f 0) = 0 := by
    intro f hf
    rcases y_fs4 hf with rfl | rfl
    · exact hw0.fresh (gg_q6)
    · exact hw0.fresh (gg_q44)
  have w95 : q_w X92 σ93 H85 := by
    rw [dX92, dσ93]
    exact w90.add k68 (q_hrk hrk) (fun q => absurd rfl q) (by decide) (fun q => absurd q (by decide)) (q_hB hB (by decide)) (fun _ => k73) (q_cfO D67 ⟨rfl, by decide⟩ (show vwCl[3]? = some (RX4, TX4, 11) from rfl) b88 (fun f hf => match f, hf with | 0, _ => rfl | 1, _ => rfl | 2, _ => rfl | 3, _ => rfl | 4, _ => rfl | 5, _ => rfl | 6, _ => rfl | 7, _ => rfl | 8, _ => rfl | 9, _ => rfl | 10, _ => rfl | (n + 11), hf => absurd hf (Nat.not_lt_of_ge (Nat.le_add_left 11 n)))) y96 (y_in4 (rf := (fun f => ([0, 0, 0, 0, 0, 0, 0, 0, q6, q44, 0] : List Nat).getD f 0)) (show q6 < q44 from cc_q44)) y97 y98 (fun q => absurd q (by decide))
  try clear y98; try clear y97; try clear y96; try clear b88; try clear D67
  have y101 : y_root X92 h := by
    rw [dX92]
    exact (y_root.out w90.1 k68).add y_xg y99
  try clear y99; try clear k68
  have y102 : y_rt X X92 := by
    rw [dX92]
    exact y71.add y_xg y100
  try clear y100; try clear y71
  have k103 : q_kd X92 h = 4 := by rw [dX92]; exact q_xg_h
  have x104 := x72.tr x94 (fun a e => Or.inl e)
  try clear x72
  have y105 := y_rlx x94 w90.1 k60 y77
  try clear y105; try clear w90; try clear y77
  have k106 := x94.kd k73 (by decide)
  try clear k106; try clear k73
  have k107 := x94.kd k74 (by decide)
  try clear k107; try clear k74
  have k108 := x94.kd k60 (by decide)
  try clear k108; try clear x94; try clear k60
  exact b_ret E hr hlk S89 x104 k103 ⟨⟨y102, y101⟩, trivial⟩ w95 dX4_init_32
