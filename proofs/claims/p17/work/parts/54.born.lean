set_option maxRecDepth 100000 in
set_option maxHeartbeats 4000000 in
theorem n_X11 (l : Launch) (D : DW) (X : XW) (σ : ST) (h sz : Nat) : Met l yX11_init (q_ws yX11_init cX11_init 2 none) { frames := 5, cells := 318, slots := 8598, locals := 105 } (q_PN D X σ h sz 10 17 (fun k => defaultValue (tyX11 k)) [.ref h]) (q_QN X σ h sz 11 (fun X' σ' => (y_rt X X' ∧ y_root X' h) ∧ (σ'.1 h 5 = 0 ∧ σ'.1 h 11 = 0) ∧ ∀ i, i < 4 → σ'.1 (q_rf X' (q_rf X' h 3) i) 0 = 0 ∧ σ'.1 (q_rf X' (q_rf X' h 3) i) 1 = -1)) 318 8598 (q_nw h sz) := by
  refine b_met  (by first | exact rfl | decide +kernel) rfl rfl (Nat.le_of_ble_eq_true rfl) (fun p e s m below meth c E hml hr hlk hnm hsz hD hw0 h00 hob ls hl => ?_)
  subst hsz
  have hxx := E.1
  have hb := E.2.1
  have hl : lv_has ls 2 [(0, .ref h)] := hl
  have hS : va_S (q_nw h s.heap.size) s.heap s.heap [] := va_S.rf
  have hx0 : q_ext (q_nw h s.heap.size) X X σ σ := q_ext.rf
  have hAh : q_nw h s.heap.size h := Or.inl rfl
  have yr0 : y_rt X X := y_rt.rf
  have hlt := t_lt hob
  refine lv_aload_n hxx hb dX11_init_0 rfl (lv_at hl 0 rfl) ?_
  refine W.objInit hxx hb E.2.2.1 (E.2.2.2.1 _ bw_25) (E.2.2.2.1 _ bw_26) (E.2.2.2.1 _ bw_27) rfl (by rw [hml]; exact hl.1) rfl dX11_init_1 (Nat.le_of_ble_eq_true rfl) (Nat.le_of_ble_eq_true rfl) ?_
  refine W.eq (g2 := F0 m 4 ls []) rfl ?_
  refine lv_aload_n hxx hb dX11_init_4 rfl (lv_at hl 0 rfl) ?_
  refine lv_iconst (v := 0) hxx hb dX11_init_5 (by decide) ?_
  refine b_put E hS hAh hnm (f := 0) hob (show vwCl[10]? = some (RX11, TX11, 17) from rfl) q_inX11 tyX11_ok nmX11 (by decide) bw_442 rfl (fun _ => rfl) (tyX11_ok 0 (by decide)) rfl rfl dX11_init_6 (fun H1 locs1 z2 o3 b4 S5 => ?_)
  have w6 : q_w X σ H1 := hw0.kept (fun a ha => o3 a (fun e => ha (by rw [e]; exact h00)))
  try clear o3
  have t7 := t_lt b4
  refine lv_aload_n hxx hb dX11_init_9 rfl (lv_at hl 0 rfl) ?_
  refine lv_lconst (v := 0) hxx hb dX11_init_10 (by decide) ?_
  refine b_put E S5 hAh hnm (f := 1) b4 (show vwCl[10]? = some (RX11, TX11, 17) from rfl) q_inX11 tyX11_ok nmX11 (by decide) bw_443 rfl (fun _ => rfl) (tyX11_ok 1 (by decide)) rfl rfl dX11_init_11 (fun H8 locs1 z9 o10 b11 S12 => ?_)
  try clear S5; try clear b4
  have w13 : q_w X σ H8 := w6.kept (fun a ha => o10 a (fun e => ha (by rw [e]; exact h00)))
  try clear o10; try clear w6
  have t14 := t_lt b11
  try clear t7
  refine lv_aload_n hxx hb dX11_init_14 rfl (lv_at hl 0 rfl) ?_
  refine lv_lconst (v := 1) hxx hb dX11_init_15 (by decide) ?_
  refine b_put E S12 hAh hnm (f := 2) b11 (show vwCl[10]? = some (RX11, TX11, 17) from rfl) q_inX11 tyX11_ok nmX11 (by decide) bw_444 rfl (fun _ => rfl) (tyX11_ok 2 (by decide)) rfl rfl dX11_init_16 (fun H15 locs1 z16 o17 b18 S19 => ?_)
  try clear S12; try clear b11
  have w20 : q_w X σ H15 := w13.kept (fun a ha => o17 a (fun e => ha (by rw [e]; exact h00)))
  try clear o17; try clear w13
  have t21 := t_lt b18
  try clear t14
  refine lv_aload_n hxx hb dX11_init_19 rfl (lv_at hl 0 rfl) ?_
  refine lv_iconst (v := 4) hxx hb dX11_init_20 (by decide) ?_
  refine b_newq E S19 bw_28 E.2.2.2.2.2.2.1 (t := 3) rfl (N' := 4) (by decide) (by decide) (by decide) (Nat.le_of_ble_eq_true rfl) (Nat.le_of_ble_eq_true rfl) dX11_init_21 (fun q22 H23 e24 z25 o26 r27 S28 => ?_)
  have hq22 : h < q22 := by first | exact Nat.lt_of_lt_of_eq t21 e24.symm | omega
  have gg_q22 : s.heap.size ≤ q22 := Nat.le_trans S19.1 (Nat.le_of_eq e24.symm)
  have mm_q22 : q22 < H23.size := by rw [z25, e24]; exact Nat.lt_succ_self _
  try clear S19
  have w29 : q_w X σ H23 := w20.kept (fun a ha => o26 a (w20.lt ha))
  have b30 := b18.kept (o26 h t21)
  try clear o26; try clear b18
  have t31 := t_lt b30
  try clear t21
  have k32 : q_kd X q22 = 0 := w20.fresh (Nat.le_of_eq e24.symm)
  try clear w20
  have g33 := S28.1
  refine b_put E S28 hAh hnm (f := 3) b30 (show vwCl[10]? = some (RX11, TX11, 17) from rfl) q_inX11 tyX11_ok nmX11 (by decide) bw_445 rfl (fun _ => rfl) (tyX11_ok 3 (by decide)) rfl rfl dX11_init_24 (fun H34 locs1 z35 o36 b37 S38 => ?_)
  try clear b30; try clear S28
  have w39 : q_w X σ H34 := w29.kept (fun a ha => o36 a (fun e => ha (by rw [e]; exact h00)))
  try clear w29
  have t40 := t_lt b37
  try clear t31
  have r41 := (o36 q22 (by first | exact (Nat.ne_of_gt hq22) | omega)).trans r27
  try clear o36; try clear r27
  refine lv_aload_n hxx hb dX11_init_27 rfl (lv_at hl 0 rfl) ?_
  refine lv_sipush (v := 900) hxx hb dX11_init_28 (by decide) ?_
  refine b_newa E S38 bw_55 (t := 0) rfl (fun _ _ => rfl) (N' := 900) (by decide) (by decide) (by decide) (Nat.le_of_ble_eq_true rfl) (Nat.le_of_ble_eq_true rfl) dX11_init_31 (fun q42 H43 e44 z45 o46 r47 S48 => ?_)
  have hq42 : h < q42 := by first | exact Nat.lt_of_lt_of_eq t40 e44.symm | omega
  have gg_q42 : s.heap.size ≤ q42 := Nat.le_trans S38.1 (Nat.le_of_eq e44.symm)
  have mm_q42 : q42 < H43.size := by rw [z45, e44]; exact Nat.lt_succ_self _
  have cc_q42 : q22 < q42 := by first | exact Nat.lt_of_lt_of_eq (Nat.lt_of_lt_of_le mm_q22 (Nat.le_of_eq z35.symm)) e44.symm | omega
  try clear S38
  have w49 : q_w X σ H43 := w39.kept (fun a ha => o46 a (w39.lt ha))
  have b50 := b37.kept (o46 h t40)
  try clear b37
  have t51 := t_lt b50
  try clear t40
  have r52 := (o46 q22 (raw_lt r41)).trans r41
  try clear o46; try clear r41
  have k53 : q_kd X q42 = 0 := w39.fresh (Nat.le_of_eq e44.symm)
  try clear w39
  have g54 := S48.1
  refine b_put E S48 hAh hnm (f := 4) b50 (show vwCl[10]? = some (RX11, TX11, 17) from rfl) q_inX11 tyX11_ok nmX11 (by decide) bw_446 rfl (fun _ => rfl) (tyX11_ok 4 (by decide)) rfl rfl dX11_init_33 (fun H55 locs1 z56 o57 b58 S59 => ?_)
  try clear b50; try clear S48
  have w60 : q_w X σ H55 := w49.kept (fun a ha => o57 a (fun e => ha (by rw [e]; exact h00)))
  try clear w49
  have t61 := t_lt b58
  try clear t51
  have r62 := (o57 q22 (by first | exact (Nat.ne_of_gt hq22) | omega)).trans r52
  try clear r52
  have r63 := (o57 q42 (by first | exact (Nat.ne_of_gt hq42) | omega)).trans r47
  try clear o57; try clear r47
  refine lv_aload_n hxx hb dX11_init_36 rfl (lv_at hl 0 rfl) ?_
  refine lv_iconst (v := 0) hxx hb dX11_init_37 (by decide) ?_
  refine b_put E S59 hAh hnm (f := 5) b58 (show vwCl[10]? = some (RX11, TX11, 17) from rfl) q_inX11 tyX11_ok nmX11 (by decide) bw_447 rfl (fun _ => rfl) (tyX11_ok 5 (by decide)) rfl rfl dX11_init_38 (fun H64 locs1 z65 o66 b67 S68 => ?_)
  try clear S59; try clear b58
  have w69 : q_w X σ H64 := w60.kept (fun a ha => o66 a (fun e => ha (by rw [e]; exact h00)))
  try clear w60
  have t70 := t_lt b67
  try clear t61
  have r71 := (o66 q22 (by first | exact (Nat.ne_of_gt hq22) | omega)).trans r62
  try clear r62
  have r72 := (o66 q42 (by first | exact (Nat.ne_of_gt hq42) | omega)).trans r63
  try clear o66; try clear r63
  refine lv_aload_n hxx hb dX11_init_41 rfl (lv_at hl 0 rfl) ?_
  refine lv_iconst (v := (-1)) hxx hb dX11_init_42 (by decide) ?_
  refine b_put E S68 hAh hnm (f := 6) b67 (show vwCl[10]? = some (RX11, TX11, 17) from rfl) q_inX11 tyX11_ok nmX11 (by decide) bw_448 rfl (fun _ => rfl) (tyX11_ok 6 (by decide)) rfl rfl dX11_init_43 (fun H73 locs1 z74 o75 b76 S77 => ?_)
  try clear S68; try clear b67
  have w78 : q_w X σ H73 := w69.kept (fun a ha => o75 a (fun e => ha (by rw [e]; exact h00)))
  try clear w69
  have t79 := t_lt b76
  try clear t70
  have r80 := (o75 q22 (by first | exact (Nat.ne_of_gt hq22) | omega)).trans r71
  try clear r71
  have r81 := (o75 q42 (by first | exact (Nat.ne_of_gt hq42) | omega)).trans r72
  try clear o75; try clear r72
  refine lv_aload_n hxx hb dX11_init_46 rfl (lv_at hl 0 rfl) ?_
  refine lv_iconst (v := (-1)) hxx hb dX11_init_47 (by decide) ?_
  refine b_put E S77 hAh hnm (f := 7) b76 (show vwCl[10]? = some (RX11, TX11, 17) from rfl) q_inX11 tyX11_ok nmX11 (by decide) bw_449 rfl (fun _ => rfl) (tyX11_ok 7 (by decide)) rfl rfl dX11_init_48 (fun H82 locs1 z83 o84 b85 S86 => ?_)
  try clear S77; try clear b76
  have w87 : q_w X σ H82 := w78.kept (fun a ha => o84 a (fun e => ha (by rw [e]; exact h00)))
  try clear w78
  have t88 := t_lt b85
  try clear t79
  have r89 := (o84 q22 (by first | exact (Nat.ne_of_gt hq22) | omega)).trans r80
  try clear r80
  have r90 := (o84 q42 (by first | exact (Nat.ne_of_gt hq42) | omega)).trans r81
  try clear o84; try clear r81
  refine lv_aload_n hxx hb dX11_init_51 rfl (lv_at hl 0 rfl) ?_
  refine b_new E S86 bw_30 bw_31 bw_2 (show vwCl[0]? = some (RX0, TX0, 15) from rfl) q_inX0 tyX0 tyX0_ok (Nat.le_of_ble_eq_true rfl) (Nat.le_of_ble_eq_true rfl) dX11_init_52 (fun q91 H92 e93 z94 o95 b96 S97 => ?_)
  have hq91 : h < q91 := by first | exact Nat.lt_of_lt_of_eq t88 e93.symm | omega
  have gg_q91 : s.heap.size ≤ q91 := Nat.le_trans S86.1 (Nat.le_of_eq e93.symm)
  have mm_q91 : q91 < H92.size := by rw [z94, e93]; exact Nat.lt_succ_self _
  have cc_q91 : q42 < q91 := by first | exact Nat.lt_of_lt_of_eq (Nat.lt_of_lt_of_le (Nat.lt_of_lt_of_le (Nat.lt_of_lt_of_le (Nat.lt_of_lt_of_le mm_q42 (Nat.le_of_eq z56.symm)) (Nat.le_of_eq z65.symm)) (Nat.le_of_eq z74.symm)) (Nat.le_of_eq z83.symm)) e93.symm | omega
  try clear S86
  have w98 : q_w X σ H92 := w87.kept (fun a ha => o95 a (w87.lt ha))
  have b99 := b85.kept (o95 h t88)
  try clear b85
  have t100 := t_lt b99
  try clear t88
  have r101 := (o95 q22 (raw_lt r89)).trans r89
  try clear r89
  have r102 := (o95 q42 (raw_lt r90)).trans r90
  try clear o95; try clear r90
  have k103 : q_kd X q91 = 0 := w87.fresh (Nat.le_of_eq e93.symm)
  try clear w87
  have g104 := S97.1
  refine lv_dup hxx hb dX11_init_55 rfl ?_
  have a115 : ∀ a, q_nw q91 H92.size a → q_nw h s.heap.size a := nw_in gg_q91 (Nat.le_trans gg_q91 (Nat.le_of_lt mm_q91))
  refine b_cv (b_runN (As := []) (rest := [.ref q91, .ref h]) E (hml.trans hl.1.symm) hD w98 k103 b96 rfl (n_X0 l D X σ q91 H92.size) bi_X11_41 rfl ⟨Nat.le_of_ble_eq_true rfl, Nat.le_of_ble_eq_true rfl⟩ ⟨Nat.le_of_ble_eq_true rfl, Nat.le_of_ble_eq_true rfl⟩ rfl (Nat.le_of_ble_eq_true rfl) dX11_init_56) S97 rfl a115 (fun X105 σ106 H107 locs1 x108 k109 p110 w111 z112 o113 S114 => ?_)
  try clear k103; try clear w98; try clear S97; try clear b96
  have D116 : X105.1 = D := x108.1.trans hD
  have k117 : q_kd X105 h = 0 := x108.k0 h00 (by first | exact (nw_no hq91 (Nat.lt_trans hq91 mm_q91)) | (rintro (e | e) <;> omega))
  have b118 := b99.kept (o113 h t100 (by first | exact (Nat.ne_of_lt hq91) | omega))
  try clear b99
  have t119 := t_lt b118
  try clear t100
  have y120 := yr0.tr p110.1.1 (fun c hc => by rw [(hx0.2.2.2.1 c hc).1]; exact hc)
  have x121 := hx0.tr x108 a115
  have r122 := (o113 q22 (raw_lt r101) (by first | exact (Nat.ne_of_lt (Nat.lt_trans cc_q42 cc_q91)) | omega)).trans r101
  have k123 : q_kd X105 q22 = 0 := x108.k0 k32 (by first | exact (nw_no (Nat.lt_trans cc_q42 cc_q91) (Nat.lt_trans (Nat.lt_trans cc_q42 cc_q91) mm_q91)) | (have := raw_lt r101; rintro (e | e) <;> omega))
  try clear r101; try clear k32
  have r124 := (o113 q42 (raw_lt r102) (by first | exact (Nat.ne_of_lt cc_q91) | omega)).trans r102
  try clear o113
  have k125 : q_kd X105 q42 = 0 := x108.k0 k53 (by first | exact (nw_no cc_q91 (Nat.lt_trans cc_q91 mm_q91)) | (have := raw_lt r102; rintro (e | e) <;> omega))
  try clear x108; try clear r102; try clear k53
  have y126 := p110.1.2
  try clear p110
  refine b_put E S114 hAh hnm (f := 8) b118 (show vwCl[10]? = some (RX11, TX11, 17) from rfl) q_inX11 tyX11_ok nmX11 (by decide) bw_450 rfl (fun _ => rfl) (tyX11_ok 8 (by decide)) rfl rfl dX11_init_59 (fun H127 locs1 z128 o129 b130 S131 => ?_)
  try clear b118; try clear S114
  have w132 : q_w X105 σ106 H127 := w111.kept (fun a ha => o129 a (fun e => ha (by rw [e]; exact k117)))
  try clear w111
  have t133 := t_lt b130
  try clear t119
  have r134 := (o129 q22 (by first | exact (Nat.ne_of_gt hq22) | omega)).trans r122
  try clear r122
  have r135 := (o129 q42 (by first | exact (Nat.ne_of_gt hq42) | omega)).trans r124
  try clear o129; try clear r124
  refine lv_aload_n hxx hb dX11_init_62 rfl (lv_at hl 0 rfl) ?_
  refine b_new E S131 bw_30 bw_31 bw_2 (show vwCl[0]? = some (RX0, TX0, 15) from rfl) q_inX0 tyX0 tyX0_ok (Nat.le_of_ble_eq_true rfl) (Nat.le_of_ble_eq_true rfl) dX11_init_63 (fun q136 H137 e138 z139 o140 b141 S142 => ?_)
  have hq136 : h < q136 := by first | exact Nat.lt_of_lt_of_eq t133 e138.symm | omega
  have gg_q136 : s.heap.size ≤ q136 := Nat.le_trans S131.1 (Nat.le_of_eq e138.symm)
  have mm_q136 : q136 < H137.size := by rw [z139, e138]; exact Nat.lt_succ_self _
  have cc_q136 : q91 < q136 := by first | exact Nat.lt_of_lt_of_eq (Nat.lt_of_lt_of_le (Nat.lt_of_lt_of_le mm_q91 z112) (Nat.le_of_eq z128.symm)) e138.symm | omega
  try clear S131
  have w143 : q_w X105 σ106 H137 := w132.kept (fun a ha => o140 a (w132.lt ha))
  have b144 := b130.kept (o140 h t133)
  try clear b130
  have t145 := t_lt b144
  try clear t133
  have r146 := (o140 q22 (raw_lt r134)).trans r134
  try clear r134
  have r147 := (o140 q42 (raw_lt r135)).trans r135
  try clear o140; try clear r135
  have k148 : q_kd X105 q136 = 0 := w132.fresh (Nat.le_of_eq e138.symm)
  try clear w132
  have g149 := S142.1
  refine lv_dup hxx hb dX11_init_66 rfl ?_
  have a160 : ∀ a, q_nw q136 H137.size a → q_nw h s.heap.size a := nw_in gg_q136 (Nat.le_trans gg_q136 (Nat.le_of_lt mm_q136))
  refine b_cv (b_runN (As := []) (rest := [.ref q136, .ref h]) E (hml.trans hl.1.symm) D116 w143 k148 b141 rfl (n_X0 l D X105 σ106 q136 H137.size) bi_X11_41 rfl ⟨Nat.le_of_ble_eq_true rfl, Nat.le_of_ble_eq_true rfl⟩ ⟨Nat.le_of_ble_eq_true rfl, Nat.le_of_ble_eq_true rfl⟩ rfl (Nat.le_of_ble_eq_true rfl) dX11_init_67) S142 rfl a160 (fun X150 σ151 H152 locs1 x153 k154 p155 w156 z157 o158 S159 => ?_)
  try clear k148; try clear w143; try clear S142; try clear b141
  have D161 : X150.1 = D := x153.1.trans D116
  try clear D116
  have k162 : q_kd X150 h = 0 := x153.k0 k117 (by first | exact (nw_no hq136 (Nat.lt_trans hq136 mm_q136)) | (rintro (e | e) <;> omega))
  try clear k117
  have b163 := b144.kept (o158 h t145 (by first | exact (Nat.ne_of_lt hq136) | omega))
  try clear b144
  have t164 := t_lt b163
  try clear t145
  have y165 := y120.tr p155.1.1 (fun c hc => by rw [(x121.2.2.2.1 c hc).1]; exact hc)
  try clear y120
  have x166 := x121.tr x153 a160
  try clear x121
  have r167 := (o158 q22 (raw_lt r146) (by first | exact (Nat.ne_of_lt (Nat.lt_trans (Nat.lt_trans cc_q42 cc_q91) cc_q136)) | omega)).trans r146
  have k168 : q_kd X150 q22 = 0 := x153.k0 k123 (by first | exact (nw_no (Nat.lt_trans (Nat.lt_trans cc_q42 cc_q91) cc_q136) (Nat.lt_trans (Nat.lt_trans (Nat.lt_trans cc_q42 cc_q91) cc_q136) mm_q136)) | (have := raw_lt r146; rintro (e | e) <;> omega))
  try clear r146; try clear k123
  have r169 := (o158 q42 (raw_lt r147) (by first | exact (Nat.ne_of_lt (Nat.lt_trans cc_q91 cc_q136)) | omega)).trans r147
  try clear o158
  have k170 : q_kd X150 q42 = 0 := x153.k0 k125 (by first | exact (nw_no (Nat.lt_trans cc_q91 cc_q136) (Nat.lt_trans (Nat.lt_trans cc_q91 cc_q136) mm_q136)) | (have := raw_lt r147; rintro (e | e) <;> omega))
  try clear r147; try clear k125
  have k171 := x153.kd k109 (by decide)
  try clear x153
  have y172 := p155.1.1 q91 (by rw [k109]; decide) y126
  try clear y126; try clear k109
  have y173 := p155.1.2
  try clear p155
  refine b_put E S159 hAh hnm (f := 9) b163 (show vwCl[10]? = some (RX11, TX11, 17) from rfl) q_inX11 tyX11_ok nmX11 (by decide) bw_451 rfl (fun _ => rfl) (tyX11_ok 9 (by decide)) rfl rfl dX11_init_70 (fun H174 locs1 z175 o176 b177 S178 => ?_)
  try clear b163; try clear S159
  have w179 : q_w X150 σ151 H174 := w156.kept (fun a ha => o176 a (fun e => ha (by rw [e]; exact k162)))
  try clear w156
  have t180 := t_lt b177
  try clear t164
  have r181 := (o176 q22 (by first | exact (Nat.ne_of_gt hq22) | omega)).trans r167
  try clear r167
  have r182 := (o176 q42 (by first | exact (Nat.ne_of_gt hq42) | omega)).trans r169
  try clear o176; try clear r169
  refine lv_aload_n hxx hb dX11_init_73 rfl (lv_at hl 0 rfl) ?_
  refine lv_iconst (v := 3) hxx hb dX11_init_74 (by decide) ?_
  refine b_newq E S178 bw_30 E.2.2.2.2.2.2.2 (t := 4) rfl (N' := 3) (by decide) (by decide) (by decide) (Nat.le_of_ble_eq_true rfl) (Nat.le_of_ble_eq_true rfl) dX11_init_75 (fun q183 H184 e185 z186 o187 r188 S189 => ?_)
  have hq183 : h < q183 := by first | exact Nat.lt_of_lt_of_eq t180 e185.symm | omega
  have gg_q183 : s.heap.size ≤ q183 := Nat.le_trans S178.1 (Nat.le_of_eq e185.symm)
  have mm_q183 : q183 < H184.size := by rw [z186, e185]; exact Nat.lt_succ_self _
  have cc_q183 : q136 < q183 := by first | exact Nat.lt_of_lt_of_eq (Nat.lt_of_lt_of_le (Nat.lt_of_lt_of_le mm_q136 z157) (Nat.le_of_eq z175.symm)) e185.symm | omega
  try clear S178
  have w190 : q_w X150 σ151 H184 := w179.kept (fun a ha => o187 a (w179.lt ha))
  have b191 := b177.kept (o187 h t180)
  try clear b177
  have t192 := t_lt b191
  try clear t180
  have r193 := (o187 q22 (raw_lt r181)).trans r181
  try clear r181
  have r194 := (o187 q42 (raw_lt r182)).trans r182
  try clear o187; try clear r182
  have k195 : q_kd X150 q183 = 0 := w179.fresh (Nat.le_of_eq e185.symm)
  try clear w179
  have g196 := S189.1
  refine b_put E S189 hAh hnm (f := 10) b191 (show vwCl[10]? = some (RX11, TX11, 17) from rfl) q_inX11 tyX11_ok nmX11 (by decide) bw_452 rfl (fun _ => rfl) (tyX11_ok 10 (by decide)) rfl rfl dX11_init_78 (fun H197 locs1 z198 o199 b200 S201 => ?_)
  try clear b191; try clear S189
  have w202 : q_w X150 σ151 H197 := w190.kept (fun a ha => o199 a (fun e => ha (by rw [e]; exact k162)))
  try clear w190
  have t203 := t_lt b200
  try clear t192
  have r204 := (o199 q22 (by first | exact (Nat.ne_of_gt hq22) | omega)).trans r193
  try clear r193
  have r205 := (o199 q42 (by first | exact (Nat.ne_of_gt hq42) | omega)).trans r194
  try clear r194
  have r206 := (o199 q183 (by first | exact (Nat.ne_of_gt hq183) | omega)).trans r188
  try clear o199; try clear r188
  refine lv_aload_n hxx hb dX11_init_81 rfl (lv_at hl 0 rfl) ?_
  refine lv_iconst (v := 0) hxx hb dX11_init_82 (by decide) ?_
  refine b_put E S201 hAh hnm (f := 11) b200 (show vwCl[10]? = some (RX11, TX11, 17) from rfl) q_inX11 tyX11_ok nmX11 (by decide) bw_453 rfl (fun _ => rfl) (tyX11_ok 11 (by decide)) rfl rfl dX11_init_83 (fun H207 locs1 z208 o209 b210 S211 => ?_)
  try clear S201; try clear b200
  have w212 : q_w X150 σ151 H207 := w202.kept (fun a ha => o209 a (fun e => ha (by rw [e]; exact k162)))
  try clear w202
  have t213 := t_lt b210
  try clear t203
  have r214 := (o209 q22 (by first | exact (Nat.ne_of_gt hq22) | omega)).trans r204
  try clear r204
  have r215 := (o209 q42 (by first | exact (Nat.ne_of_gt hq42) | omega)).trans r205
  try clear r205
  have r216 := (o209 q183 (by first | exact (Nat.ne_of_gt hq183) | omega)).trans r206
  try clear o209; try clear r206
  refine lv_aload_n hxx hb dX11_init_86 rfl (lv_at hl 0 rfl) ?_
  refine b_new E S211 bw_298 bw_299 bw_10 (show vwCl[8]? = some (RX9, TX9, 12) from rfl) q_inX9 tyX9 tyX9_ok (Nat.le_of_ble_eq_true rfl) (Nat.le_of_ble_eq_true rfl) dX11_init_87 (fun q217 H218 e219 z220 o221 b222 S223 => ?_)
  have hq217 : h < q217 := by first | exact Nat.lt_of_lt_of_eq t213 e219.symm | omega
  have gg_q217 : s.heap.size ≤ q217 := Nat.le_trans S211.1 (Nat.le_of_eq e219.symm)
  have mm_q217 : q217 < H218.size := by rw [z220, e219]; exact Nat.lt_succ_self _
  have cc_q217 : q183 < q217 := by first | exact Nat.lt_of_lt_of_eq (Nat.lt_of_lt_of_le (Nat.lt_of_lt_of_le mm_q183 (Nat.le_of_eq z198.symm)) (Nat.le_of_eq z208.symm)) e219.symm | omega
  try clear S211
  have w224 : q_w X150 σ151 H218 := w212.kept (fun a ha => o221 a (w212.lt ha))
  have b225 := b210.kept (o221 h t213)
  try clear b210
  have t226 := t_lt b225
  try clear t213
  have r227 := (o221 q22 (raw_lt r214)).trans r214
  try clear r214
  have r228 := (o221 q42 (raw_lt r215)).trans r215
  try clear r215
  have r229 := (o221 q183 (raw_lt r216)).trans r216
  try clear o221; try clear r216
  have k230 : q_kd X150 q217 = 0 := w212.fresh (Nat.le_of_eq e219.symm)
  try clear w212
  have g231 := S223.1
  refine lv_dup hxx hb dX11_init_90 rfl ?_
  have a242 : ∀ a, q_nw q217 H218.size a → q_nw h s.heap.size a := nw_in gg_q217 (Nat.le_trans gg_q217 (Nat.le_of_lt mm_q217))
  refine b_cv (b_runN (As := []) (rest := [.ref q217, .ref h]) E (hml.trans hl.1.symm) D161 w224 k230 b222 rfl (n_X9 l D X150 σ151 q217 H218.size) bi_X11_58 rfl ⟨Nat.le_of_ble_eq_true rfl, Nat.le_of_ble_eq_true rfl⟩ ⟨Nat.le_of_ble_eq_true rfl, Nat.le_of_ble_eq_true rfl⟩ rfl (Nat.le_of_ble_eq_true rfl) dX11_init_91) S223 rfl a242 (fun X232 σ233 H234 locs1 x235 k236 p237 w238 z239 o240 S241 => ?_)
  try clear k230; try clear w224; try clear S223; try clear b222
  have D243 : X232.1 = D := x235.1.trans D161
  try clear D161
  have k244 : q_kd X232 h = 0 := x235.k0 k162 (by first | exact (nw_no hq217 (Nat.lt_trans hq217 mm_q217)) | (rintro (e | e) <;> omega))
  try clear k162
  have b245 := b225.kept (o240 h t226 (by first | exact (Nat.ne_of_lt hq217) | omega))
  try clear b225
  have t246 := t_lt b245
  try clear t226
  have y247 := y165.tr p237.1.1 (fun c hc => by rw [(x166.2.2.2.1 c hc).1]; exact hc)
  try clear y165
  have x248 := x166.tr x235 a242
  try clear x166
  have r249 := (o240 q22 (raw_lt r227) (by first | exact (Nat.ne_of_lt (Nat.lt_trans (Nat.lt_trans (Nat.lt_trans (Nat.lt_trans cc_q42 cc_q91) cc_q136) cc_q183) cc_q217)) | omega)).trans r227
  have k250 : q_kd X232 q22 = 0 := x235.k0 k168 (by first | exact (nw_no (Nat.lt_trans (Nat.lt_trans (Nat.lt_trans (Nat.lt_trans cc_q42 cc_q91) cc_q136) cc_q183) cc_q217) (Nat.lt_trans (Nat.lt_trans (Nat.lt_trans (Nat.lt_trans (Nat.lt_trans cc_q42 cc_q91) cc_q136) cc_q183) cc_q217) mm_q217)) | (have := raw_lt r227; rintro (e | e) <;> omega))
  try clear r227; try clear k168
  have r251 := (o240 q42 (raw_lt r228) (by first | exact (Nat.ne_of_lt (Nat.lt_trans (Nat.lt_trans (Nat.lt_trans cc_q91 cc_q136) cc_q183) cc_q217)) | omega)).trans r228
  have k252 : q_kd X232 q42 = 0 := x235.k0 k170 (by first | exact (nw_no (Nat.lt_trans (Nat.lt_trans (Nat.lt_trans cc_q91 cc_q136) cc_q183) cc_q217) (Nat.lt_trans (Nat.lt_trans (Nat.lt_trans (Nat.lt_trans cc_q91 cc_q136) cc_q183) cc_q217) mm_q217)) | (have := raw_lt r228; rintro (e | e) <;> omega))
  try clear r228; try clear k170
  have r253 := (o240 q183 (raw_lt r229) (by first | exact (Nat.ne_of_lt cc_q217) | omega)).trans r229
  try clear o240
  have k254 : q_kd X232 q183 = 0 := x235.k0 k195 (by first | exact (nw_no cc_q217 (Nat.lt_trans cc_q217 mm_q217)) | (have := raw_lt r229; rintro (e | e) <;> omega))
  try clear r229; try clear k195
  have k255 := x235.kd k171 (by decide)
  have k256 := x235.kd k154 (by decide)
  try clear x235
  have y257 := p237.1.1 q91 (by rw [k171]; decide) y172
  try clear y172; try clear k171
  have y258 := p237.1.1 q136 (by rw [k154]; decide) y173
  try clear y173; try clear k154
  have y259 := p237.1.2
  try clear p237
  refine b_put E S241 hAh hnm (f := 12) b245 (show vwCl[10]? = some (RX11, TX11, 17) from rfl) q_inX11 tyX11_ok nmX11 (by decide) bw_454 rfl (fun _ => rfl) (tyX11_ok 12 (by decide)) rfl rfl dX11_init_94 (fun H260 locs1 z261 o262 b263 S264 => ?_)
  try clear b245; try clear S241
  have w265 : q_w X232 σ233 H260 := w238.kept (fun a ha => o262 a (fun e => ha (by rw [e]; exact k244)))
  try clear w238
  have t266 := t_lt b263
  try clear t246
  have r267 := (o262 q22 (by first | exact (Nat.ne_of_gt hq22) | omega)).trans r249
  try clear r249
  have r268 := (o262 q42 (by first | exact (Nat.ne_of_gt hq42) | omega)).trans r251
  try clear r251
  have r269 := (o262 q183 (by first | exact (Nat.ne_of_gt hq183) | omega)).trans r253
  try clear o262; try clear r253
  refine lv_aload_n hxx hb dX11_init_97 rfl (lv_at hl 0 rfl) ?_
  refine b_new E S264 bw_357 bw_358 bw_11 (show vwCl[3]? = some (RX4, TX4, 11) from rfl) q_inX4 tyX4 tyX4_ok (Nat.le_of_ble_eq_true rfl) (Nat.le_of_ble_eq_true rfl) dX11_init_98 (fun q270 H271 e272 z273 o274 b275 S276 => ?_)
  have hq270 : h < q270 := by first | exact Nat.lt_of_lt_of_eq t266 e272.symm | omega
  have gg_q270 : s.heap.size ≤ q270 := Nat.le_trans S264.1 (Nat.le_of_eq e272.symm)
  have mm_q270 : q270 < H271.size := by rw [z273, e272]; exact Nat.lt_succ_self _
  have cc_q270 : q217 < q270 := by first | exact Nat.lt_of_lt_of_eq (Nat.lt_of_lt_of_le (Nat.lt_of_lt_of_le mm_q217 z239) (Nat.le_of_eq z261.symm)) e272.symm | omega
  try clear S264
  have w277 : q_w X232 σ233 H271 := w265.kept (fun a ha => o274 a (w265.lt ha))
  have b278 := b263.kept (o274 h t266)
  try clear b263
  have t279 := t_lt b278
  try clear t266
  have r280 := (o274 q22 (raw_lt r267)).trans r267
  try clear r267
  have r281 := (o274 q42 (raw_lt r268)).trans r268
  try clear r268
  have r282 := (o274 q183 (raw_lt r269)).trans r269
  try clear o274; try clear r269
  have k283 : q_kd X232 q270 = 0 := w265.fresh (Nat.le_of_eq e272.symm)
  try clear w265
  have g284 := S276.1
  refine lv_dup hxx hb dX11_init_101 rfl ?_
  have a295 : ∀ a, q_nw q270 H271.size a → q_nw h s.heap.size a := nw_in gg_q270 (Nat.le_trans gg_q270 (Nat.le_of_lt mm_q270))
  refine b_cv (b_runN (As := []) (rest := [.ref q270, .ref h]) E (hml.trans hl.1.symm) D243 w277 k283 b275 rfl (n_X4 l D X232 σ233 q270 H271.size) bi_X11_65 rfl ⟨Nat.le_of_ble_eq_true rfl, Nat.le_of_ble_eq_true rfl⟩ ⟨Nat.le_of_ble_eq_true rfl, Nat.le_of_ble_eq_true rfl⟩ rfl (Nat.le_of_ble_eq_true rfl) dX11_init_102) S276 rfl a295 (fun X285 σ286 H287 locs1 x288 k289 p290 w291 z292 o293 S294 => ?_)
  try clear k283; try clear w277; try clear S276; try clear b275
  have D296 : X285.1 = D := x288.1.trans D243
  try clear D243
  have k297 : q_kd X285 h = 0 := x288.k0 k244 (by first | exact (nw_no hq270 (Nat.lt_trans hq270 mm_q270)) | (rintro (e | e) <;> omega))
  try clear k244
  have b298 := b278.kept (o293 h t279 (by first | exact (Nat.ne_of_lt hq270) | omega))
  try clear b278
  have t299 := t_lt b298
  try clear t279
  have y300 := y247.tr p290.1.1 (fun c hc => by rw [(x248.2.2.2.1 c hc).1]; exact hc)
  try clear y247
  have x301 := x248.tr x288 a295
  try clear x248
  have r302 := (o293 q22 (raw_lt r280) (by first | exact (Nat.ne_of_lt (Nat.lt_trans (Nat.lt_trans (Nat.lt_trans (Nat.lt_trans (Nat.lt_trans cc_q42 cc_q91) cc_q136) cc_q183) cc_q217) cc_q270)) | omega)).trans r280
  have k303 : q_kd X285 q22 = 0 := x288.k0 k250 (by first | exact (nw_no (Nat.lt_trans (Nat.lt_trans (Nat.lt_trans (Nat.lt_trans (Nat.lt_trans cc_q42 cc_q91) cc_q136) cc_q183) cc_q217) cc_q270) (Nat.lt_trans (Nat.lt_trans (Nat.lt_trans (Nat.lt_trans (Nat.lt_trans (Nat.lt_trans cc_q42 cc_q91) cc_q136) cc_q183) cc_q217) cc_q270) mm_q270)) | (have := raw_lt r280; rintro (e | e) <;> omega))
  try clear r280; try clear k250
  have r304 := (o293 q42 (raw_lt r281) (by first | exact (Nat.ne_of_lt (Nat.lt_trans (Nat.lt_trans (Nat.lt_trans (Nat.lt_trans cc_q91 cc_q136) cc_q183) cc_q217) cc_q270)) | omega)).trans r281
  have k305 : q_kd X285 q42 = 0 := x288.k0 k252 (by first | exact (nw_no (Nat.lt_trans (Nat.lt_trans (Nat.lt_trans (Nat.lt_trans cc_q91 cc_q136) cc_q183) cc_q217) cc_q270) (Nat.lt_trans (Nat.lt_trans (Nat.lt_trans (Nat.lt_trans (Nat.lt_trans cc_q91 cc_q136) cc_q183) cc_q217) cc_q270) mm_q270)) | (have := raw_lt r281; rintro (e | e) <;> omega))
  try clear r281; try clear k252
  have r306 := (o293 q183 (raw_lt r282) (by first | exact (Nat.ne_of_lt (Nat.lt_trans cc_q217 cc_q270)) | omega)).trans r282
  try clear o293
  have k307 : q_kd X285 q183 = 0 := x288.k0 k254 (by first | exact (nw_no (Nat.lt_trans cc_q217 cc_q270) (Nat.lt_trans (Nat.lt_trans cc_q217 cc_q270) mm_q270)) | (have := raw_lt r282; rintro (e | e) <;> omega))
  try clear r282; try clear k254
  have k308 := x288.kd k255 (by decide)
  have k309 := x288.kd k256 (by decide)
  have k310 := x288.kd k236 (by decide)
  try clear x288
  have y311 := p290.1.1 q91 (by rw [k255]; decide) y257
  try clear y257; try clear k255
  have y312 := p290.1.1 q136 (by rw [k256]; decide) y258
  try clear y258; try clear k256
  have y313 := p290.1.1 q217 (by rw [k236]; decide) y259
  try clear y259; try clear k236
  have y314 := p290.1.2
  try clear p290
  refine b_put E S294 hAh hnm (f := 13) b298 (show vwCl[10]? = some (RX11, TX11, 17) from rfl) q_inX11 tyX11_ok nmX11 (by decide) bw_455 rfl (fun _ => rfl) (tyX11_ok 13 (by decide)) rfl rfl dX11_init_105 (fun H315 locs1 z316 o317 b318 S319 => ?_)
  try clear b298; try clear S294
  have w320 : q_w X285 σ286 H315 := w291.kept (fun a ha => o317 a (fun e => ha (by rw [e]; exact k297)))
  try clear w291
  have t321 := t_lt b318
  try clear t299
  have r322 := (o317 q22 (by first | exact (Nat.ne_of_gt hq22) | omega)).trans r302
  try clear r302
  have r323 := (o317 q42 (by first | exact (Nat.ne_of_gt hq42) | omega)).trans r304
  try clear r304
  have r324 := (o317 q183 (by first | exact (Nat.ne_of_gt hq183) | omega)).trans r306
  try clear o317; try clear r306
  refine lv_aload_n hxx hb dX11_init_108 rfl (lv_at hl 0 rfl) ?_
  refine b_new E S319 bw_386 bw_387 bw_12 (show vwCl[6]? = some (RX7, TX7, 8) from rfl) q_inX7 tyX7 tyX7_ok (Nat.le_of_ble_eq_true rfl) (Nat.le_of_ble_eq_true rfl) dX11_init_109 (fun q325 H326 e327 z328 o329 b330 S331 => ?_)
  have hq325 : h < q325 := by first | exact Nat.lt_of_lt_of_eq t321 e327.symm | omega
  have gg_q325 : s.heap.size ≤ q325 := Nat.le_trans S319.1 (Nat.le_of_eq e327.symm)
  have mm_q325 : q325 < H326.size := by rw [z328, e327]; exact Nat.lt_succ_self _
  have cc_q325 : q270 < q325 := by first | exact Nat.lt_of_lt_of_eq (Nat.lt_of_lt_of_le (Nat.lt_of_lt_of_le mm_q270 z292) (Nat.le_of_eq z316.symm)) e327.symm | omega
  try clear S319
  have w332 : q_w X285 σ286 H326 := w320.kept (fun a ha => o329 a (w320.lt ha))
  have b333 := b318.kept (o329 h t321)
  try clear b318
  have t334 := t_lt b333
  try clear t321
  have r335 := (o329 q22 (raw_lt r322)).trans r322
  try clear r322
  have r336 := (o329 q42 (raw_lt r323)).trans r323
  try clear r323
  have r337 := (o329 q183 (raw_lt r324)).trans r324
  try clear o329; try clear r324
  have k338 : q_kd X285 q325 = 0 := w320.fresh (Nat.le_of_eq e327.symm)
  try clear w320
  have g339 := S331.1
  refine lv_dup hxx hb dX11_init_112 rfl ?_
  have a350 : ∀ a, q_nw q325 H326.size a → q_nw h s.heap.size a := nw_in gg_q325 (Nat.le_trans gg_q325 (Nat.le_of_lt mm_q325))
  refine b_cv (b_runN (As := []) (rest := [.ref q325, .ref h]) E (hml.trans hl.1.symm) D296 w332 k338 b330 rfl (n_X7 l D X285 σ286 q325 H326.size) bi_X11_72 rfl ⟨Nat.le_of_ble_eq_true rfl, Nat.le_of_ble_eq_true rfl⟩ ⟨Nat.le_of_ble_eq_true rfl, Nat.le_of_ble_eq_true rfl⟩ rfl (Nat.le_of_ble_eq_true rfl) dX11_init_113) S331 rfl a350 (fun X340 σ341 H342 locs1 x343 k344 p345 w346 z347 o348 S349 => ?_)
  try clear k338; try clear w332; try clear S331; try clear b330
  have D351 : X340.1 = D := x343.1.trans D296
  try clear D296
  have k352 : q_kd X340 h = 0 := x343.k0 k297 (by first | exact (nw_no hq325 (Nat.lt_trans hq325 mm_q325)) | (rintro (e | e) <;> omega))
  try clear k297
  have b353 := b333.kept (o348 h t334 (by first | exact (Nat.ne_of_lt hq325) | omega))
  try clear b333
  have t354 := t_lt b353
  try clear t334
  have y355 := y300.tr p345.1.1 (fun c hc => by rw [(x301.2.2.2.1 c hc).1]; exact hc)
  try clear y300
  have x356 := x301.tr x343 a350
  try clear x301
  have r357 := (o348 q22 (raw_lt r335) (by first | exact (Nat.ne_of_lt (Nat.lt_trans (Nat.lt_trans (Nat.lt_trans (Nat.lt_trans (Nat.lt_trans (Nat.lt_trans cc_q42 cc_q91) cc_q136) cc_q183) cc_q217) cc_q270) cc_q325)) | omega)).trans r335
  have k358 : q_kd X340 q22 = 0 := x343.k0 k303 (by first | exact (nw_no (Nat.lt_trans (Nat.lt_trans (Nat.lt_trans (Nat.lt_trans (Nat.lt_trans (Nat.lt_trans cc_q42 cc_q91) cc_q136) cc_q183) cc_q217) cc_q270) cc_q325) (Nat.lt_trans (Nat.lt_trans (Nat.lt_trans (Nat.lt_trans (Nat.lt_trans (Nat.lt_trans (Nat.lt_trans cc_q42 cc_q91) cc_q136) cc_q183) cc_q217) cc_q270) cc_q325) mm_q325)) | (have := raw_lt r335; rintro (e | e) <;> omega))
  try clear r335; try clear k303
  have r359 := (o348 q42 (raw_lt r336) (by first | exact (Nat.ne_of_lt (Nat.lt_trans (Nat.lt_trans (Nat.lt_trans (Nat.lt_trans (Nat.lt_trans cc_q91 cc_q136) cc_q183) cc_q217) cc_q270) cc_q325)) | omega)).trans r336
  have k360 : q_kd X340 q42 = 0 := x343.k0 k305 (by first | exact (nw_no (Nat.lt_trans (Nat.lt_trans (Nat.lt_trans (Nat.lt_trans (Nat.lt_trans cc_q91 cc_q136) cc_q183) cc_q217) cc_q270) cc_q325) (Nat.lt_trans (Nat.lt_trans (Nat.lt_trans (Nat.lt_trans (Nat.lt_trans (Nat.lt_trans cc_q91 cc_q136) cc_q183) cc_q217) cc_q270) cc_q325) mm_q325)) | (have := raw_lt r336; rintro (e | e) <;> omega))
  try clear r336; try clear k305
  have r361 := (o348 q183 (raw_lt r337) (by first | exact (Nat.ne_of_lt (Nat.lt_trans (Nat.lt_trans cc_q217 cc_q270) cc_q325)) | omega)).trans r337
  try clear o348
  have k362 : q_kd X340 q183 = 0 := x343.k0 k307 (by first | exact (nw_no (Nat.lt_trans (Nat.lt_trans cc_q217 cc_q270) cc_q325) (Nat.lt_trans (Nat.lt_trans (Nat.lt_trans cc_q217 cc_q270) cc_q325) mm_q325)) | (have := raw_lt r337; rintro (e | e) <;> omega))
  try clear r337; try clear k307
  have k363 := x343.kd k308 (by decide)
  have k364 := x343.kd k309 (by decide)
  have k365 := x343.kd k310 (by decide)
  have k366 := x343.kd k289 (by decide)
  try clear x343
  have y367 := p345.1.1 q91 (by rw [k308]; decide) y311
  try clear y311; try clear k308
  have y368 := p345.1.1 q136 (by rw [k309]; decide) y312
  try clear y312; try clear k309
  have y369 := p345.1.1 q217 (by rw [k310]; decide) y313
  try clear y313; try clear k310
  have y370 := p345.1.1 q270 (by rw [k289]; decide) y314
  try clear y314; try clear k289
  have y371 := p345.1.2
  try clear p345
  refine b_put E S349 hAh hnm (f := 14) b353 (show vwCl[10]? = some (RX11, TX11, 17) from rfl) q_inX11 tyX11_ok nmX11 (by decide) bw_456 rfl (fun _ => rfl) (tyX11_ok 14 (by decide)) rfl rfl dX11_init_116 (fun H372 locs1 z373 o374 b375 S376 => ?_)
  try clear b353; try clear S349
  have w377 : q_w X340 σ341 H372 := w346.kept (fun a ha => o374 a (fun e => ha (by rw [e]; exact k352)))
  try clear w346
  have t378 := t_lt b375
  try clear t354
  have r379 := (o374 q22 (by first | exact (Nat.ne_of_gt hq22) | omega)).trans r357
  try clear r357
  have r380 := (o374 q42 (by first | exact (Nat.ne_of_gt hq42) | omega)).trans r359
  try clear r359
  have r381 := (o374 q183 (by first | exact (Nat.ne_of_gt hq183) | omega)).trans r361
  try clear o374; try clear r361
  refine lv_aload_n hxx hb dX11_init_119 rfl (lv_at hl 0 rfl) ?_
  refine b_new E S376 bw_386 bw_387 bw_12 (show vwCl[6]? = some (RX7, TX7, 8) from rfl) q_inX7 tyX7 tyX7_ok (Nat.le_of_ble_eq_true rfl) (Nat.le_of_ble_eq_true rfl) dX11_init_120 (fun q382 H383 e384 z385 o386 b387 S388 => ?_)
  have hq382 : h < q382 := by first | exact Nat.lt_of_lt_of_eq t378 e384.symm | omega
  have gg_q382 : s.heap.size ≤ q382 := Nat.le_trans S376.1 (Nat.le_of_eq e384.symm)
  have mm_q382 : q382 < H383.size := by rw [z385, e384]; exact Nat.lt_succ_self _
  have cc_q382 : q325 < q382 := by first | exact Nat.lt_of_lt_of_eq (Nat.lt_of_lt_of_le (Nat.lt_of_lt_of_le mm_q325 z347) (Nat.le_of_eq z373.symm)) e384.symm | omega
  try clear S376
  have w389 : q_w X340 σ341 H383 := w377.kept (fun a ha => o386 a (w377.lt ha))
  have b390 := b375.kept (o386 h t378)
  try clear b375
  have t391 := t_lt b390
  try clear t378
  have r392 := (o386 q22 (raw_lt r379)).trans r379
  try clear r379
  have r393 := (o386 q42 (raw_lt r380)).trans r380
  try clear r380
  have r394 := (o386 q183 (raw_lt r381)).trans r381
  try clear o386; try clear r381
  have k395 : q_kd X340 q382 = 0 := w377.fresh (Nat.le_of_eq e384.symm)
  try clear w377
  have g396 := S388.1
  refine lv_dup hxx hb dX11_init_123 rfl ?_
  have a407 : ∀ a, q_nw q382 H383.size a → q_nw h s.heap.size a := nw_in gg_q382 (Nat.le_trans gg_q382 (Nat.le_of_lt mm_q382))
  refine b_cv (b_runN (As := []) (rest := [.ref q382, .ref h]) E (hml.trans hl.1.symm) D351 w389 k395 b387 rfl (n_X7 l D X340 σ341 q382 H383.size) bi_X11_72 rfl ⟨Nat.le_of_ble_eq_true rfl, Nat.le_of_ble_eq_true rfl⟩ ⟨Nat.le_of_ble_eq_true rfl, Nat.le_of_ble_eq_true rfl⟩ rfl (Nat.le_of_ble_eq_true rfl) dX11_init_124) S388 rfl a407 (fun X397 σ398 H399 locs1 x400 k401 p402 w403 z404 o405 S406 => ?_)
  try clear k395; try clear w389; try clear S388; try clear b387
  have D408 : X397.1 = D := x400.1.trans D351
  try clear D351
  have k409 : q_kd X397 h = 0 := x400.k0 k352 (by first | exact (nw_no hq382 (Nat.lt_trans hq382 mm_q382)) | (rintro (e | e) <;> omega))
  try clear k352
  have b410 := b390.kept (o405 h t391 (by first | exact (Nat.ne_of_lt hq382) | omega))
  try clear b390
  have t411 := t_lt b410
  try clear t391
  have y412 := y355.tr p402.1.1 (fun c hc => by rw [(x356.2.2.2.1 c hc).1]; exact hc)
  try clear y355
  have x413 := x356.tr x400 a407
  try clear x356
  have r414 := (o405 q22 (raw_lt r392) (by first | exact (Nat.ne_of_lt (Nat.lt_trans (Nat.lt_trans (Nat.lt_trans (Nat.lt_trans (Nat.lt_trans (Nat.lt_trans (Nat.lt_trans cc_q42 cc_q91) cc_q136) cc_q183) cc_q217) cc_q270) cc_q325) cc_q382)) | omega)).trans r392
  have k415 : q_kd X397 q22 = 0 := x400.k0 k358 (by first | exact (nw_no (Nat.lt_trans (Nat.lt_trans (Nat.lt_trans (Nat.lt_trans (Nat.lt_trans (Nat.lt_trans (Nat.lt_trans cc_q42 cc_q91) cc_q136) cc_q183) cc_q217) cc_q270) cc_q325) cc_q382) (Nat.lt_trans (Nat.lt_trans (Nat.lt_trans (Nat.lt_trans (Nat.lt_trans (Nat.lt_trans (Nat.lt_trans (Nat.lt_trans cc_q42 cc_q91) cc_q136) cc_q183) cc_q217) cc_q270) cc_q325) cc_q382) mm_q382)) | (have := raw_lt r392; rintro (e | e) <;> omega))
  try clear r392; try clear k358
  have r416 := (o405 q42 (raw_lt r393) (by first | exact (Nat.ne_of_lt (Nat.lt_trans (Nat.lt_trans (Nat.lt_trans (Nat.lt_trans (Nat.lt_trans (Nat.lt_trans cc_q91 cc_q136) cc_q183) cc_q217) cc_q270) cc_q325) cc_q382)) | omega)).trans r393
  have k417 : q_kd X397 q42 = 0 := x400.k0 k360 (by first | exact (nw_no (Nat.lt_trans (Nat.lt_trans (Nat.lt_trans (Nat.lt_trans (Nat.lt_trans (Nat.lt_trans cc_q91 cc_q136) cc_q183) cc_q217) cc_q270) cc_q325) cc_q382) (Nat.lt_trans (Nat.lt_trans (Nat.lt_trans (Nat.lt_trans (Nat.lt_trans (Nat.lt_trans (Nat.lt_trans cc_q91 cc_q136) cc_q183) cc_q217) cc_q270) cc_q325) cc_q382) mm_q382)) | (have := raw_lt r393; rintro (e | e) <;> omega))
  try clear r393; try clear k360
  have r418 := (o405 q183 (raw_lt r394) (by first | exact (Nat.ne_of_lt (Nat.lt_trans (Nat.lt_trans (Nat.lt_trans cc_q217 cc_q270) cc_q325) cc_q382)) | omega)).trans r394
  try clear o405
  have k419 : q_kd X397 q183 = 0 := x400.k0 k362 (by first | exact (nw_no (Nat.lt_trans (Nat.lt_trans (Nat.lt_trans cc_q217 cc_q270) cc_q325) cc_q382) (Nat.lt_trans (Nat.lt_trans (Nat.lt_trans (Nat.lt_trans cc_q217 cc_q270) cc_q325) cc_q382) mm_q382)) | (have := raw_lt r394; rintro (e | e) <;> omega))
  try clear r394; try clear k362
  have k420 := x400.kd k363 (by decide)
  have k421 := x400.kd k364 (by decide)
  have k422 := x400.kd k365 (by decide)
  have k423 := x400.kd k366 (by decide)
  have k424 := x400.kd k344 (by decide)
  try clear x400
  have y425 := p402.1.1 q91 (by rw [k363]; decide) y367
  try clear y367; try clear k363
  have y426 := p402.1.1 q136 (by rw [k364]; decide) y368
  try clear y368; try clear k364
  have y427 := p402.1.1 q217 (by rw [k365]; decide) y369
  try clear y369; try clear k365
  have y428 := p402.1.1 q270 (by rw [k366]; decide) y370
  try clear y370; try clear k366
  have y429 := p402.1.1 q325 (by rw [k344]; decide) y371
  try clear y371; try clear k344
  have y430 := p402.1.2
  try clear p402
  refine b_put E S406 hAh hnm (f := 15) b410 (show vwCl[10]? = some (RX11, TX11, 17) from rfl) q_inX11 tyX11_ok nmX11 (by decide) bw_457 rfl (fun _ => rfl) (tyX11_ok 15 (by decide)) rfl rfl dX11_init_127 (fun H431 locs1 z432 o433 b434 S435 => ?_)
  try clear b410; try clear S406
  have w436 : q_w X397 σ398 H431 := w403.kept (fun a ha => o433 a (fun e => ha (by rw [e]; exact k409)))
  try clear w403
  have t437 := t_lt b434
  try clear t411
  have r438 := (o433 q22 (by first | exact (Nat.ne_of_gt hq22) | omega)).trans r414
  try clear r414
  have r439 := (o433 q42 (by first | exact (Nat.ne_of_gt hq42) | omega)).trans r416
  try clear r416
  have r440 := (o433 q183 (by first | exact (Nat.ne_of_gt hq183) | omega)).trans r418
  try clear o433; try clear r418
  refine lv_aload_n hxx hb dX11_init_130 rfl (lv_at hl 0 rfl) ?_
  refine lv_iconst (v := 0) hxx hb dX11_init_131 (by decide) ?_
  refine b_put E S435 hAh hnm (f := 16) b434 (show vwCl[10]? = some (RX11, TX11, 17) from rfl) q_inX11 tyX11_ok nmX11 (by decide) bw_458 rfl (fun _ => rfl) (tyX11_ok 16 (by decide)) rfl rfl dX11_init_132 (fun H441 locs1 z442 o443 b444 S445 => ?_)
  try clear S435; try clear b434
  have w446 : q_w X397 σ398 H441 := w436.kept (fun a ha => o443 a (fun e => ha (by rw [e]; exact k409)))
  try clear w436
  have t447 := t_lt b444
  try clear t437
  have r448 := (o443 q22 (by first | exact (Nat.ne_of_gt hq22) | omega)).trans r438
  try clear r438
  have r449 := (o443 q42 (by first | exact (Nat.ne_of_gt hq42) | omega)).trans r439
  try clear r439
  have r450 := (o443 q183 (by first | exact (Nat.ne_of_gt hq183) | omega)).trans r440
  try clear o443; try clear r440
  refine lv_iconst (v := 0) hxx hb dX11_init_135 (by decide) ?_
  refine lv_istore_n (lv' := [(1, .int 0), (0, .ref h)]) hxx hb dX11_init_136 rfl hl (by decide) rfl (fun ls hl => ?_)
  refine lv_iload_n hxx hb dX11_init_137 rfl (lv_at hl 0 rfl) ?_
  refine lv_iconst (v := 4) hxx hb dX11_init_138 (by decide) ?_
  refine lv_icmp_ge hxx hb dX11_init_139 (tgt := 161) (by decide) (fun q => absurd q (by decide)) (fun _ => ?_)
  refine lv_aload_n hxx hb dX11_init_142 rfl (lv_at hl 1 rfl) ?_
  refine b_get E (f := 3) b444 (show vwCl[10]? = some (RX11, TX11, 17) from rfl) q_inX11 (by decide) bw_445 rfl (v := .ref q22) rfl dX11_init_143 ?_
  refine lv_iload_n hxx hb dX11_init_146 rfl (lv_at hl 0 rfl) ?_
  refine b_new E S445 bw_28 bw_425 bw_13 (show vwCl[9]? = some (RX10, TX10, 3) from rfl) q_inX10 tyX10 tyX10_ok (Nat.le_of_ble_eq_true rfl) (Nat.le_of_ble_eq_true rfl) dX11_init_147 (fun q451 H452 e453 z454 o455 b456 S457 => ?_)
  have hq451 : h < q451 := by first | exact Nat.lt_of_lt_of_eq t447 e453.symm | omega
  have gg_q451 : s.heap.size ≤ q451 := Nat.le_trans S445.1 (Nat.le_of_eq e453.symm)
  have mm_q451 : q451 < H452.size := by rw [z454, e453]; exact Nat.lt_succ_self _
  have cc_q451 : q382 < q451 := by first | exact Nat.lt_of_lt_of_eq (Nat.lt_of_lt_of_le (Nat.lt_of_lt_of_le (Nat.lt_of_lt_of_le mm_q382 z404) (Nat.le_of_eq z432.symm)) (Nat.le_of_eq z442.symm)) e453.symm | omega
  try clear S445
  have w458 : q_w X397 σ398 H452 := w446.kept (fun a ha => o455 a (w446.lt ha))
  have b459 := b444.kept (o455 h t447)
  try clear b444
  have t460 := t_lt b459
  try clear t447
  have r461 := (o455 q22 (raw_lt r448)).trans r448
  try clear r448
  have r462 := (o455 q42 (raw_lt r449)).trans r449
  try clear r449
  have r463 := (o455 q183 (raw_lt r450)).trans r450
  try clear o455; try clear r450
  have k464 : q_kd X397 q451 = 0 := w446.fresh (Nat.le_of_eq e453.symm)
  try clear w446
  have g465 := S457.1
  refine lv_dup hxx hb dX11_init_150 rfl ?_
  have a476 : ∀ a, q_nw q451 H452.size a → q_nw h s.heap.size a := nw_in gg_q451 (Nat.le_trans gg_q451 (Nat.le_of_lt mm_q451))
  refine b_cv (b_runN (As := []) (rest := [.ref q451, .int 0, .ref q22]) E (hml.trans hl.1.symm) D408 w458 k464 b456 rfl (n_X10 l D X397 σ398 q451 H452.size) bi_X11_84 rfl ⟨Nat.le_of_ble_eq_true rfl, Nat.le_of_ble_eq_true rfl⟩ ⟨Nat.le_of_ble_eq_true rfl, Nat.le_of_ble_eq_true rfl⟩ rfl (Nat.le_of_ble_eq_true rfl) dX11_init_151) S457 rfl a476 (fun X466 σ467 H468 locs1 x469 k470 p471 w472 z473 o474 S475 => ?_)
  try clear k464; try clear w458; try clear S457; try clear b456
  have D477 : X466.1 = D := x469.1.trans D408
  try clear D408
  have k478 : q_kd X466 h = 0 := x469.k0 k409 (by first | exact (nw_no hq451 (Nat.lt_trans hq451 mm_q451)) | (rintro (e | e) <;> omega))
  try clear k409
  have b479 := b459.kept (o474 h t460 (by first | exact (Nat.ne_of_lt hq451) | omega))
  try clear b459
  have t480 := t_lt b479
  try clear t460
  have y481 := y412.tr p471.1.1 (fun c hc => by rw [(x413.2.2.2.1 c hc).1]; exact hc)
  try clear y412
  have x482 := x413.tr x469 a476
  try clear x413
  have r483 := (o474 q22 (raw_lt r461) (by first | exact (Nat.ne_of_lt (Nat.lt_trans (Nat.lt_trans (Nat.lt_trans (Nat.lt_trans (Nat.lt_trans (Nat.lt_trans (Nat.lt_trans (Nat.lt_trans cc_q42 cc_q91) cc_q136) cc_q183) cc_q217) cc_q270) cc_q325) cc_q382) cc_q451)) | omega)).trans r461
  have k484 : q_kd X466 q22 = 0 := x469.k0 k415 (by first | exact (nw_no (Nat.lt_trans (Nat.lt_trans (Nat.lt_trans (Nat.lt_trans (Nat.lt_trans (Nat.lt_trans (Nat.lt_trans (Nat.lt_trans cc_q42 cc_q91) cc_q136) cc_q183) cc_q217) cc_q270) cc_q325) cc_q382) cc_q451) (Nat.lt_trans (Nat.lt_trans (Nat.lt_trans (Nat.lt_trans (Nat.lt_trans (Nat.lt_trans (Nat.lt_trans (Nat.lt_trans (Nat.lt_trans cc_q42 cc_q91) cc_q136) cc_q183) cc_q217) cc_q270) cc_q325) cc_q382) cc_q451) mm_q451)) | (have := raw_lt r461; rintro (e | e) <;> omega))
  try clear r461; try clear k415
  have r485 := (o474 q42 (raw_lt r462) (by first | exact (Nat.ne_of_lt (Nat.lt_trans (Nat.lt_trans (Nat.lt_trans (Nat.lt_trans (Nat.lt_trans (Nat.lt_trans (Nat.lt_trans cc_q91 cc_q136) cc_q183) cc_q217) cc_q270) cc_q325) cc_q382) cc_q451)) | omega)).trans r462
  have k486 : q_kd X466 q42 = 0 := x469.k0 k417 (by first | exact (nw_no (Nat.lt_trans (Nat.lt_trans (Nat.lt_trans (Nat.lt_trans (Nat.lt_trans (Nat.lt_trans (Nat.lt_trans cc_q91 cc_q136) cc_q183) cc_q217) cc_q270) cc_q325) cc_q382) cc_q451) (Nat.lt_trans (Nat.lt_trans (Nat.lt_trans (Nat.lt_trans (Nat.lt_trans (Nat.lt_trans (Nat.lt_trans (Nat.lt_trans cc_q91 cc_q136) cc_q183) cc_q217) cc_q270) cc_q325) cc_q382) cc_q451) mm_q451)) | (have := raw_lt r462; rintro (e | e) <;> omega))
  try clear r462; try clear k417
  have r487 := (o474 q183 (raw_lt r463) (by first | exact (Nat.ne_of_lt (Nat.lt_trans (Nat.lt_trans (Nat.lt_trans (Nat.lt_trans cc_q217 cc_q270) cc_q325) cc_q382) cc_q451)) | omega)).trans r463
  try clear o474
  have k488 : q_kd X466 q183 = 0 := x469.k0 k419 (by first | exact (nw_no (Nat.lt_trans (Nat.lt_trans (Nat.lt_trans (Nat.lt_trans cc_q217 cc_q270) cc_q325) cc_q382) cc_q451) (Nat.lt_trans (Nat.lt_trans (Nat.lt_trans (Nat.lt_trans (Nat.lt_trans cc_q217 cc_q270) cc_q325) cc_q382) cc_q451) mm_q451)) | (have := raw_lt r463; rintro (e | e) <;> omega))
  try clear r463; try clear k419
  have k489 := x469.kd k420 (by decide)
  have k490 := x469.kd k421 (by decide)
  have k491 := x469.kd k422 (by decide)
  have k492 := x469.kd k423 (by decide)
  have k493 := x469.kd k424 (by decide)
  have k494 := x469.kd k401 (by decide)
  try clear x469
  have y495 := p471.1.1 q91 (by rw [k420]; decide) y425
  try clear y425; try clear k420
  have y496 := p471.1.1 q136 (by rw [k421]; decide) y426
  try clear y426; try clear k421
  have y497 := p471.1.1 q217 (by rw [k422]; decide) y427
  try clear y427; try clear k422
  have y498 := p471.1.1 q270 (by rw [k423]; decide) y428
  try clear y428; try clear k423
  have y499 := p471.1.1 q325 (by rw [k424]; decide) y429
  try clear y429; try clear k424
  have y500 := p471.1.1 q382 (by rw [k401]; decide) y430
  try clear y430; try clear k401
  have y501 := p471.1.2
  have i502 : σ467.1 q451 0 = 0 := p471.2.1
  have i503 : σ467.1 q451 1 = -1 := p471.2.2
  try clear p471
  refine b_aast E S475 (t := 3) (Or.inr gg_q22) rfl (show vwCl[9]? = some (RX10, TX10, 3) from rfl) r483 (q_wcell D477 w472 k470 ⟨rfl, by decide⟩ (show vwCl[9]? = some (RX10, TX10, 3) from rfl)) (by decide) (by decide) dX11_init_154 (fun H504 locs1 z505 o506 r507 S508 => ?_)
  try clear r483; try clear S475
  have w509 : q_w X466 σ467 H504 := w472.kept (fun a ha => o506 a (fun e => ha (by rw [e]; exact k484)))
  try clear w472
  have b510 := b479.kept (o506 h (by first | exact (Nat.ne_of_lt hq22) | omega))
  try clear b479
  have t511 := t_lt b510
  try clear t480
  have r512 := (o506 q42 (by first | exact (Nat.ne_of_gt cc_q42) | omega)).trans r485
  try clear r485
  have r513 := (o506 q183 (by first | exact (Nat.ne_of_gt (Nat.lt_trans (Nat.lt_trans (Nat.lt_trans cc_q42 cc_q91) cc_q136) cc_q183)) | omega)).trans r487
  try clear o506; try clear r487
  refine lv_iinc (v := 1) (lv' := [(1, .int 1), (0, .ref h)]) hxx hb dX11_init_155 hl (k := 0) rfl (by decide) (by decide) rfl (fun ls hl => ?_)
  refine lv_goto (tgt := 137) hxx hb dX11_init_158 (by decide) ?_
  refine lv_iload_n hxx hb dX11_init_137 rfl (lv_at hl 0 rfl) ?_
  refine lv_iconst (v := 4) hxx hb dX11_init_138 (by decide) ?_
  refine lv_icmp_ge hxx hb dX11_init_139 (tgt := 161) (by decide) (fun q => absurd q (by decide)) (fun _ => ?_)
  refine lv_aload_n hxx hb dX11_init_142 rfl (lv_at hl 1 rfl) ?_
  refine b_get E (f := 3) b510 (show vwCl[10]? = some (RX11, TX11, 17) from rfl) q_inX11 (by decide) bw_445 rfl (v := .ref q22) rfl dX11_init_143 ?_
  refine lv_iload_n hxx hb dX11_init_146 rfl (lv_at hl 0 rfl) ?_
  refine b_new E S508 bw_28 bw_425 bw_13 (show vwCl[9]? = some (RX10, TX10, 3) from rfl) q_inX10 tyX10 tyX10_ok (Nat.le_of_ble_eq_true rfl) (Nat.le_of_ble_eq_true rfl) dX11_init_147 (fun q514 H515 e516 z517 o518 b519 S520 => ?_)
  have hq514 : h < q514 := by first | exact Nat.lt_of_lt_of_eq t511 e516.symm | omega
  have gg_q514 : s.heap.size ≤ q514 := Nat.le_trans S508.1 (Nat.le_of_eq e516.symm)
  have mm_q514 : q514 < H515.size := by rw [z517, e516]; exact Nat.lt_succ_self _
  have cc_q514 : q451 < q514 := by first | exact Nat.lt_of_lt_of_eq (Nat.lt_of_lt_of_le (Nat.lt_of_lt_of_le mm_q451 z473) (Nat.le_of_eq z505.symm)) e516.symm | omega
  try clear S508
  have w521 : q_w X466 σ467 H515 := w509.kept (fun a ha => o518 a (w509.lt ha))
  have b522 := b510.kept (o518 h t511)
  try clear b510
  have t523 := t_lt b522
  try clear t511
  have r524 := (o518 q22 (raw_lt r507)).trans r507
  try clear r507
  have r525 := (o518 q42 (raw_lt r512)).trans r512
  try clear r512
  have r526 := (o518 q183 (raw_lt r513)).trans r513
  try clear o518; try clear r513
  have k527 : q_kd X466 q514 = 0 := w509.fresh (Nat.le_of_eq e516.symm)
  try clear w509
  have g528 := S520.1
  refine lv_dup hxx hb dX11_init_150 rfl ?_
  have a539 : ∀ a, q_nw q514 H515.size a → q_nw h s.heap.size a := nw_in gg_q514 (Nat.le_trans gg_q514 (Nat.le_of_lt mm_q514))
  refine b_cv (b_runN (As := []) (rest := [.ref q514, .int 1, .ref q22]) E (hml.trans hl.1.symm) D477 w521 k527 b519 rfl (n_X10 l D X466 σ467 q514 H515.size) bi_X11_84 rfl ⟨Nat.le_of_ble_eq_true rfl, Nat.le_of_ble_eq_true rfl⟩ ⟨Nat.le_of_ble_eq_true rfl, Nat.le_of_ble_eq_true rfl⟩ rfl (Nat.le_of_ble_eq_true rfl) dX11_init_151) S520 rfl a539 (fun X529 σ530 H531 locs1 x532 k533 p534 w535 z536 o537 S538 => ?_)
  try clear k527; try clear w521; try clear S520; try clear b519
  have D540 : X529.1 = D := x532.1.trans D477
  try clear D477
  have k541 : q_kd X529 h = 0 := x532.k0 k478 (by first | exact (nw_no hq514 (Nat.lt_trans hq514 mm_q514)) | (rintro (e | e) <;> omega))
  try clear k478
  have b542 := b522.kept (o537 h t523 (by first | exact (Nat.ne_of_lt hq514) | omega))
  try clear b522
  have t543 := t_lt b542
  try clear t523
  have y544 := y481.tr p534.1.1 (fun c hc => by rw [(x482.2.2.2.1 c hc).1]; exact hc)
  try clear y481
  have x545 := x482.tr x532 a539
  try clear x482
  have r546 := (o537 q22 (raw_lt r524) (by first | exact (Nat.ne_of_lt (Nat.lt_trans (Nat.lt_trans (Nat.lt_trans (Nat.lt_trans (Nat.lt_trans (Nat.lt_trans (Nat.lt_trans (Nat.lt_trans (Nat.lt_trans cc_q42 cc_q91) cc_q136) cc_q183) cc_q217) cc_q270) cc_q325) cc_q382) cc_q451) cc_q514)) | omega)).trans r524
  have k547 : q_kd X529 q22 = 0 := x532.k0 k484 (by first | exact (nw_no (Nat.lt_trans (Nat.lt_trans (Nat.lt_trans (Nat.lt_trans (Nat.lt_trans (Nat.lt_trans (Nat.lt_trans (Nat.lt_trans (Nat.lt_trans cc_q42 cc_q91) cc_q136) cc_q183) cc_q217) cc_q270) cc_q325) cc_q382) cc_q451) cc_q514) (Nat.lt_trans (Nat.lt_trans (Nat.lt_trans (Nat.lt_trans (Nat.lt_trans (Nat.lt_trans (Nat.lt_trans (Nat.lt_trans (Nat.lt_trans (Nat.lt_trans cc_q42 cc_q91) cc_q136) cc_q183) cc_q217) cc_q270) cc_q325) cc_q382) cc_q451) cc_q514) mm_q514)) | (have := raw_lt r524; rintro (e | e) <;> omega))
  try clear r524; try clear k484
  have r548 := (o537 q42 (raw_lt r525) (by first | exact (Nat.ne_of_lt (Nat.lt_trans (Nat.lt_trans (Nat.lt_trans (Nat.lt_trans (Nat.lt_trans (Nat.lt_trans (Nat.lt_trans (Nat.lt_trans cc_q91 cc_q136) cc_q183) cc_q217) cc_q270) cc_q325) cc_q382) cc_q451) cc_q514)) | omega)).trans r525
  have k549 : q_kd X529 q42 = 0 := x532.k0 k486 (by first | exact (nw_no (Nat.lt_trans (Nat.lt_trans (Nat.lt_trans (Nat.lt_trans (Nat.lt_trans (Nat.lt_trans (Nat.lt_trans (Nat.lt_trans cc_q91 cc_q136) cc_q183) cc_q217) cc_q270) cc_q325) cc_q382) cc_q451) cc_q514) (Nat.lt_trans (Nat.lt_trans (Nat.lt_trans (Nat.lt_trans (Nat.lt_trans (Nat.lt_trans (Nat.lt_trans (Nat.lt_trans (Nat.lt_trans cc_q91 cc_q136) cc_q183) cc_q217) cc_q270) cc_q325) cc_q382) cc_q451) cc_q514) mm_q514)) | (have := raw_lt r525; rintro (e | e) <;> omega))
  try clear r525; try clear k486
  have r550 := (o537 q183 (raw_lt r526) (by first | exact (Nat.ne_of_lt (Nat.lt_trans (Nat.lt_trans (Nat.lt_trans (Nat.lt_trans (Nat.lt_trans cc_q217 cc_q270) cc_q325) cc_q382) cc_q451) cc_q514)) | omega)).trans r526
  try clear o537
  have k551 : q_kd X529 q183 = 0 := x532.k0 k488 (by first | exact (nw_no (Nat.lt_trans (Nat.lt_trans (Nat.lt_trans (Nat.lt_trans (Nat.lt_trans cc_q217 cc_q270) cc_q325) cc_q382) cc_q451) cc_q514) (Nat.lt_trans (Nat.lt_trans (Nat.lt_trans (Nat.lt_trans (Nat.lt_trans (Nat.lt_trans cc_q217 cc_q270) cc_q325) cc_q382) cc_q451) cc_q514) mm_q514)) | (have := raw_lt r526; rintro (e | e) <;> omega))
  try clear r526; try clear k488
  have k552 := x532.kd k489 (by decide)
  have k553 := x532.kd k490 (by decide)
  have k554 := x532.kd k491 (by decide)
  have k555 := x532.kd k492 (by decide)
  have k556 := x532.kd k493 (by decide)
  have k557 := x532.kd k494 (by decide)
  have k558 := x532.kd k470 (by decide)
  have y559 := p534.1.1 q91 (by rw [k489]; decide) y495
  try clear y495; try clear k489
  have y560 := p534.1.1 q136 (by rw [k490]; decide) y496
  try clear y496; try clear k490
  have y561 := p534.1.1 q217 (by rw [k491]; decide) y497
  try clear y497; try clear k491
  have y562 := p534.1.1 q270 (by rw [k492]; decide) y498
  try clear y498; try clear k492
  have y563 := p534.1.1 q325 (by rw [k493]; decide) y499
  try clear y499; try clear k493
  have y564 := p534.1.1 q382 (by rw [k494]; decide) y500
  try clear y500; try clear k494
  have y565 := p534.1.1 q451 (by rw [k470]; decide) y501
  try clear y501
  have y566 := p534.1.2
  have i567 : σ530.1 q451 0 = 0 := (q_exi x532 (by rw [k470]; decide)).trans i502
  try clear i502
  have i568 : σ530.1 q451 1 = -1 := (q_exi x532 (by rw [k470]; decide)).trans i503
  try clear x532; try clear i503; try clear k470
  have i569 : σ530.1 q514 0 = 0 := p534.2.1
  have i570 : σ530.1 q514 1 = -1 := p534.2.2
  try clear p534
  refine b_aast E S538 (t := 3) (Or.inr gg_q22) rfl (show vwCl[9]? = some (RX10, TX10, 3) from rfl) r546 (q_wcell D540 w535 k533 ⟨rfl, by decide⟩ (show vwCl[9]? = some (RX10, TX10, 3) from rfl)) (by decide) (by decide) dX11_init_154 (fun H571 locs1 z572 o573 r574 S575 => ?_)
  try clear r546; try clear S538
  have w576 : q_w X529 σ530 H571 := w535.kept (fun a ha => o573 a (fun e => ha (by rw [e]; exact k547)))
  try clear w535
  have b577 := b542.kept (o573 h (by first | exact (Nat.ne_of_lt hq22) | omega))
  try clear b542
  have t578 := t_lt b577
  try clear t543
  have r579 := (o573 q42 (by first | exact (Nat.ne_of_gt cc_q42) | omega)).trans r548
  try clear r548
  have r580 := (o573 q183 (by first | exact (Nat.ne_of_gt (Nat.lt_trans (Nat.lt_trans (Nat.lt_trans cc_q42 cc_q91) cc_q136) cc_q183)) | omega)).trans r550
  try clear o573; try clear r550
  refine lv_iinc (v := 2) (lv' := [(1, .int 2), (0, .ref h)]) hxx hb dX11_init_155 hl (k := 0) rfl (by decide) (by decide) rfl (fun ls hl => ?_)
  refine lv_goto (tgt := 137) hxx hb dX11_init_158 (by decide) ?_
  refine lv_iload_n hxx hb dX11_init_137 rfl (lv_at hl 0 rfl) ?_
  refine lv_iconst (v := 4) hxx hb dX11_init_138 (by decide) ?_
  refine lv_icmp_ge hxx hb dX11_init_139 (tgt := 161) (by decide) (fun q => absurd q (by decide)) (fun _ => ?_)
  refine lv_aload_n hxx hb dX11_init_142 rfl (lv_at hl 1 rfl) ?_
  refine b_get E (f := 3) b577 (show vwCl[10]? = some (RX11, TX11, 17) from rfl) q_inX11 (by decide) bw_445 rfl (v := .ref q22) rfl dX11_init_143 ?_
  refine lv_iload_n hxx hb dX11_init_146 rfl (lv_at hl 0 rfl) ?_
  refine b_new E S575 bw_28 bw_425 bw_13 (show vwCl[9]? = some (RX10, TX10, 3) from rfl) q_inX10 tyX10 tyX10_ok (Nat.le_of_ble_eq_true rfl) (Nat.le_of_ble_eq_true rfl) dX11_init_147 (fun q581 H582 e583 z584 o585 b586 S587 => ?_)
  have hq581 : h < q581 := by first | exact Nat.lt_of_lt_of_eq t578 e583.symm | omega
  have gg_q581 : s.heap.size ≤ q581 := Nat.le_trans S575.1 (Nat.le_of_eq e583.symm)
  have mm_q581 : q581 < H582.size := by rw [z584, e583]; exact Nat.lt_succ_self _
  have cc_q581 : q514 < q581 := by first | exact Nat.lt_of_lt_of_eq (Nat.lt_of_lt_of_le (Nat.lt_of_lt_of_le mm_q514 z536) (Nat.le_of_eq z572.symm)) e583.symm | omega
  try clear S575
  have w588 : q_w X529 σ530 H582 := w576.kept (fun a ha => o585 a (w576.lt ha))
  have b589 := b577.kept (o585 h t578)
  try clear b577
  have t590 := t_lt b589
  try clear t578
  have r591 := (o585 q22 (raw_lt r574)).trans r574
  try clear r574
  have r592 := (o585 q42 (raw_lt r579)).trans r579
  try clear r579
  have r593 := (o585 q183 (raw_lt r580)).trans r580
  try clear o585; try clear r580
  have k594 : q_kd X529 q581 = 0 := w576.fresh (Nat.le_of_eq e583.symm)
  try clear w576
  have g595 := S587.1
  refine lv_dup hxx hb dX11_init_150 rfl ?_
  have a606 : ∀ a, q_nw q581 H582.size a → q_nw h s.heap.size a := nw_in gg_q581 (Nat.le_trans gg_q581 (Nat.le_of_lt mm_q581))
  refine b_cv (b_runN (As := []) (rest := [.ref q581, .int 2, .ref q22]) E (hml.trans hl.1.symm) D540 w588 k594 b586 rfl (n_X10 l D X529 σ530 q581 H582.size) bi_X11_84 rfl ⟨Nat.le_of_ble_eq_true rfl, Nat.le_of_ble_eq_true rfl⟩ ⟨Nat.le_of_ble_eq_true rfl, Nat.le_of_ble_eq_true rfl⟩ rfl (Nat.le_of_ble_eq_true rfl) dX11_init_151) S587 rfl a606 (fun X596 σ597 H598 locs1 x599 k600 p601 w602 z603 o604 S605 => ?_)
  try clear k594; try clear w588; try clear S587; try clear b586
  have D607 : X596.1 = D := x599.1.trans D540
  try clear D540
  have k608 : q_kd X596 h = 0 := x599.k0 k541 (by first | exact (nw_no hq581 (Nat.lt_trans hq581 mm_q581)) | (rintro (e | e) <;> omega))
  try clear k541
  have b609 := b589.kept (o604 h t590 (by first | exact (Nat.ne_of_lt hq581) | omega))
  try clear b589
  have t610 := t_lt b609
  try clear t590
  have y611 := y544.tr p601.1.1 (fun c hc => by rw [(x545.2.2.2.1 c hc).1]; exact hc)
  try clear y544
  have x612 := x545.tr x599 a606
  try clear x545
  have r613 := (o604 q22 (raw_lt r591) (by first | exact (Nat.ne_of_lt (Nat.lt_trans (Nat.lt_trans (Nat.lt_trans (Nat.lt_trans (Nat.lt_trans (Nat.lt_trans (Nat.lt_trans (Nat.lt_trans (Nat.lt_trans (Nat.lt_trans cc_q42 cc_q91) cc_q136) cc_q183) cc_q217) cc_q270) cc_q325) cc_q382) cc_q451) cc_q514) cc_q581)) | omega)).trans r591
  have k614 : q_kd X596 q22 = 0 := x599.k0 k547 (by first | exact (nw_no (Nat.lt_trans (Nat.lt_trans (Nat.lt_trans (Nat.lt_trans (Nat.lt_trans (Nat.lt_trans (Nat.lt_trans (Nat.lt_trans (Nat.lt_trans (Nat.lt_trans cc_q42 cc_q91) cc_q136) cc_q183) cc_q217) cc_q270) cc_q325) cc_q382) cc_q451) cc_q514) cc_q581) (Nat.lt_trans (Nat.lt_trans (Nat.lt_trans (Nat.lt_trans (Nat.lt_trans (Nat.lt_trans (Nat.lt_trans (Nat.lt_trans (Nat.lt_trans (Nat.lt_trans (Nat.lt_trans cc_q42 cc_q91) cc_q136) cc_q183) cc_q217) cc_q270) cc_q325) cc_q382) cc_q451) cc_q514) cc_q581) mm_q581)) | (have := raw_lt r591; rintro (e | e) <;> omega))
  try clear r591; try clear k547
  have r615 := (o604 q42 (raw_lt r592) (by first | exact (Nat.ne_of_lt (Nat.lt_trans (Nat.lt_trans (Nat.lt_trans (Nat.lt_trans (Nat.lt_trans (Nat.lt_trans (Nat.lt_trans (Nat.lt_trans (Nat.lt_trans cc_q91 cc_q136) cc_q183) cc_q217) cc_q270) cc_q325) cc_q382) cc_q451) cc_q514) cc_q581)) | omega)).trans r592
  have k616 : q_kd X596 q42 = 0 := x599.k0 k549 (by first | exact (nw_no (Nat.lt_trans (Nat.lt_trans (Nat.lt_trans (Nat.lt_trans (Nat.lt_trans (Nat.lt_trans (Nat.lt_trans (Nat.lt_trans (Nat.lt_trans cc_q91 cc_q136) cc_q183) cc_q217) cc_q270) cc_q325) cc_q382) cc_q451) cc_q514) cc_q581) (Nat.lt_trans (Nat.lt_trans (Nat.lt_trans (Nat.lt_trans (Nat.lt_trans (Nat.lt_trans (Nat.lt_trans (Nat.lt_trans (Nat.lt_trans (Nat.lt_trans cc_q91 cc_q136) cc_q183) cc_q217) cc_q270) cc_q325) cc_q382) cc_q451) cc_q514) cc_q581) mm_q581)) | (have := raw_lt r592; rintro (e | e) <;> omega))
  try clear r592; try clear k549
  have r617 := (o604 q183 (raw_lt r593) (by first | exact (Nat.ne_of_lt (Nat.lt_trans (Nat.lt_trans (Nat.lt_trans (Nat.lt_trans (Nat.lt_trans (Nat.lt_trans cc_q217 cc_q270) cc_q325) cc_q382) cc_q451) cc_q514) cc_q581)) | omega)).trans r593
  try clear o604
  have k618 : q_kd X596 q183 = 0 := x599.k0 k551 (by first | exact (nw_no (Nat.lt_trans (Nat.lt_trans (Nat.lt_trans (Nat.lt_trans (Nat.lt_trans (Nat.lt_trans cc_q217 cc_q270) cc_q325) cc_q382) cc_q451) cc_q514) cc_q581) (Nat.lt_trans (Nat.lt_trans (Nat.lt_trans (Nat.lt_trans (Nat.lt_trans (Nat.lt_trans (Nat.lt_trans cc_q217 cc_q270) cc_q325) cc_q382) cc_q451) cc_q514) cc_q581) mm_q581)) | (have := raw_lt r593; rintro (e | e) <;> omega))
  try clear r593; try clear k551
  have k619 := x599.kd k552 (by decide)
  have k620 := x599.kd k553 (by decide)
  have k621 := x599.kd k554 (by decide)
  have k622 := x599.kd k555 (by decide)
  have k623 := x599.kd k556 (by decide)
  have k624 := x599.kd k557 (by decide)
  have k625 := x599.kd k558 (by decide)
  have k626 := x599.kd k533 (by decide)
  have y627 := p601.1.1 q91 (by rw [k552]; decide) y559
  try clear y559; try clear k552
  have y628 := p601.1.1 q136 (by rw [k553]; decide) y560
  try clear y560; try clear k553
  have y629 := p601.1.1 q217 (by rw [k554]; decide) y561
  try clear y561; try clear k554
  have y630 := p601.1.1 q270 (by rw [k555]; decide) y562
  try clear y562; try clear k555
  have y631 := p601.1.1 q325 (by rw [k556]; decide) y563
  try clear y563; try clear k556
  have y632 := p601.1.1 q382 (by rw [k557]; decide) y564
  try clear y564; try clear k557
  have y633 := p601.1.1 q451 (by rw [k558]; decide) y565
  try clear y565
  have y634 := p601.1.1 q514 (by rw [k533]; decide) y566
  try clear y566
  have y635 := p601.1.2
  have i636 : σ597.1 q451 0 = 0 := (q_exi x599 (by rw [k558]; decide)).trans i567
  try clear i567
  have i637 : σ597.1 q451 1 = -1 := (q_exi x599 (by rw [k558]; decide)).trans i568
  try clear i568; try clear k558
  have i638 : σ597.1 q514 0 = 0 := (q_exi x599 (by rw [k533]; decide)).trans i569
  try clear i569
  have i639 : σ597.1 q514 1 = -1 := (q_exi x599 (by rw [k533]; decide)).trans i570
  try clear x599; try clear i570; try clear k533
  have i640 : σ597.1 q581 0 = 0 := p601.2.1
  have i641 : σ597.1 q581 1 = -1 := p601.2.2
  try clear p601
  refine b_aast E S605 (t := 3) (Or.inr gg_q22) rfl (show vwCl[9]? = some (RX10, TX10, 3) from rfl) r613 (q_wcell D607 w602 k600 ⟨rfl, by decide⟩ (show vwCl[9]? = some (RX10, TX10, 3) from rfl)) (by decide) (by decide) dX11_init_154 (fun H642 locs1 z643 o644 r645 S646 => ?_)
  try clear r613; try clear S605
  have w647 : q_w X596 σ597 H642 := w602.kept (fun a ha => o644 a (fun e => ha (by rw [e]; exact k614)))
  try clear w602
  have b648 := b609.kept (o644 h (by first | exact (Nat.ne_of_lt hq22) | omega))
  try clear b609
  have t649 := t_lt b648
  try clear t610
  have r650 := (o644 q42 (by first | exact (Nat.ne_of_gt cc_q42) | omega)).trans r615
  try clear r615
  have r651 := (o644 q183 (by first | exact (Nat.ne_of_gt (Nat.lt_trans (Nat.lt_trans (Nat.lt_trans cc_q42 cc_q91) cc_q136) cc_q183)) | omega)).trans r617
  try clear o644; try clear r617
  refine lv_iinc (v := 3) (lv' := [(1, .int 3), (0, .ref h)]) hxx hb dX11_init_155 hl (k := 0) rfl (by decide) (by decide) rfl (fun ls hl => ?_)
  refine lv_goto (tgt := 137) hxx hb dX11_init_158 (by decide) ?_
  refine lv_iload_n hxx hb dX11_init_137 rfl (lv_at hl 0 rfl) ?_
  refine lv_iconst (v := 4) hxx hb dX11_init_138 (by decide) ?_
  refine lv_icmp_ge hxx hb dX11_init_139 (tgt := 161) (by decide) (fun q => absurd q (by decide)) (fun _ => ?_)
  refine lv_aload_n hxx hb dX11_init_142 rfl (lv_at hl 1 rfl) ?_
  refine b_get E (f := 3) b648 (show vwCl[10]? = some (RX11, TX11, 17) from rfl) q_inX11 (by decide) bw_445 rfl (v := .ref q22) rfl dX11_init_143 ?_
  refine lv_iload_n hxx hb dX11_init_146 rfl (lv_at hl 0 rfl) ?_
  refine b_new E S646 bw_28 bw_425 bw_13 (show vwCl[9]? = some (RX10, TX10, 3) from rfl) q_inX10 tyX10 tyX10_ok (Nat.le_of_ble_eq_true rfl) (Nat.le_of_ble_eq_true rfl) dX11_init_147 (fun q652 H653 e654 z655 o656 b657 S658 => ?_)
  have hq652 : h < q652 := by first | exact Nat.lt_of_lt_of_eq t649 e654.symm | omega
  have gg_q652 : s.heap.size ≤ q652 := Nat.le_trans S646.1 (Nat.le_of_eq e654.symm)
  have mm_q652 : q652 < H653.size := by rw [z655, e654]; exact Nat.lt_succ_self _
  have cc_q652 : q581 < q652 := by first | exact Nat.lt_of_lt_of_eq (Nat.lt_of_lt_of_le (Nat.lt_of_lt_of_le mm_q581 z603) (Nat.le_of_eq z643.symm)) e654.symm | omega
  try clear S646
  have w659 : q_w X596 σ597 H653 := w647.kept (fun a ha => o656 a (w647.lt ha))
  have b660 := b648.kept (o656 h t649)
  try clear b648
  have t661 := t_lt b660
  try clear t649
  have r662 := (o656 q22 (raw_lt r645)).trans r645
  try clear r645
  have r663 := (o656 q42 (raw_lt r650)).trans r650
  try clear r650
  have r664 := (o656 q183 (raw_lt r651)).trans r651
  try clear o656; try clear r651
  have k665 : q_kd X596 q652 = 0 := w647.fresh (Nat.le_of_eq e654.symm)
  try clear w647
  have g666 := S658.1
  refine lv_dup hxx hb dX11_init_150 rfl ?_
  have a677 : ∀ a, q_nw q652 H653.size a → q_nw h s.heap.size a := nw_in gg_q652 (Nat.le_trans gg_q652 (Nat.le_of_lt mm_q652))
  refine b_cv (b_runN (As := []) (rest := [.ref q652, .int 3, .ref q22]) E (hml.trans hl.1.symm) D607 w659 k665 b657 rfl (n_X10 l D X596 σ597 q652 H653.size) bi_X11_84 rfl ⟨Nat.le_of_ble_eq_true rfl, Nat.le_of_ble_eq_true rfl⟩ ⟨Nat.le_of_ble_eq_true rfl, Nat.le_of_ble_eq_true rfl⟩ rfl (Nat.le_of_ble_eq_true rfl) dX11_init_151) S658 rfl a677 (fun X667 σ668 H669 locs1 x670 k671 p672 w673 z674 o675 S676 => ?_)
  try clear k665; try clear w659; try clear S658; try clear b657
  have D678 : X667.1 = D := x670.1.trans D607
  try clear D607
  have k679 : q_kd X667 h = 0 := x670.k0 k608 (by first | exact (nw_no hq652 (Nat.lt_trans hq652 mm_q652)) | (rintro (e | e) <;> omega))
  try clear k608
  have b680 := b660.kept (o675 h t661 (by first | exact (Nat.ne_of_lt hq652) | omega))
  try clear b660
  have t681 := t_lt b680
  try clear t661
  have y682 := y611.tr p672.1.1 (fun c hc => by rw [(x612.2.2.2.1 c hc).1]; exact hc)
  try clear y611
  have x683 := x612.tr x670 a677
  try clear x612
  have r684 := (o675 q22 (raw_lt r662) (by first | exact (Nat.ne_of_lt (Nat.lt_trans (Nat.lt_trans (Nat.lt_trans (Nat.lt_trans (Nat.lt_trans (Nat.lt_trans (Nat.lt_trans (Nat.lt_trans (Nat.lt_trans (Nat.lt_trans (Nat.lt_trans cc_q42 cc_q91) cc_q136) cc_q183) cc_q217) cc_q270) cc_q325) cc_q382) cc_q451) cc_q514) cc_q581) cc_q652)) | omega)).trans r662
  have k685 : q_kd X667 q22 = 0 := x670.k0 k614 (by first | exact (nw_no (Nat.lt_trans (Nat.lt_trans (Nat.lt_trans (Nat.lt_trans (Nat.lt_trans (Nat.lt_trans (Nat.lt_trans (Nat.lt_trans (Nat.lt_trans (Nat.lt_trans (Nat.lt_trans cc_q42 cc_q91) cc_q136) cc_q183) cc_q217) cc_q270) cc_q325) cc_q382) cc_q451) cc_q514) cc_q581) cc_q652) (Nat.lt_trans (Nat.lt_trans (Nat.lt_trans (Nat.lt_trans (Nat.lt_trans (Nat.lt_trans (Nat.lt_trans (Nat.lt_trans (Nat.lt_trans (Nat.lt_trans (Nat.lt_trans (Nat.lt_trans cc_q42 cc_q91) cc_q136) cc_q183) cc_q217) cc_q270) cc_q325) cc_q382) cc_q451) cc_q514) cc_q581) cc_q652) mm_q652)) | (have := raw_lt r662; rintro (e | e) <;> omega))
  try clear r662; try clear k614
  have r686 := (o675 q42 (raw_lt r663) (by first | exact (Nat.ne_of_lt (Nat.lt_trans (Nat.lt_trans (Nat.lt_trans (Nat.lt_trans (Nat.lt_trans (Nat.lt_trans (Nat.lt_trans (Nat.lt_trans (Nat.lt_trans (Nat.lt_trans cc_q91 cc_q136) cc_q183) cc_q217) cc_q270) cc_q325) cc_q382) cc_q451) cc_q514) cc_q581) cc_q652)) | omega)).trans r663
  have k687 : q_kd X667 q42 = 0 := x670.k0 k616 (by first | exact (nw_no (Nat.lt_trans (Nat.lt_trans (Nat.lt_trans (Nat.lt_trans (Nat.lt_trans (Nat.lt_trans (Nat.lt_trans (Nat.lt_trans (Nat.lt_trans (Nat.lt_trans cc_q91 cc_q136) cc_q183) cc_q217) cc_q270) cc_q325) cc_q382) cc_q451) cc_q514) cc_q581) cc_q652) (Nat.lt_trans (Nat.lt_trans (Nat.lt_trans (Nat.lt_trans (Nat.lt_trans (Nat.lt_trans (Nat.lt_trans (Nat.lt_trans (Nat.lt_trans (Nat.lt_trans (Nat.lt_trans cc_q91 cc_q136) cc_q183) cc_q217) cc_q270) cc_q325) cc_q382) cc_q451) cc_q514) cc_q581) cc_q652) mm_q652)) | (have := raw_lt r663; rintro (e | e) <;> omega))
  try clear r663; try clear k616
  have r688 := (o675 q183 (raw_lt r664) (by first | exact (Nat.ne_of_lt (Nat.lt_trans (Nat.lt_trans (Nat.lt_trans (Nat.lt_trans (Nat.lt_trans (Nat.lt_trans (Nat.lt_trans cc_q217 cc_q270) cc_q325) cc_q382) cc_q451) cc_q514) cc_q581) cc_q652)) | omega)).trans r664
  try clear o675
  have k689 : q_kd X667 q183 = 0 := x670.k0 k618 (by first | exact (nw_no (Nat.lt_trans (Nat.lt_trans (Nat.lt_trans (Nat.lt_trans (Nat.lt_trans (Nat.lt_trans (Nat.lt_trans cc_q217 cc_q270) cc_q325) cc_q382) cc_q451) cc_q514) cc_q581) cc_q652) (Nat.lt_trans (Nat.lt_trans (Nat.lt_trans (Nat.lt_trans (Nat.lt_trans (Nat.lt_trans (Nat.lt_trans (Nat.lt_trans cc_q217 cc_q270) cc_q325) cc_q382) cc_q451) cc_q514) cc_q581) cc_q652) mm_q652)) | (have := raw_lt r664; rintro (e | e) <;> omega))
  try clear r664; try clear k618
  have k690 := x670.kd k619 (by decide)
  have k691 := x670.kd k620 (by decide)
  have k692 := x670.kd k621 (by decide)
  have k693 := x670.kd k622 (by decide)
  have k694 := x670.kd k623 (by decide)
  have k695 := x670.kd k624 (by decide)
  have k696 := x670.kd k625 (by decide)
  have k697 := x670.kd k626 (by decide)
  have k698 := x670.kd k600 (by decide)
  have y699 := p672.1.1 q91 (by rw [k619]; decide) y627
  try clear y627; try clear k619
  have y700 := p672.1.1 q136 (by rw [k620]; decide) y628
  try clear y628; try clear k620
  have y701 := p672.1.1 q217 (by rw [k621]; decide) y629
  try clear y629; try clear k621
  have y702 := p672.1.1 q270 (by rw [k622]; decide) y630
  try clear y630; try clear k622
  have y703 := p672.1.1 q325 (by rw [k623]; decide) y631
  try clear y631; try clear k623
  have y704 := p672.1.1 q382 (by rw [k624]; decide) y632
  try clear y632; try clear k624
  have y705 := p672.1.1 q451 (by rw [k625]; decide) y633
  try clear y633
  have y706 := p672.1.1 q514 (by rw [k626]; decide) y634
  try clear y634
  have y707 := p672.1.1 q581 (by rw [k600]; decide) y635
  try clear y635
  have y708 := p672.1.2
  have i709 : σ668.1 q451 0 = 0 := (q_exi x670 (by rw [k625]; decide)).trans i636
  try clear i636
  have i710 : σ668.1 q451 1 = -1 := (q_exi x670 (by rw [k625]; decide)).trans i637
  try clear i637; try clear k625
  have i711 : σ668.1 q514 0 = 0 := (q_exi x670 (by rw [k626]; decide)).trans i638
  try clear i638
  have i712 : σ668.1 q514 1 = -1 := (q_exi x670 (by rw [k626]; decide)).trans i639
  try clear i639; try clear k626
  have i713 : σ668.1 q581 0 = 0 := (q_exi x670 (by rw [k600]; decide)).trans i640
  try clear i640
  have i714 : σ668.1 q581 1 = -1 := (q_exi x670 (by rw [k600]; decide)).trans i641
  try clear x670; try clear i641; try clear k600
  have i715 : σ668.1 q652 0 = 0 := p672.2.1
  have i716 : σ668.1 q652 1 = -1 := p672.2.2
  try clear p672
  refine b_aast E S676 (t := 3) (Or.inr gg_q22) rfl (show vwCl[9]? = some (RX10, TX10, 3) from rfl) r684 (q_wcell D678 w673 k671 ⟨rfl, by decide⟩ (show vwCl[9]? = some (RX10, TX10, 3) from rfl)) (by decide) (by decide) dX11_init_154 (fun H717 locs1 z718 o719 r720 S721 => ?_)
  try clear r684; try clear S676
  have w722 : q_w X667 σ668 H717 := w673.kept (fun a ha => o719 a (fun e => ha (by rw [e]; exact k685)))
  try clear w673
  have b723 := b680.kept (o719 h (by first | exact (Nat.ne_of_lt hq22) | omega))
  try clear b680
  have t724 := t_lt b723
  try clear t681
  have r725 := (o719 q42 (by first | exact (Nat.ne_of_gt cc_q42) | omega)).trans r686
  try clear r686
  have r726 := (o719 q183 (by first | exact (Nat.ne_of_gt (Nat.lt_trans (Nat.lt_trans (Nat.lt_trans cc_q42 cc_q91) cc_q136) cc_q183)) | omega)).trans r688
  try clear o719; try clear r688
  refine lv_iinc (v := 4) (lv' := [(1, .int 4), (0, .ref h)]) hxx hb dX11_init_155 hl (k := 0) rfl (by decide) (by decide) rfl (fun ls hl => ?_)
  refine lv_goto (tgt := 137) hxx hb dX11_init_158 (by decide) ?_
  refine lv_iload_n hxx hb dX11_init_137 rfl (lv_at hl 0 rfl) ?_
  refine lv_iconst (v := 4) hxx hb dX11_init_138 (by decide) ?_
  refine lv_icmp_ge hxx hb dX11_init_139 (tgt := 161) (by decide) (fun _ => ?_) (fun q => absurd (by decide) q)
  refine lv_iconst (v := 0) hxx hb dX11_init_161 (by decide) ?_
  refine lv_istore_n (lv' := [(1, .int 0), (0, .ref h)]) hxx hb dX11_init_162 rfl hl (by decide) rfl (fun ls hl => ?_)
  refine lv_iload_n hxx hb dX11_init_163 rfl (lv_at hl 0 rfl) ?_
  refine lv_iconst (v := 3) hxx hb dX11_init_164 (by decide) ?_
  refine lv_icmp_ge hxx hb dX11_init_165 (tgt := 187) (by decide) (fun q => absurd q (by decide)) (fun _ => ?_)
  refine lv_aload_n hxx hb dX11_init_168 rfl (lv_at hl 1 rfl) ?_
  refine b_get E (f := 10) b723 (show vwCl[10]? = some (RX11, TX11, 17) from rfl) q_inX11 (by decide) bw_452 rfl (v := .ref q183) rfl dX11_init_169 ?_
  refine lv_iload_n hxx hb dX11_init_172 rfl (lv_at hl 0 rfl) ?_
  refine b_new E S721 bw_30 bw_31 bw_2 (show vwCl[0]? = some (RX0, TX0, 15) from rfl) q_inX0 tyX0 tyX0_ok (Nat.le_of_ble_eq_true rfl) (Nat.le_of_ble_eq_true rfl) dX11_init_173 (fun q727 H728 e729 z730 o731 b732 S733 => ?_)
  have hq727 : h < q727 := by first | exact Nat.lt_of_lt_of_eq t724 e729.symm | omega
  have gg_q727 : s.heap.size ≤ q727 := Nat.le_trans S721.1 (Nat.le_of_eq e729.symm)
  have mm_q727 : q727 < H728.size := by rw [z730, e729]; exact Nat.lt_succ_self _
  have cc_q727 : q652 < q727 := by first | exact Nat.lt_of_lt_of_eq (Nat.lt_of_lt_of_le (Nat.lt_of_lt_of_le mm_q652 z674) (Nat.le_of_eq z718.symm)) e729.symm | omega
  try clear S721
  have w734 : q_w X667 σ668 H728 := w722.kept (fun a ha => o731 a (w722.lt ha))
  have b735 := b723.kept (o731 h t724)
  try clear b723
  have t736 := t_lt b735
  try clear t724
  have r737 := (o731 q22 (raw_lt r720)).trans r720
  try clear r720
  have r738 := (o731 q42 (raw_lt r725)).trans r725
  try clear r725
  have r739 := (o731 q183 (raw_lt r726)).trans r726
  try clear o731; try clear r726
  have k740 : q_kd X667 q727 = 0 := w722.fresh (Nat.le_of_eq e729.symm)
  try clear w722
  have g741 := S733.1
  refine lv_dup hxx hb dX11_init_176 rfl ?_
  have a752 : ∀ a, q_nw q727 H728.size a → q_nw h s.heap.size a := nw_in gg_q727 (Nat.le_trans gg_q727 (Nat.le_of_lt mm_q727))
  refine b_cv (b_runN (As := []) (rest := [.ref q727, .int 0, .ref q183]) E (hml.trans hl.1.symm) D678 w734 k740 b732 rfl (n_X0 l D X667 σ668 q727 H728.size) bi_X11_41 rfl ⟨Nat.le_of_ble_eq_true rfl, Nat.le_of_ble_eq_true rfl⟩ ⟨Nat.le_of_ble_eq_true rfl, Nat.le_of_ble_eq_true rfl⟩ rfl (Nat.le_of_ble_eq_true rfl) dX11_init_177) S733 rfl a752 (fun X742 σ743 H744 locs1 x745 k746 p747 w748 z749 o750 S751 => ?_)
  try clear k740; try clear w734; try clear S733; try clear b732
  have D753 : X742.1 = D := x745.1.trans D678
  try clear D678
  have k754 : q_kd X742 h = 0 := x745.k0 k679 (by first | exact (nw_no hq727 (Nat.lt_trans hq727 mm_q727)) | (rintro (e | e) <;> omega))
  try clear k679
  have b755 := b735.kept (o750 h t736 (by first | exact (Nat.ne_of_lt hq727) | omega))
  try clear b735
  have t756 := t_lt b755
  try clear t736
  have y757 := y682.tr p747.1.1 (fun c hc => by rw [(x683.2.2.2.1 c hc).1]; exact hc)
  try clear y682
  have x758 := x683.tr x745 a752
  try clear x683
  have r759 := (o750 q22 (raw_lt r737) (by first | exact (Nat.ne_of_lt (Nat.lt_trans (Nat.lt_trans (Nat.lt_trans (Nat.lt_trans (Nat.lt_trans (Nat.lt_trans (Nat.lt_trans (Nat.lt_trans (Nat.lt_trans (Nat.lt_trans (Nat.lt_trans (Nat.lt_trans cc_q42 cc_q91) cc_q136) cc_q183) cc_q217) cc_q270) cc_q325) cc_q382) cc_q451) cc_q514) cc_q581) cc_q652) cc_q727)) | omega)).trans r737
  have k760 : q_kd X742 q22 = 0 := x745.k0 k685 (by first | exact (nw_no (Nat.lt_trans (Nat.lt_trans (Nat.lt_trans (Nat.lt_trans (Nat.lt_trans (Nat.lt_trans (Nat.lt_trans (Nat.lt_trans (Nat.lt_trans (Nat.lt_trans (Nat.lt_trans (Nat.lt_trans cc_q42 cc_q91) cc_q136) cc_q183) cc_q217) cc_q270) cc_q325) cc_q382) cc_q451) cc_q514) cc_q581) cc_q652) cc_q727) (Nat.lt_trans (Nat.lt_trans (Nat.lt_trans (Nat.lt_trans (Nat.lt_trans (Nat.lt_trans (Nat.lt_trans (Nat.lt_trans (Nat.lt_trans (Nat.lt_trans (Nat.lt_trans (Nat.lt_trans (Nat.lt_trans cc_q42 cc_q91) cc_q136) cc_q183) cc_q217) cc_q270) cc_q325) cc_q382) cc_q451) cc_q514) cc_q581) cc_q652) cc_q727) mm_q727)) | (have := raw_lt r737; rintro (e | e) <;> omega))
  try clear r737; try clear k685
  have r761 := (o750 q42 (raw_lt r738) (by first | exact (Nat.ne_of_lt (Nat.lt_trans (Nat.lt_trans (Nat.lt_trans (Nat.lt_trans (Nat.lt_trans (Nat.lt_trans (Nat.lt_trans (Nat.lt_trans (Nat.lt_trans (Nat.lt_trans (Nat.lt_trans cc_q91 cc_q136) cc_q183) cc_q217) cc_q270) cc_q325) cc_q382) cc_q451) cc_q514) cc_q581) cc_q652) cc_q727)) | omega)).trans r738
  have k762 : q_kd X742 q42 = 0 := x745.k0 k687 (by first | exact (nw_no (Nat.lt_trans (Nat.lt_trans (Nat.lt_trans (Nat.lt_trans (Nat.lt_trans (Nat.lt_trans (Nat.lt_trans (Nat.lt_trans (Nat.lt_trans (Nat.lt_trans (Nat.lt_trans cc_q91 cc_q136) cc_q183) cc_q217) cc_q270) cc_q325) cc_q382) cc_q451) cc_q514) cc_q581) cc_q652) cc_q727) (Nat.lt_trans (Nat.lt_trans (Nat.lt_trans (Nat.lt_trans (Nat.lt_trans (Nat.lt_trans (Nat.lt_trans (Nat.lt_trans (Nat.lt_trans (Nat.lt_trans (Nat.lt_trans (Nat.lt_trans cc_q91 cc_q136) cc_q183) cc_q217) cc_q270) cc_q325) cc_q382) cc_q451) cc_q514) cc_q581) cc_q652) cc_q727) mm_q727)) | (have := raw_lt r738; rintro (e | e) <;> omega))
  try clear r738; try clear k687
  have r763 := (o750 q183 (raw_lt r739) (by first | exact (Nat.ne_of_lt (Nat.lt_trans (Nat.lt_trans (Nat.lt_trans (Nat.lt_trans (Nat.lt_trans (Nat.lt_trans (Nat.lt_trans (Nat.lt_trans cc_q217 cc_q270) cc_q325) cc_q382) cc_q451) cc_q514) cc_q581) cc_q652) cc_q727)) | omega)).trans r739
  try clear o750
  have k764 : q_kd X742 q183 = 0 := x745.k0 k689 (by first | exact (nw_no (Nat.lt_trans (Nat.lt_trans (Nat.lt_trans (Nat.lt_trans (Nat.lt_trans (Nat.lt_trans (Nat.lt_trans (Nat.lt_trans cc_q217 cc_q270) cc_q325) cc_q382) cc_q451) cc_q514) cc_q581) cc_q652) cc_q727) (Nat.lt_trans (Nat.lt_trans (Nat.lt_trans (Nat.lt_trans (Nat.lt_trans (Nat.lt_trans (Nat.lt_trans (Nat.lt_trans (Nat.lt_trans cc_q217 cc_q270) cc_q325) cc_q382) cc_q451) cc_q514) cc_q581) cc_q652) cc_q727) mm_q727)) | (have := raw_lt r739; rintro (e | e) <;> omega))
  try clear r739; try clear k689
  have k765 := x745.kd k690 (by decide)
  have k766 := x745.kd k691 (by decide)
  have k767 := x745.kd k692 (by decide)
  have k768 := x745.kd k693 (by decide)
  have k769 := x745.kd k694 (by decide)
  have k770 := x745.kd k695 (by decide)
  have k771 := x745.kd k696 (by decide)
  have k772 := x745.kd k697 (by decide)
  have k773 := x745.kd k698 (by decide)
  have k774 := x745.kd k671 (by decide)
  have y775 := p747.1.1 q91 (by rw [k690]; decide) y699
  try clear y699; try clear k690
  have y776 := p747.1.1 q136 (by rw [k691]; decide) y700
  try clear y700; try clear k691
  have y777 := p747.1.1 q217 (by rw [k692]; decide) y701
  try clear y701; try clear k692
  have y778 := p747.1.1 q270 (by rw [k693]; decide) y702
  try clear y702; try clear k693
  have y779 := p747.1.1 q325 (by rw [k694]; decide) y703
  try clear y703; try clear k694
  have y780 := p747.1.1 q382 (by rw [k695]; decide) y704
  try clear y704; try clear k695
  have y781 := p747.1.1 q451 (by rw [k696]; decide) y705
  try clear y705
  have y782 := p747.1.1 q514 (by rw [k697]; decide) y706
  try clear y706
  have y783 := p747.1.1 q581 (by rw [k698]; decide) y707
  try clear y707
  have y784 := p747.1.1 q652 (by rw [k671]; decide) y708
  try clear y708
  have y785 := p747.1.2
  try clear p747
  have i786 : σ743.1 q451 0 = 0 := (q_exi x745 (by rw [k696]; decide)).trans i709
  try clear i709
  have i787 : σ743.1 q451 1 = -1 := (q_exi x745 (by rw [k696]; decide)).trans i710
  try clear i710; try clear k696
  have i788 : σ743.1 q514 0 = 0 := (q_exi x745 (by rw [k697]; decide)).trans i711
  try clear i711
  have i789 : σ743.1 q514 1 = -1 := (q_exi x745 (by rw [k697]; decide)).trans i712
  try clear i712; try clear k697
  have i790 : σ743.1 q581 0 = 0 := (q_exi x745 (by rw [k698]; decide)).trans i713
  try clear i713
  have i791 : σ743.1 q581 1 = -1 := (q_exi x745 (by rw [k698]; decide)).trans i714
  try clear i714; try clear k698
  have i792 : σ743.1 q652 0 = 0 := (q_exi x745 (by rw [k671]; decide)).trans i715
  try clear i715
  have i793 : σ743.1 q652 1 = -1 := (q_exi x745 (by rw [k671]; decide)).trans i716
  try clear x745; try clear i716; try clear k671
  refine b_aast E S751 (t := 4) (Or.inr gg_q183) rfl (show vwCl[0]? = some (RX0, TX0, 15) from rfl) r763 (q_wcell D753 w748 k746 ⟨rfl, by decide⟩ (show vwCl[0]? = some (RX0, TX0, 15) from rfl)) (by decide) (by decide) dX11_init_180 (fun H794 locs1 z795 o796 r797 S798 => ?_)
  try clear r763; try clear S751
  have w799 : q_w X742 σ743 H794 := w748.kept (fun a ha => o796 a (fun e => ha (by rw [e]; exact k764)))
  try clear w748
  have b800 := b755.kept (o796 h (by first | exact (Nat.ne_of_lt hq183) | omega))
  try clear b755
  have t801 := t_lt b800
  try clear t756
  have r802 := (o796 q22 (by first | exact (Nat.ne_of_lt (Nat.lt_trans (Nat.lt_trans (Nat.lt_trans cc_q42 cc_q91) cc_q136) cc_q183)) | omega)).trans r759
  try clear r759
  have r803 := (o796 q42 (by first | exact (Nat.ne_of_lt (Nat.lt_trans (Nat.lt_trans cc_q91 cc_q136) cc_q183)) | omega)).trans r761
  try clear o796; try clear r761
  refine lv_iinc (v := 1) (lv' := [(1, .int 1), (0, .ref h)]) hxx hb dX11_init_181 hl (k := 0) rfl (by decide) (by decide) rfl (fun ls hl => ?_)
  refine lv_goto (tgt := 163) hxx hb dX11_init_184 (by decide) ?_
  refine lv_iload_n hxx hb dX11_init_163 rfl (lv_at hl 0 rfl) ?_
  refine lv_iconst (v := 3) hxx hb dX11_init_164 (by decide) ?_
  refine lv_icmp_ge hxx hb dX11_init_165 (tgt := 187) (by decide) (fun q => absurd q (by decide)) (fun _ => ?_)
  refine lv_aload_n hxx hb dX11_init_168 rfl (lv_at hl 1 rfl) ?_
  refine b_get E (f := 10) b800 (show vwCl[10]? = some (RX11, TX11, 17) from rfl) q_inX11 (by decide) bw_452 rfl (v := .ref q183) rfl dX11_init_169 ?_
  refine lv_iload_n hxx hb dX11_init_172 rfl (lv_at hl 0 rfl) ?_
  refine b_new E S798 bw_30 bw_31 bw_2 (show vwCl[0]? = some (RX0, TX0, 15) from rfl) q_inX0 tyX0 tyX0_ok (Nat.le_of_ble_eq_true rfl) (Nat.le_of_ble_eq_true rfl) dX11_init_173 (fun q804 H805 e806 z807 o808 b809 S810 => ?_)
  have hq804 : h < q804 := by first | exact Nat.lt_of_lt_of_eq t801 e806.symm | omega
  have gg_q804 : s.heap.size ≤ q804 := Nat.le_trans S798.1 (Nat.le_of_eq e806.symm)
  have mm_q804 : q804 < H805.size := by rw [z807, e806]; exact Nat.lt_succ_self _
  have cc_q804 : q727 < q804 := by first | exact Nat.lt_of_lt_of_eq (Nat.lt_of_lt_of_le (Nat.lt_of_lt_of_le mm_q727 z749) (Nat.le_of_eq z795.symm)) e806.symm | omega
  try clear S798
  have w811 : q_w X742 σ743 H805 := w799.kept (fun a ha => o808 a (w799.lt ha))
  have b812 := b800.kept (o808 h t801)
  try clear b800
  have t813 := t_lt b812
  try clear t801
  have r814 := (o808 q22 (raw_lt r802)).trans r802
  try clear r802
  have r815 := (o808 q42 (raw_lt r803)).trans r803
  try clear r803
  have r816 := (o808 q183 (raw_lt r797)).trans r797
  try clear o808; try clear r797
  have k817 : q_kd X742 q804 = 0 := w799.fresh (Nat.le_of_eq e806.symm)
  try clear w799
  have g818 := S810.1
  refine lv_dup hxx hb dX11_init_176 rfl ?_
  have a829 : ∀ a, q_nw q804 H805.size a → q_nw h s.heap.size a := nw_in gg_q804 (Nat.le_trans gg_q804 (Nat.le_of_lt mm_q804))
  refine b_cv (b_runN (As := []) (rest := [.ref q804, .int 1, .ref q183]) E (hml.trans hl.1.symm) D753 w811 k817 b809 rfl (n_X0 l D X742 σ743 q804 H805.size) bi_X11_41 rfl ⟨Nat.le_of_ble_eq_true rfl, Nat.le_of_ble_eq_true rfl⟩ ⟨Nat.le_of_ble_eq_true rfl, Nat.le_of_ble_eq_true rfl⟩ rfl (Nat.le_of_ble_eq_true rfl) dX11_init_177) S810 rfl a829 (fun X819 σ820 H821 locs1 x822 k823 p824 w825 z826 o827 S828 => ?_)
  try clear k817; try clear w811; try clear S810; try clear b809
  have D830 : X819.1 = D := x822.1.trans D753
  try clear D753
  have k831 : q_kd X819 h = 0 := x822.k0 k754 (by first | exact (nw_no hq804 (Nat.lt_trans hq804 mm_q804)) | (rintro (e | e) <;> omega))
  try clear k754
  have b832 := b812.kept (o827 h t813 (by first | exact (Nat.ne_of_lt hq804) | omega))
  try clear b812
  have t833 := t_lt b832
  try clear t813
  have y834 := y757.tr p824.1.1 (fun c hc => by rw [(x758.2.2.2.1 c hc).1]; exact hc)
  try clear y757
  have x835 := x758.tr x822 a829
  try clear x758
  have r836 := (o827 q22 (raw_lt r814) (by first | exact (Nat.ne_of_lt (Nat.lt_trans (Nat.lt_trans (Nat.lt_trans (Nat.lt_trans (Nat.lt_trans (Nat.lt_trans (Nat.lt_trans (Nat.lt_trans (Nat.lt_trans (Nat.lt_trans (Nat.lt_trans (Nat.lt_trans (Nat.lt_trans cc_q42 cc_q91) cc_q136) cc_q183) cc_q217) cc_q270) cc_q325) cc_q382) cc_q451) cc_q514) cc_q581) cc_q652) cc_q727) cc_q804)) | omega)).trans r814
  have k837 : q_kd X819 q22 = 0 := x822.k0 k760 (by first | exact (nw_no (Nat.lt_trans (Nat.lt_trans (Nat.lt_trans (Nat.lt_trans (Nat.lt_trans (Nat.lt_trans (Nat.lt_trans (Nat.lt_trans (Nat.lt_trans (Nat.lt_trans (Nat.lt_trans (Nat.lt_trans (Nat.lt_trans cc_q42 cc_q91) cc_q136) cc_q183) cc_q217) cc_q270) cc_q325) cc_q382) cc_q451) cc_q514) cc_q581) cc_q652) cc_q727) cc_q804) (Nat.lt_trans (Nat.lt_trans (Nat.lt_trans (Nat.lt_trans (Nat.lt_trans (Nat.lt_trans (Nat.lt_trans (Nat.lt_trans (Nat.lt_trans (Nat.lt_trans (Nat.lt_trans (Nat.lt_trans (Nat.lt_trans (Nat.lt_trans cc_q42 cc_q91) cc_q136) cc_q183) cc_q217) cc_q270) cc_q325) cc_q382) cc_q451) cc_q514) cc_q581) cc_q652) cc_q727) cc_q804) mm_q804)) | (have := raw_lt r814; rintro (e | e) <;> omega))
  try clear r814; try clear k760
  have r838 := (o827 q42 (raw_lt r815) (by first | exact (Nat.ne_of_lt (Nat.lt_trans (Nat.lt_trans (Nat.lt_trans (Nat.lt_trans (Nat.lt_trans (Nat.lt_trans (Nat.lt_trans (Nat.lt_trans (Nat.lt_trans (Nat.lt_trans (Nat.lt_trans (Nat.lt_trans cc_q91 cc_q136) cc_q183) cc_q217) cc_q270) cc_q325) cc_q382) cc_q451) cc_q514) cc_q581) cc_q652) cc_q727) cc_q804)) | omega)).trans r815
  have k839 : q_kd X819 q42 = 0 := x822.k0 k762 (by first | exact (nw_no (Nat.lt_trans (Nat.lt_trans (Nat.lt_trans (Nat.lt_trans (Nat.lt_trans (Nat.lt_trans (Nat.lt_trans (Nat.lt_trans (Nat.lt_trans (Nat.lt_trans (Nat.lt_trans (Nat.lt_trans cc_q91 cc_q136) cc_q183) cc_q217) cc_q270) cc_q325) cc_q382) cc_q451) cc_q514) cc_q581) cc_q652) cc_q727) cc_q804) (Nat.lt_trans (Nat.lt_trans (Nat.lt_trans (Nat.lt_trans (Nat.lt_trans (Nat.lt_trans (Nat.lt_trans (Nat.lt_trans (Nat.lt_trans (Nat.lt_trans (Nat.lt_trans (Nat.lt_trans (Nat.lt_trans cc_q91 cc_q136) cc_q183) cc_q217) cc_q270) cc_q325) cc_q382) cc_q451) cc_q514) cc_q581) cc_q652) cc_q727) cc_q804) mm_q804)) | (have := raw_lt r815; rintro (e | e) <;> omega))
  try clear r815; try clear k762
  have r840 := (o827 q183 (raw_lt r816) (by first | exact (Nat.ne_of_lt (Nat.lt_trans (Nat.lt_trans (Nat.lt_trans (Nat.lt_trans (Nat.lt_trans (Nat.lt_trans (Nat.lt_trans (Nat.lt_trans (Nat.lt_trans cc_q217 cc_q270) cc_q325) cc_q382) cc_q451) cc_q514) cc_q581) cc_q652) cc_q727) cc_q804)) | omega)).trans r816
  try clear o827
  have k841 : q_kd X819 q183 = 0 := x822.k0 k764 (by first | exact (nw_no (Nat.lt_trans (Nat.lt_trans (Nat.lt_trans (Nat.lt_trans (Nat.lt_trans (Nat.lt_trans (Nat.lt_trans (Nat.lt_trans (Nat.lt_trans cc_q217 cc_q270) cc_q325) cc_q382) cc_q451) cc_q514) cc_q581) cc_q652) cc_q727) cc_q804) (Nat.lt_trans (Nat.lt_trans (Nat.lt_trans (Nat.lt_trans (Nat.lt_trans (Nat.lt_trans (Nat.lt_trans (Nat.lt_trans (Nat.lt_trans (Nat.lt_trans cc_q217 cc_q270) cc_q325) cc_q382) cc_q451) cc_q514) cc_q581) cc_q652) cc_q727) cc_q804) mm_q804)) | (have := raw_lt r816; rintro (e | e) <;> omega))
  try clear r816; try clear k764
  have k842 := x822.kd k765 (by decide)
  have k843 := x822.kd k766 (by decide)
  have k844 := x822.kd k767 (by decide)
  have k845 := x822.kd k768 (by decide)
  have k846 := x822.kd k769 (by decide)
  have k847 := x822.kd k770 (by decide)
  have k848 := x822.kd k771 (by decide)
  have k849 := x822.kd k772 (by decide)
  have k850 := x822.kd k773 (by decide)
  have k851 := x822.kd k774 (by decide)
  have k852 := x822.kd k746 (by decide)
  have y853 := p824.1.1 q91 (by rw [k765]; decide) y775
  try clear y775; try clear k765
  have y854 := p824.1.1 q136 (by rw [k766]; decide) y776
  try clear y776; try clear k766
  have y855 := p824.1.1 q217 (by rw [k767]; decide) y777
  try clear y777; try clear k767
  have y856 := p824.1.1 q270 (by rw [k768]; decide) y778
  try clear y778; try clear k768
  have y857 := p824.1.1 q325 (by rw [k769]; decide) y779
  try clear y779; try clear k769
  have y858 := p824.1.1 q382 (by rw [k770]; decide) y780
  try clear y780; try clear k770
  have y859 := p824.1.1 q451 (by rw [k771]; decide) y781
  try clear y781
  have y860 := p824.1.1 q514 (by rw [k772]; decide) y782
  try clear y782
  have y861 := p824.1.1 q581 (by rw [k773]; decide) y783
  try clear y783
  have y862 := p824.1.1 q652 (by rw [k774]; decide) y784
  try clear y784
  have y863 := p824.1.1 q727 (by rw [k746]; decide) y785
  try clear y785; try clear k746
  have y864 := p824.1.2
  try clear p824
  have i865 : σ820.1 q451 0 = 0 := (q_exi x822 (by rw [k771]; decide)).trans i786
  try clear i786
  have i866 : σ820.1 q451 1 = -1 := (q_exi x822 (by rw [k771]; decide)).trans i787
  try clear i787; try clear k771
  have i867 : σ820.1 q514 0 = 0 := (q_exi x822 (by rw [k772]; decide)).trans i788
  try clear i788
  have i868 : σ820.1 q514 1 = -1 := (q_exi x822 (by rw [k772]; decide)).trans i789
  try clear i789; try clear k772
  have i869 : σ820.1 q581 0 = 0 := (q_exi x822 (by rw [k773]; decide)).trans i790
  try clear i790
  have i870 : σ820.1 q581 1 = -1 := (q_exi x822 (by rw [k773]; decide)).trans i791
  try clear i791; try clear k773
  have i871 : σ820.1 q652 0 = 0 := (q_exi x822 (by rw [k774]; decide)).trans i792
  try clear i792
  have i872 : σ820.1 q652 1 = -1 := (q_exi x822 (by rw [k774]; decide)).trans i793
  try clear x822; try clear i793; try clear k774
  refine b_aast E S828 (t := 4) (Or.inr gg_q183) rfl (show vwCl[0]? = some (RX0, TX0, 15) from rfl) r840 (q_wcell D830 w825 k823 ⟨rfl, by decide⟩ (show vwCl[0]? = some (RX0, TX0, 15) from rfl)) (by decide) (by decide) dX11_init_180 (fun H873 locs1 z874 o875 r876 S877 => ?_)
  try clear r840; try clear S828
  have w878 : q_w X819 σ820 H873 := w825.kept (fun a ha => o875 a (fun e => ha (by rw [e]; exact k841)))
  try clear w825
  have b879 := b832.kept (o875 h (by first | exact (Nat.ne_of_lt hq183) | omega))
  try clear b832
  have t880 := t_lt b879
  try clear t833
  have r881 := (o875 q22 (by first | exact (Nat.ne_of_lt (Nat.lt_trans (Nat.lt_trans (Nat.lt_trans cc_q42 cc_q91) cc_q136) cc_q183)) | omega)).trans r836
  try clear r836
  have r882 := (o875 q42 (by first | exact (Nat.ne_of_lt (Nat.lt_trans (Nat.lt_trans cc_q91 cc_q136) cc_q183)) | omega)).trans r838
  try clear o875; try clear r838
  refine lv_iinc (v := 2) (lv' := [(1, .int 2), (0, .ref h)]) hxx hb dX11_init_181 hl (k := 0) rfl (by decide) (by decide) rfl (fun ls hl => ?_)
  refine lv_goto (tgt := 163) hxx hb dX11_init_184 (by decide) ?_
  refine lv_iload_n hxx hb dX11_init_163 rfl (lv_at hl 0 rfl) ?_
  refine lv_iconst (v := 3) hxx hb dX11_init_164 (by decide) ?_
  refine lv_icmp_ge hxx hb dX11_init_165 (tgt := 187) (by decide) (fun q => absurd q (by decide)) (fun _ => ?_)
  refine lv_aload_n hxx hb dX11_init_168 rfl (lv_at hl 1 rfl) ?_
  refine b_get E (f := 10) b879 (show vwCl[10]? = some (RX11, TX11, 17) from rfl) q_inX11 (by decide) bw_452 rfl (v := .ref q183) rfl dX11_init_169 ?_
  refine lv_iload_n hxx hb dX11_init_172 rfl (lv_at hl 0 rfl) ?_
  refine b_new E S877 bw_30 bw_31 bw_2 (show vwCl[0]? = some (RX0, TX0, 15) from rfl) q_inX0 tyX0 tyX0_ok (Nat.le_of_ble_eq_true rfl) (Nat.le_of_ble_eq_true rfl) dX11_init_173 (fun q883 H884 e885 z886 o887 b888 S889 => ?_)
  have hq883 : h < q883 := by first | exact Nat.lt_of_lt_of_eq t880 e885.symm | omega
  have gg_q883 : s.heap.size ≤ q883 := Nat.le_trans S877.1 (Nat.le_of_eq e885.symm)
  have mm_q883 : q883 < H884.size := by rw [z886, e885]; exact Nat.lt_succ_self _
  have cc_q883 : q804 < q883 := by first | exact Nat.lt_of_lt_of_eq (Nat.lt_of_lt_of_le (Nat.lt_of_lt_of_le mm_q804 z826) (Nat.le_of_eq z874.symm)) e885.symm | omega
  try clear S877
  have w890 : q_w X819 σ820 H884 := w878.kept (fun a ha => o887 a (w878.lt ha))
  have b891 := b879.kept (o887 h t880)
  try clear b879
  have t892 := t_lt b891
  try clear t880
  have r893 := (o887 q22 (raw_lt r881)).trans r881
  try clear r881
  have r894 := (o887 q42 (raw_lt r882)).trans r882
  try clear r882
  have r895 := (o887 q183 (raw_lt r876)).trans r876
  try clear o887; try clear r876
  have k896 : q_kd X819 q883 = 0 := w878.fresh (Nat.le_of_eq e885.symm)
  try clear w878
  have g897 := S889.1
  refine lv_dup hxx hb dX11_init_176 rfl ?_
  have a908 : ∀ a, q_nw q883 H884.size a → q_nw h s.heap.size a := nw_in gg_q883 (Nat.le_trans gg_q883 (Nat.le_of_lt mm_q883))
  refine b_cv (b_runN (As := []) (rest := [.ref q883, .int 2, .ref q183]) E (hml.trans hl.1.symm) D830 w890 k896 b888 rfl (n_X0 l D X819 σ820 q883 H884.size) bi_X11_41 rfl ⟨Nat.le_of_ble_eq_true rfl, Nat.le_of_ble_eq_true rfl⟩ ⟨Nat.le_of_ble_eq_true rfl, Nat.le_of_ble_eq_true rfl⟩ rfl (Nat.le_of_ble_eq_true rfl) dX11_init_177) S889 rfl a908 (fun X898 σ899 H900 locs1 x901 k902 p903 w904 z905 o906 S907 => ?_)
  try clear k896; try clear w890; try clear S889; try clear b888
  have D909 : X898.1 = D := x901.1.trans D830
  try clear D830
  have k910 : q_kd X898 h = 0 := x901.k0 k831 (by first | exact (nw_no hq883 (Nat.lt_trans hq883 mm_q883)) | (rintro (e | e) <;> omega))
  try clear k831
  have b911 := b891.kept (o906 h t892 (by first | exact (Nat.ne_of_lt hq883) | omega))
  try clear b891
  have t912 := t_lt b911
  try clear t892
  have y913 := y834.tr p903.1.1 (fun c hc => by rw [(x835.2.2.2.1 c hc).1]; exact hc)
  try clear y834
  have x914 := x835.tr x901 a908
  try clear x835
  have r915 := (o906 q22 (raw_lt r893) (by first | exact (Nat.ne_of_lt (Nat.lt_trans (Nat.lt_trans (Nat.lt_trans (Nat.lt_trans (Nat.lt_trans (Nat.lt_trans (Nat.lt_trans (Nat.lt_trans (Nat.lt_trans (Nat.lt_trans (Nat.lt_trans (Nat.lt_trans (Nat.lt_trans (Nat.lt_trans cc_q42 cc_q91) cc_q136) cc_q183) cc_q217) cc_q270) cc_q325) cc_q382) cc_q451) cc_q514) cc_q581) cc_q652) cc_q727) cc_q804) cc_q883)) | omega)).trans r893
  have k916 : q_kd X898 q22 = 0 := x901.k0 k837 (by first | exact (nw_no (Nat.lt_trans (Nat.lt_trans (Nat.lt_trans (Nat.lt_trans (Nat.lt_trans (Nat.lt_trans (Nat.lt_trans (Nat.lt_trans (Nat.lt_trans (Nat.lt_trans (Nat.lt_trans (Nat.lt_trans (Nat.lt_trans (Nat.lt_trans cc_q42 cc_q91) cc_q136) cc_q183) cc_q217) cc_q270) cc_q325) cc_q382) cc_q451) cc_q514) cc_q581) cc_q652) cc_q727) cc_q804) cc_q883) (Nat.lt_trans (Nat.lt_trans (Nat.lt_trans (Nat.lt_trans (Nat.lt_trans (Nat.lt_trans (Nat.lt_trans (Nat.lt_trans (Nat.lt_trans (Nat.lt_trans (Nat.lt_trans (Nat.lt_trans (Nat.lt_trans (Nat.lt_trans (Nat.lt_trans cc_q42 cc_q91) cc_q136) cc_q183) cc_q217) cc_q270) cc_q325) cc_q382) cc_q451) cc_q514) cc_q581) cc_q652) cc_q727) cc_q804) cc_q883) mm_q883)) | (have := raw_lt r893; rintro (e | e) <;> omega))
  try clear r893; try clear k837
  have r917 := (o906 q42 (raw_lt r894) (by first | exact (Nat.ne_of_lt (Nat.lt_trans (Nat.lt_trans (Nat.lt_trans (Nat.lt_trans (Nat.lt_trans (Nat.lt_trans (Nat.lt_trans (Nat.lt_trans (Nat.lt_trans (Nat.lt_trans (Nat.lt_trans (Nat.lt_trans (Nat.lt_trans cc_q91 cc_q136) cc_q183) cc_q217) cc_q270) cc_q325) cc_q382) cc_q451) cc_q514) cc_q581) cc_q652) cc_q727) cc_q804) cc_q883)) | omega)).trans r894
  have k918 : q_kd X898 q42 = 0 := x901.k0 k839 (by first | exact (nw_no (Nat.lt_trans (Nat.lt_trans (Nat.lt_trans (Nat.lt_trans (Nat.lt_trans (Nat.lt_trans (Nat.lt_trans (Nat.lt_trans (Nat.lt_trans (Nat.lt_trans (Nat.lt_trans (Nat.lt_trans (Nat.lt_trans cc_q91 cc_q136) cc_q183) cc_q217) cc_q270) cc_q325) cc_q382) cc_q451) cc_q514) cc_q581) cc_q652) cc_q727) cc_q804) cc_q883) (Nat.lt_trans (Nat.lt_trans (Nat.lt_trans (Nat.lt_trans (Nat.lt_trans (Nat.lt_trans (Nat.lt_trans (Nat.lt_trans (Nat.lt_trans (Nat.lt_trans (Nat.lt_trans (Nat.lt_trans (Nat.lt_trans (Nat.lt_trans cc_q91 cc_q136) cc_q183) cc_q217) cc_q270) cc_q325) cc_q382) cc_q451) cc_q514) cc_q581) cc_q652) cc_q727) cc_q804) cc_q883) mm_q883)) | (have := raw_lt r894; rintro (e | e) <;> omega))
  try clear r894; try clear k839
  have r919 := (o906 q183 (raw_lt r895) (by first | exact (Nat.ne_of_lt (Nat.lt_trans (Nat.lt_trans (Nat.lt_trans (Nat.lt_trans (Nat.lt_trans (Nat.lt_trans (Nat.lt_trans (Nat.lt_trans (Nat.lt_trans (Nat.lt_trans cc_q217 cc_q270) cc_q325) cc_q382) cc_q451) cc_q514) cc_q581) cc_q652) cc_q727) cc_q804) cc_q883)) | omega)).trans r895
  try clear o906
  have k920 : q_kd X898 q183 = 0 := x901.k0 k841 (by first | exact (nw_no (Nat.lt_trans (Nat.lt_trans (Nat.lt_trans (Nat.lt_trans (Nat.lt_trans (Nat.lt_trans (Nat.lt_trans (Nat.lt_trans (Nat.lt_trans (Nat.lt_trans cc_q217 cc_q270) cc_q325) cc_q382) cc_q451) cc_q514) cc_q581) cc_q652) cc_q727) cc_q804) cc_q883) (Nat.lt_trans (Nat.lt_trans (Nat.lt_trans (Nat.lt_trans (Nat.lt_trans (Nat.lt_trans (Nat.lt_trans (Nat.lt_trans (Nat.lt_trans (Nat.lt_trans (Nat.lt_trans cc_q217 cc_q270) cc_q325) cc_q382) cc_q451) cc_q514) cc_q581) cc_q652) cc_q727) cc_q804) cc_q883) mm_q883)) | (have := raw_lt r895; rintro (e | e) <;> omega))
  try clear r895; try clear k841
  have k921 := x901.kd k842 (by decide)
  have k922 := x901.kd k843 (by decide)
  have k923 := x901.kd k844 (by decide)
  have k924 := x901.kd k845 (by decide)
  have k925 := x901.kd k846 (by decide)
  have k926 := x901.kd k847 (by decide)
  have k927 := x901.kd k848 (by decide)
  have k928 := x901.kd k849 (by decide)
  have k929 := x901.kd k850 (by decide)
  have k930 := x901.kd k851 (by decide)
  have k931 := x901.kd k852 (by decide)
  have k932 := x901.kd k823 (by decide)
  have y933 := p903.1.1 q91 (by rw [k842]; decide) y853
  try clear y853; try clear k842
  have y934 := p903.1.1 q136 (by rw [k843]; decide) y854
  try clear y854; try clear k843
  have y935 := p903.1.1 q217 (by rw [k844]; decide) y855
  try clear y855; try clear k844
  have y936 := p903.1.1 q270 (by rw [k845]; decide) y856
  try clear y856; try clear k845
  have y937 := p903.1.1 q325 (by rw [k846]; decide) y857
  try clear y857; try clear k846
  have y938 := p903.1.1 q382 (by rw [k847]; decide) y858
  try clear y858; try clear k847
  have y939 := p903.1.1 q451 (by rw [k848]; decide) y859
  try clear y859
  have y940 := p903.1.1 q514 (by rw [k849]; decide) y860
  try clear y860
  have y941 := p903.1.1 q581 (by rw [k850]; decide) y861
  try clear y861
  have y942 := p903.1.1 q652 (by rw [k851]; decide) y862
  try clear y862
  have y943 := p903.1.1 q727 (by rw [k852]; decide) y863
  try clear y863; try clear k852
  have y944 := p903.1.1 q804 (by rw [k823]; decide) y864
  try clear y864; try clear k823
  have y945 := p903.1.2
  try clear p903
  have i946 : σ899.1 q451 0 = 0 := (q_exi x901 (by rw [k848]; decide)).trans i865
  try clear i865
  have i947 : σ899.1 q451 1 = -1 := (q_exi x901 (by rw [k848]; decide)).trans i866
  try clear i866; try clear k848
  have i948 : σ899.1 q514 0 = 0 := (q_exi x901 (by rw [k849]; decide)).trans i867
  try clear i867
  have i949 : σ899.1 q514 1 = -1 := (q_exi x901 (by rw [k849]; decide)).trans i868
  try clear i868; try clear k849
  have i950 : σ899.1 q581 0 = 0 := (q_exi x901 (by rw [k850]; decide)).trans i869
  try clear i869
  have i951 : σ899.1 q581 1 = -1 := (q_exi x901 (by rw [k850]; decide)).trans i870
  try clear i870; try clear k850
  have i952 : σ899.1 q652 0 = 0 := (q_exi x901 (by rw [k851]; decide)).trans i871
  try clear i871
  have i953 : σ899.1 q652 1 = -1 := (q_exi x901 (by rw [k851]; decide)).trans i872
  try clear x901; try clear i872; try clear k851
  refine b_aast E S907 (t := 4) (Or.inr gg_q183) rfl (show vwCl[0]? = some (RX0, TX0, 15) from rfl) r919 (q_wcell D909 w904 k902 ⟨rfl, by decide⟩ (show vwCl[0]? = some (RX0, TX0, 15) from rfl)) (by decide) (by decide) dX11_init_180 (fun H954 locs1 z955 o956 r957 S958 => ?_)
  try clear r919; try clear S907
  have w959 : q_w X898 σ899 H954 := w904.kept (fun a ha => o956 a (fun e => ha (by rw [e]; exact k920)))
  try clear w904
  have b960 := b911.kept (o956 h (by first | exact (Nat.ne_of_lt hq183) | omega))
  try clear b911
  have t961 := t_lt b960
  try clear t912
  have r962 := (o956 q22 (by first | exact (Nat.ne_of_lt (Nat.lt_trans (Nat.lt_trans (Nat.lt_trans cc_q42 cc_q91) cc_q136) cc_q183)) | omega)).trans r915
  try clear r915
  have r963 := (o956 q42 (by first | exact (Nat.ne_of_lt (Nat.lt_trans (Nat.lt_trans cc_q91 cc_q136) cc_q183)) | omega)).trans r917
  try clear o956; try clear r917
  refine lv_iinc (v := 3) (lv' := [(1, .int 3), (0, .ref h)]) hxx hb dX11_init_181 hl (k := 0) rfl (by decide) (by decide) rfl (fun ls hl => ?_)
  refine lv_goto (tgt := 163) hxx hb dX11_init_184 (by decide) ?_
  refine lv_iload_n hxx hb dX11_init_163 rfl (lv_at hl 0 rfl) ?_
  refine lv_iconst (v := 3) hxx hb dX11_init_164 (by decide) ?_
  refine lv_icmp_ge hxx hb dX11_init_165 (tgt := 187) (by decide) (fun _ => ?_) (fun q => absurd (by decide) q)
  have y968 := raw_lt r962
  try clear y968
  obtain ⟨X964, dX964⟩ : ∃ Y, Y = q_xg X898 q22 23 4 (fun j => ([q451, q514, q581, q652] : List Nat).getD j 0) := ⟨_, rfl⟩
  obtain ⟨σ965, dσ965⟩ : ∃ τ, τ = q_sg σ899 q22 (fun _ => 0) (fun _ => 0) 0 := ⟨_, rfl⟩
  have x966 : q_ext (fun a => a = q22) X898 X964 σ899 σ965 := by rw [dX964, dσ965]; exact q_ext.add k916
  have r969 : H954[q22]? = some (arrV (D.2 3) 4 (fun j => .ref (([q451, q514, q581, q652] : List Nat).getD j 0))) := by
    rw [r962]
    exact congrArg some (q_arr_eq (fun j hj => match j, hj with | 0, _ => rfl | 1, _ => rfl | 2, _ => rfl | 3, _ => rfl | (n + 4), hj => absurd hj (Nat.not_lt_of_ge (Nat.le_add_left 4 n))))
  try clear r962
  have y970 : y_root X964 q91 := by rw [dX964]; exact y933.add y_xg (fun f hf => match f, hf with | 0, _ => (show q451 ≠ q91 from (Nat.ne_of_gt (Nat.lt_trans (Nat.lt_trans (Nat.lt_trans (Nat.lt_trans (Nat.lt_trans (Nat.lt_trans cc_q136 cc_q183) cc_q217) cc_q270) cc_q325) cc_q382) cc_q451))) | 1, _ => (show q514 ≠ q91 from (Nat.ne_of_gt (Nat.lt_trans (Nat.lt_trans (Nat.lt_trans (Nat.lt_trans (Nat.lt_trans (Nat.lt_trans (Nat.lt_trans cc_q136 cc_q183) cc_q217) cc_q270) cc_q325) cc_q382) cc_q451) cc_q514))) | 2, _ => (show q581 ≠ q91 from (Nat.ne_of_gt (Nat.lt_trans (Nat.lt_trans (Nat.lt_trans (Nat.lt_trans (Nat.lt_trans (Nat.lt_trans (Nat.lt_trans (Nat.lt_trans cc_q136 cc_q183) cc_q217) cc_q270) cc_q325) cc_q382) cc_q451) cc_q514) cc_q581))) | 3, _ => (show q652 ≠ q91 from (Nat.ne_of_gt (Nat.lt_trans (Nat.lt_trans (Nat.lt_trans (Nat.lt_trans (Nat.lt_trans (Nat.lt_trans (Nat.lt_trans (Nat.lt_trans (Nat.lt_trans cc_q136 cc_q183) cc_q217) cc_q270) cc_q325) cc_q382) cc_q451) cc_q514) cc_q581) cc_q652))) | (n + 4), hf => absurd (by unfold q_rk; rfl) hf)
  try clear y933
  have y971 : y_root X964 q136 := by rw [dX964]; exact y934.add y_xg (fun f hf => match f, hf with | 0, _ => (show q451 ≠ q136 from (Nat.ne_of_gt (Nat.lt_trans (Nat.lt_trans (Nat.lt_trans (Nat.lt_trans (Nat.lt_trans cc_q183 cc_q217) cc_q270) cc_q325) cc_q382) cc_q451))) | 1, _ => (show q514 ≠ q136 from (Nat.ne_of_gt (Nat.lt_trans (Nat.lt_trans (Nat.lt_trans (Nat.lt_trans (Nat.lt_trans (Nat.lt_trans cc_q183 cc_q217) cc_q270) cc_q325) cc_q382) cc_q451) cc_q514))) | 2, _ => (show q581 ≠ q136 from (Nat.ne_of_gt (Nat.lt_trans (Nat.lt_trans (Nat.lt_trans (Nat.lt_trans (Nat.lt_trans (Nat.lt_trans (Nat.lt_trans cc_q183 cc_q217) cc_q270) cc_q325) cc_q382) cc_q451) cc_q514) cc_q581))) | 3, _ => (show q652 ≠ q136 from (Nat.ne_of_gt (Nat.lt_trans (Nat.lt_trans (Nat.lt_trans (Nat.lt_trans (Nat.lt_trans (Nat.lt_trans (Nat.lt_trans (Nat.lt_trans cc_q183 cc_q217) cc_q270) cc_q325) cc_q382) cc_q451) cc_q514) cc_q581) cc_q652))) | (n + 4), hf => absurd (by unfold q_rk; rfl) hf)
  try clear y934
  have y972 : y_root X964 q217 := by rw [dX964]; exact y935.add y_xg (fun f hf => match f, hf with | 0, _ => (show q451 ≠ q217 from (Nat.ne_of_gt (Nat.lt_trans (Nat.lt_trans (Nat.lt_trans cc_q270 cc_q325) cc_q382) cc_q451))) | 1, _ => (show q514 ≠ q217 from (Nat.ne_of_gt (Nat.lt_trans (Nat.lt_trans (Nat.lt_trans (Nat.lt_trans cc_q270 cc_q325) cc_q382) cc_q451) cc_q514))) | 2, _ => (show q581 ≠ q217 from (Nat.ne_of_gt (Nat.lt_trans (Nat.lt_trans (Nat.lt_trans (Nat.lt_trans (Nat.lt_trans cc_q270 cc_q325) cc_q382) cc_q451) cc_q514) cc_q581))) | 3, _ => (show q652 ≠ q217 from (Nat.ne_of_gt (Nat.lt_trans (Nat.lt_trans (Nat.lt_trans (Nat.lt_trans (Nat.lt_trans (Nat.lt_trans cc_q270 cc_q325) cc_q382) cc_q451) cc_q514) cc_q581) cc_q652))) | (n + 4), hf => absurd (by unfold q_rk; rfl) hf)
  try clear y935
  have y973 : y_root X964 q270 := by rw [dX964]; exact y936.add y_xg (fun f hf => match f, hf with | 0, _ => (show q451 ≠ q270 from (Nat.ne_of_gt (Nat.lt_trans (Nat.lt_trans cc_q325 cc_q382) cc_q451))) | 1, _ => (show q514 ≠ q270 from (Nat.ne_of_gt (Nat.lt_trans (Nat.lt_trans (Nat.lt_trans cc_q325 cc_q382) cc_q451) cc_q514))) | 2, _ => (show q581 ≠ q270 from (Nat.ne_of_gt (Nat.lt_trans (Nat.lt_trans (Nat.lt_trans (Nat.lt_trans cc_q325 cc_q382) cc_q451) cc_q514) cc_q581))) | 3, _ => (show q652 ≠ q270 from (Nat.ne_of_gt (Nat.lt_trans (Nat.lt_trans (Nat.lt_trans (Nat.lt_trans (Nat.lt_trans cc_q325 cc_q382) cc_q451) cc_q514) cc_q581) cc_q652))) | (n + 4), hf => absurd (by unfold q_rk; rfl) hf)
  try clear y936
  have y974 : y_root X964 q325 := by rw [dX964]; exact y937.add y_xg (fun f hf => match f, hf with | 0, _ => (show q451 ≠ q325 from (Nat.ne_of_gt (Nat.lt_trans cc_q382 cc_q451))) | 1, _ => (show q514 ≠ q325 from (Nat.ne_of_gt (Nat.lt_trans (Nat.lt_trans cc_q382 cc_q451) cc_q514))) | 2, _ => (show q581 ≠ q325 from (Nat.ne_of_gt (Nat.lt_trans (Nat.lt_trans (Nat.lt_trans cc_q382 cc_q451) cc_q514) cc_q581))) | 3, _ => (show q652 ≠ q325 from (Nat.ne_of_gt (Nat.lt_trans (Nat.lt_trans (Nat.lt_trans (Nat.lt_trans cc_q382 cc_q451) cc_q514) cc_q581) cc_q652))) | (n + 4), hf => absurd (by unfold q_rk; rfl) hf)
  try clear y937
  have y975 : y_root X964 q382 := by rw [dX964]; exact y938.add y_xg (fun f hf => match f, hf with | 0, _ => (show q451 ≠ q382 from (Nat.ne_of_gt cc_q451)) | 1, _ => (show q514 ≠ q382 from (Nat.ne_of_gt (Nat.lt_trans cc_q451 cc_q514))) | 2, _ => (show q581 ≠ q382 from (Nat.ne_of_gt (Nat.lt_trans (Nat.lt_trans cc_q451 cc_q514) cc_q581))) | 3, _ => (show q652 ≠ q382 from (Nat.ne_of_gt (Nat.lt_trans (Nat.lt_trans (Nat.lt_trans cc_q451 cc_q514) cc_q581) cc_q652))) | (n + 4), hf => absurd (by unfold q_rk; rfl) hf)
  try clear y938
  have y976 : y_root X964 q727 := by rw [dX964]; exact y943.add y_xg (fun f hf => match f, hf with | 0, _ => (show q451 ≠ q727 from (Nat.ne_of_lt (Nat.lt_trans (Nat.lt_trans (Nat.lt_trans cc_q514 cc_q581) cc_q652) cc_q727))) | 1, _ => (show q514 ≠ q727 from (Nat.ne_of_lt (Nat.lt_trans (Nat.lt_trans cc_q581 cc_q652) cc_q727))) | 2, _ => (show q581 ≠ q727 from (Nat.ne_of_lt (Nat.lt_trans cc_q652 cc_q727))) | 3, _ => (show q652 ≠ q727 from (Nat.ne_of_lt cc_q727)) | (n + 4), hf => absurd (by unfold q_rk; rfl) hf)
  try clear y943
  have y977 : y_root X964 q804 := by rw [dX964]; exact y944.add y_xg (fun f hf => match f, hf with | 0, _ => (show q451 ≠ q804 from (Nat.ne_of_lt (Nat.lt_trans (Nat.lt_trans (Nat.lt_trans (Nat.lt_trans cc_q514 cc_q581) cc_q652) cc_q727) cc_q804))) | 1, _ => (show q514 ≠ q804 from (Nat.ne_of_lt (Nat.lt_trans (Nat.lt_trans (Nat.lt_trans cc_q581 cc_q652) cc_q727) cc_q804))) | 2, _ => (show q581 ≠ q804 from (Nat.ne_of_lt (Nat.lt_trans (Nat.lt_trans cc_q652 cc_q727) cc_q804))) | 3, _ => (show q652 ≠ q804 from (Nat.ne_of_lt (Nat.lt_trans cc_q727 cc_q804))) | (n + 4), hf => absurd (by unfold q_rk; rfl) hf)
  try clear y944
  have y978 : y_root X964 q883 := by rw [dX964]; exact y945.add y_xg (fun f hf => match f, hf with | 0, _ => (show q451 ≠ q883 from (Nat.ne_of_lt (Nat.lt_trans (Nat.lt_trans (Nat.lt_trans (Nat.lt_trans (Nat.lt_trans cc_q514 cc_q581) cc_q652) cc_q727) cc_q804) cc_q883))) | 1, _ => (show q514 ≠ q883 from (Nat.ne_of_lt (Nat.lt_trans (Nat.lt_trans (Nat.lt_trans (Nat.lt_trans cc_q581 cc_q652) cc_q727) cc_q804) cc_q883))) | 2, _ => (show q581 ≠ q883 from (Nat.ne_of_lt (Nat.lt_trans (Nat.lt_trans (Nat.lt_trans cc_q652 cc_q727) cc_q804) cc_q883))) | 3, _ => (show q652 ≠ q883 from (Nat.ne_of_lt (Nat.lt_trans (Nat.lt_trans cc_q727 cc_q804) cc_q883))) | (n + 4), hf => absurd (by unfold q_rk; rfl) hf)
  try clear y945
  have y979 : y_root X964 q22 := by rw [dX964]; exact (y_root.out w959.1 k916).add y_xg (fun f hf => match f, hf with | 0, _ => (show q451 ≠ q22 from (Nat.ne_of_gt (Nat.lt_trans (Nat.lt_trans (Nat.lt_trans (Nat.lt_trans (Nat.lt_trans (Nat.lt_trans (Nat.lt_trans (Nat.lt_trans cc_q42 cc_q91) cc_q136) cc_q183) cc_q217) cc_q270) cc_q325) cc_q382) cc_q451))) | 1, _ => (show q514 ≠ q22 from (Nat.ne_of_gt (Nat.lt_trans (Nat.lt_trans (Nat.lt_trans (Nat.lt_trans (Nat.lt_trans (Nat.lt_trans (Nat.lt_trans (Nat.lt_trans (Nat.lt_trans cc_q42 cc_q91) cc_q136) cc_q183) cc_q217) cc_q270) cc_q325) cc_q382) cc_q451) cc_q514))) | 2, _ => (show q581 ≠ q22 from (Nat.ne_of_gt (Nat.lt_trans (Nat.lt_trans (Nat.lt_trans (Nat.lt_trans (Nat.lt_trans (Nat.lt_trans (Nat.lt_trans (Nat.lt_trans (Nat.lt_trans (Nat.lt_trans cc_q42 cc_q91) cc_q136) cc_q183) cc_q217) cc_q270) cc_q325) cc_q382) cc_q451) cc_q514) cc_q581))) | 3, _ => (show q652 ≠ q22 from (Nat.ne_of_gt (Nat.lt_trans (Nat.lt_trans (Nat.lt_trans (Nat.lt_trans (Nat.lt_trans (Nat.lt_trans (Nat.lt_trans (Nat.lt_trans (Nat.lt_trans (Nat.lt_trans (Nat.lt_trans cc_q42 cc_q91) cc_q136) cc_q183) cc_q217) cc_q270) cc_q325) cc_q382) cc_q451) cc_q514) cc_q581) cc_q652))) | (n + 4), hf => absurd (by unfold q_rk; rfl) hf)
  have y980 : y_rt X X964 := by rw [dX964]; exact y913.add y_xg (fun f hf => match f, hf with | 0, _ => (show q_kd X q451 = 0 from hw0.fresh gg_q451) | 1, _ => (show q_kd X q514 = 0 from hw0.fresh gg_q514) | 2, _ => (show q_kd X q581 = 0 from hw0.fresh gg_q581) | 3, _ => (show q_kd X q652 = 0 from hw0.fresh gg_q652) | (n + 4), hf => absurd (by unfold q_rk; rfl) hf)
  try clear y913
  have w967 : q_w X964 σ965 H954 := by
    rw [dX964, dσ965]
    exact w959.add k916 (q_hrk (fun f _ hf => match f, hf with | 0, _ => k927 | 1, _ => k928 | 2, _ => k929 | 3, _ => k930 | (n + 4), hf => absurd (by unfold q_rk; rfl) hf)) (fun _ => rfl) (by decide) (fun q => absurd q (by decide)) (fun f => q_inU rfl) (fun q => by rcases q with q | q <;> exact absurd q (by decide)) (q_cfA D909 (by decide) (t0 := 3) rfl r969 (fun j => rfl)) (fun f hf => match f, hf with | 0, _ => (show q22 < q451 from (Nat.lt_trans (Nat.lt_trans (Nat.lt_trans (Nat.lt_trans (Nat.lt_trans (Nat.lt_trans (Nat.lt_trans (Nat.lt_trans cc_q42 cc_q91) cc_q136) cc_q183) cc_q217) cc_q270) cc_q325) cc_q382) cc_q451)) | 1, _ => (show q22 < q514 from (Nat.lt_trans (Nat.lt_trans (Nat.lt_trans (Nat.lt_trans (Nat.lt_trans (Nat.lt_trans (Nat.lt_trans (Nat.lt_trans (Nat.lt_trans cc_q42 cc_q91) cc_q136) cc_q183) cc_q217) cc_q270) cc_q325) cc_q382) cc_q451) cc_q514)) | 2, _ => (show q22 < q581 from (Nat.lt_trans (Nat.lt_trans (Nat.lt_trans (Nat.lt_trans (Nat.lt_trans (Nat.lt_trans (Nat.lt_trans (Nat.lt_trans (Nat.lt_trans (Nat.lt_trans cc_q42 cc_q91) cc_q136) cc_q183) cc_q217) cc_q270) cc_q325) cc_q382) cc_q451) cc_q514) cc_q581)) | 3, _ => (show q22 < q652 from (Nat.lt_trans (Nat.lt_trans (Nat.lt_trans (Nat.lt_trans (Nat.lt_trans (Nat.lt_trans (Nat.lt_trans (Nat.lt_trans (Nat.lt_trans (Nat.lt_trans (Nat.lt_trans cc_q42 cc_q91) cc_q136) cc_q183) cc_q217) cc_q270) cc_q325) cc_q382) cc_q451) cc_q514) cc_q581) cc_q652)) | (n + 4), hf => absurd (by unfold q_rk; rfl) hf) (y_in23 (rf := (fun j => ([q451, q514, q581, q652] : List Nat).getD j 0)) (show q451 < q514 from cc_q514) (show q514 < q581 from cc_q581) (show q581 < q652 from cc_q652)) (fun f hf => match f, hf with | 0, _ => y939 | 1, _ => y940 | 2, _ => y941 | 3, _ => y942 | (n + 4), hf => absurd (by unfold q_rk; rfl) hf) (fun f hf => by rcases y_fs23 (show q_rk 23 f ≠ 0 by rw [hf]; decide) with rfl | rfl | rfl | rfl <;> exact absurd hf (by decide)) (fun q => absurd q (by decide))
  try clear r969; try clear w959; try clear y942; try clear y941; try clear y940; try clear y939; try clear k916
  have D981 : X964.1 = D := x966.1.trans D909
  try clear D909
  have k982 : q_kd X964 q22 = 23 := by rw [dX964]; exact q_xg_h
  have n983 : q_ln X964 q22 = 4 := by rw [dX964]; exact if_pos rfl
  have x984 := x914.tr x966 (fun a e => Or.inr (by rw [e]; exact gg_q22))
  try clear x914
  have k985 := x966.kd k921 (by decide)
  try clear k921
  have k986 := x966.kd k922 (by decide)
  try clear k922
  have k987 := x966.kd k923 (by decide)
  try clear k923
  have k988 := x966.kd k924 (by decide)
  try clear k924
  have k989 := x966.kd k925 (by decide)
  try clear k925
  have k990 := x966.kd k926 (by decide)
  try clear k926
  have k991 := x966.kd k927 (by decide)
  have k992 := x966.kd k928 (by decide)
  have k993 := x966.kd k929 (by decide)
  have k994 := x966.kd k930 (by decide)
  have k995 := x966.kd k931 (by decide)
  try clear k931
  have k996 := x966.kd k932 (by decide)
  try clear k932
  have k997 := x966.kd k902 (by decide)
  try clear k902
  have k998 : q_kd X964 q42 = 0 := x966.k0 k918 (by first | exact (Nat.ne_of_gt cc_q42) | (omega))
  try clear k918
  have k999 : q_kd X964 q183 = 0 := x966.k0 k920 (by first | exact (Nat.ne_of_gt (Nat.lt_trans (Nat.lt_trans (Nat.lt_trans cc_q42 cc_q91) cc_q136) cc_q183)) | (omega))
  try clear k920
  have k1000 : q_kd X964 h = 0 := x966.k0 k910 (by first | exact (Nat.ne_of_lt hq22) | (omega))
  try clear k910
  have i1001 : σ965.1 q451 0 = 0 := (q_exi x966 (by rw [k927]; decide)).trans i946
  try clear i946
  have i1002 : σ965.1 q451 1 = -1 := (q_exi x966 (by rw [k927]; decide)).trans i947
  try clear i947; try clear k927
  have i1003 : σ965.1 q514 0 = 0 := (q_exi x966 (by rw [k928]; decide)).trans i948
  try clear i948
  have i1004 : σ965.1 q514 1 = -1 := (q_exi x966 (by rw [k928]; decide)).trans i949
  try clear i949; try clear k928
  have i1005 : σ965.1 q581 0 = 0 := (q_exi x966 (by rw [k929]; decide)).trans i950
  try clear i950
  have i1006 : σ965.1 q581 1 = -1 := (q_exi x966 (by rw [k929]; decide)).trans i951
  try clear i951; try clear k929
  have i1007 : σ965.1 q652 0 = 0 := (q_exi x966 (by rw [k930]; decide)).trans i952
  try clear i952
  have i1008 : σ965.1 q652 1 = -1 := (q_exi x966 (by rw [k930]; decide)).trans i953
  try clear x966; try clear i953; try clear k930
  have j1009 : ∀ j, q_rf X964 q22 j = ([q451, q514, q581, q652] : List Nat).getD j 0 := fun j => by rw [dX964]; exact if_pos rfl
  have y1014 := raw_lt r963
  try clear y1014
  obtain ⟨X1010, dX1010⟩ : ∃ Y, Y = q_xg X964 q42 22 900 (fun _ => 0) := ⟨_, rfl⟩
  obtain ⟨σ1011, dσ1011⟩ : ∃ τ, τ = q_sg σ965 q42 (fun _ => 0 : Nat → Int32) (fun _ => 0) 0 := ⟨_, rfl⟩
  have x1012 : q_ext (fun a => a = q42) X964 X1010 σ965 σ1011 := by rw [dX1010, dσ1011]; exact q_ext.add k998
  have y1015 : y_root X1010 q91 := by rw [dX1010]; exact y970.add y_xg (fun f hf => absurd rfl hf)
  try clear y970
  have y1016 : y_root X1010 q136 := by rw [dX1010]; exact y971.add y_xg (fun f hf => absurd rfl hf)
  try clear y971
  have y1017 : y_root X1010 q217 := by rw [dX1010]; exact y972.add y_xg (fun f hf => absurd rfl hf)
  try clear y972
  have y1018 : y_root X1010 q270 := by rw [dX1010]; exact y973.add y_xg (fun f hf => absurd rfl hf)
  try clear y973
  have y1019 : y_root X1010 q325 := by rw [dX1010]; exact y974.add y_xg (fun f hf => absurd rfl hf)
  try clear y974
  have y1020 : y_root X1010 q382 := by rw [dX1010]; exact y975.add y_xg (fun f hf => absurd rfl hf)
  try clear y975
  have y1021 : y_root X1010 q727 := by rw [dX1010]; exact y976.add y_xg (fun f hf => absurd rfl hf)
  try clear y976
  have y1022 : y_root X1010 q804 := by rw [dX1010]; exact y977.add y_xg (fun f hf => absurd rfl hf)
  try clear y977
  have y1023 : y_root X1010 q883 := by rw [dX1010]; exact y978.add y_xg (fun f hf => absurd rfl hf)
  try clear y978
  have y1024 : y_root X1010 q22 := by rw [dX1010]; exact y979.add y_xg (fun f hf => absurd rfl hf)
  try clear y979
  have y1025 : y_root X1010 q42 := by rw [dX1010]; exact (y_root.out w967.1 k998).add y_xg (fun f hf => absurd rfl hf)
  have y1026 : y_rt X X1010 := by rw [dX1010]; exact y980.add y_xg (fun f hf => absurd rfl hf)
  try clear y980
  have w1013 : q_w X1010 σ1011 H954 := by
    rw [dX1010, dσ1011]
    exact w967.add k998 (fun f hf => absurd rfl hf) (fun q => absurd rfl q) (by decide) (fun q => absurd q (by decide)) (fun f => q_inU rfl) (fun q => by rcases q with q | q <;> exact absurd q (by decide)) (q_cfA D981 (by decide) (t0 := 0) rfl r963 (fun j => rfl)) (fun f hf => absurd rfl hf) (fun f g hf _ _ => absurd rfl hf) (fun f hf => absurd rfl hf) (fun f hf => absurd (show (0 : Nat) = 5 from hf) (by decide)) (fun q => absurd q (by decide))
  try clear k998; try clear w967; try clear r963
  have D1027 : X1010.1 = D := x1012.1.trans D981
  try clear D981
  have k1028 : q_kd X1010 q42 = 22 := by rw [dX1010]; exact q_xg_h
  have n1029 : q_ln X1010 q42 = 900 := by rw [dX1010]; exact if_pos rfl
  have x1030 := x984.tr x1012 (fun a e => Or.inr (by rw [e]; exact gg_q42))
  try clear x984
  have k1031 := x1012.kd k985 (by decide)
  try clear k985
  have k1032 := x1012.kd k986 (by decide)
  try clear k986
  have k1033 := x1012.kd k987 (by decide)
  try clear k987
  have k1034 := x1012.kd k988 (by decide)
  try clear k988
  have k1035 := x1012.kd k989 (by decide)
  try clear k989
  have k1036 := x1012.kd k990 (by decide)
  try clear k990
  have k1037 := x1012.kd k991 (by decide)
  have k1038 := x1012.kd k992 (by decide)
  have k1039 := x1012.kd k993 (by decide)
  have k1040 := x1012.kd k994 (by decide)
  have k1041 := x1012.kd k995 (by decide)
  try clear k995
  have k1042 := x1012.kd k996 (by decide)
  try clear k996
  have k1043 := x1012.kd k997 (by decide)
  try clear k997
  have k1044 := x1012.kd k982 (by decide)
  have k1045 : q_kd X1010 q183 = 0 := x1012.k0 k999 (by first | exact (Nat.ne_of_gt (Nat.lt_trans (Nat.lt_trans cc_q91 cc_q136) cc_q183)) | (omega))
  try clear k999
  have k1046 : q_kd X1010 h = 0 := x1012.k0 k1000 (by first | exact (Nat.ne_of_lt hq42) | (omega))
  try clear k1000
  have i1047 : σ1011.1 q451 0 = 0 := (q_exi x1012 (by rw [k991]; decide)).trans i1001
  try clear i1001
  have i1048 : σ1011.1 q451 1 = -1 := (q_exi x1012 (by rw [k991]; decide)).trans i1002
  try clear i1002; try clear k991
  have i1049 : σ1011.1 q514 0 = 0 := (q_exi x1012 (by rw [k992]; decide)).trans i1003
  try clear i1003
  have i1050 : σ1011.1 q514 1 = -1 := (q_exi x1012 (by rw [k992]; decide)).trans i1004
  try clear i1004; try clear k992
  have i1051 : σ1011.1 q581 0 = 0 := (q_exi x1012 (by rw [k993]; decide)).trans i1005
  try clear i1005
  have i1052 : σ1011.1 q581 1 = -1 := (q_exi x1012 (by rw [k993]; decide)).trans i1006
  try clear i1006; try clear k993
  have i1053 : σ1011.1 q652 0 = 0 := (q_exi x1012 (by rw [k994]; decide)).trans i1007
  try clear i1007
  have i1054 : σ1011.1 q652 1 = -1 := (q_exi x1012 (by rw [k994]; decide)).trans i1008
  try clear i1008; try clear k994
  have n1055 : q_ln X1010 q22 = 4 := (x1012.2.2.2.1 q22 (by rw [k982]; decide)).2.1.trans n983
  have j1056 : ∀ j, q_rf X1010 q22 j = ([q451, q514, q581, q652] : List Nat).getD j 0 := fun j => ((x1012.2.2.2.1 q22 (by rw [k982]; decide)).2.2.1 j).trans (j1009 j)
  try clear x1012; try clear k982
  have y1061 := raw_lt r957
  try clear y1061
  obtain ⟨X1057, dX1057⟩ : ∃ Y, Y = q_xg X1010 q183 24 3 (fun j => ([q727, q804, q883] : List Nat).getD j 0) := ⟨_, rfl⟩
  obtain ⟨σ1058, dσ1058⟩ : ∃ τ, τ = q_sg σ1011 q183 (fun _ => 0) (fun _ => 0) 0 := ⟨_, rfl⟩
  have x1059 : q_ext (fun a => a = q183) X1010 X1057 σ1011 σ1058 := by rw [dX1057, dσ1058]; exact q_ext.add k1045
  have r1062 : H954[q183]? = some (arrV (D.2 4) 3 (fun j => .ref (([q727, q804, q883] : List Nat).getD j 0))) := by
    rw [r957]
    exact congrArg some (q_arr_eq (fun j hj => match j, hj with | 0, _ => rfl | 1, _ => rfl | 2, _ => rfl | (n + 3), hj => absurd hj (Nat.not_lt_of_ge (Nat.le_add_left 3 n))))
  try clear r957
  have y1063 : y_root X1057 q91 := by rw [dX1057]; exact y1015.add y_xg (fun f hf => match f, hf with | 0, _ => (show q727 ≠ q91 from (Nat.ne_of_gt (Nat.lt_trans (Nat.lt_trans (Nat.lt_trans (Nat.lt_trans (Nat.lt_trans (Nat.lt_trans (Nat.lt_trans (Nat.lt_trans (Nat.lt_trans (Nat.lt_trans cc_q136 cc_q183) cc_q217) cc_q270) cc_q325) cc_q382) cc_q451) cc_q514) cc_q581) cc_q652) cc_q727))) | 1, _ => (show q804 ≠ q91 from (Nat.ne_of_gt (Nat.lt_trans (Nat.lt_trans (Nat.lt_trans (Nat.lt_trans (Nat.lt_trans (Nat.lt_trans (Nat.lt_trans (Nat.lt_trans (Nat.lt_trans (Nat.lt_trans (Nat.lt_trans cc_q136 cc_q183) cc_q217) cc_q270) cc_q325) cc_q382) cc_q451) cc_q514) cc_q581) cc_q652) cc_q727) cc_q804))) | 2, _ => (show q883 ≠ q91 from (Nat.ne_of_gt (Nat.lt_trans (Nat.lt_trans (Nat.lt_trans (Nat.lt_trans (Nat.lt_trans (Nat.lt_trans (Nat.lt_trans (Nat.lt_trans (Nat.lt_trans (Nat.lt_trans (Nat.lt_trans (Nat.lt_trans cc_q136 cc_q183) cc_q217) cc_q270) cc_q325) cc_q382) cc_q451) cc_q514) cc_q581) cc_q652) cc_q727) cc_q804) cc_q883))) | (n + 3), hf => absurd (by unfold q_rk; rfl) hf)
  try clear y1015
  have y1064 : y_root X1057 q136 := by rw [dX1057]; exact y1016.add y_xg (fun f hf => match f, hf with | 0, _ => (show q727 ≠ q136 from (Nat.ne_of_gt (Nat.lt_trans (Nat.lt_trans (Nat.lt_trans (Nat.lt_trans (Nat.lt_trans (Nat.lt_trans (Nat.lt_trans (Nat.lt_trans (Nat.lt_trans cc_q183 cc_q217) cc_q270) cc_q325) cc_q382) cc_q451) cc_q514) cc_q581) cc_q652) cc_q727))) | 1, _ => (show q804 ≠ q136 from (Nat.ne_of_gt (Nat.lt_trans (Nat.lt_trans (Nat.lt_trans (Nat.lt_trans (Nat.lt_trans (Nat.lt_trans (Nat.lt_trans (Nat.lt_trans (Nat.lt_trans (Nat.lt_trans cc_q183 cc_q217) cc_q270) cc_q325) cc_q382) cc_q451) cc_q514) cc_q581) cc_q652) cc_q727) cc_q804))) | 2, _ => (show q883 ≠ q136 from (Nat.ne_of_gt (Nat.lt_trans (Nat.lt_trans (Nat.lt_trans (Nat.lt_trans (Nat.lt_trans (Nat.lt_trans (Nat.lt_trans (Nat.lt_trans (Nat.lt_trans (Nat.lt_trans (Nat.lt_trans cc_q183 cc_q217) cc_q270) cc_q325) cc_q382) cc_q451) cc_q514) cc_q581) cc_q652) cc_q727) cc_q804) cc_q883))) | (n + 3), hf => absurd (by unfold q_rk; rfl) hf)
  try clear y1016
  have y1065 : y_root X1057 q217 := by rw [dX1057]; exact y1017.add y_xg (fun f hf => match f, hf with | 0, _ => (show q727 ≠ q217 from (Nat.ne_of_gt (Nat.lt_trans (Nat.lt_trans (Nat.lt_trans (Nat.lt_trans (Nat.lt_trans (Nat.lt_trans (Nat.lt_trans cc_q270 cc_q325) cc_q382) cc_q451) cc_q514) cc_q581) cc_q652) cc_q727))) | 1, _ => (show q804 ≠ q217 from (Nat.ne_of_gt (Nat.lt_trans (Nat.lt_trans (Nat.lt_trans (Nat.lt_trans (Nat.lt_trans (Nat.lt_trans (Nat.lt_trans (Nat.lt_trans cc_q270 cc_q325) cc_q382) cc_q451) cc_q514) cc_q581) cc_q652) cc_q727) cc_q804))) | 2, _ => (show q883 ≠ q217 from (Nat.ne_of_gt (Nat.lt_trans (Nat.lt_trans (Nat.lt_trans (Nat.lt_trans (Nat.lt_trans (Nat.lt_trans (Nat.lt_trans (Nat.lt_trans (Nat.lt_trans cc_q270 cc_q325) cc_q382) cc_q451) cc_q514) cc_q581) cc_q652) cc_q727) cc_q804) cc_q883))) | (n + 3), hf => absurd (by unfold q_rk; rfl) hf)
  try clear y1017
  have y1066 : y_root X1057 q270 := by rw [dX1057]; exact y1018.add y_xg (fun f hf => match f, hf with | 0, _ => (show q727 ≠ q270 from (Nat.ne_of_gt (Nat.lt_trans (Nat.lt_trans (Nat.lt_trans (Nat.lt_trans (Nat.lt_trans (Nat.lt_trans cc_q325 cc_q382) cc_q451) cc_q514) cc_q581) cc_q652) cc_q727))) | 1, _ => (show q804 ≠ q270 from (Nat.ne_of_gt (Nat.lt_trans (Nat.lt_trans (Nat.lt_trans (Nat.lt_trans (Nat.lt_trans (Nat.lt_trans (Nat.lt_trans cc_q325 cc_q382) cc_q451) cc_q514) cc_q581) cc_q652) cc_q727) cc_q804))) | 2, _ => (show q883 ≠ q270 from (Nat.ne_of_gt (Nat.lt_trans (Nat.lt_trans (Nat.lt_trans (Nat.lt_trans (Nat.lt_trans (Nat.lt_trans (Nat.lt_trans (Nat.lt_trans cc_q325 cc_q382) cc_q451) cc_q514) cc_q581) cc_q652) cc_q727) cc_q804) cc_q883))) | (n + 3), hf => absurd (by unfold q_rk; rfl) hf)
  try clear y1018
  have y1067 : y_root X1057 q325 := by rw [dX1057]; exact y1019.add y_xg (fun f hf => match f, hf with | 0, _ => (show q727 ≠ q325 from (Nat.ne_of_gt (Nat.lt_trans (Nat.lt_trans (Nat.lt_trans (Nat.lt_trans (Nat.lt_trans cc_q382 cc_q451) cc_q514) cc_q581) cc_q652) cc_q727))) | 1, _ => (show q804 ≠ q325 from (Nat.ne_of_gt (Nat.lt_trans (Nat.lt_trans (Nat.lt_trans (Nat.lt_trans (Nat.lt_trans (Nat.lt_trans cc_q382 cc_q451) cc_q514) cc_q581) cc_q652) cc_q727) cc_q804))) | 2, _ => (show q883 ≠ q325 from (Nat.ne_of_gt (Nat.lt_trans (Nat.lt_trans (Nat.lt_trans (Nat.lt_trans (Nat.lt_trans (Nat.lt_trans (Nat.lt_trans cc_q382 cc_q451) cc_q514) cc_q581) cc_q652) cc_q727) cc_q804) cc_q883))) | (n + 3), hf => absurd (by unfold q_rk; rfl) hf)
  try clear y1019
  have y1068 : y_root X1057 q382 := by rw [dX1057]; exact y1020.add y_xg (fun f hf => match f, hf with | 0, _ => (show q727 ≠ q382 from (Nat.ne_of_gt (Nat.lt_trans (Nat.lt_trans (Nat.lt_trans (Nat.lt_trans cc_q451 cc_q514) cc_q581) cc_q652) cc_q727))) | 1, _ => (show q804 ≠ q382 from (Nat.ne_of_gt (Nat.lt_trans (Nat.lt_trans (Nat.lt_trans (Nat.lt_trans (Nat.lt_trans cc_q451 cc_q514) cc_q581) cc_q652) cc_q727) cc_q804))) | 2, _ => (show q883 ≠ q382 from (Nat.ne_of_gt (Nat.lt_trans (Nat.lt_trans (Nat.lt_trans (Nat.lt_trans (Nat.lt_trans (Nat.lt_trans cc_q451 cc_q514) cc_q581) cc_q652) cc_q727) cc_q804) cc_q883))) | (n + 3), hf => absurd (by unfold q_rk; rfl) hf)
  try clear y1020
  have y1069 : y_root X1057 q22 := by rw [dX1057]; exact y1024.add y_xg (fun f hf => match f, hf with | 0, _ => (show q727 ≠ q22 from (Nat.ne_of_gt (Nat.lt_trans (Nat.lt_trans (Nat.lt_trans (Nat.lt_trans (Nat.lt_trans (Nat.lt_trans (Nat.lt_trans (Nat.lt_trans (Nat.lt_trans (Nat.lt_trans (Nat.lt_trans (Nat.lt_trans cc_q42 cc_q91) cc_q136) cc_q183) cc_q217) cc_q270) cc_q325) cc_q382) cc_q451) cc_q514) cc_q581) cc_q652) cc_q727))) | 1, _ => (show q804 ≠ q22 from (Nat.ne_of_gt (Nat.lt_trans (Nat.lt_trans (Nat.lt_trans (Nat.lt_trans (Nat.lt_trans (Nat.lt_trans (Nat.lt_trans (Nat.lt_trans (Nat.lt_trans (Nat.lt_trans (Nat.lt_trans (Nat.lt_trans (Nat.lt_trans cc_q42 cc_q91) cc_q136) cc_q183) cc_q217) cc_q270) cc_q325) cc_q382) cc_q451) cc_q514) cc_q581) cc_q652) cc_q727) cc_q804))) | 2, _ => (show q883 ≠ q22 from (Nat.ne_of_gt (Nat.lt_trans (Nat.lt_trans (Nat.lt_trans (Nat.lt_trans (Nat.lt_trans (Nat.lt_trans (Nat.lt_trans (Nat.lt_trans (Nat.lt_trans (Nat.lt_trans (Nat.lt_trans (Nat.lt_trans (Nat.lt_trans (Nat.lt_trans cc_q42 cc_q91) cc_q136) cc_q183) cc_q217) cc_q270) cc_q325) cc_q382) cc_q451) cc_q514) cc_q581) cc_q652) cc_q727) cc_q804) cc_q883))) | (n + 3), hf => absurd (by unfold q_rk; rfl) hf)
  try clear y1024
  have y1070 : y_root X1057 q42 := by rw [dX1057]; exact y1025.add y_xg (fun f hf => match f, hf with | 0, _ => (show q727 ≠ q42 from (Nat.ne_of_gt (Nat.lt_trans (Nat.lt_trans (Nat.lt_trans (Nat.lt_trans (Nat.lt_trans (Nat.lt_trans (Nat.lt_trans (Nat.lt_trans (Nat.lt_trans (Nat.lt_trans (Nat.lt_trans cc_q91 cc_q136) cc_q183) cc_q217) cc_q270) cc_q325) cc_q382) cc_q451) cc_q514) cc_q581) cc_q652) cc_q727))) | 1, _ => (show q804 ≠ q42 from (Nat.ne_of_gt (Nat.lt_trans (Nat.lt_trans (Nat.lt_trans (Nat.lt_trans (Nat.lt_trans (Nat.lt_trans (Nat.lt_trans (Nat.lt_trans (Nat.lt_trans (Nat.lt_trans (Nat.lt_trans (Nat.lt_trans cc_q91 cc_q136) cc_q183) cc_q217) cc_q270) cc_q325) cc_q382) cc_q451) cc_q514) cc_q581) cc_q652) cc_q727) cc_q804))) | 2, _ => (show q883 ≠ q42 from (Nat.ne_of_gt (Nat.lt_trans (Nat.lt_trans (Nat.lt_trans (Nat.lt_trans (Nat.lt_trans (Nat.lt_trans (Nat.lt_trans (Nat.lt_trans (Nat.lt_trans (Nat.lt_trans (Nat.lt_trans (Nat.lt_trans (Nat.lt_trans cc_q91 cc_q136) cc_q183) cc_q217) cc_q270) cc_q325) cc_q382) cc_q451) cc_q514) cc_q581) cc_q652) cc_q727) cc_q804) cc_q883))) | (n + 3), hf => absurd (by unfold q_rk; rfl) hf)
  try clear y1025
  have y1071 : y_root X1057 q183 := by rw [dX1057]; exact (y_root.out w1013.1 k1045).add y_xg (fun f hf => match f, hf with | 0, _ => (show q727 ≠ q183 from (Nat.ne_of_gt (Nat.lt_trans (Nat.lt_trans (Nat.lt_trans (Nat.lt_trans (Nat.lt_trans (Nat.lt_trans (Nat.lt_trans (Nat.lt_trans cc_q217 cc_q270) cc_q325) cc_q382) cc_q451) cc_q514) cc_q581) cc_q652) cc_q727))) | 1, _ => (show q804 ≠ q183 from (Nat.ne_of_gt (Nat.lt_trans (Nat.lt_trans (Nat.lt_trans (Nat.lt_trans (Nat.lt_trans (Nat.lt_trans (Nat.lt_trans (Nat.lt_trans (Nat.lt_trans cc_q217 cc_q270) cc_q325) cc_q382) cc_q451) cc_q514) cc_q581) cc_q652) cc_q727) cc_q804))) | 2, _ => (show q883 ≠ q183 from (Nat.ne_of_gt (Nat.lt_trans (Nat.lt_trans (Nat.lt_trans (Nat.lt_trans (Nat.lt_trans (Nat.lt_trans (Nat.lt_trans (Nat.lt_trans (Nat.lt_trans (Nat.lt_trans cc_q217 cc_q270) cc_q325) cc_q382) cc_q451) cc_q514) cc_q581) cc_q652) cc_q727) cc_q804) cc_q883))) | (n + 3), hf => absurd (by unfold q_rk; rfl) hf)
  have y1072 : y_rt X X1057 := by rw [dX1057]; exact y1026.add y_xg (fun f hf => match f, hf with | 0, _ => (show q_kd X q727 = 0 from hw0.fresh gg_q727) | 1, _ => (show q_kd X q804 = 0 from hw0.fresh gg_q804) | 2, _ => (show q_kd X q883 = 0 from hw0.fresh gg_q883) | (n + 3), hf => absurd (by unfold q_rk; rfl) hf)
  try clear y1026
  have w1060 : q_w X1057 σ1058 H954 := by
    rw [dX1057, dσ1058]
    exact w1013.add k1045 (q_hrk (fun f _ hf => match f, hf with | 0, _ => k1041 | 1, _ => k1042 | 2, _ => k1043 | (n + 3), hf => absurd (by unfold q_rk; rfl) hf)) (fun _ => rfl) (by decide) (fun q => absurd q (by decide)) (fun f => q_inU rfl) (fun q => by rcases q with q | q <;> exact absurd q (by decide)) (q_cfA D1027 (by decide) (t0 := 4) rfl r1062 (fun j => rfl)) (fun f hf => match f, hf with | 0, _ => (show q183 < q727 from (Nat.lt_trans (Nat.lt_trans (Nat.lt_trans (Nat.lt_trans (Nat.lt_trans (Nat.lt_trans (Nat.lt_trans (Nat.lt_trans cc_q217 cc_q270) cc_q325) cc_q382) cc_q451) cc_q514) cc_q581) cc_q652) cc_q727)) | 1, _ => (show q183 < q804 from (Nat.lt_trans (Nat.lt_trans (Nat.lt_trans (Nat.lt_trans (Nat.lt_trans (Nat.lt_trans (Nat.lt_trans (Nat.lt_trans (Nat.lt_trans cc_q217 cc_q270) cc_q325) cc_q382) cc_q451) cc_q514) cc_q581) cc_q652) cc_q727) cc_q804)) | 2, _ => (show q183 < q883 from (Nat.lt_trans (Nat.lt_trans (Nat.lt_trans (Nat.lt_trans (Nat.lt_trans (Nat.lt_trans (Nat.lt_trans (Nat.lt_trans (Nat.lt_trans (Nat.lt_trans cc_q217 cc_q270) cc_q325) cc_q382) cc_q451) cc_q514) cc_q581) cc_q652) cc_q727) cc_q804) cc_q883)) | (n + 3), hf => absurd (by unfold q_rk; rfl) hf) (y_in24 (rf := (fun j => ([q727, q804, q883] : List Nat).getD j 0)) (show q727 < q804 from cc_q804) (show q804 < q883 from cc_q883)) (fun f hf => match f, hf with | 0, _ => y1021 | 1, _ => y1022 | 2, _ => y1023 | (n + 3), hf => absurd (by unfold q_rk; rfl) hf) (fun f hf => by rcases y_fs24 (show q_rk 24 f ≠ 0 by rw [hf]; decide) with rfl | rfl | rfl <;> exact absurd hf (by decide)) (fun q => absurd q (by decide))
  try clear r1062; try clear k1045; try clear y1023; try clear y1022; try clear y1021; try clear w1013; try clear t0
  have D1073 : X1057.1 = D := x1059.1.trans D1027
  try clear D1027
  have k1074 : q_kd X1057 q183 = 24 := by rw [dX1057]; exact q_xg_h
  have n1075 : q_ln X1057 q183 = 3 := by rw [dX1057]; exact if_pos rfl
  have x1076 := x1030.tr x1059 (fun a e => Or.inr (by rw [e]; exact gg_q183))
  try clear x1030
  have k1077 := x1059.kd k1031 (by decide)
  try clear k1031
  have k1078 := x1059.kd k1032 (by decide)
  try clear k1032
  have k1079 := x1059.kd k1033 (by decide)
  try clear k1033
  have k1080 := x1059.kd k1034 (by decide)
  try clear k1034
  have k1081 := x1059.kd k1035 (by decide)
  try clear k1035
  have k1082 := x1059.kd k1036 (by decide)
  try clear k1036
  have k1083 := x1059.kd k1037 (by decide)
  have k1084 := x1059.kd k1038 (by decide)
  have k1085 := x1059.kd k1039 (by decide)
  have k1086 := x1059.kd k1040 (by decide)
  have k1087 := x1059.kd k1041 (by decide)
  try clear k1041
  have k1088 := x1059.kd k1042 (by decide)
  try clear k1042
  have k1089 := x1059.kd k1043 (by decide)
  try clear k1043
  have k1090 := x1059.kd k1044 (by decide)
  have k1091 := x1059.kd k1028 (by decide)
  have k1092 : q_kd X1057 h = 0 := x1059.k0 k1046 (by first | exact (Nat.ne_of_lt hq183) | (omega))
  try clear k1046
  have i1093 : σ1058.1 q451 0 = 0 := (q_exi x1059 (by rw [k1037]; decide)).trans i1047
  try clear i1047
  have i1094 : σ1058.1 q451 1 = -1 := (q_exi x1059 (by rw [k1037]; decide)).trans i1048
  try clear i1048; try clear k1037
  have i1095 : σ1058.1 q514 0 = 0 := (q_exi x1059 (by rw [k1038]; decide)).trans i1049
  try clear i1049
  have i1096 : σ1058.1 q514 1 = -1 := (q_exi x1059 (by rw [k1038]; decide)).trans i1050
  try clear i1050; try clear k1038
  have i1097 : σ1058.1 q581 0 = 0 := (q_exi x1059 (by rw [k1039]; decide)).trans i1051
  try clear i1051
  have i1098 : σ1058.1 q581 1 = -1 := (q_exi x1059 (by rw [k1039]; decide)).trans i1052
  try clear i1052; try clear k1039
  have i1099 : σ1058.1 q652 0 = 0 := (q_exi x1059 (by rw [k1040]; decide)).trans i1053
  try clear i1053
  have i1100 : σ1058.1 q652 1 = -1 := (q_exi x1059 (by rw [k1040]; decide)).trans i1054
  try clear i1054; try clear k1040
  have n1101 : q_ln X1057 q22 = 4 := (x1059.2.2.2.1 q22 (by rw [k1044]; decide)).2.1.trans n1055
  have n1102 : q_ln X1057 q42 = 900 := (x1059.2.2.2.1 q42 (by rw [k1028]; decide)).2.1.trans n1029
  try clear k1028
  have j1103 : ∀ j, q_rf X1057 q183 j = ([q727, q804, q883] : List Nat).getD j 0 := fun j => by rw [dX1057]; exact if_pos rfl
  have j1104 : ∀ j, q_rf X1057 q22 j = ([q451, q514, q581, q652] : List Nat).getD j 0 := fun j => ((x1059.2.2.2.1 q22 (by rw [k1044]; decide)).2.2.1 j).trans (j1056 j)
  try clear x1059; try clear k1044
  obtain ⟨X1105, dX1105⟩ : ∃ Y, Y = q_xg X1057 h 11 0 (fun f => ([0, 0, 0, q22, q42, 0, 0, 0, q91, q136, q183, 0, q217, q270, q325, q382, 0] : List Nat).getD f 0) := ⟨_, rfl⟩
  obtain ⟨σ1106, dσ1106⟩ : ∃ τ, τ = q_sg σ1058 h (fun f => ([0, 0, 0, 0, 0, 0, (-1), (-1), 0, 0, 0, 0, 0, 0, 0, 0, 0] : List Int32).getD f 0) (fun f => ([0, 0, 1, 0, 0, 0, 0, 0, 0, 0, 0, 0, 0, 0, 0, 0, 0] : List Int64).getD f 0) 0 := ⟨_, rfl⟩
  have x1107 : q_ext (fun a => a = h) X1057 X1105 σ1058 σ1106 := by rw [dX1105, dσ1106]; exact q_ext.add k1092
  have hrk : ∀ f, f < 40 → q_rk 11 f ≠ 0 → q_kd X1057 (([0, 0, 0, q22, q42, 0, 0, 0, q91, q136, q183, 0, q217, q270, q325, q382, 0] : List Nat).getD f 0) = q_rk 11 f := fun f h40 hf => match f, h40, hf with | 0, _, hf => absurd rfl hf | 1, _, hf => absurd rfl hf | 2, _, hf => absurd rfl hf | 3, _, _ => k1090 | 4, _, _ => k1091 | 5, _, hf => absurd rfl hf | 6, _, hf => absurd rfl hf | 7, _, hf => absurd rfl hf | 8, _, _ => k1077 | 9, _, _ => k1078 | 10, _, _ => k1074 | 11, _, hf => absurd rfl hf | 12, _, _ => k1079 | 13, _, _ => k1080 | 14, _, _ => k1081 | 15, _, _ => k1082 | 16, _, hf => absurd rfl hf | 17, _, hf => absurd rfl hf | 18, _, hf => absurd rfl hf | 19, _, hf => absurd rfl hf | 20, _, hf => absurd rfl hf | 21, _, hf => absurd rfl hf | 22, _, hf => absurd rfl hf | 23, _, hf => absurd rfl hf | 24, _, hf => absurd rfl hf | 25, _, hf => absurd rfl hf | 26, _, hf => absurd rfl hf | 27, _, hf => absurd rfl hf | 28, _, hf => absurd rfl hf | 29, _, hf => absurd rfl hf | 30, _, hf => absurd rfl hf | 31, _, hf => absurd rfl hf | 32, _, hf => absurd rfl hf | 33, _, hf => absurd rfl hf | 34, _, hf => absurd rfl hf | 35, _, hf => absurd rfl hf | 36, _, hf => absurd rfl hf | 37, _, hf => absurd rfl hf | 38, _, hf => absurd rfl hf | 39, _, hf => absurd rfl hf | (n + 40), h40, _ => absurd h40 (Nat.not_lt_of_ge (Nat.le_add_left 40 n))
  have hB : ∀ f, f < 40 → (q_bn 11 f).1 ≤ ((([0, 0, 0, 0, 0, 0, (-1), (-1), 0, 0, 0, 0, 0, 0, 0, 0, 0] : List Int32).getD f 0).toInt) ∧ (([0, 0, 0, 0, 0, 0, (-1), (-1), 0, 0, 0, 0, 0, 0, 0, 0, 0] : List Int32).getD f 0).toInt ≤ (q_bn 11 f).2 := by decide +kernel
  have y1109 : ∀ f, q_rk 11 f ≠ 0 → h < ([0, 0, 0, q22, q42, 0, 0, 0, q91, q136, q183, 0, q217, q270, q325, q382, 0] : List Nat).getD f 0 := by
    intro f hf
    rcases y_fs11 hf with rfl | rfl | rfl | rfl | rfl | rfl | rfl | rfl | rfl
    · exact (hq22)
    · exact (hq42)
    · exact (hq91)
    · exact (hq136)
    · exact (hq183)
    · exact (hq217)
    · exact (hq270)
    · exact (hq325)
    · exact (hq382)
  have y1110 : ∀ f, q_rk 11 f ≠ 0 → y_root X1057 (([0, 0, 0, q22, q42, 0, 0, 0, q91, q136, q183, 0, q217, q270, q325, q382, 0] : List Nat).getD f 0) := by
    intro f hf
    rcases y_fs11 hf with rfl | rfl | rfl | rfl | rfl | rfl | rfl | rfl | rfl
    · exact y1069
    · exact y1070
    · exact y1063
    · exact y1064
    · exact y1071
    · exact y1065
    · exact y1066
    · exact y1067
    · exact y1068
  try clear y1071; try clear y1070; try clear y1069; try clear y1068; try clear y1067; try clear y1066; try clear y1065; try clear y1064; try clear y1063
  have y1111 : ∀ f, q_rk 11 f = 5 → q_ln X1057 (q_rf X1057 (([0, 0, 0, q22, q42, 0, 0, 0, q91, q136, q183, 0, q217, q270, q325, q382, 0] : List Nat).getD f 0) 0) = y_rl 11 f := by
    intro f hf
    rcases y_fs11 (show q_rk 11 f ≠ 0 by rw [hf]; decide) with rfl | rfl | rfl | rfl | rfl | rfl | rfl | rfl | rfl
    · exact absurd hf (by decide)
    · exact absurd hf (by decide)
    · exact absurd hf (by decide)
    · exact absurd hf (by decide)
    · exact absurd hf (by decide)
    · exact absurd hf (by decide)
    · exact absurd hf (by decide)
    · exact absurd hf (by decide)
    · exact absurd hf (by decide)
  have y1112 : ∀ f, q_rk 11 f ≠ 0 → ([0, 0, 0, q22, q42, 0, 0, 0, q91, q136, q183, 0, q217, q270, q325, q382, 0] : List Nat).getD f 0 ≠ h := by
    intro f hf
    rcases y_fs11 hf with rfl | rfl | rfl | rfl | rfl | rfl | rfl | rfl | rfl
    · exact ((Nat.ne_of_gt hq22))
    · exact ((Nat.ne_of_gt hq42))
    · exact ((Nat.ne_of_gt hq91))
    · exact ((Nat.ne_of_gt hq136))
    · exact ((Nat.ne_of_gt hq183))
    · exact ((Nat.ne_of_gt hq217))
    · exact ((Nat.ne_of_gt hq270))
    · exact ((Nat.ne_of_gt hq325))
    · exact ((Nat.ne_of_gt hq382))
  have y1113 : ∀ f, q_rk 11 f ≠ 0 → q_kd X (([0, 0, 0, q22, q42, 0, 0, 0, q91, q136, q183, 0, q217, q270, q325, q382, 0] : List Nat).getD f 0) = 0 := by
    intro f hf
    rcases y_fs11 hf with rfl | rfl | rfl | rfl | rfl | rfl | rfl | rfl | rfl
    · exact hw0.fresh (gg_q22)
    · exact hw0.fresh (gg_q42)
    · exact hw0.fresh (gg_q91)
    · exact hw0.fresh (gg_q136)
    · exact hw0.fresh (gg_q183)
    · exact hw0.fresh (gg_q217)
    · exact hw0.fresh (gg_q270)
    · exact hw0.fresh (gg_q325)
    · exact hw0.fresh (gg_q382)
  have hIV : ∀ f, f < 60 → ([0, 0, 0, 0, 0, 0, (-1), (-1), 0, 0, 0, 0, 0, 0, 0, 0, 0] : List Int32).getD f 0 = y_iv 11 f ∧ ([0, 0, 1, 0, 0, 0, 0, 0, 0, 0, 0, 0, 0, 0, 0, 0, 0] : List Int64).getD f 0 = y_il 11 f := by decide +kernel
  have w1108 : q_w X1105 σ1106 H954 := by
    rw [dX1105, dσ1106]
    exact w1060.add k1092 (q_hrk hrk) (fun q => absurd rfl q) (by decide) (fun _ => ⟨n1102, (show q_kd X1057 q42 ≠ 0 by rw [k1091]; decide)⟩) (q_hB hB (by decide)) (fun q => by rcases q with q | q <;> exact absurd q (by decide)) (q_cfO D1073 ⟨rfl, by decide⟩ (show vwCl[10]? = some (RX11, TX11, 17) from rfl) b960 (fun f hf => match f, hf with | 0, _ => rfl | 1, _ => rfl | 2, _ => rfl | 3, _ => rfl | 4, _ => rfl | 5, _ => rfl | 6, _ => rfl | 7, _ => rfl | 8, _ => rfl | 9, _ => rfl | 10, _ => rfl | 11, _ => rfl | 12, _ => rfl | 13, _ => rfl | 14, _ => rfl | 15, _ => rfl | 16, _ => rfl | (n + 17), hf => absurd hf (Nat.not_lt_of_ge (Nat.le_add_left 17 n)))) y1109 (y_in11 (rf := (fun f => ([0, 0, 0, q22, q42, 0, 0, 0, q91, q136, q183, 0, q217, q270, q325, q382, 0] : List Nat).getD f 0)) (show q22 < q42 from cc_q42) (show q42 < q91 from cc_q91) (show q91 < q136 from cc_q136) (show q136 < q183 from cc_q183) (show q183 < q217 from cc_q217) (show q217 < q270 from cc_q270) (show q270 < q325 from cc_q325) (show q325 < q382 from cc_q382)) y1110 y1111 (fun _ f hf => hIV f (hf.resolve_left (by decide)))
  try clear y1111; try clear y1110; try clear y1109; try clear D1073; try clear b960
  have y1114 : y_root X1105 h := by
    rw [dX1105]
    exact (y_root.out w1060.1 k1092).add y_xg y1112
  try clear y1112; try clear k1092; try clear w1060
  have y1115 : y_rt X X1105 := by
    rw [dX1105]
    exact y1072.add y_xg y1113
  try clear y1113; try clear y1072
  have k1116 : q_kd X1105 h = 11 := by rw [dX1105]; exact q_xg_h
  have x1117 := x1076.tr x1107 (fun a e => Or.inl e)
  try clear x1076
  have k1118 := x1107.kd k1077 (by decide)
  try clear k1118; try clear k1077
  have k1119 := x1107.kd k1078 (by decide)
  try clear k1119; try clear k1078
  have k1120 := x1107.kd k1079 (by decide)
  try clear k1120; try clear k1079
  have k1121 := x1107.kd k1080 (by decide)
  try clear k1121; try clear k1080
  have k1122 := x1107.kd k1081 (by decide)
  try clear k1122; try clear k1081
  have k1123 := x1107.kd k1082 (by decide)
  try clear k1123; try clear k1082
  have k1124 := x1107.kd k1083 (by decide)
  try clear k1124
  have k1125 := x1107.kd k1084 (by decide)
  try clear k1125
  have k1126 := x1107.kd k1085 (by decide)
  try clear k1126
  have k1127 := x1107.kd k1086 (by decide)
  try clear k1127
  have k1128 := x1107.kd k1087 (by decide)
  try clear k1128; try clear k1087
  have k1129 := x1107.kd k1088 (by decide)
  try clear k1129; try clear k1088
  have k1130 := x1107.kd k1089 (by decide)
  try clear k1130; try clear k1089
  have k1131 := x1107.kd k1090 (by decide)
  try clear k1131
  have k1132 := x1107.kd k1091 (by decide)
  try clear k1132; try clear k1091
  have k1133 := x1107.kd k1074 (by decide)
  try clear k1133; try clear k1074
  have i1134 : σ1106.1 q451 0 = 0 := (q_exi x1107 (by rw [k1083]; decide)).trans i1093
  try clear i1093
  have i1135 : σ1106.1 q451 1 = -1 := (q_exi x1107 (by rw [k1083]; decide)).trans i1094
  try clear i1094; try clear k1083
  have i1136 : σ1106.1 q514 0 = 0 := (q_exi x1107 (by rw [k1084]; decide)).trans i1095
  try clear i1095
  have i1137 : σ1106.1 q514 1 = -1 := (q_exi x1107 (by rw [k1084]; decide)).trans i1096
  try clear i1096; try clear k1084
  have i1138 : σ1106.1 q581 0 = 0 := (q_exi x1107 (by rw [k1085]; decide)).trans i1097
  try clear i1097
  have i1139 : σ1106.1 q581 1 = -1 := (q_exi x1107 (by rw [k1085]; decide)).trans i1098
  try clear i1098; try clear k1085
  have i1140 : σ1106.1 q652 0 = 0 := (q_exi x1107 (by rw [k1086]; decide)).trans i1099
  try clear i1099
  have i1141 : σ1106.1 q652 1 = -1 := (q_exi x1107 (by rw [k1086]; decide)).trans i1100
  try clear i1100; try clear k1086
  have ht3 : q_rf X1105 h 3 = q22 := by rw [dX1105]; exact if_pos rfl
  have htj : ∀ j, q_rf X1105 q22 j = ([q451, q514, q581, q652] : List Nat).getD j 0 := fun j => ((x1107.2.2.2.1 q22 (by rw [k1090]; decide)).2.2.1 j).trans (j1104 j)
  try clear x1107; try clear k1090
  have htr : ∀ i, i < 4 → σ1106.1 (q_rf X1105 (q_rf X1105 h 3) i) 0 = 0 ∧ σ1106.1 (q_rf X1105 (q_rf X1105 h 3) i) 1 = -1 := by
    intro i hi
    rw [ht3, htj]
    exact match i, hi with | 0, _ => ⟨i1134, i1135⟩ | 1, _ => ⟨i1136, i1137⟩ | 2, _ => ⟨i1138, i1139⟩ | 3, _ => ⟨i1140, i1141⟩ | (n + 4), hi => absurd hi (Nat.not_lt_of_ge (Nat.le_add_left 4 n))
  try clear i1141; try clear i1140; try clear i1139; try clear i1138; try clear i1137; try clear i1136; try clear i1135; try clear i1134
  exact b_ret E hr hlk S958 x1117 k1116 ⟨⟨y1115, y1114⟩, ⟨⟨by rw [dσ1106]; exact if_pos rfl, by rw [dσ1106]; exact if_pos rfl⟩, htr⟩⟩ w1108 dX11_init_187
