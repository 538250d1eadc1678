set_option maxRecDepth 100000 in
set_option maxHeartbeats 4000000 in
theorem n_X12 (l : Launch) (D : DW) (X : XW) (σ : ST) (h sz : Nat) : Met l yX12_init (q_ws yX12_init cX12_init 2 none) { frames := 1, cells := 12, slots := 6571, locals := 12 } (q_PN D X σ h sz 11 46 (fun k => defaultValue (tyX12 k)) [.ref h]) (q_QN X σ h sz 12 (fun X' σ' => (y_rt X X' ∧ y_root X' h) ∧ (σ'.1 h 8 = 0 ∧ σ'.1 h 24 = 0) ∧ (∀ j, j < 4 → σ'.1 (q_rf X' h 4) j = 0 ∧ σ'.1 (q_rf X' h 5) j = -1) ∧ ∀ j, σ'.1 (q_rf X' h 20) j = if j = 6 then -1 else if j = 8 then -1 else if j = 4 then 4 else if j = 1 then 1 else if j = 0 then 2 else 0)) 12 6571 (q_nw h sz) := by
  refine b_met  (by first | exact rfl | decide +kernel) rfl rfl (Nat.le_of_ble_eq_true rfl) (fun p e s m below meth c E hml hr hlk hnm hsz hD hw0 h00 hob ls hl => ?_)
  subst hsz
  have hxx := E.1
  have hb := E.2.1
  have hl : lv_has ls 2 [(0, .ref h)] := hl
  have hS : va_S (q_nw h s.heap.size) s.heap s.heap [] := va_S.rf
  have hx0 : q_ext (q_nw h s.heap.size) X X σ σ := q_ext.rf
  have hAh : q_nw h s.heap.size h := Or.inl rfl
  have yr0 : y_rt X X := y_rt.rf
  have hlt := t_lt hob
  refine lv_aload_n hxx hb dX12_init_0 rfl (lv_at hl 0 rfl) ?_
  refine W.objInit hxx hb E.2.2.1 (E.2.2.2.1 _ bw_1424) (E.2.2.2.1 _ bw_26) (E.2.2.2.1 _ bw_27) rfl (by rw [hml]; exact hl.1) rfl dX12_init_1 (Nat.le_of_ble_eq_true rfl) (Nat.le_of_ble_eq_true rfl) ?_
  refine W.eq (g2 := F0 m 4 ls []) rfl ?_
  refine lv_aload_n hxx hb dX12_init_4 rfl (lv_at hl 0 rfl) ?_
  refine lv_lconst (v := 1) hxx hb dX12_init_5 (by decide) ?_
  refine b_put E hS hAh hnm (f := 3) hob (show vwCl[11]? = some (RX12, TX12, 46) from rfl) q_inX12 tyX12_ok nmX12 (by decide) bw_1428 rfl (fun _ => rfl) (tyX12_ok 3 (by decide)) rfl rfl dX12_init_6 (fun H1 locs1 z2 o3 b4 S5 => ?_)
  have w6 : q_w X σ H1 := hw0.kept (fun a ha => o3 a (fun e => ha (by rw [e]; exact h00)))
  try clear o3
  have t7 := t_lt b4
  refine lv_aload_n hxx hb dX12_init_9 rfl (lv_at hl 0 rfl) ?_
  refine lv_iconst (v := 4) hxx hb dX12_init_10 (by decide) ?_
  refine b_newa E S5 bw_56 (t := 1) rfl (fun _ _ => rfl) (N' := 4) (by decide) (by decide) (by decide) (Nat.le_of_ble_eq_true rfl) (Nat.le_of_ble_eq_true rfl) dX12_init_11 (fun q8 H9 e10 z11 o12 r13 S14 => ?_)
  have hq8 : h < q8 := by first | exact Nat.lt_of_lt_of_eq t7 e10.symm | omega
  have gg_q8 : s.heap.size ≤ q8 := Nat.le_trans S5.1 (Nat.le_of_eq e10.symm)
  have mm_q8 : q8 < H9.size := by rw [z11, e10]; exact Nat.lt_succ_self _
  try clear S5
  have w15 : q_w X σ H9 := w6.kept (fun a ha => o12 a (w6.lt ha))
  have b16 := b4.kept (o12 h t7)
  try clear o12; try clear b4
  have t17 := t_lt b16
  try clear t7
  have k18 : q_kd X q8 = 0 := w6.fresh (Nat.le_of_eq e10.symm)
  try clear w6
  have g19 := S14.1
  refine b_put E S14 hAh hnm (f := 4) b16 (show vwCl[11]? = some (RX12, TX12, 46) from rfl) q_inX12 tyX12_ok nmX12 (by decide) bw_1429 rfl (fun _ => rfl) (tyX12_ok 4 (by decide)) rfl rfl dX12_init_13 (fun H20 locs1 z21 o22 b23 S24 => ?_)
  try clear b16; try clear S14
  have w25 : q_w X σ H20 := w15.kept (fun a ha => o22 a (fun e => ha (by rw [e]; exact h00)))
  try clear w15
  have t26 := t_lt b23
  try clear t17
  have r27 := (o22 q8 (by first | exact (Nat.ne_of_gt hq8) | omega)).trans r13
  try clear o22; try clear r13
  refine lv_aload_n hxx hb dX12_init_16 rfl (lv_at hl 0 rfl) ?_
  refine lv_iconst (v := 4) hxx hb dX12_init_17 (by decide) ?_
  refine b_newa E S24 bw_56 (t := 1) rfl (fun _ _ => rfl) (N' := 4) (by decide) (by decide) (by decide) (Nat.le_of_ble_eq_true rfl) (Nat.le_of_ble_eq_true rfl) dX12_init_18 (fun q28 H29 e30 z31 o32 r33 S34 => ?_)
  have hq28 : h < q28 := by first | exact Nat.lt_of_lt_of_eq t26 e30.symm | omega
  have gg_q28 : s.heap.size ≤ q28 := Nat.le_trans S24.1 (Nat.le_of_eq e30.symm)
  have mm_q28 : q28 < H29.size := by rw [z31, e30]; exact Nat.lt_succ_self _
  have cc_q28 : q8 < q28 := by first | exact Nat.lt_of_lt_of_eq (Nat.lt_of_lt_of_le mm_q8 (Nat.le_of_eq z21.symm)) e30.symm | omega
  try clear S24
  have w35 : q_w X σ H29 := w25.kept (fun a ha => o32 a (w25.lt ha))
  have b36 := b23.kept (o32 h t26)
  try clear b23
  have t37 := t_lt b36
  try clear t26
  have r38 := (o32 q8 (raw_lt r27)).trans r27
  try clear o32; try clear r27
  have k39 : q_kd X q28 = 0 := w25.fresh (Nat.le_of_eq e30.symm)
  try clear w25
  have g40 := S34.1
  refine b_put E S34 hAh hnm (f := 5) b36 (show vwCl[11]? = some (RX12, TX12, 46) from rfl) q_inX12 tyX12_ok nmX12 (by decide) bw_1430 rfl (fun _ => rfl) (tyX12_ok 5 (by decide)) rfl rfl dX12_init_20 (fun H41 locs1 z42 o43 b44 S45 => ?_)
  try clear b36; try clear S34
  have w46 : q_w X σ H41 := w35.kept (fun a ha => o43 a (fun e => ha (by rw [e]; exact h00)))
  try clear w35
  have t47 := t_lt b44
  try clear t37
  have r48 := (o43 q8 (by first | exact (Nat.ne_of_gt hq8) | omega)).trans r38
  try clear r38
  have r49 := (o43 q28 (by first | exact (Nat.ne_of_gt hq28) | omega)).trans r33
  try clear o43; try clear r33
  refine lv_aload_n hxx hb dX12_init_23 rfl (lv_at hl 0 rfl) ?_
  refine lv_sipush (v := 240) hxx hb dX12_init_24 (by decide) ?_
  refine b_newa E S45 bw_441 (t := 2) rfl (fun _ _ => rfl) (N' := 240) (by decide) (by decide) (by decide) (Nat.le_of_ble_eq_true rfl) (Nat.le_of_ble_eq_true rfl) dX12_init_27 (fun q50 H51 e52 z53 o54 r55 S56 => ?_)
  have hq50 : h < q50 := by first | exact Nat.lt_of_lt_of_eq t47 e52.symm | omega
  have gg_q50 : s.heap.size ≤ q50 := Nat.le_trans S45.1 (Nat.le_of_eq e52.symm)
  have mm_q50 : q50 < H51.size := by rw [z53, e52]; exact Nat.lt_succ_self _
  have cc_q50 : q28 < q50 := by first | exact Nat.lt_of_lt_of_eq (Nat.lt_of_lt_of_le mm_q28 (Nat.le_of_eq z42.symm)) e52.symm | omega
  try clear S45
  have w57 : q_w X σ H51 := w46.kept (fun a ha => o54 a (w46.lt ha))
  have b58 := b44.kept (o54 h t47)
  try clear b44
  have t59 := t_lt b58
  try clear t47
  have r60 := (o54 q8 (raw_lt r48)).trans r48
  try clear r48
  have r61 := (o54 q28 (raw_lt r49)).trans r49
  try clear o54; try clear r49
  have k62 : q_kd X q50 = 0 := w46.fresh (Nat.le_of_eq e52.symm)
  try clear w46
  have g63 := S56.1
  refine b_put E S56 hAh hnm (f := 6) b58 (show vwCl[11]? = some (RX12, TX12, 46) from rfl) q_inX12 tyX12_ok nmX12 (by decide) bw_1431 rfl (fun _ => rfl) (tyX12_ok 6 (by decide)) rfl rfl dX12_init_29 (fun H64 locs1 z65 o66 b67 S68 => ?_)
  try clear b58; try clear S56
  have w69 : q_w X σ H64 := w57.kept (fun a ha => o66 a (fun e => ha (by rw [e]; exact h00)))
  try clear w57
  have t70 := t_lt b67
  try clear t59
  have r71 := (o66 q8 (by first | exact (Nat.ne_of_gt hq8) | omega)).trans r60
  try clear r60
  have r72 := (o66 q28 (by first | exact (Nat.ne_of_gt hq28) | omega)).trans r61
  try clear r61
  have r73 := (o66 q50 (by first | exact (Nat.ne_of_gt hq50) | omega)).trans r55
  try clear o66; try clear r55
  refine lv_aload_n hxx hb dX12_init_32 rfl (lv_at hl 0 rfl) ?_
  refine lv_sipush (v := 900) hxx hb dX12_init_33 (by decide) ?_
  refine b_newa E S68 bw_55 (t := 0) rfl (fun _ _ => rfl) (N' := 900) (by decide) (by decide) (by decide) (Nat.le_of_ble_eq_true rfl) (Nat.le_of_ble_eq_true rfl) dX12_init_36 (fun q74 H75 e76 z77 o78 r79 S80 => ?_)
  have hq74 : h < q74 := by first | exact Nat.lt_of_lt_of_eq t70 e76.symm | omega
  have gg_q74 : s.heap.size ≤ q74 := Nat.le_trans S68.1 (Nat.le_of_eq e76.symm)
  have mm_q74 : q74 < H75.size := by rw [z77, e76]; exact Nat.lt_succ_self _
  have cc_q74 : q50 < q74 := by first | exact Nat.lt_of_lt_of_eq (Nat.lt_of_lt_of_le mm_q50 (Nat.le_of_eq z65.symm)) e76.symm | omega
  try clear S68
  have w81 : q_w X σ H75 := w69.kept (fun a ha => o78 a (w69.lt ha))
  have b82 := b67.kept (o78 h t70)
  try clear b67
  have t83 := t_lt b82
  try clear t70
  have r84 := (o78 q8 (raw_lt r71)).trans r71
  try clear r71
  have r85 := (o78 q28 (raw_lt r72)).trans r72
  try clear r72
  have r86 := (o78 q50 (raw_lt r73)).trans r73
  try clear o78; try clear r73
  have k87 : q_kd X q74 = 0 := w69.fresh (Nat.le_of_eq e76.symm)
  try clear w69
  have g88 := S80.1
  refine b_put E S80 hAh hnm (f := 7) b82 (show vwCl[11]? = some (RX12, TX12, 46) from rfl) q_inX12 tyX12_ok nmX12 (by decide) bw_1432 rfl (fun _ => rfl) (tyX12_ok 7 (by decide)) rfl rfl dX12_init_38 (fun H89 locs1 z90 o91 b92 S93 => ?_)
  try clear b82; try clear S80
  have w94 : q_w X σ H89 := w81.kept (fun a ha => o91 a (fun e => ha (by rw [e]; exact h00)))
  try clear w81
  have t95 := t_lt b92
  try clear t83
  have r96 := (o91 q8 (by first | exact (Nat.ne_of_gt hq8) | omega)).trans r84
  try clear r84
  have r97 := (o91 q28 (by first | exact (Nat.ne_of_gt hq28) | omega)).trans r85
  try clear r85
  have r98 := (o91 q50 (by first | exact (Nat.ne_of_gt hq50) | omega)).trans r86
  try clear r86
  have r99 := (o91 q74 (by first | exact (Nat.ne_of_gt hq74) | omega)).trans r79
  try clear o91; try clear r79
  refine lv_aload_n hxx hb dX12_init_41 rfl (lv_at hl 0 rfl) ?_
  refine lv_iconst (v := (-1)) hxx hb dX12_init_42 (by decide) ?_
  refine b_put E S93 hAh hnm (f := 10) b92 (show vwCl[11]? = some (RX12, TX12, 46) from rfl) q_inX12 tyX12_ok nmX12 (by decide) bw_1435 rfl (fun _ => rfl) (tyX12_ok 10 (by decide)) rfl rfl dX12_init_43 (fun H100 locs1 z101 o102 b103 S104 => ?_)
  try clear S93; try clear b92
  have w105 : q_w X σ H100 := w94.kept (fun a ha => o102 a (fun e => ha (by rw [e]; exact h00)))
  try clear w94
  have t106 := t_lt b103
  try clear t95
  have r107 := (o102 q8 (by first | exact (Nat.ne_of_gt hq8) | omega)).trans r96
  try clear r96
  have r108 := (o102 q28 (by first | exact (Nat.ne_of_gt hq28) | omega)).trans r97
  try clear r97
  have r109 := (o102 q50 (by first | exact (Nat.ne_of_gt hq50) | omega)).trans r98
  try clear r98
  have r110 := (o102 q74 (by first | exact (Nat.ne_of_gt hq74) | omega)).trans r99
  try clear o102; try clear r99
  refine lv_aload_n hxx hb dX12_init_46 rfl (lv_at hl 0 rfl) ?_
  refine lv_iconst (v := (-1)) hxx hb dX12_init_47 (by decide) ?_
  refine b_put E S104 hAh hnm (f := 11) b103 (show vwCl[11]? = some (RX12, TX12, 46) from rfl) q_inX12 tyX12_ok nmX12 (by decide) bw_1436 rfl (fun _ => rfl) (tyX12_ok 11 (by decide)) rfl rfl dX12_init_48 (fun H111 locs1 z112 o113 b114 S115 => ?_)
  try clear S104; try clear b103
  have w116 : q_w X σ H111 := w105.kept (fun a ha => o113 a (fun e => ha (by rw [e]; exact h00)))
  try clear w105
  have t117 := t_lt b114
  try clear t106
  have r118 := (o113 q8 (by first | exact (Nat.ne_of_gt hq8) | omega)).trans r107
  try clear r107
  have r119 := (o113 q28 (by first | exact (Nat.ne_of_gt hq28) | omega)).trans r108
  try clear r108
  have r120 := (o113 q50 (by first | exact (Nat.ne_of_gt hq50) | omega)).trans r109
  try clear r109
  have r121 := (o113 q74 (by first | exact (Nat.ne_of_gt hq74) | omega)).trans r110
  try clear o113; try clear r110
  refine lv_aload_n hxx hb dX12_init_51 rfl (lv_at hl 0 rfl) ?_
  refine lv_sipush (v := 4650) hxx hb dX12_init_52 (by decide) ?_
  refine b_newa E S115 bw_56 (t := 1) rfl (fun _ _ => rfl) (N' := 4650) (by decide) (by decide) (by decide) (Nat.le_of_ble_eq_true rfl) (Nat.le_of_ble_eq_true rfl) dX12_init_55 (fun q122 H123 e124 z125 o126 r127 S128 => ?_)
  have hq122 : h < q122 := by first | exact Nat.lt_of_lt_of_eq t117 e124.symm | omega
  have gg_q122 : s.heap.size ≤ q122 := Nat.le_trans S115.1 (Nat.le_of_eq e124.symm)
  have mm_q122 : q122 < H123.size := by rw [z125, e124]; exact Nat.lt_succ_self _
  have cc_q122 : q74 < q122 := by first | exact Nat.lt_of_lt_of_eq (Nat.lt_of_lt_of_le (Nat.lt_of_lt_of_le (Nat.lt_of_lt_of_le mm_q74 (Nat.le_of_eq z90.symm)) (Nat.le_of_eq z101.symm)) (Nat.le_of_eq z112.symm)) e124.symm | omega
  try clear S115
  have w129 : q_w X σ H123 := w116.kept (fun a ha => o126 a (w116.lt ha))
  have b130 := b114.kept (o126 h t117)
  try clear b114
  have t131 := t_lt b130
  try clear t117
  have r132 := (o126 q8 (raw_lt r118)).trans r118
  try clear r118
  have r133 := (o126 q28 (raw_lt r119)).trans r119
  try clear r119
  have r134 := (o126 q50 (raw_lt r120)).trans r120
  try clear r120
  have r135 := (o126 q74 (raw_lt r121)).trans r121
  try clear o126; try clear r121
  have k136 : q_kd X q122 = 0 := w116.fresh (Nat.le_of_eq e124.symm)
  try clear w116
  have g137 := S128.1
  refine b_put E S128 hAh hnm (f := 20) b130 (show vwCl[11]? = some (RX12, TX12, 46) from rfl) q_inX12 tyX12_ok nmX12 (by decide) bw_1445 rfl (fun _ => rfl) (tyX12_ok 20 (by decide)) rfl rfl dX12_init_57 (fun H138 locs1 z139 o140 b141 S142 => ?_)
  try clear b130; try clear S128
  have w143 : q_w X σ H138 := w129.kept (fun a ha => o140 a (fun e => ha (by rw [e]; exact h00)))
  try clear w129
  have t144 := t_lt b141
  try clear t131
  have r145 := (o140 q8 (by first | exact (Nat.ne_of_gt hq8) | omega)).trans r132
  try clear r132
  have r146 := (o140 q28 (by first | exact (Nat.ne_of_gt hq28) | omega)).trans r133
  try clear r133
  have r147 := (o140 q50 (by first | exact (Nat.ne_of_gt hq50) | omega)).trans r134
  try clear r134
  have r148 := (o140 q74 (by first | exact (Nat.ne_of_gt hq74) | omega)).trans r135
  try clear r135
  have r149 := (o140 q122 (by first | exact (Nat.ne_of_gt hq122) | omega)).trans r127
  try clear o140; try clear r127
  refine lv_aload_n hxx hb dX12_init_60 rfl (lv_at hl 0 rfl) ?_
  refine lv_sipush (v := 654) hxx hb dX12_init_61 (by decide) ?_
  refine b_newa E S142 bw_56 (t := 1) rfl (fun _ _ => rfl) (N' := 654) (by decide) (by decide) (by decide) (Nat.le_of_ble_eq_true rfl) (Nat.le_of_ble_eq_true rfl) dX12_init_64 (fun q150 H151 e152 z153 o154 r155 S156 => ?_)
  have hq150 : h < q150 := by first | exact Nat.lt_of_lt_of_eq t144 e152.symm | omega
  have gg_q150 : s.heap.size ≤ q150 := Nat.le_trans S142.1 (Nat.le_of_eq e152.symm)
  have mm_q150 : q150 < H151.size := by rw [z153, e152]; exact Nat.lt_succ_self _
  have cc_q150 : q122 < q150 := by first | exact Nat.lt_of_lt_of_eq (Nat.lt_of_lt_of_le mm_q122 (Nat.le_of_eq z139.symm)) e152.symm | omega
  try clear S142
  have w157 : q_w X σ H151 := w143.kept (fun a ha => o154 a (w143.lt ha))
  have b158 := b141.kept (o154 h t144)
  try clear b141
  have t159 := t_lt b158
  try clear t144
  have r160 := (o154 q8 (raw_lt r145)).trans r145
  try clear r145
  have r161 := (o154 q28 (raw_lt r146)).trans r146
  try clear r146
  have r162 := (o154 q50 (raw_lt r147)).trans r147
  try clear r147
  have r163 := (o154 q74 (raw_lt r148)).trans r148
  try clear r148
  have r164 := (o154 q122 (raw_lt r149)).trans r149
  try clear o154; try clear r149
  have k165 : q_kd X q150 = 0 := w143.fresh (Nat.le_of_eq e152.symm)
  try clear w143
  have g166 := S156.1
  refine b_put E S156 hAh hnm (f := 21) b158 (show vwCl[11]? = some (RX12, TX12, 46) from rfl) q_inX12 tyX12_ok nmX12 (by decide) bw_1446 rfl (fun _ => rfl) (tyX12_ok 21 (by decide)) rfl rfl dX12_init_66 (fun H167 locs1 z168 o169 b170 S171 => ?_)
  try clear b158; try clear S156
  have w172 : q_w X σ H167 := w157.kept (fun a ha => o169 a (fun e => ha (by rw [e]; exact h00)))
  try clear w157
  have t173 := t_lt b170
  try clear t159
  have r174 := (o169 q8 (by first | exact (Nat.ne_of_gt hq8) | omega)).trans r160
  try clear r160
  have r175 := (o169 q28 (by first | exact (Nat.ne_of_gt hq28) | omega)).trans r161
  try clear r161
  have r176 := (o169 q50 (by first | exact (Nat.ne_of_gt hq50) | omega)).trans r162
  try clear r162
  have r177 := (o169 q74 (by first | exact (Nat.ne_of_gt hq74) | omega)).trans r163
  try clear r163
  have r178 := (o169 q122 (by first | exact (Nat.ne_of_gt hq122) | omega)).trans r164
  try clear r164
  have r179 := (o169 q150 (by first | exact (Nat.ne_of_gt hq150) | omega)).trans r155
  try clear o169; try clear r155
  refine lv_aload_n hxx hb dX12_init_69 rfl (lv_at hl 0 rfl) ?_
  refine lv_bipush (v := 60) hxx hb dX12_init_70 (by decide) ?_
  refine b_newa E S171 bw_56 (t := 1) rfl (fun _ _ => rfl) (N' := 60) (by decide) (by decide) (by decide) (Nat.le_of_ble_eq_true rfl) (Nat.le_of_ble_eq_true rfl) dX12_init_72 (fun q180 H181 e182 z183 o184 r185 S186 => ?_)
  have hq180 : h < q180 := by first | exact Nat.lt_of_lt_of_eq t173 e182.symm | omega
  have gg_q180 : s.heap.size ≤ q180 := Nat.le_trans S171.1 (Nat.le_of_eq e182.symm)
  have mm_q180 : q180 < H181.size := by rw [z183, e182]; exact Nat.lt_succ_self _
  have cc_q180 : q150 < q180 := by first | exact Nat.lt_of_lt_of_eq (Nat.lt_of_lt_of_le mm_q150 (Nat.le_of_eq z168.symm)) e182.symm | omega
  try clear S171
  have w187 : q_w X σ H181 := w172.kept (fun a ha => o184 a (w172.lt ha))
  have b188 := b170.kept (o184 h t173)
  try clear b170
  have t189 := t_lt b188
  try clear t173
  have r190 := (o184 q8 (raw_lt r174)).trans r174
  try clear r174
  have r191 := (o184 q28 (raw_lt r175)).trans r175
  try clear r175
  have r192 := (o184 q50 (raw_lt r176)).trans r176
  try clear r176
  have r193 := (o184 q74 (raw_lt r177)).trans r177
  try clear r177
  have r194 := (o184 q122 (raw_lt r178)).trans r178
  try clear r178
  have r195 := (o184 q150 (raw_lt r179)).trans r179
  try clear o184; try clear r179
  have k196 : q_kd X q180 = 0 := w172.fresh (Nat.le_of_eq e182.symm)
  try clear w172
  have g197 := S186.1
  refine b_put E S186 hAh hnm (f := 22) b188 (show vwCl[11]? = some (RX12, TX12, 46) from rfl) q_inX12 tyX12_ok nmX12 (by decide) bw_1447 rfl (fun _ => rfl) (tyX12_ok 22 (by decide)) rfl rfl dX12_init_74 (fun H198 locs1 z199 o200 b201 S202 => ?_)
  try clear b188; try clear S186
  have w203 : q_w X σ H198 := w187.kept (fun a ha => o200 a (fun e => ha (by rw [e]; exact h00)))
  try clear w187
  have t204 := t_lt b201
  try clear t189
  have r205 := (o200 q8 (by first | exact (Nat.ne_of_gt hq8) | omega)).trans r190
  try clear r190
  have r206 := (o200 q28 (by first | exact (Nat.ne_of_gt hq28) | omega)).trans r191
  try clear r191
  have r207 := (o200 q50 (by first | exact (Nat.ne_of_gt hq50) | omega)).trans r192
  try clear r192
  have r208 := (o200 q74 (by first | exact (Nat.ne_of_gt hq74) | omega)).trans r193
  try clear r193
  have r209 := (o200 q122 (by first | exact (Nat.ne_of_gt hq122) | omega)).trans r194
  try clear r194
  have r210 := (o200 q150 (by first | exact (Nat.ne_of_gt hq150) | omega)).trans r195
  try clear r195
  have r211 := (o200 q180 (by first | exact (Nat.ne_of_gt hq180) | omega)).trans r185
  try clear o200; try clear r185
  refine lv_aload_n hxx hb dX12_init_77 rfl (lv_at hl 0 rfl) ?_
  refine lv_bipush (v := 30) hxx hb dX12_init_78 (by decide) ?_
  refine b_newa E S202 bw_441 (t := 2) rfl (fun _ _ => rfl) (N' := 30) (by decide) (by decide) (by decide) (Nat.le_of_ble_eq_true rfl) (Nat.le_of_ble_eq_true rfl) dX12_init_80 (fun q212 H213 e214 z215 o216 r217 S218 => ?_)
  have hq212 : h < q212 := by first | exact Nat.lt_of_lt_of_eq t204 e214.symm | omega
  have gg_q212 : s.heap.size ≤ q212 := Nat.le_trans S202.1 (Nat.le_of_eq e214.symm)
  have mm_q212 : q212 < H213.size := by rw [z215, e214]; exact Nat.lt_succ_self _
  have cc_q212 : q180 < q212 := by first | exact Nat.lt_of_lt_of_eq (Nat.lt_of_lt_of_le mm_q180 (Nat.le_of_eq z199.symm)) e214.symm | omega
  try clear S202
  have w219 : q_w X σ H213 := w203.kept (fun a ha => o216 a (w203.lt ha))
  have b220 := b201.kept (o216 h t204)
  try clear b201
  have t221 := t_lt b220
  try clear t204
  have r222 := (o216 q8 (raw_lt r205)).trans r205
  try clear r205
  have r223 := (o216 q28 (raw_lt r206)).trans r206
  try clear r206
  have r224 := (o216 q50 (raw_lt r207)).trans r207
  try clear r207
  have r225 := (o216 q74 (raw_lt r208)).trans r208
  try clear r208
  have r226 := (o216 q122 (raw_lt r209)).trans r209
  try clear r209
  have r227 := (o216 q150 (raw_lt r210)).trans r210
  try clear r210
  have r228 := (o216 q180 (raw_lt r211)).trans r211
  try clear o216; try clear r211
  have k229 : q_kd X q212 = 0 := w203.fresh (Nat.le_of_eq e214.symm)
  try clear w203
  have g230 := S218.1
  refine b_put E S218 hAh hnm (f := 23) b220 (show vwCl[11]? = some (RX12, TX12, 46) from rfl) q_inX12 tyX12_ok nmX12 (by decide) bw_1448 rfl (fun _ => rfl) (tyX12_ok 23 (by decide)) rfl rfl dX12_init_82 (fun H231 locs1 z232 o233 b234 S235 => ?_)
  try clear b220; try clear S218
  have w236 : q_w X σ H231 := w219.kept (fun a ha => o233 a (fun e => ha (by rw [e]; exact h00)))
  try clear w219
  have t237 := t_lt b234
  try clear t221
  have r238 := (o233 q8 (by first | exact (Nat.ne_of_gt hq8) | omega)).trans r222
  try clear r222
  have r239 := (o233 q28 (by first | exact (Nat.ne_of_gt hq28) | omega)).trans r223
  try clear r223
  have r240 := (o233 q50 (by first | exact (Nat.ne_of_gt hq50) | omega)).trans r224
  try clear r224
  have r241 := (o233 q74 (by first | exact (Nat.ne_of_gt hq74) | omega)).trans r225
  try clear r225
  have r242 := (o233 q122 (by first | exact (Nat.ne_of_gt hq122) | omega)).trans r226
  try clear r226
  have r243 := (o233 q150 (by first | exact (Nat.ne_of_gt hq150) | omega)).trans r227
  try clear r227
  have r244 := (o233 q180 (by first | exact (Nat.ne_of_gt hq180) | omega)).trans r228
  try clear r228
  have r245 := (o233 q212 (by first | exact (Nat.ne_of_gt hq212) | omega)).trans r217
  try clear o233; try clear r217
  refine lv_aload_n hxx hb dX12_init_85 rfl (lv_at hl 0 rfl) ?_
  refine lv_bipush (v := 10) hxx hb dX12_init_86 (by decide) ?_
  refine b_newa E S235 bw_56 (t := 1) rfl (fun _ _ => rfl) (N' := 10) (by decide) (by decide) (by decide) (Nat.le_of_ble_eq_true rfl) (Nat.le_of_ble_eq_true rfl) dX12_init_88 (fun q246 H247 e248 z249 o250 r251 S252 => ?_)
  have hq246 : h < q246 := by first | exact Nat.lt_of_lt_of_eq t237 e248.symm | omega
  have gg_q246 : s.heap.size ≤ q246 := Nat.le_trans S235.1 (Nat.le_of_eq e248.symm)
  have mm_q246 : q246 < H247.size := by rw [z249, e248]; exact Nat.lt_succ_self _
  have cc_q246 : q212 < q246 := by first | exact Nat.lt_of_lt_of_eq (Nat.lt_of_lt_of_le mm_q212 (Nat.le_of_eq z232.symm)) e248.symm | omega
  try clear S235
  have w253 : q_w X σ H247 := w236.kept (fun a ha => o250 a (w236.lt ha))
  have b254 := b234.kept (o250 h t237)
  try clear b234
  have t255 := t_lt b254
  try clear t237
  have r256 := (o250 q8 (raw_lt r238)).trans r238
  try clear r238
  have r257 := (o250 q28 (raw_lt r239)).trans r239
  try clear r239
  have r258 := (o250 q50 (raw_lt r240)).trans r240
  try clear r240
  have r259 := (o250 q74 (raw_lt r241)).trans r241
  try clear r241
  have r260 := (o250 q122 (raw_lt r242)).trans r242
  try clear r242
  have r261 := (o250 q150 (raw_lt r243)).trans r243
  try clear r243
  have r262 := (o250 q180 (raw_lt r244)).trans r244
  try clear r244
  have r263 := (o250 q212 (raw_lt r245)).trans r245
  try clear o250; try clear r245
  have k264 : q_kd X q246 = 0 := w236.fresh (Nat.le_of_eq e248.symm)
  try clear w236
  have g265 := S252.1
  refine b_put E S252 hAh hnm (f := 28) b254 (show vwCl[11]? = some (RX12, TX12, 46) from rfl) q_inX12 tyX12_ok nmX12 (by decide) bw_1453 rfl (fun _ => rfl) (tyX12_ok 28 (by decide)) rfl rfl dX12_init_90 (fun H266 locs1 z267 o268 b269 S270 => ?_)
  try clear b254; try clear S252
  have w271 : q_w X σ H266 := w253.kept (fun a ha => o268 a (fun e => ha (by rw [e]; exact h00)))
  try clear w253
  have t272 := t_lt b269
  try clear t255
  have r273 := (o268 q8 (by first | exact (Nat.ne_of_gt hq8) | omega)).trans r256
  try clear r256
  have r274 := (o268 q28 (by first | exact (Nat.ne_of_gt hq28) | omega)).trans r257
  try clear r257
  have r275 := (o268 q50 (by first | exact (Nat.ne_of_gt hq50) | omega)).trans r258
  try clear r258
  have r276 := (o268 q74 (by first | exact (Nat.ne_of_gt hq74) | omega)).trans r259
  try clear r259
  have r277 := (o268 q122 (by first | exact (Nat.ne_of_gt hq122) | omega)).trans r260
  try clear r260
  have r278 := (o268 q150 (by first | exact (Nat.ne_of_gt hq150) | omega)).trans r261
  try clear r261
  have r279 := (o268 q180 (by first | exact (Nat.ne_of_gt hq180) | omega)).trans r262
  try clear r262
  have r280 := (o268 q212 (by first | exact (Nat.ne_of_gt hq212) | omega)).trans r263
  try clear r263
  have r281 := (o268 q246 (by first | exact (Nat.ne_of_gt hq246) | omega)).trans r251
  try clear o268; try clear r251
  refine lv_aload_n hxx hb dX12_init_93 rfl (lv_at hl 0 rfl) ?_
  refine lv_iconst (v := 4) hxx hb dX12_init_94 (by decide) ?_
  refine b_newa E S270 bw_56 (t := 1) rfl (fun _ _ => rfl) (N' := 4) (by decide) (by decide) (by decide) (Nat.le_of_ble_eq_true rfl) (Nat.le_of_ble_eq_true rfl) dX12_init_95 (fun q282 H283 e284 z285 o286 r287 S288 => ?_)
  have hq282 : h < q282 := by first | exact Nat.lt_of_lt_of_eq t272 e284.symm | omega
  have gg_q282 : s.heap.size ≤ q282 := Nat.le_trans S270.1 (Nat.le_of_eq e284.symm)
  have mm_q282 : q282 < H283.size := by rw [z285, e284]; exact Nat.lt_succ_self _
  have cc_q282 : q246 < q282 := by first | exact Nat.lt_of_lt_of_eq (Nat.lt_of_lt_of_le mm_q246 (Nat.le_of_eq z267.symm)) e284.symm | omega
  try clear S270
  have w289 : q_w X σ H283 := w271.kept (fun a ha => o286 a (w271.lt ha))
  have b290 := b269.kept (o286 h t272)
  try clear b269
  have t291 := t_lt b290
  try clear t272
  have r292 := (o286 q8 (raw_lt r273)).trans r273
  try clear r273
  have r293 := (o286 q28 (raw_lt r274)).trans r274
  try clear r274
  have r294 := (o286 q50 (raw_lt r275)).trans r275
  try clear r275
  have r295 := (o286 q74 (raw_lt r276)).trans r276
  try clear r276
  have r296 := (o286 q122 (raw_lt r277)).trans r277
  try clear r277
  have r297 := (o286 q150 (raw_lt r278)).trans r278
  try clear r278
  have r298 := (o286 q180 (raw_lt r279)).trans r279
  try clear r279
  have r299 := (o286 q212 (raw_lt r280)).trans r280
  try clear r280
  have r300 := (o286 q246 (raw_lt r281)).trans r281
  try clear o286; try clear r281
  have k301 : q_kd X q282 = 0 := w271.fresh (Nat.le_of_eq e284.symm)
  try clear w271
  have g302 := S288.1
  refine b_put E S288 hAh hnm (f := 29) b290 (show vwCl[11]? = some (RX12, TX12, 46) from rfl) q_inX12 tyX12_ok nmX12 (by decide) bw_1454 rfl (fun _ => rfl) (tyX12_ok 29 (by decide)) rfl rfl dX12_init_97 (fun H303 locs1 z304 o305 b306 S307 => ?_)
  try clear b290; try clear S288
  have w308 : q_w X σ H303 := w289.kept (fun a ha => o305 a (fun e => ha (by rw [e]; exact h00)))
  try clear w289
  have t309 := t_lt b306
  try clear t291
  have r310 := (o305 q8 (by first | exact (Nat.ne_of_gt hq8) | omega)).trans r292
  try clear r292
  have r311 := (o305 q28 (by first | exact (Nat.ne_of_gt hq28) | omega)).trans r293
  try clear r293
  have r312 := (o305 q50 (by first | exact (Nat.ne_of_gt hq50) | omega)).trans r294
  try clear r294
  have r313 := (o305 q74 (by first | exact (Nat.ne_of_gt hq74) | omega)).trans r295
  try clear r295
  have r314 := (o305 q122 (by first | exact (Nat.ne_of_gt hq122) | omega)).trans r296
  try clear r296
  have r315 := (o305 q150 (by first | exact (Nat.ne_of_gt hq150) | omega)).trans r297
  try clear r297
  have r316 := (o305 q180 (by first | exact (Nat.ne_of_gt hq180) | omega)).trans r298
  try clear r298
  have r317 := (o305 q212 (by first | exact (Nat.ne_of_gt hq212) | omega)).trans r299
  try clear r299
  have r318 := (o305 q246 (by first | exact (Nat.ne_of_gt hq246) | omega)).trans r300
  try clear r300
  have r319 := (o305 q282 (by first | exact (Nat.ne_of_gt hq282) | omega)).trans r287
  try clear o305; try clear r287
  refine lv_aload_n hxx hb dX12_init_100 rfl (lv_at hl 0 rfl) ?_
  refine lv_bipush (v := 10) hxx hb dX12_init_101 (by decide) ?_
  refine b_newa E S307 bw_56 (t := 1) rfl (fun _ _ => rfl) (N' := 10) (by decide) (by decide) (by decide) (Nat.le_of_ble_eq_true rfl) (Nat.le_of_ble_eq_true rfl) dX12_init_103 (fun q320 H321 e322 z323 o324 r325 S326 => ?_)
  have hq320 : h < q320 := by first | exact Nat.lt_of_lt_of_eq t309 e322.symm | omega
  have gg_q320 : s.heap.size ≤ q320 := Nat.le_trans S307.1 (Nat.le_of_eq e322.symm)
  have mm_q320 : q320 < H321.size := by rw [z323, e322]; exact Nat.lt_succ_self _
  have cc_q320 : q282 < q320 := by first | exact Nat.lt_of_lt_of_eq (Nat.lt_of_lt_of_le mm_q282 (Nat.le_of_eq z304.symm)) e322.symm | omega
  try clear S307
  have w327 : q_w X σ H321 := w308.kept (fun a ha => o324 a (w308.lt ha))
  have b328 := b306.kept (o324 h t309)
  try clear b306
  have t329 := t_lt b328
  try clear t309
  have r330 := (o324 q8 (raw_lt r310)).trans r310
  try clear r310
  have r331 := (o324 q28 (raw_lt r311)).trans r311
  try clear r311
  have r332 := (o324 q50 (raw_lt r312)).trans r312
  try clear r312
  have r333 := (o324 q74 (raw_lt r313)).trans r313
  try clear r313
  have r334 := (o324 q122 (raw_lt r314)).trans r314
  try clear r314
  have r335 := (o324 q150 (raw_lt r315)).trans r315
  try clear r315
  have r336 := (o324 q180 (raw_lt r316)).trans r316
  try clear r316
  have r337 := (o324 q212 (raw_lt r317)).trans r317
  try clear r317
  have r338 := (o324 q246 (raw_lt r318)).trans r318
  try clear r318
  have r339 := (o324 q282 (raw_lt r319)).trans r319
  try clear o324; try clear r319
  have k340 : q_kd X q320 = 0 := w308.fresh (Nat.le_of_eq e322.symm)
  try clear w308
  have g341 := S326.1
  refine b_put E S326 hAh hnm (f := 32) b328 (show vwCl[11]? = some (RX12, TX12, 46) from rfl) q_inX12 tyX12_ok nmX12 (by decide) bw_1457 rfl (fun _ => rfl) (tyX12_ok 32 (by decide)) rfl rfl dX12_init_105 (fun H342 locs1 z343 o344 b345 S346 => ?_)
  try clear b328; try clear S326
  have w347 : q_w X σ H342 := w327.kept (fun a ha => o344 a (fun e => ha (by rw [e]; exact h00)))
  try clear w327
  have t348 := t_lt b345
  try clear t329
  have r349 := (o344 q8 (by first | exact (Nat.ne_of_gt hq8) | omega)).trans r330
  try clear r330
  have r350 := (o344 q28 (by first | exact (Nat.ne_of_gt hq28) | omega)).trans r331
  try clear r331
  have r351 := (o344 q50 (by first | exact (Nat.ne_of_gt hq50) | omega)).trans r332
  try clear r332
  have r352 := (o344 q74 (by first | exact (Nat.ne_of_gt hq74) | omega)).trans r333
  try clear r333
  have r353 := (o344 q122 (by first | exact (Nat.ne_of_gt hq122) | omega)).trans r334
  try clear r334
  have r354 := (o344 q150 (by first | exact (Nat.ne_of_gt hq150) | omega)).trans r335
  try clear r335
  have r355 := (o344 q180 (by first | exact (Nat.ne_of_gt hq180) | omega)).trans r336
  try clear r336
  have r356 := (o344 q212 (by first | exact (Nat.ne_of_gt hq212) | omega)).trans r337
  try clear r337
  have r357 := (o344 q246 (by first | exact (Nat.ne_of_gt hq246) | omega)).trans r338
  try clear r338
  have r358 := (o344 q282 (by first | exact (Nat.ne_of_gt hq282) | omega)).trans r339
  try clear r339
  have r359 := (o344 q320 (by first | exact (Nat.ne_of_gt hq320) | omega)).trans r325
  try clear o344; try clear r325
  refine lv_aload_n hxx hb dX12_init_108 rfl (lv_at hl 0 rfl) ?_
  refine lv_iconst (v := 5) hxx hb dX12_init_109 (by decide) ?_
  refine b_newa E S346 bw_56 (t := 1) rfl (fun _ _ => rfl) (N' := 5) (by decide) (by decide) (by decide) (Nat.le_of_ble_eq_true rfl) (Nat.le_of_ble_eq_true rfl) dX12_init_110 (fun q360 H361 e362 z363 o364 r365 S366 => ?_)
  have hq360 : h < q360 := by first | exact Nat.lt_of_lt_of_eq t348 e362.symm | omega
  have gg_q360 : s.heap.size ≤ q360 := Nat.le_trans S346.1 (Nat.le_of_eq e362.symm)
  have mm_q360 : q360 < H361.size := by rw [z363, e362]; exact Nat.lt_succ_self _
  have cc_q360 : q320 < q360 := by first | exact Nat.lt_of_lt_of_eq (Nat.lt_of_lt_of_le mm_q320 (Nat.le_of_eq z343.symm)) e362.symm | omega
  try clear S346
  have w367 : q_w X σ H361 := w347.kept (fun a ha => o364 a (w347.lt ha))
  have b368 := b345.kept (o364 h t348)
  try clear b345
  have t369 := t_lt b368
  try clear t348
  have r370 := (o364 q8 (raw_lt r349)).trans r349
  try clear r349
  have r371 := (o364 q28 (raw_lt r350)).trans r350
  try clear r350
  have r372 := (o364 q50 (raw_lt r351)).trans r351
  try clear r351
  have r373 := (o364 q74 (raw_lt r352)).trans r352
  try clear r352
  have r374 := (o364 q122 (raw_lt r353)).trans r353
  try clear r353
  have r375 := (o364 q150 (raw_lt r354)).trans r354
  try clear r354
  have r376 := (o364 q180 (raw_lt r355)).trans r355
  try clear r355
  have r377 := (o364 q212 (raw_lt r356)).trans r356
  try clear r356
  have r378 := (o364 q246 (raw_lt r357)).trans r357
  try clear r357
  have r379 := (o364 q282 (raw_lt r358)).trans r358
  try clear r358
  have r380 := (o364 q320 (raw_lt r359)).trans r359
  try clear o364; try clear r359
  have k381 : q_kd X q360 = 0 := w347.fresh (Nat.le_of_eq e362.symm)
  try clear w347
  have g382 := S366.1
  refine b_put E S366 hAh hnm (f := 36) b368 (show vwCl[11]? = some (RX12, TX12, 46) from rfl) q_inX12 tyX12_ok nmX12 (by decide) bw_1461 rfl (fun _ => rfl) (tyX12_ok 36 (by decide)) rfl rfl dX12_init_112 (fun H383 locs1 z384 o385 b386 S387 => ?_)
  try clear b368; try clear S366
  have w388 : q_w X σ H383 := w367.kept (fun a ha => o385 a (fun e => ha (by rw [e]; exact h00)))
  try clear w367
  have t389 := t_lt b386
  try clear t369
  have r390 := (o385 q8 (by first | exact (Nat.ne_of_gt hq8) | omega)).trans r370
  try clear r370
  have r391 := (o385 q28 (by first | exact (Nat.ne_of_gt hq28) | omega)).trans r371
  try clear r371
  have r392 := (o385 q50 (by first | exact (Nat.ne_of_gt hq50) | omega)).trans r372
  try clear r372
  have r393 := (o385 q74 (by first | exact (Nat.ne_of_gt hq74) | omega)).trans r373
  try clear r373
  have r394 := (o385 q122 (by first | exact (Nat.ne_of_gt hq122) | omega)).trans r374
  try clear r374
  have r395 := (o385 q150 (by first | exact (Nat.ne_of_gt hq150) | omega)).trans r375
  try clear r375
  have r396 := (o385 q180 (by first | exact (Nat.ne_of_gt hq180) | omega)).trans r376
  try clear r376
  have r397 := (o385 q212 (by first | exact (Nat.ne_of_gt hq212) | omega)).trans r377
  try clear r377
  have r398 := (o385 q246 (by first | exact (Nat.ne_of_gt hq246) | omega)).trans r378
  try clear r378
  have r399 := (o385 q282 (by first | exact (Nat.ne_of_gt hq282) | omega)).trans r379
  try clear r379
  have r400 := (o385 q320 (by first | exact (Nat.ne_of_gt hq320) | omega)).trans r380
  try clear r380
  have r401 := (o385 q360 (by first | exact (Nat.ne_of_gt hq360) | omega)).trans r365
  try clear o385; try clear r365
  refine lv_iconst (v := 0) hxx hb dX12_init_115 (by decide) ?_
  refine lv_istore_n (lv' := [(1, .int 0), (0, .ref h)]) hxx hb dX12_init_116 rfl hl (by decide) rfl (fun ls hl => ?_)
  refine lv_iload_n hxx hb dX12_init_117 rfl (lv_at hl 0 rfl) ?_
  refine lv_iconst (v := 4) hxx hb dX12_init_118 (by decide) ?_
  refine lv_icmp_ge hxx hb dX12_init_119 (tgt := 135) (by decide) (fun q => absurd q (by decide)) (fun _ => ?_)
  refine lv_aload_n hxx hb dX12_init_122 rfl (lv_at hl 1 rfl) ?_
  refine b_get E (f := 5) b386 (show vwCl[11]? = some (RX12, TX12, 46) from rfl) q_inX12 (by decide) bw_1430 rfl (v := .ref q28) rfl dX12_init_123 ?_
  refine lv_iload_n hxx hb dX12_init_126 rfl (lv_at hl 0 rfl) ?_
  refine lv_iconst (v := (-1)) hxx hb dX12_init_127 (by decide) ?_
  refine b_iast E S387 (Or.inr gg_q28) (g := (fun _ => 0 : Nat → Int32)) r391 (by decide) (by decide) dX12_init_128 (fun H402 locs1 z403 o404 r405 S406 => ?_)
  try clear r391; try clear S387
  have w407 : q_w X σ H402 := w388.kept (fun a ha => o404 a (fun e => ha (by rw [e]; exact k39)))
  try clear w388
  have b408 := b386.kept (o404 h (by first | exact (Nat.ne_of_lt hq28) | omega))
  try clear b386
  have t409 := t_lt b408
  try clear t389
  have r410 := (o404 q8 (by first | exact (Nat.ne_of_lt cc_q28) | omega)).trans r390
  try clear r390
  have r411 := (o404 q50 (by first | exact (Nat.ne_of_gt cc_q50) | omega)).trans r392
  try clear r392
  have r412 := (o404 q74 (by first | exact (Nat.ne_of_gt (Nat.lt_trans cc_q50 cc_q74)) | omega)).trans r393
  try clear r393
  have r413 := (o404 q122 (by first | exact (Nat.ne_of_gt (Nat.lt_trans (Nat.lt_trans cc_q50 cc_q74) cc_q122)) | omega)).trans r394
  try clear r394
  have r414 := (o404 q150 (by first | exact (Nat.ne_of_gt (Nat.lt_trans (Nat.lt_trans (Nat.lt_trans cc_q50 cc_q74) cc_q122) cc_q150)) | omega)).trans r395
  try clear r395
  have r415 := (o404 q180 (by first | exact (Nat.ne_of_gt (Nat.lt_trans (Nat.lt_trans (Nat.lt_trans (Nat.lt_trans cc_q50 cc_q74) cc_q122) cc_q150) cc_q180)) | omega)).trans r396
  try clear r396
  have r416 := (o404 q212 (by first | exact (Nat.ne_of_gt (Nat.lt_trans (Nat.lt_trans (Nat.lt_trans (Nat.lt_trans (Nat.lt_trans cc_q50 cc_q74) cc_q122) cc_q150) cc_q180) cc_q212)) | omega)).trans r397
  try clear r397
  have r417 := (o404 q246 (by first | exact (Nat.ne_of_gt (Nat.lt_trans (Nat.lt_trans (Nat.lt_trans (Nat.lt_trans (Nat.lt_trans (Nat.lt_trans cc_q50 cc_q74) cc_q122) cc_q150) cc_q180) cc_q212) cc_q246)) | omega)).trans r398
  try clear r398
  have r418 := (o404 q282 (by first | exact (Nat.ne_of_gt (Nat.lt_trans (Nat.lt_trans (Nat.lt_trans (Nat.lt_trans (Nat.lt_trans (Nat.lt_trans (Nat.lt_trans cc_q50 cc_q74) cc_q122) cc_q150) cc_q180) cc_q212) cc_q246) cc_q282)) | omega)).trans r399
  try clear r399
  have r419 := (o404 q320 (by first | exact (Nat.ne_of_gt (Nat.lt_trans (Nat.lt_trans (Nat.lt_trans (Nat.lt_trans (Nat.lt_trans (Nat.lt_trans (Nat.lt_trans (Nat.lt_trans cc_q50 cc_q74) cc_q122) cc_q150) cc_q180) cc_q212) cc_q246) cc_q282) cc_q320)) | omega)).trans r400
  try clear r400
  have r420 := (o404 q360 (by first | exact (Nat.ne_of_gt (Nat.lt_trans (Nat.lt_trans (Nat.lt_trans (Nat.lt_trans (Nat.lt_trans (Nat.lt_trans (Nat.lt_trans (Nat.lt_trans (Nat.lt_trans cc_q50 cc_q74) cc_q122) cc_q150) cc_q180) cc_q212) cc_q246) cc_q282) cc_q320) cc_q360)) | omega)).trans r401
  try clear o404; try clear r401
  refine lv_iinc (v := 1) (lv' := [(1, .int 1), (0, .ref h)]) hxx hb dX12_init_129 hl (k := 0) rfl (by decide) (by decide) rfl (fun ls hl => ?_)
  refine lv_goto (tgt := 117) hxx hb dX12_init_132 (by decide) ?_
  refine lv_iload_n hxx hb dX12_init_117 rfl (lv_at hl 0 rfl) ?_
  refine lv_iconst (v := 4) hxx hb dX12_init_118 (by decide) ?_
  refine lv_icmp_ge hxx hb dX12_init_119 (tgt := 135) (by decide) (fun q => absurd q (by decide)) (fun _ => ?_)
  refine lv_aload_n hxx hb dX12_init_122 rfl (lv_at hl 1 rfl) ?_
  refine b_get E (f := 5) b408 (show vwCl[11]? = some (RX12, TX12, 46) from rfl) q_inX12 (by decide) bw_1430 rfl (v := .ref q28) rfl dX12_init_123 ?_
  refine lv_iload_n hxx hb dX12_init_126 rfl (lv_at hl 0 rfl) ?_
  refine lv_iconst (v := (-1)) hxx hb dX12_init_127 (by decide) ?_
  refine b_iast E S406 (Or.inr gg_q28) (g := (fun j => if j = (0 : Int32).toNatClampNeg then ((-1) : Int32) else (fun _ => 0 : Nat → Int32) j)) r405 (by decide) (by decide) dX12_init_128 (fun H421 locs1 z422 o423 r424 S425 => ?_)
  try clear S406; try clear r405
  have w426 : q_w X σ H421 := w407.kept (fun a ha => o423 a (fun e => ha (by rw [e]; exact k39)))
  try clear w407
  have b427 := b408.kept (o423 h (by first | exact (Nat.ne_of_lt hq28) | omega))
  try clear b408
  have t428 := t_lt b427
  try clear t409
  have r429 := (o423 q8 (by first | exact (Nat.ne_of_lt cc_q28) | omega)).trans r410
  try clear r410
  have r430 := (o423 q50 (by first | exact (Nat.ne_of_gt cc_q50) | omega)).trans r411
  try clear r411
  have r431 := (o423 q74 (by first | exact (Nat.ne_of_gt (Nat.lt_trans cc_q50 cc_q74)) | omega)).trans r412
  try clear r412
  have r432 := (o423 q122 (by first | exact (Nat.ne_of_gt (Nat.lt_trans (Nat.lt_trans cc_q50 cc_q74) cc_q122)) | omega)).trans r413
  try clear r413
  have r433 := (o423 q150 (by first | exact (Nat.ne_of_gt (Nat.lt_trans (Nat.lt_trans (Nat.lt_trans cc_q50 cc_q74) cc_q122) cc_q150)) | omega)).trans r414
  try clear r414
  have r434 := (o423 q180 (by first | exact (Nat.ne_of_gt (Nat.lt_trans (Nat.lt_trans (Nat.lt_trans (Nat.lt_trans cc_q50 cc_q74) cc_q122) cc_q150) cc_q180)) | omega)).trans r415
  try clear r415
  have r435 := (o423 q212 (by first | exact (Nat.ne_of_gt (Nat.lt_trans (Nat.lt_trans (Nat.lt_trans (Nat.lt_trans (Nat.lt_trans cc_q50 cc_q74) cc_q122) cc_q150) cc_q180) cc_q212)) | omega)).trans r416
  try clear r416
  have r436 := (o423 q246 (by first | exact (Nat.ne_of_gt (Nat.lt_trans (Nat.lt_trans (Nat.lt_trans (Nat.lt_trans (Nat.lt_trans (Nat.lt_trans cc_q50 cc_q74) cc_q122) cc_q150) cc_q180) cc_q212) cc_q246)) | omega)).trans r417
  try clear r417
  have r437 := (o423 q282 (by first | exact (Nat.ne_of_gt (Nat.lt_trans (Nat.lt_trans (Nat.lt_trans (Nat.lt_trans (Nat.lt_trans (Nat.lt_trans (Nat.lt_trans cc_q50 cc_q74) cc_q122) cc_q150) cc_q180) cc_q212) cc_q246) cc_q282)) | omega)).trans r418
  try clear r418
  have r438 := (o423 q320 (by first | exact (Nat.ne_of_gt (Nat.lt_trans (Nat.lt_trans (Nat.lt_trans (Nat.lt_trans (Nat.lt_trans (Nat.lt_trans (Nat.lt_trans (Nat.lt_trans cc_q50 cc_q74) cc_q122) cc_q150) cc_q180) cc_q212) cc_q246) cc_q282) cc_q320)) | omega)).trans r419
  try clear r419
  have r439 := (o423 q360 (by first | exact (Nat.ne_of_gt (Nat.lt_trans (Nat.lt_trans (Nat.lt_trans (Nat.lt_trans (Nat.lt_trans (Nat.lt_trans (Nat.lt_trans (Nat.lt_trans (Nat.lt_trans cc_q50 cc_q74) cc_q122) cc_q150) cc_q180) cc_q212) cc_q246) cc_q282) cc_q320) cc_q360)) | omega)).trans r420
  try clear o423; try clear r420
  refine lv_iinc (v := 2) (lv' := [(1, .int 2), (0, .ref h)]) hxx hb dX12_init_129 hl (k := 0) rfl (by decide) (by decide) rfl (fun ls hl => ?_)
  refine lv_goto (tgt := 117) hxx hb dX12_init_132 (by decide) ?_
  refine lv_iload_n hxx hb dX12_init_117 rfl (lv_at hl 0 rfl) ?_
  refine lv_iconst (v := 4) hxx hb dX12_init_118 (by decide) ?_
  refine lv_icmp_ge hxx hb dX12_init_119 (tgt := 135) (by decide) (fun q => absurd q (by decide)) (fun _ => ?_)
  refine lv_aload_n hxx hb dX12_init_122 rfl (lv_at hl 1 rfl) ?_
  refine b_get E (f := 5) b427 (show vwCl[11]? = some (RX12, TX12, 46) from rfl) q_inX12 (by decide) bw_1430 rfl (v := .ref q28) rfl dX12_init_123 ?_
  refine lv_iload_n hxx hb dX12_init_126 rfl (lv_at hl 0 rfl) ?_
  refine lv_iconst (v := (-1)) hxx hb dX12_init_127 (by decide) ?_
  refine b_iast E S425 (Or.inr gg_q28) (g := (fun j => if j = (1 : Int32).toNatClampNeg then ((-1) : Int32) else (fun j => if j = (0 : Int32).toNatClampNeg then ((-1) : Int32) else (fun _ => 0 : Nat → Int32) j) j)) r424 (by decide) (by decide) dX12_init_128 (fun H440 locs1 z441 o442 r443 S444 => ?_)
  try clear S425; try clear r424
  have w445 : q_w X σ H440 := w426.kept (fun a ha => o442 a (fun e => ha (by rw [e]; exact k39)))
  try clear w426
  have b446 := b427.kept (o442 h (by first | exact (Nat.ne_of_lt hq28) | omega))
  try clear b427
  have t447 := t_lt b446
  try clear t428
  have r448 := (o442 q8 (by first | exact (Nat.ne_of_lt cc_q28) | omega)).trans r429
  try clear r429
  have r449 := (o442 q50 (by first | exact (Nat.ne_of_gt cc_q50) | omega)).trans r430
  try clear r430
  have r450 := (o442 q74 (by first | exact (Nat.ne_of_gt (Nat.lt_trans cc_q50 cc_q74)) | omega)).trans r431
  try clear r431
  have r451 := (o442 q122 (by first | exact (Nat.ne_of_gt (Nat.lt_trans (Nat.lt_trans cc_q50 cc_q74) cc_q122)) | omega)).trans r432
  try clear r432
  have r452 := (o442 q150 (by first | exact (Nat.ne_of_gt (Nat.lt_trans (Nat.lt_trans (Nat.lt_trans cc_q50 cc_q74) cc_q122) cc_q150)) | omega)).trans r433
  try clear r433
  have r453 := (o442 q180 (by first | exact (Nat.ne_of_gt (Nat.lt_trans (Nat.lt_trans (Nat.lt_trans (Nat.lt_trans cc_q50 cc_q74) cc_q122) cc_q150) cc_q180)) | omega)).trans r434
  try clear r434
  have r454 := (o442 q212 (by first | exact (Nat.ne_of_gt (Nat.lt_trans (Nat.lt_trans (Nat.lt_trans (Nat.lt_trans (Nat.lt_trans cc_q50 cc_q74) cc_q122) cc_q150) cc_q180) cc_q212)) | omega)).trans r435
  try clear r435
  have r455 := (o442 q246 (by first | exact (Nat.ne_of_gt (Nat.lt_trans (Nat.lt_trans (Nat.lt_trans (Nat.lt_trans (Nat.lt_trans (Nat.lt_trans cc_q50 cc_q74) cc_q122) cc_q150) cc_q180) cc_q212) cc_q246)) | omega)).trans r436
  try clear r436
  have r456 := (o442 q282 (by first | exact (Nat.ne_of_gt (Nat.lt_trans (Nat.lt_trans (Nat.lt_trans (Nat.lt_trans (Nat.lt_trans (Nat.lt_trans (Nat.lt_trans cc_q50 cc_q74) cc_q122) cc_q150) cc_q180) cc_q212) cc_q246) cc_q282)) | omega)).trans r437
  try clear r437
  have r457 := (o442 q320 (by first | exact (Nat.ne_of_gt (Nat.lt_trans (Nat.lt_trans (Nat.lt_trans (Nat.lt_trans (Nat.lt_trans (Nat.lt_trans (Nat.lt_trans (Nat.lt_trans cc_q50 cc_q74) cc_q122) cc_q150) cc_q180) cc_q212) cc_q246) cc_q282) cc_q320)) | omega)).trans r438
  try clear r438
  have r458 := (o442 q360 (by first | exact (Nat.ne_of_gt (Nat.lt_trans (Nat.lt_trans (Nat.lt_trans (Nat.lt_trans (Nat.lt_trans (Nat.lt_trans (Nat.lt_trans (Nat.lt_trans (Nat.lt_trans cc_q50 cc_q74) cc_q122) cc_q150) cc_q180) cc_q212) cc_q246) cc_q282) cc_q320) cc_q360)) | omega)).trans r439
  try clear o442; try clear r439
  refine lv_iinc (v := 3) (lv' := [(1, .int 3), (0, .ref h)]) hxx hb dX12_init_129 hl (k := 0) rfl (by decide) (by decide) rfl (fun ls hl => ?_)
  refine lv_goto (tgt := 117) hxx hb dX12_init_132 (by decide) ?_
  refine lv_iload_n hxx hb dX12_init_117 rfl (lv_at hl 0 rfl) ?_
  refine lv_iconst (v := 4) hxx hb dX12_init_118 (by decide) ?_
  refine lv_icmp_ge hxx hb dX12_init_119 (tgt := 135) (by decide) (fun q => absurd q (by decide)) (fun _ => ?_)
  refine lv_aload_n hxx hb dX12_init_122 rfl (lv_at hl 1 rfl) ?_
  refine b_get E (f := 5) b446 (show vwCl[11]? = some (RX12, TX12, 46) from rfl) q_inX12 (by decide) bw_1430 rfl (v := .ref q28) rfl dX12_init_123 ?_
  refine lv_iload_n hxx hb dX12_init_126 rfl (lv_at hl 0 rfl) ?_
  refine lv_iconst (v := (-1)) hxx hb dX12_init_127 (by decide) ?_
  refine b_iast E S444 (Or.inr gg_q28) (g := (fun j => if j = (2 : Int32).toNatClampNeg then ((-1) : Int32) else (fun j => if j = (1 : Int32).toNatClampNeg then ((-1) : Int32) else (fun j => if j = (0 : Int32).toNatClampNeg then ((-1) : Int32) else (fun _ => 0 : Nat → Int32) j) j) j)) r443 (by decide) (by decide) dX12_init_128 (fun H459 locs1 z460 o461 r462 S463 => ?_)
  try clear S444; try clear r443
  have w464 : q_w X σ H459 := w445.kept (fun a ha => o461 a (fun e => ha (by rw [e]; exact k39)))
  try clear w445
  have b465 := b446.kept (o461 h (by first | exact (Nat.ne_of_lt hq28) | omega))
  try clear b446
  have t466 := t_lt b465
  try clear t447
  have r467 := (o461 q8 (by first | exact (Nat.ne_of_lt cc_q28) | omega)).trans r448
  try clear r448
  have r468 := (o461 q50 (by first | exact (Nat.ne_of_gt cc_q50) | omega)).trans r449
  try clear r449
  have r469 := (o461 q74 (by first | exact (Nat.ne_of_gt (Nat.lt_trans cc_q50 cc_q74)) | omega)).trans r450
  try clear r450
  have r470 := (o461 q122 (by first | exact (Nat.ne_of_gt (Nat.lt_trans (Nat.lt_trans cc_q50 cc_q74) cc_q122)) | omega)).trans r451
  try clear r451
  have r471 := (o461 q150 (by first | exact (Nat.ne_of_gt (Nat.lt_trans (Nat.lt_trans (Nat.lt_trans cc_q50 cc_q74) cc_q122) cc_q150)) | omega)).trans r452
  try clear r452
  have r472 := (o461 q180 (by first | exact (Nat.ne_of_gt (Nat.lt_trans (Nat.lt_trans (Nat.lt_trans (Nat.lt_trans cc_q50 cc_q74) cc_q122) cc_q150) cc_q180)) | omega)).trans r453
  try clear r453
  have r473 := (o461 q212 (by first | exact (Nat.ne_of_gt (Nat.lt_trans (Nat.lt_trans (Nat.lt_trans (Nat.lt_trans (Nat.lt_trans cc_q50 cc_q74) cc_q122) cc_q150) cc_q180) cc_q212)) | omega)).trans r454
  try clear r454
  have r474 := (o461 q246 (by first | exact (Nat.ne_of_gt (Nat.lt_trans (Nat.lt_trans (Nat.lt_trans (Nat.lt_trans (Nat.lt_trans (Nat.lt_trans cc_q50 cc_q74) cc_q122) cc_q150) cc_q180) cc_q212) cc_q246)) | omega)).trans r455
  try clear r455
  have r475 := (o461 q282 (by first | exact (Nat.ne_of_gt (Nat.lt_trans (Nat.lt_trans (Nat.lt_trans (Nat.lt_trans (Nat.lt_trans (Nat.lt_trans (Nat.lt_trans cc_q50 cc_q74) cc_q122) cc_q150) cc_q180) cc_q212) cc_q246) cc_q282)) | omega)).trans r456
  try clear r456
  have r476 := (o461 q320 (by first | exact (Nat.ne_of_gt (Nat.lt_trans (Nat.lt_trans (Nat.lt_trans (Nat.lt_trans (Nat.lt_trans (Nat.lt_trans (Nat.lt_trans (Nat.lt_trans cc_q50 cc_q74) cc_q122) cc_q150) cc_q180) cc_q212) cc_q246) cc_q282) cc_q320)) | omega)).trans r457
  try clear r457
  have r477 := (o461 q360 (by first | exact (Nat.ne_of_gt (Nat.lt_trans (Nat.lt_trans (Nat.lt_trans (Nat.lt_trans (Nat.lt_trans (Nat.lt_trans (Nat.lt_trans (Nat.lt_trans (Nat.lt_trans cc_q50 cc_q74) cc_q122) cc_q150) cc_q180) cc_q212) cc_q246) cc_q282) cc_q320) cc_q360)) | omega)).trans r458
  try clear o461; try clear r458
  refine lv_iinc (v := 4) (lv' := [(1, .int 4), (0, .ref h)]) hxx hb dX12_init_129 hl (k := 0) rfl (by decide) (by decide) rfl (fun ls hl => ?_)
  refine lv_goto (tgt := 117) hxx hb dX12_init_132 (by decide) ?_
  refine lv_iload_n hxx hb dX12_init_117 rfl (lv_at hl 0 rfl) ?_
  refine lv_iconst (v := 4) hxx hb dX12_init_118 (by decide) ?_
  refine lv_icmp_ge hxx hb dX12_init_119 (tgt := 135) (by decide) (fun _ => ?_) (fun q => absurd (by decide) q)
  refine lv_aload_n hxx hb dX12_init_135 rfl (lv_at hl 1 rfl) ?_
  refine b_get E (f := 20) b465 (show vwCl[11]? = some (RX12, TX12, 46) from rfl) q_inX12 (by decide) bw_1445 rfl (v := .ref q122) rfl dX12_init_136 ?_
  refine lv_iconst (v := 0) hxx hb dX12_init_139 (by decide) ?_
  refine lv_iconst (v := 2) hxx hb dX12_init_140 (by decide) ?_
  refine b_iast E S463 (Or.inr gg_q122) (g := (fun _ => 0 : Nat → Int32)) r470 (by decide) (by decide) dX12_init_141 (fun H478 locs1 z479 o480 r481 S482 => ?_)
  try clear r470; try clear S463
  have w483 : q_w X σ H478 := w464.kept (fun a ha => o480 a (fun e => ha (by rw [e]; exact k136)))
  try clear w464
  have b484 := b465.kept (o480 h (by first | exact (Nat.ne_of_lt hq122) | omega))
  try clear b465
  have t485 := t_lt b484
  try clear t466
  have r486 := (o480 q8 (by first | exact (Nat.ne_of_lt (Nat.lt_trans (Nat.lt_trans (Nat.lt_trans cc_q28 cc_q50) cc_q74) cc_q122)) | omega)).trans r467
  try clear r467
  have r487 := (o480 q28 (by first | exact (Nat.ne_of_lt (Nat.lt_trans (Nat.lt_trans cc_q50 cc_q74) cc_q122)) | omega)).trans r462
  try clear r462
  have r488 := (o480 q50 (by first | exact (Nat.ne_of_lt (Nat.lt_trans cc_q74 cc_q122)) | omega)).trans r468
  try clear r468
  have r489 := (o480 q74 (by first | exact (Nat.ne_of_lt cc_q122) | omega)).trans r469
  try clear r469
  have r490 := (o480 q150 (by first | exact (Nat.ne_of_gt cc_q150) | omega)).trans r471
  try clear r471
  have r491 := (o480 q180 (by first | exact (Nat.ne_of_gt (Nat.lt_trans cc_q150 cc_q180)) | omega)).trans r472
  try clear r472
  have r492 := (o480 q212 (by first | exact (Nat.ne_of_gt (Nat.lt_trans (Nat.lt_trans cc_q150 cc_q180) cc_q212)) | omega)).trans r473
  try clear r473
  have r493 := (o480 q246 (by first | exact (Nat.ne_of_gt (Nat.lt_trans (Nat.lt_trans (Nat.lt_trans cc_q150 cc_q180) cc_q212) cc_q246)) | omega)).trans r474
  try clear r474
  have r494 := (o480 q282 (by first | exact (Nat.ne_of_gt (Nat.lt_trans (Nat.lt_trans (Nat.lt_trans (Nat.lt_trans cc_q150 cc_q180) cc_q212) cc_q246) cc_q282)) | omega)).trans r475
  try clear r475
  have r495 := (o480 q320 (by first | exact (Nat.ne_of_gt (Nat.lt_trans (Nat.lt_trans (Nat.lt_trans (Nat.lt_trans (Nat.lt_trans cc_q150 cc_q180) cc_q212) cc_q246) cc_q282) cc_q320)) | omega)).trans r476
  try clear r476
  have r496 := (o480 q360 (by first | exact (Nat.ne_of_gt (Nat.lt_trans (Nat.lt_trans (Nat.lt_trans (Nat.lt_trans (Nat.lt_trans (Nat.lt_trans cc_q150 cc_q180) cc_q212) cc_q246) cc_q282) cc_q320) cc_q360)) | omega)).trans r477
  try clear o480; try clear r477
  refine lv_aload_n hxx hb dX12_init_142 rfl (lv_at hl 1 rfl) ?_
  refine b_get E (f := 20) b484 (show vwCl[11]? = some (RX12, TX12, 46) from rfl) q_inX12 (by decide) bw_1445 rfl (v := .ref q122) rfl dX12_init_143 ?_
  refine lv_iconst (v := 1) hxx hb dX12_init_146 (by decide) ?_
  refine lv_iconst (v := 1) hxx hb dX12_init_147 (by decide) ?_
  refine b_iast E S482 (Or.inr gg_q122) (g := (fun j => if j = (0 : Int32).toNatClampNeg then (2 : Int32) else (fun _ => 0 : Nat → Int32) j)) r481 (by decide) (by decide) dX12_init_148 (fun H497 locs1 z498 o499 r500 S501 => ?_)
  try clear S482; try clear r481
  have w502 : q_w X σ H497 := w483.kept (fun a ha => o499 a (fun e => ha (by rw [e]; exact k136)))
  try clear w483
  have b503 := b484.kept (o499 h (by first | exact (Nat.ne_of_lt hq122) | omega))
  try clear b484
  have t504 := t_lt b503
  try clear t485
  have r505 := (o499 q8 (by first | exact (Nat.ne_of_lt (Nat.lt_trans (Nat.lt_trans (Nat.lt_trans cc_q28 cc_q50) cc_q74) cc_q122)) | omega)).trans r486
  try clear r486
  have r506 := (o499 q28 (by first | exact (Nat.ne_of_lt (Nat.lt_trans (Nat.lt_trans cc_q50 cc_q74) cc_q122)) | omega)).trans r487
  try clear r487
  have r507 := (o499 q50 (by first | exact (Nat.ne_of_lt (Nat.lt_trans cc_q74 cc_q122)) | omega)).trans r488
  try clear r488
  have r508 := (o499 q74 (by first | exact (Nat.ne_of_lt cc_q122) | omega)).trans r489
  try clear r489
  have r509 := (o499 q150 (by first | exact (Nat.ne_of_gt cc_q150) | omega)).trans r490
  try clear r490
  have r510 := (o499 q180 (by first | exact (Nat.ne_of_gt (Nat.lt_trans cc_q150 cc_q180)) | omega)).trans r491
  try clear r491
  have r511 := (o499 q212 (by first | exact (Nat.ne_of_gt (Nat.lt_trans (Nat.lt_trans cc_q150 cc_q180) cc_q212)) | omega)).trans r492
  try clear r492
  have r512 := (o499 q246 (by first | exact (Nat.ne_of_gt (Nat.lt_trans (Nat.lt_trans (Nat.lt_trans cc_q150 cc_q180) cc_q212) cc_q246)) | omega)).trans r493
  try clear r493
  have r513 := (o499 q282 (by first | exact (Nat.ne_of_gt (Nat.lt_trans (Nat.lt_trans (Nat.lt_trans (Nat.lt_trans cc_q150 cc_q180) cc_q212) cc_q246) cc_q282)) | omega)).trans r494
  try clear r494
  have r514 := (o499 q320 (by first | exact (Nat.ne_of_gt (Nat.lt_trans (Nat.lt_trans (Nat.lt_trans (Nat.lt_trans (Nat.lt_trans cc_q150 cc_q180) cc_q212) cc_q246) cc_q282) cc_q320)) | omega)).trans r495
  try clear r495
  have r515 := (o499 q360 (by first | exact (Nat.ne_of_gt (Nat.lt_trans (Nat.lt_trans (Nat.lt_trans (Nat.lt_trans (Nat.lt_trans (Nat.lt_trans cc_q150 cc_q180) cc_q212) cc_q246) cc_q282) cc_q320) cc_q360)) | omega)).trans r496
  try clear o499; try clear r496
  refine lv_aload_n hxx hb dX12_init_149 rfl (lv_at hl 1 rfl) ?_
  refine b_get E (f := 20) b503 (show vwCl[11]? = some (RX12, TX12, 46) from rfl) q_inX12 (by decide) bw_1445 rfl (v := .ref q122) rfl dX12_init_150 ?_
  refine lv_iconst (v := 4) hxx hb dX12_init_153 (by decide) ?_
  refine lv_iconst (v := 4) hxx hb dX12_init_154 (by decide) ?_
  refine b_iast E S501 (Or.inr gg_q122) (g := (fun j => if j = (1 : Int32).toNatClampNeg then (1 : Int32) else (fun j => if j = (0 : Int32).toNatClampNeg then (2 : Int32) else (fun _ => 0 : Nat → Int32) j) j)) r500 (by decide) (by decide) dX12_init_155 (fun H516 locs1 z517 o518 r519 S520 => ?_)
  try clear S501; try clear r500
  have w521 : q_w X σ H516 := w502.kept (fun a ha => o518 a (fun e => ha (by rw [e]; exact k136)))
  try clear w502
  have b522 := b503.kept (o518 h (by first | exact (Nat.ne_of_lt hq122) | omega))
  try clear b503
  have t523 := t_lt b522
  try clear t504
  have r524 := (o518 q8 (by first | exact (Nat.ne_of_lt (Nat.lt_trans (Nat.lt_trans (Nat.lt_trans cc_q28 cc_q50) cc_q74) cc_q122)) | omega)).trans r505
  try clear r505
  have r525 := (o518 q28 (by first | exact (Nat.ne_of_lt (Nat.lt_trans (Nat.lt_trans cc_q50 cc_q74) cc_q122)) | omega)).trans r506
  try clear r506
  have r526 := (o518 q50 (by first | exact (Nat.ne_of_lt (Nat.lt_trans cc_q74 cc_q122)) | omega)).trans r507
  try clear r507
  have r527 := (o518 q74 (by first | exact (Nat.ne_of_lt cc_q122) | omega)).trans r508
  try clear r508
  have r528 := (o518 q150 (by first | exact (Nat.ne_of_gt cc_q150) | omega)).trans r509
  try clear r509
  have r529 := (o518 q180 (by first | exact (Nat.ne_of_gt (Nat.lt_trans cc_q150 cc_q180)) | omega)).trans r510
  try clear r510
  have r530 := (o518 q212 (by first | exact (Nat.ne_of_gt (Nat.lt_trans (Nat.lt_trans cc_q150 cc_q180) cc_q212)) | omega)).trans r511
  try clear r511
  have r531 := (o518 q246 (by first | exact (Nat.ne_of_gt (Nat.lt_trans (Nat.lt_trans (Nat.lt_trans cc_q150 cc_q180) cc_q212) cc_q246)) | omega)).trans r512
  try clear r512
  have r532 := (o518 q282 (by first | exact (Nat.ne_of_gt (Nat.lt_trans (Nat.lt_trans (Nat.lt_trans (Nat.lt_trans cc_q150 cc_q180) cc_q212) cc_q246) cc_q282)) | omega)).trans r513
  try clear r513
  have r533 := (o518 q320 (by first | exact (Nat.ne_of_gt (Nat.lt_trans (Nat.lt_trans (Nat.lt_trans (Nat.lt_trans (Nat.lt_trans cc_q150 cc_q180) cc_q212) cc_q246) cc_q282) cc_q320)) | omega)).trans r514
  try clear r514
  have r534 := (o518 q360 (by first | exact (Nat.ne_of_gt (Nat.lt_trans (Nat.lt_trans (Nat.lt_trans (Nat.lt_trans (Nat.lt_trans (Nat.lt_trans cc_q150 cc_q180) cc_q212) cc_q246) cc_q282) cc_q320) cc_q360)) | omega)).trans r515
  try clear o518; try clear r515
  refine lv_aload_n hxx hb dX12_init_156 rfl (lv_at hl 1 rfl) ?_
  refine b_get E (f := 20) b522 (show vwCl[11]? = some (RX12, TX12, 46) from rfl) q_inX12 (by decide) bw_1445 rfl (v := .ref q122) rfl dX12_init_157 ?_
  refine lv_bipush (v := 8) hxx hb dX12_init_160 (by decide) ?_
  refine lv_iconst (v := (-1)) hxx hb dX12_init_162 (by decide) ?_
  refine b_iast E S520 (Or.inr gg_q122) (g := (fun j => if j = (4 : Int32).toNatClampNeg then (4 : Int32) else (fun j => if j = (1 : Int32).toNatClampNeg then (1 : Int32) else (fun j => if j = (0 : Int32).toNatClampNeg then (2 : Int32) else (fun _ => 0 : Nat → Int32) j) j) j)) r519 (by decide) (by decide) dX12_init_163 (fun H535 locs1 z536 o537 r538 S539 => ?_)
  try clear S520; try clear r519
  have w540 : q_w X σ H535 := w521.kept (fun a ha => o537 a (fun e => ha (by rw [e]; exact k136)))
  try clear w521
  have b541 := b522.kept (o537 h (by first | exact (Nat.ne_of_lt hq122) | omega))
  try clear b522
  have t542 := t_lt b541
  try clear t523
  have r543 := (o537 q8 (by first | exact (Nat.ne_of_lt (Nat.lt_trans (Nat.lt_trans (Nat.lt_trans cc_q28 cc_q50) cc_q74) cc_q122)) | omega)).trans r524
  try clear r524
  have r544 := (o537 q28 (by first | exact (Nat.ne_of_lt (Nat.lt_trans (Nat.lt_trans cc_q50 cc_q74) cc_q122)) | omega)).trans r525
  try clear r525
  have r545 := (o537 q50 (by first | exact (Nat.ne_of_lt (Nat.lt_trans cc_q74 cc_q122)) | omega)).trans r526
  try clear r526
  have r546 := (o537 q74 (by first | exact (Nat.ne_of_lt cc_q122) | omega)).trans r527
  try clear r527
  have r547 := (o537 q150 (by first | exact (Nat.ne_of_gt cc_q150) | omega)).trans r528
  try clear r528
  have r548 := (o537 q180 (by first | exact (Nat.ne_of_gt (Nat.lt_trans cc_q150 cc_q180)) | omega)).trans r529
  try clear r529
  have r549 := (o537 q212 (by first | exact (Nat.ne_of_gt (Nat.lt_trans (Nat.lt_trans cc_q150 cc_q180) cc_q212)) | omega)).trans r530
  try clear r530
  have r550 := (o537 q246 (by first | exact (Nat.ne_of_gt (Nat.lt_trans (Nat.lt_trans (Nat.lt_trans cc_q150 cc_q180) cc_q212) cc_q246)) | omega)).trans r531
  try clear r531
  have r551 := (o537 q282 (by first | exact (Nat.ne_of_gt (Nat.lt_trans (Nat.lt_trans (Nat.lt_trans (Nat.lt_trans cc_q150 cc_q180) cc_q212) cc_q246) cc_q282)) | omega)).trans r532
  try clear r532
  have r552 := (o537 q320 (by first | exact (Nat.ne_of_gt (Nat.lt_trans (Nat.lt_trans (Nat.lt_trans (Nat.lt_trans (Nat.lt_trans cc_q150 cc_q180) cc_q212) cc_q246) cc_q282) cc_q320)) | omega)).trans r533
  try clear r533
  have r553 := (o537 q360 (by first | exact (Nat.ne_of_gt (Nat.lt_trans (Nat.lt_trans (Nat.lt_trans (Nat.lt_trans (Nat.lt_trans (Nat.lt_trans cc_q150 cc_q180) cc_q212) cc_q246) cc_q282) cc_q320) cc_q360)) | omega)).trans r534
  try clear o537; try clear r534
  refine lv_aload_n hxx hb dX12_init_164 rfl (lv_at hl 1 rfl) ?_
  refine b_get E (f := 20) b541 (show vwCl[11]? = some (RX12, TX12, 46) from rfl) q_inX12 (by decide) bw_1445 rfl (v := .ref q122) rfl dX12_init_165 ?_
  refine lv_bipush (v := 6) hxx hb dX12_init_168 (by decide) ?_
  refine lv_iconst (v := (-1)) hxx hb dX12_init_170 (by decide) ?_
  refine b_iast E S539 (Or.inr gg_q122) (g := (fun j => if j = (8 : Int32).toNatClampNeg then ((-1) : Int32) else (fun j => if j = (4 : Int32).toNatClampNeg then (4 : Int32) else (fun j => if j = (1 : Int32).toNatClampNeg then (1 : Int32) else (fun j => if j = (0 : Int32).toNatClampNeg then (2 : Int32) else (fun _ => 0 : Nat → Int32) j) j) j) j)) r538 (by decide) (by decide) dX12_init_171 (fun H554 locs1 z555 o556 r557 S558 => ?_)
  try clear S539; try clear r538
  have w559 : q_w X σ H554 := w540.kept (fun a ha => o556 a (fun e => ha (by rw [e]; exact k136)))
  try clear w540
  have b560 := b541.kept (o556 h (by first | exact (Nat.ne_of_lt hq122) | omega))
  try clear b541
  have t561 := t_lt b560
  try clear t542
  have r562 := (o556 q8 (by first | exact (Nat.ne_of_lt (Nat.lt_trans (Nat.lt_trans (Nat.lt_trans cc_q28 cc_q50) cc_q74) cc_q122)) | omega)).trans r543
  try clear r543
  have r563 := (o556 q28 (by first | exact (Nat.ne_of_lt (Nat.lt_trans (Nat.lt_trans cc_q50 cc_q74) cc_q122)) | omega)).trans r544
  try clear r544
  have r564 := (o556 q50 (by first | exact (Nat.ne_of_lt (Nat.lt_trans cc_q74 cc_q122)) | omega)).trans r545
  try clear r545
  have r565 := (o556 q74 (by first | exact (Nat.ne_of_lt cc_q122) | omega)).trans r546
  try clear r546
  have r566 := (o556 q150 (by first | exact (Nat.ne_of_gt cc_q150) | omega)).trans r547
  try clear r547
  have r567 := (o556 q180 (by first | exact (Nat.ne_of_gt (Nat.lt_trans cc_q150 cc_q180)) | omega)).trans r548
  try clear r548
  have r568 := (o556 q212 (by first | exact (Nat.ne_of_gt (Nat.lt_trans (Nat.lt_trans cc_q150 cc_q180) cc_q212)) | omega)).trans r549
  try clear r549
  have r569 := (o556 q246 (by first | exact (Nat.ne_of_gt (Nat.lt_trans (Nat.lt_trans (Nat.lt_trans cc_q150 cc_q180) cc_q212) cc_q246)) | omega)).trans r550
  try clear r550
  have r570 := (o556 q282 (by first | exact (Nat.ne_of_gt (Nat.lt_trans (Nat.lt_trans (Nat.lt_trans (Nat.lt_trans cc_q150 cc_q180) cc_q212) cc_q246) cc_q282)) | omega)).trans r551
  try clear r551
  have r571 := (o556 q320 (by first | exact (Nat.ne_of_gt (Nat.lt_trans (Nat.lt_trans (Nat.lt_trans (Nat.lt_trans (Nat.lt_trans cc_q150 cc_q180) cc_q212) cc_q246) cc_q282) cc_q320)) | omega)).trans r552
  try clear r552
  have r572 := (o556 q360 (by first | exact (Nat.ne_of_gt (Nat.lt_trans (Nat.lt_trans (Nat.lt_trans (Nat.lt_trans (Nat.lt_trans (Nat.lt_trans cc_q150 cc_q180) cc_q212) cc_q246) cc_q282) cc_q320) cc_q360)) | omega)).trans r553
  try clear o556; try clear r553
  have y577 := raw_lt r562
  try clear y577
  obtain ⟨X573, dX573⟩ : ∃ Y, Y = q_xg X q8 30 4 (fun _ => 0) := ⟨_, rfl⟩
  obtain ⟨σ574, dσ574⟩ : ∃ τ, τ = q_sg σ q8 (fun _ => 0 : Nat → Int32) (fun _ => 0) 0 := ⟨_, rfl⟩
  have x575 : q_ext (fun a => a = q8) X X573 σ σ574 := by rw [dX573, dσ574]; exact q_ext.add k18
  have y578 : y_root X573 q8 := by rw [dX573]; exact (y_root.out w559.1 k18).add y_xg (fun f hf => absurd rfl hf)
  have y579 : y_rt X X573 := by rw [dX573]; exact yr0.add y_xg (fun f hf => absurd rfl hf)
  have w576 : q_w X573 σ574 H554 := by
    rw [dX573, dσ574]
    exact w559.add k18 (fun f hf => absurd rfl hf) (fun _ => rfl) (by decide) (fun q => absurd q (by decide)) (fun f => by refine q_inB (lo := 0) (hi := 3) rfl ?_ ?_ <;> ((try dsimp only); repeat' split) <;> decide) (fun q => by rcases q with q | q <;> exact absurd q (by decide)) (q_cfA hD (by decide) (t0 := 1) rfl r562 (fun j => rfl)) (fun f hf => absurd rfl hf) (fun f g hf _ _ => absurd rfl hf) (fun f hf => absurd rfl hf) (fun f hf => absurd (show (0 : Nat) = 5 from hf) (by decide)) (fun q => absurd q (by decide))
  try clear r562; try clear w559; try clear k18
  have D580 : X573.1 = D := x575.1.trans hD
  have k581 : q_kd X573 q8 = 30 := by rw [dX573]; exact q_xg_h
  have n582 : q_ln X573 q8 = 4 := by rw [dX573]; exact if_pos rfl
  have x583 := hx0.tr x575 (fun a e => Or.inr (by rw [e]; exact gg_q8))
  have k584 : q_kd X573 q28 = 0 := x575.k0 k39 (by first | exact (Nat.ne_of_gt cc_q28) | (omega))
  try clear k39
  have k585 : q_kd X573 q50 = 0 := x575.k0 k62 (by first | exact (Nat.ne_of_gt (Nat.lt_trans cc_q28 cc_q50)) | (omega))
  try clear k62
  have k586 : q_kd X573 q74 = 0 := x575.k0 k87 (by first | exact (Nat.ne_of_gt (Nat.lt_trans (Nat.lt_trans cc_q28 cc_q50) cc_q74)) | (omega))
  try clear k87
  have k587 : q_kd X573 q122 = 0 := x575.k0 k136 (by first | exact (Nat.ne_of_gt (Nat.lt_trans (Nat.lt_trans (Nat.lt_trans cc_q28 cc_q50) cc_q74) cc_q122)) | (omega))
  try clear k136
  have k588 : q_kd X573 q150 = 0 := x575.k0 k165 (by first | exact (Nat.ne_of_gt (Nat.lt_trans (Nat.lt_trans (Nat.lt_trans (Nat.lt_trans cc_q28 cc_q50) cc_q74) cc_q122) cc_q150)) | (omega))
  try clear k165
  have k589 : q_kd X573 q180 = 0 := x575.k0 k196 (by first | exact (Nat.ne_of_gt (Nat.lt_trans (Nat.lt_trans (Nat.lt_trans (Nat.lt_trans (Nat.lt_trans cc_q28 cc_q50) cc_q74) cc_q122) cc_q150) cc_q180)) | (omega))
  try clear k196
  have k590 : q_kd X573 q212 = 0 := x575.k0 k229 (by first | exact (Nat.ne_of_gt (Nat.lt_trans (Nat.lt_trans (Nat.lt_trans (Nat.lt_trans (Nat.lt_trans (Nat.lt_trans cc_q28 cc_q50) cc_q74) cc_q122) cc_q150) cc_q180) cc_q212)) | (omega))
  try clear k229
  have k591 : q_kd X573 q246 = 0 := x575.k0 k264 (by first | exact (Nat.ne_of_gt (Nat.lt_trans (Nat.lt_trans (Nat.lt_trans (Nat.lt_trans (Nat.lt_trans (Nat.lt_trans (Nat.lt_trans cc_q28 cc_q50) cc_q74) cc_q122) cc_q150) cc_q180) cc_q212) cc_q246)) | (omega))
  try clear k264
  have k592 : q_kd X573 q282 = 0 := x575.k0 k301 (by first | exact (Nat.ne_of_gt (Nat.lt_trans (Nat.lt_trans (Nat.lt_trans (Nat.lt_trans (Nat.lt_trans (Nat.lt_trans (Nat.lt_trans (Nat.lt_trans cc_q28 cc_q50) cc_q74) cc_q122) cc_q150) cc_q180) cc_q212) cc_q246) cc_q282)) | (omega))
  try clear k301
  have k593 : q_kd X573 q320 = 0 := x575.k0 k340 (by first | exact (Nat.ne_of_gt (Nat.lt_trans (Nat.lt_trans (Nat.lt_trans (Nat.lt_trans (Nat.lt_trans (Nat.lt_trans (Nat.lt_trans (Nat.lt_trans (Nat.lt_trans cc_q28 cc_q50) cc_q74) cc_q122) cc_q150) cc_q180) cc_q212) cc_q246) cc_q282) cc_q320)) | (omega))
  try clear k340
  have k594 : q_kd X573 q360 = 0 := x575.k0 k381 (by first | exact (Nat.ne_of_gt (Nat.lt_trans (Nat.lt_trans (Nat.lt_trans (Nat.lt_trans (Nat.lt_trans (Nat.lt_trans (Nat.lt_trans (Nat.lt_trans (Nat.lt_trans (Nat.lt_trans cc_q28 cc_q50) cc_q74) cc_q122) cc_q150) cc_q180) cc_q212) cc_q246) cc_q282) cc_q320) cc_q360)) | (omega))
  try clear k381
  have k595 : q_kd X573 h = 0 := x575.k0 h00 (by first | exact (Nat.ne_of_lt hq8) | (omega))
  try clear x575
  have j596 : ∀ j, σ574.1 q8 j = (fun _ => 0 : Nat → Int32) j := fun j => by rw [dσ574]; exact if_pos rfl
  have y601 := raw_lt r563
  try clear y601
  obtain ⟨X597, dX597⟩ : ∃ Y, Y = q_xg X573 q28 31 4 (fun _ => 0) := ⟨_, rfl⟩
  obtain ⟨σ598, dσ598⟩ : ∃ τ, τ = q_sg σ574 q28 (fun j => if j = (3 : Int32).toNatClampNeg then ((-1) : Int32) else (fun j => if j = (2 : Int32).toNatClampNeg then ((-1) : Int32) else (fun j => if j = (1 : Int32).toNatClampNeg then ((-1) : Int32) else (fun j => if j = (0 : Int32).toNatClampNeg then ((-1) : Int32) else (fun _ => 0 : Nat → Int32) j) j) j) j) (fun _ => 0) 0 := ⟨_, rfl⟩
  have x599 : q_ext (fun a => a = q28) X573 X597 σ574 σ598 := by rw [dX597, dσ598]; exact q_ext.add k584
  have y602 : y_root X597 q8 := by rw [dX597]; exact y578.add y_xg (fun f hf => absurd rfl hf)
  try clear y578
  have y603 : y_root X597 q28 := by rw [dX597]; exact (y_root.out w576.1 k584).add y_xg (fun f hf => absurd rfl hf)
  have y604 : y_rt X X597 := by rw [dX597]; exact y579.add y_xg (fun f hf => absurd rfl hf)
  try clear y579
  have w600 : q_w X597 σ598 H554 := by
    rw [dX597, dσ598]
    exact w576.add k584 (fun f hf => absurd rfl hf) (fun _ => rfl) (by decide) (fun q => absurd q (by decide)) (fun f => by refine q_inB (lo := -1) (hi := 60) rfl ?_ ?_ <;> ((try dsimp only); repeat' split) <;> decide) (fun q => by rcases q with q | q <;> exact absurd q (by decide)) (q_cfA D580 (by decide) (t0 := 1) rfl r563 (fun j => rfl)) (fun f hf => absurd rfl hf) (fun f g hf _ _ => absurd rfl hf) (fun f hf => absurd rfl hf) (fun f hf => absurd (show (0 : Nat) = 5 from hf) (by decide)) (fun q => absurd q (by decide))
  try clear k584; try clear w576; try clear r563
  have D605 : X597.1 = D := x599.1.trans D580
  try clear D580
  have k606 : q_kd X597 q28 = 31 := by rw [dX597]; exact q_xg_h
  have n607 : q_ln X597 q28 = 4 := by rw [dX597]; exact if_pos rfl
  have x608 := x583.tr x599 (fun a e => Or.inr (by rw [e]; exact gg_q28))
  try clear x583
  have k609 := x599.kd k581 (by decide)
  have k610 : q_kd X597 q50 = 0 := x599.k0 k585 (by first | exact (Nat.ne_of_gt cc_q50) | (omega))
  try clear k585
  have k611 : q_kd X597 q74 = 0 := x599.k0 k586 (by first | exact (Nat.ne_of_gt (Nat.lt_trans cc_q50 cc_q74)) | (omega))
  try clear k586
  have k612 : q_kd X597 q122 = 0 := x599.k0 k587 (by first | exact (Nat.ne_of_gt (Nat.lt_trans (Nat.lt_trans cc_q50 cc_q74) cc_q122)) | (omega))
  try clear k587
  have k613 : q_kd X597 q150 = 0 := x599.k0 k588 (by first | exact (Nat.ne_of_gt (Nat.lt_trans (Nat.lt_trans (Nat.lt_trans cc_q50 cc_q74) cc_q122) cc_q150)) | (omega))
  try clear k588
  have k614 : q_kd X597 q180 = 0 := x599.k0 k589 (by first | exact (Nat.ne_of_gt (Nat.lt_trans (Nat.lt_trans (Nat.lt_trans (Nat.lt_trans cc_q50 cc_q74) cc_q122) cc_q150) cc_q180)) | (omega))
  try clear k589
  have k615 : q_kd X597 q212 = 0 := x599.k0 k590 (by first | exact (Nat.ne_of_gt (Nat.lt_trans (Nat.lt_trans (Nat.lt_trans (Nat.lt_trans (Nat.lt_trans cc_q50 cc_q74) cc_q122) cc_q150) cc_q180) cc_q212)) | (omega))
  try clear k590
  have k616 : q_kd X597 q246 = 0 := x599.k0 k591 (by first | exact (Nat.ne_of_gt (Nat.lt_trans (Nat.lt_trans (Nat.lt_trans (Nat.lt_trans (Nat.lt_trans (Nat.lt_trans cc_q50 cc_q74) cc_q122) cc_q150) cc_q180) cc_q212) cc_q246)) | (omega))
  try clear k591
  have k617 : q_kd X597 q282 = 0 := x599.k0 k592 (by first | exact (Nat.ne_of_gt (Nat.lt_trans (Nat.lt_trans (Nat.lt_trans (Nat.lt_trans (Nat.lt_trans (Nat.lt_trans (Nat.lt_trans cc_q50 cc_q74) cc_q122) cc_q150) cc_q180) cc_q212) cc_q246) cc_q282)) | (omega))
  try clear k592
  have k618 : q_kd X597 q320 = 0 := x599.k0 k593 (by first | exact (Nat.ne_of_gt (Nat.lt_trans (Nat.lt_trans (Nat.lt_trans (Nat.lt_trans (Nat.lt_trans (Nat.lt_trans (Nat.lt_trans (Nat.lt_trans cc_q50 cc_q74) cc_q122) cc_q150) cc_q180) cc_q212) cc_q246) cc_q282) cc_q320)) | (omega))
  try clear k593
  have k619 : q_kd X597 q360 = 0 := x599.k0 k594 (by first | exact (Nat.ne_of_gt (Nat.lt_trans (Nat.lt_trans (Nat.lt_trans (Nat.lt_trans (Nat.lt_trans (Nat.lt_trans (Nat.lt_trans (Nat.lt_trans (Nat.lt_trans cc_q50 cc_q74) cc_q122) cc_q150) cc_q180) cc_q212) cc_q246) cc_q282) cc_q320) cc_q360)) | (omega))
  try clear k594
  have k620 : q_kd X597 h = 0 := x599.k0 k595 (by first | exact (Nat.ne_of_lt hq28) | (omega))
  try clear k595
  have n621 : q_ln X597 q8 = 4 := (x599.2.2.2.1 q8 (by rw [k581]; decide)).2.1.trans n582
  have j622 : ∀ j, σ598.1 q8 j = (fun _ => 0 : Nat → Int32) j := fun j => (q_exi x599 (by rw [k581]; decide)).trans (j596 j)
  try clear x599; try clear k581
  have j623 : ∀ j, σ598.1 q28 j = (fun j => if j = (3 : Int32).toNatClampNeg then ((-1) : Int32) else (fun j => if j = (2 : Int32).toNatClampNeg then ((-1) : Int32) else (fun j => if j = (1 : Int32).toNatClampNeg then ((-1) : Int32) else (fun j => if j = (0 : Int32).toNatClampNeg then ((-1) : Int32) else (fun _ => 0 : Nat → Int32) j) j) j) j) j := fun j => by rw [dσ598]; exact if_pos rfl
  have y628 := raw_lt r564
  try clear y628
  obtain ⟨X624, dX624⟩ : ∃ Y, Y = q_xg X597 q50 32 240 (fun _ => 0) := ⟨_, rfl⟩
  obtain ⟨σ625, dσ625⟩ : ∃ τ, τ = q_sg σ598 q50 (fun _ => 0) (fun _ => 0) 0 := ⟨_, rfl⟩
  have x626 : q_ext (fun a => a = q50) X597 X624 σ598 σ625 := by rw [dX624, dσ625]; exact q_ext.add k610
  have y629 : y_root X624 q8 := by rw [dX624]; exact y602.add y_xg (fun f hf => absurd rfl hf)
  try clear y602
  have y630 : y_root X624 q28 := by rw [dX624]; exact y603.add y_xg (fun f hf => absurd rfl hf)
  try clear y603
  have y631 : y_root X624 q50 := by rw [dX624]; exact (y_root.out w600.1 k610).add y_xg (fun f hf => absurd rfl hf)
  have y632 : y_rt X X624 := by rw [dX624]; exact y604.add y_xg (fun f hf => absurd rfl hf)
  try clear y604
  have w627 : q_w X624 σ625 H554 := by
    rw [dX624, dσ625]
    exact w600.add k610 (fun f hf => absurd rfl hf) (fun _ => rfl) (by decide) (fun q => absurd q (by decide)) (fun f => q_inU rfl) (fun q => by rcases q with q | q <;> exact absurd q (by decide)) (q_cfA D605 (by decide) (t0 := 2) rfl r564 (fun j => rfl)) (fun f hf => absurd rfl hf) (fun f g hf _ _ => absurd rfl hf) (fun f hf => absurd rfl hf) (fun f hf => absurd (show (0 : Nat) = 5 from hf) (by decide)) (fun q => absurd q (by decide))
  try clear k610; try clear w600; try clear r564
  have D633 : X624.1 = D := x626.1.trans D605
  try clear D605
  have k634 : q_kd X624 q50 = 32 := by rw [dX624]; exact q_xg_h
  have n635 : q_ln X624 q50 = 240 := by rw [dX624]; exact if_pos rfl
  have x636 := x608.tr x626 (fun a e => Or.inr (by rw [e]; exact gg_q50))
  try clear x608
  have k637 := x626.kd k609 (by decide)
  have k638 := x626.kd k606 (by decide)
  have k639 : q_kd X624 q74 = 0 := x626.k0 k611 (by first | exact (Nat.ne_of_gt cc_q74) | (omega))
  try clear k611
  have k640 : q_kd X624 q122 = 0 := x626.k0 k612 (by first | exact (Nat.ne_of_gt (Nat.lt_trans cc_q74 cc_q122)) | (omega))
  try clear k612
  have k641 : q_kd X624 q150 = 0 := x626.k0 k613 (by first | exact (Nat.ne_of_gt (Nat.lt_trans (Nat.lt_trans cc_q74 cc_q122) cc_q150)) | (omega))
  try clear k613
  have k642 : q_kd X624 q180 = 0 := x626.k0 k614 (by first | exact (Nat.ne_of_gt (Nat.lt_trans (Nat.lt_trans (Nat.lt_trans cc_q74 cc_q122) cc_q150) cc_q180)) | (omega))
  try clear k614
  have k643 : q_kd X624 q212 = 0 := x626.k0 k615 (by first | exact (Nat.ne_of_gt (Nat.lt_trans (Nat.lt_trans (Nat.lt_trans (Nat.lt_trans cc_q74 cc_q122) cc_q150) cc_q180) cc_q212)) | (omega))
  try clear k615
  have k644 : q_kd X624 q246 = 0 := x626.k0 k616 (by first | exact (Nat.ne_of_gt (Nat.lt_trans (Nat.lt_trans (Nat.lt_trans (Nat.lt_trans (Nat.lt_trans cc_q74 cc_q122) cc_q150) cc_q180) cc_q212) cc_q246)) | (omega))
  try clear k616
  have k645 : q_kd X624 q282 = 0 := x626.k0 k617 (by first | exact (Nat.ne_of_gt (Nat.lt_trans (Nat.lt_trans (Nat.lt_trans (Nat.lt_trans (Nat.lt_trans (Nat.lt_trans cc_q74 cc_q122) cc_q150) cc_q180) cc_q212) cc_q246) cc_q282)) | (omega))
  try clear k617
  have k646 : q_kd X624 q320 = 0 := x626.k0 k618 (by first | exact (Nat.ne_of_gt (Nat.lt_trans (Nat.lt_trans (Nat.lt_trans (Nat.lt_trans (Nat.lt_trans (Nat.lt_trans (Nat.lt_trans cc_q74 cc_q122) cc_q150) cc_q180) cc_q212) cc_q246) cc_q282) cc_q320)) | (omega))
  try clear k618
  have k647 : q_kd X624 q360 = 0 := x626.k0 k619 (by first | exact (Nat.ne_of_gt (Nat.lt_trans (Nat.lt_trans (Nat.lt_trans (Nat.lt_trans (Nat.lt_trans (Nat.lt_trans (Nat.lt_trans (Nat.lt_trans cc_q74 cc_q122) cc_q150) cc_q180) cc_q212) cc_q246) cc_q282) cc_q320) cc_q360)) | (omega))
  try clear k619
  have k648 : q_kd X624 h = 0 := x626.k0 k620 (by first | exact (Nat.ne_of_lt hq50) | (omega))
  try clear k620
  have n649 : q_ln X624 q8 = 4 := (x626.2.2.2.1 q8 (by rw [k609]; decide)).2.1.trans n621
  have n650 : q_ln X624 q28 = 4 := (x626.2.2.2.1 q28 (by rw [k606]; decide)).2.1.trans n607
  have j651 : ∀ j, σ625.1 q8 j = (fun _ => 0 : Nat → Int32) j := fun j => (q_exi x626 (by rw [k609]; decide)).trans (j622 j)
  try clear k609
  have j652 : ∀ j, σ625.1 q28 j = (fun j => if j = (3 : Int32).toNatClampNeg then ((-1) : Int32) else (fun j => if j = (2 : Int32).toNatClampNeg then ((-1) : Int32) else (fun j => if j = (1 : Int32).toNatClampNeg then ((-1) : Int32) else (fun j => if j = (0 : Int32).toNatClampNeg then ((-1) : Int32) else (fun _ => 0 : Nat → Int32) j) j) j) j) j := fun j => (q_exi x626 (by rw [k606]; decide)).trans (j623 j)
  try clear x626; try clear k606
  have y657 := raw_lt r565
  try clear y657
  obtain ⟨X653, dX653⟩ : ∃ Y, Y = q_xg X624 q74 33 900 (fun _ => 0) := ⟨_, rfl⟩
  obtain ⟨σ654, dσ654⟩ : ∃ τ, τ = q_sg σ625 q74 (fun _ => 0 : Nat → Int32) (fun _ => 0) 0 := ⟨_, rfl⟩
  have x655 : q_ext (fun a => a = q74) X624 X653 σ625 σ654 := by rw [dX653, dσ654]; exact q_ext.add k639
  have y658 : y_root X653 q8 := by rw [dX653]; exact y629.add y_xg (fun f hf => absurd rfl hf)
  try clear y629
  have y659 : y_root X653 q28 := by rw [dX653]; exact y630.add y_xg (fun f hf => absurd rfl hf)
  try clear y630
  have y660 : y_root X653 q50 := by rw [dX653]; exact y631.add y_xg (fun f hf => absurd rfl hf)
  try clear y631
  have y661 : y_root X653 q74 := by rw [dX653]; exact (y_root.out w627.1 k639).add y_xg (fun f hf => absurd rfl hf)
  have y662 : y_rt X X653 := by rw [dX653]; exact y632.add y_xg (fun f hf => absurd rfl hf)
  try clear y632
  have w656 : q_w X653 σ654 H554 := by
    rw [dX653, dσ654]
    exact w627.add k639 (fun f hf => absurd rfl hf) (fun _ => rfl) (by decide) (fun q => absurd q (by decide)) (fun f => q_inU rfl) (fun q => by rcases q with q | q <;> exact absurd q (by decide)) (q_cfA D633 (by decide) (t0 := 0) rfl r565 (fun j => rfl)) (fun f hf => absurd rfl hf) (fun f g hf _ _ => absurd rfl hf) (fun f hf => absurd rfl hf) (fun f hf => absurd (show (0 : Nat) = 5 from hf) (by decide)) (fun q => absurd q (by decide))
  try clear k639; try clear w627; try clear r565
  have D663 : X653.1 = D := x655.1.trans D633
  try clear D633
  have k664 : q_kd X653 q74 = 33 := by rw [dX653]; exact q_xg_h
  have n665 : q_ln X653 q74 = 900 := by rw [dX653]; exact if_pos rfl
  have x666 := x636.tr x655 (fun a e => Or.inr (by rw [e]; exact gg_q74))
  try clear x636
  have k667 := x655.kd k637 (by decide)
  have k668 := x655.kd k638 (by decide)
  have k669 := x655.kd k634 (by decide)
  have k670 : q_kd X653 q122 = 0 := x655.k0 k640 (by first | exact (Nat.ne_of_gt cc_q122) | (omega))
  try clear k640
  have k671 : q_kd X653 q150 = 0 := x655.k0 k641 (by first | exact (Nat.ne_of_gt (Nat.lt_trans cc_q122 cc_q150)) | (omega))
  try clear k641
  have k672 : q_kd X653 q180 = 0 := x655.k0 k642 (by first | exact (Nat.ne_of_gt (Nat.lt_trans (Nat.lt_trans cc_q122 cc_q150) cc_q180)) | (omega))
  try clear k642
  have k673 : q_kd X653 q212 = 0 := x655.k0 k643 (by first | exact (Nat.ne_of_gt (Nat.lt_trans (Nat.lt_trans (Nat.lt_trans cc_q122 cc_q150) cc_q180) cc_q212)) | (omega))
  try clear k643
  have k674 : q_kd X653 q246 = 0 := x655.k0 k644 (by first | exact (Nat.ne_of_gt (Nat.lt_trans (Nat.lt_trans (Nat.lt_trans (Nat.lt_trans cc_q122 cc_q150) cc_q180) cc_q212) cc_q246)) | (omega))
  try clear k644
  have k675 : q_kd X653 q282 = 0 := x655.k0 k645 (by first | exact (Nat.ne_of_gt (Nat.lt_trans (Nat.lt_trans (Nat.lt_trans (Nat.lt_trans (Nat.lt_trans cc_q122 cc_q150) cc_q180) cc_q212) cc_q246) cc_q282)) | (omega))
  try clear k645
  have k676 : q_kd X653 q320 = 0 := x655.k0 k646 (by first | exact (Nat.ne_of_gt (Nat.lt_trans (Nat.lt_trans (Nat.lt_trans (Nat.lt_trans (Nat.lt_trans (Nat.lt_trans cc_q122 cc_q150) cc_q180) cc_q212) cc_q246) cc_q282) cc_q320)) | (omega))
  try clear k646
  have k677 : q_kd X653 q360 = 0 := x655.k0 k647 (by first | exact (Nat.ne_of_gt (Nat.lt_trans (Nat.lt_trans (Nat.lt_trans (Nat.lt_trans (Nat.lt_trans (Nat.lt_trans (Nat.lt_trans cc_q122 cc_q150) cc_q180) cc_q212) cc_q246) cc_q282) cc_q320) cc_q360)) | (omega))
  try clear k647
  have k678 : q_kd X653 h = 0 := x655.k0 k648 (by first | exact (Nat.ne_of_lt hq74) | (omega))
  try clear k648
  have n679 : q_ln X653 q8 = 4 := (x655.2.2.2.1 q8 (by rw [k637]; decide)).2.1.trans n649
  have n680 : q_ln X653 q28 = 4 := (x655.2.2.2.1 q28 (by rw [k638]; decide)).2.1.trans n650
  have n681 : q_ln X653 q50 = 240 := (x655.2.2.2.1 q50 (by rw [k634]; decide)).2.1.trans n635
  try clear k634
  have j682 : ∀ j, σ654.1 q8 j = (fun _ => 0 : Nat → Int32) j := fun j => (q_exi x655 (by rw [k637]; decide)).trans (j651 j)
  try clear k637
  have j683 : ∀ j, σ654.1 q28 j = (fun j => if j = (3 : Int32).toNatClampNeg then ((-1) : Int32) else (fun j => if j = (2 : Int32).toNatClampNeg then ((-1) : Int32) else (fun j => if j = (1 : Int32).toNatClampNeg then ((-1) : Int32) else (fun j => if j = (0 : Int32).toNatClampNeg then ((-1) : Int32) else (fun _ => 0 : Nat → Int32) j) j) j) j) j := fun j => (q_exi x655 (by rw [k638]; decide)).trans (j652 j)
  try clear x655; try clear k638
  have y688 := raw_lt r557
  try clear y688
  obtain ⟨X684, dX684⟩ : ∃ Y, Y = q_xg X653 q122 34 4650 (fun _ => 0) := ⟨_, rfl⟩
  obtain ⟨σ685, dσ685⟩ : ∃ τ, τ = q_sg σ654 q122 (fun j => if j = (6 : Int32).toNatClampNeg then ((-1) : Int32) else (fun j => if j = (8 : Int32).toNatClampNeg then ((-1) : Int32) else (fun j => if j = (4 : Int32).toNatClampNeg then (4 : Int32) else (fun j => if j = (1 : Int32).toNatClampNeg then (1 : Int32) else (fun j => if j = (0 : Int32).toNatClampNeg then (2 : Int32) else (fun _ => 0 : Nat → Int32) j) j) j) j) j) (fun _ => 0) 0 := ⟨_, rfl⟩
  have x686 : q_ext (fun a => a = q122) X653 X684 σ654 σ685 := by rw [dX684, dσ685]; exact q_ext.add k670
  have y689 : y_root X684 q8 := by rw [dX684]; exact y658.add y_xg (fun f hf => absurd rfl hf)
  try clear y658
  have y690 : y_root X684 q28 := by rw [dX684]; exact y659.add y_xg (fun f hf => absurd rfl hf)
  try clear y659
  have y691 : y_root X684 q50 := by rw [dX684]; exact y660.add y_xg (fun f hf => absurd rfl hf)
  try clear y660
  have y692 : y_root X684 q74 := by rw [dX684]; exact y661.add y_xg (fun f hf => absurd rfl hf)
  try clear y661
  have y693 : y_root X684 q122 := by rw [dX684]; exact (y_root.out w656.1 k670).add y_xg (fun f hf => absurd rfl hf)
  have y694 : y_rt X X684 := by rw [dX684]; exact y662.add y_xg (fun f hf => absurd rfl hf)
  try clear y662
  have w687 : q_w X684 σ685 H554 := by
    rw [dX684, dσ685]
    exact w656.add k670 (fun f hf => absurd rfl hf) (fun _ => rfl) (by decide) (fun q => absurd q (by decide)) (fun f => q_inU rfl) (fun q => by rcases q with q | q <;> exact absurd q (by decide)) (q_cfA D663 (by decide) (t0 := 1) rfl r557 (fun j => rfl)) (fun f hf => absurd rfl hf) (fun f g hf _ _ => absurd rfl hf) (fun f hf => absurd rfl hf) (fun f hf => absurd (show (0 : Nat) = 5 from hf) (by decide)) (fun q => absurd q (by decide))
  try clear k670; try clear w656; try clear r557
  have D695 : X684.1 = D := x686.1.trans D663
  try clear D663
  have k696 : q_kd X684 q122 = 34 := by rw [dX684]; exact q_xg_h
  have n697 : q_ln X684 q122 = 4650 := by rw [dX684]; exact if_pos rfl
  have x698 := x666.tr x686 (fun a e => Or.inr (by rw [e]; exact gg_q122))
  try clear x666
  have k699 := x686.kd k667 (by decide)
  have k700 := x686.kd k668 (by decide)
  have k701 := x686.kd k669 (by decide)
  have k702 := x686.kd k664 (by decide)
  have k703 : q_kd X684 q150 = 0 := x686.k0 k671 (by first | exact (Nat.ne_of_gt cc_q150) | (omega))
  try clear k671
  have k704 : q_kd X684 q180 = 0 := x686.k0 k672 (by first | exact (Nat.ne_of_gt (Nat.lt_trans cc_q150 cc_q180)) | (omega))
  try clear k672
  have k705 : q_kd X684 q212 = 0 := x686.k0 k673 (by first | exact (Nat.ne_of_gt (Nat.lt_trans (Nat.lt_trans cc_q150 cc_q180) cc_q212)) | (omega))
  try clear k673
  have k706 : q_kd X684 q246 = 0 := x686.k0 k674 (by first | exact (Nat.ne_of_gt (Nat.lt_trans (Nat.lt_trans (Nat.lt_trans cc_q150 cc_q180) cc_q212) cc_q246)) | (omega))
  try clear k674
  have k707 : q_kd X684 q282 = 0 := x686.k0 k675 (by first | exact (Nat.ne_of_gt (Nat.lt_trans (Nat.lt_trans (Nat.lt_trans (Nat.lt_trans cc_q150 cc_q180) cc_q212) cc_q246) cc_q282)) | (omega))
  try clear k675
  have k708 : q_kd X684 q320 = 0 := x686.k0 k676 (by first | exact (Nat.ne_of_gt (Nat.lt_trans (Nat.lt_trans (Nat.lt_trans (Nat.lt_trans (Nat.lt_trans cc_q150 cc_q180) cc_q212) cc_q246) cc_q282) cc_q320)) | (omega))
  try clear k676
  have k709 : q_kd X684 q360 = 0 := x686.k0 k677 (by first | exact (Nat.ne_of_gt (Nat.lt_trans (Nat.lt_trans (Nat.lt_trans (Nat.lt_trans (Nat.lt_trans (Nat.lt_trans cc_q150 cc_q180) cc_q212) cc_q246) cc_q282) cc_q320) cc_q360)) | (omega))
  try clear k677
  have k710 : q_kd X684 h = 0 := x686.k0 k678 (by first | exact (Nat.ne_of_lt hq122) | (omega))
  try clear k678
  have n711 : q_ln X684 q8 = 4 := (x686.2.2.2.1 q8 (by rw [k667]; decide)).2.1.trans n679
  have n712 : q_ln X684 q28 = 4 := (x686.2.2.2.1 q28 (by rw [k668]; decide)).2.1.trans n680
  have n713 : q_ln X684 q50 = 240 := (x686.2.2.2.1 q50 (by rw [k669]; decide)).2.1.trans n681
  try clear k669
  have n714 : q_ln X684 q74 = 900 := (x686.2.2.2.1 q74 (by rw [k664]; decide)).2.1.trans n665
  try clear k664
  have j715 : ∀ j, σ685.1 q8 j = (fun _ => 0 : Nat → Int32) j := fun j => (q_exi x686 (by rw [k667]; decide)).trans (j682 j)
  try clear k667
  have j716 : ∀ j, σ685.1 q28 j = (fun j => if j = (3 : Int32).toNatClampNeg then ((-1) : Int32) else (fun j => if j = (2 : Int32).toNatClampNeg then ((-1) : Int32) else (fun j => if j = (1 : Int32).toNatClampNeg then ((-1) : Int32) else (fun j => if j = (0 : Int32).toNatClampNeg then ((-1) : Int32) else (fun _ => 0 : Nat → Int32) j) j) j) j) j := fun j => (q_exi x686 (by rw [k668]; decide)).trans (j683 j)
  try clear x686; try clear k668
  have j717 : ∀ j, σ685.1 q122 j = (fun j => if j = (6 : Int32).toNatClampNeg then ((-1) : Int32) else (fun j => if j = (8 : Int32).toNatClampNeg then ((-1) : Int32) else (fun j => if j = (4 : Int32).toNatClampNeg then (4 : Int32) else (fun j => if j = (1 : Int32).toNatClampNeg then (1 : Int32) else (fun j => if j = (0 : Int32).toNatClampNeg then (2 : Int32) else (fun _ => 0 : Nat → Int32) j) j) j) j) j) j := fun j => by rw [dσ685]; exact if_pos rfl
  have y722 := raw_lt r566
  try clear y722
  obtain ⟨X718, dX718⟩ : ∃ Y, Y = q_xg X684 q150 35 654 (fun _ => 0) := ⟨_, rfl⟩
  obtain ⟨σ719, dσ719⟩ : ∃ τ, τ = q_sg σ685 q150 (fun _ => 0 : Nat → Int32) (fun _ => 0) 0 := ⟨_, rfl⟩
  have x720 : q_ext (fun a => a = q150) X684 X718 σ685 σ719 := by rw [dX718, dσ719]; exact q_ext.add k703
  have y723 : y_root X718 q8 := by rw [dX718]; exact y689.add y_xg (fun f hf => absurd rfl hf)
  try clear y689
  have y724 : y_root X718 q28 := by rw [dX718]; exact y690.add y_xg (fun f hf => absurd rfl hf)
  try clear y690
  have y725 : y_root X718 q50 := by rw [dX718]; exact y691.add y_xg (fun f hf => absurd rfl hf)
  try clear y691
  have y726 : y_root X718 q74 := by rw [dX718]; exact y692.add y_xg (fun f hf => absurd rfl hf)
  try clear y692
  have y727 : y_root X718 q122 := by rw [dX718]; exact y693.add y_xg (fun f hf => absurd rfl hf)
  try clear y693
  have y728 : y_root X718 q150 := by rw [dX718]; exact (y_root.out w687.1 k703).add y_xg (fun f hf => absurd rfl hf)
  have y729 : y_rt X X718 := by rw [dX718]; exact y694.add y_xg (fun f hf => absurd rfl hf)
  try clear y694
  have w721 : q_w X718 σ719 H554 := by
    rw [dX718, dσ719]
    exact w687.add k703 (fun f hf => absurd rfl hf) (fun _ => rfl) (by decide) (fun q => absurd q (by decide)) (fun f => q_inU rfl) (fun q => by rcases q with q | q <;> exact absurd q (by decide)) (q_cfA D695 (by decide) (t0 := 1) rfl r566 (fun j => rfl)) (fun f hf => absurd rfl hf) (fun f g hf _ _ => absurd rfl hf) (fun f hf => absurd rfl hf) (fun f hf => absurd (show (0 : Nat) = 5 from hf) (by decide)) (fun q => absurd q (by decide))
  try clear k703; try clear w687; try clear r566
  have D730 : X718.1 = D := x720.1.trans D695
  try clear D695
  have k731 : q_kd X718 q150 = 35 := by rw [dX718]; exact q_xg_h
  have n732 : q_ln X718 q150 = 654 := by rw [dX718]; exact if_pos rfl
  have x733 := x698.tr x720 (fun a e => Or.inr (by rw [e]; exact gg_q150))
  try clear x698
  have k734 := x720.kd k699 (by decide)
  have k735 := x720.kd k700 (by decide)
  have k736 := x720.kd k701 (by decide)
  have k737 := x720.kd k702 (by decide)
  have k738 := x720.kd k696 (by decide)
  have k739 : q_kd X718 q180 = 0 := x720.k0 k704 (by first | exact (Nat.ne_of_gt cc_q180) | (omega))
  try clear k704
  have k740 : q_kd X718 q212 = 0 := x720.k0 k705 (by first | exact (Nat.ne_of_gt (Nat.lt_trans cc_q180 cc_q212)) | (omega))
  try clear k705
  have k741 : q_kd X718 q246 = 0 := x720.k0 k706 (by first | exact (Nat.ne_of_gt (Nat.lt_trans (Nat.lt_trans cc_q180 cc_q212) cc_q246)) | (omega))
  try clear k706
  have k742 : q_kd X718 q282 = 0 := x720.k0 k707 (by first | exact (Nat.ne_of_gt (Nat.lt_trans (Nat.lt_trans (Nat.lt_trans cc_q180 cc_q212) cc_q246) cc_q282)) | (omega))
  try clear k707
  have k743 : q_kd X718 q320 = 0 := x720.k0 k708 (by first | exact (Nat.ne_of_gt (Nat.lt_trans (Nat.lt_trans (Nat.lt_trans (Nat.lt_trans cc_q180 cc_q212) cc_q246) cc_q282) cc_q320)) | (omega))
  try clear k708
  have k744 : q_kd X718 q360 = 0 := x720.k0 k709 (by first | exact (Nat.ne_of_gt (Nat.lt_trans (Nat.lt_trans (Nat.lt_trans (Nat.lt_trans (Nat.lt_trans cc_q180 cc_q212) cc_q246) cc_q282) cc_q320) cc_q360)) | (omega))
  try clear k709
  have k745 : q_kd X718 h = 0 := x720.k0 k710 (by first | exact (Nat.ne_of_lt hq150) | (omega))
  try clear k710
  have n746 : q_ln X718 q8 = 4 := (x720.2.2.2.1 q8 (by rw [k699]; decide)).2.1.trans n711
  have n747 : q_ln X718 q28 = 4 := (x720.2.2.2.1 q28 (by rw [k700]; decide)).2.1.trans n712
  have n748 : q_ln X718 q50 = 240 := (x720.2.2.2.1 q50 (by rw [k701]; decide)).2.1.trans n713
  try clear k701
  have n749 : q_ln X718 q74 = 900 := (x720.2.2.2.1 q74 (by rw [k702]; decide)).2.1.trans n714
  try clear k702
  have n750 : q_ln X718 q122 = 4650 := (x720.2.2.2.1 q122 (by rw [k696]; decide)).2.1.trans n697
  have j751 : ∀ j, σ719.1 q8 j = (fun _ => 0 : Nat → Int32) j := fun j => (q_exi x720 (by rw [k699]; decide)).trans (j715 j)
  try clear k699
  have j752 : ∀ j, σ719.1 q28 j = (fun j => if j = (3 : Int32).toNatClampNeg then ((-1) : Int32) else (fun j => if j = (2 : Int32).toNatClampNeg then ((-1) : Int32) else (fun j => if j = (1 : Int32).toNatClampNeg then ((-1) : Int32) else (fun j => if j = (0 : Int32).toNatClampNeg then ((-1) : Int32) else (fun _ => 0 : Nat → Int32) j) j) j) j) j := fun j => (q_exi x720 (by rw [k700]; decide)).trans (j716 j)
  try clear k700
  have j753 : ∀ j, σ719.1 q122 j = (fun j => if j = (6 : Int32).toNatClampNeg then ((-1) : Int32) else (fun j => if j = (8 : Int32).toNatClampNeg then ((-1) : Int32) else (fun j => if j = (4 : Int32).toNatClampNeg then (4 : Int32) else (fun j => if j = (1 : Int32).toNatClampNeg then (1 : Int32) else (fun j => if j = (0 : Int32).toNatClampNeg then (2 : Int32) else (fun _ => 0 : Nat → Int32) j) j) j) j) j) j := fun j => (q_exi x720 (by rw [k696]; decide)).trans (j717 j)
  try clear x720; try clear k696
  have y758 := raw_lt r567
  try clear y758
  obtain ⟨X754, dX754⟩ : ∃ Y, Y = q_xg X718 q180 36 60 (fun _ => 0) := ⟨_, rfl⟩
  obtain ⟨σ755, dσ755⟩ : ∃ τ, τ = q_sg σ719 q180 (fun _ => 0 : Nat → Int32) (fun _ => 0) 0 := ⟨_, rfl⟩
  have x756 : q_ext (fun a => a = q180) X718 X754 σ719 σ755 := by rw [dX754, dσ755]; exact q_ext.add k739
  have y759 : y_root X754 q8 := by rw [dX754]; exact y723.add y_xg (fun f hf => absurd rfl hf)
  try clear y723
  have y760 : y_root X754 q28 := by rw [dX754]; exact y724.add y_xg (fun f hf => absurd rfl hf)
  try clear y724
  have y761 : y_root X754 q50 := by rw [dX754]; exact y725.add y_xg (fun f hf => absurd rfl hf)
  try clear y725
  have y762 : y_root X754 q74 := by rw [dX754]; exact y726.add y_xg (fun f hf => absurd rfl hf)
  try clear y726
  have y763 : y_root X754 q122 := by rw [dX754]; exact y727.add y_xg (fun f hf => absurd rfl hf)
  try clear y727
  have y764 : y_root X754 q150 := by rw [dX754]; exact y728.add y_xg (fun f hf => absurd rfl hf)
  try clear y728
  have y765 : y_root X754 q180 := by rw [dX754]; exact (y_root.out w721.1 k739).add y_xg (fun f hf => absurd rfl hf)
  have y766 : y_rt X X754 := by rw [dX754]; exact y729.add y_xg (fun f hf => absurd rfl hf)
  try clear y729
  have w757 : q_w X754 σ755 H554 := by
    rw [dX754, dσ755]
    exact w721.add k739 (fun f hf => absurd rfl hf) (fun _ => rfl) (by decide) (fun q => absurd q (by decide)) (fun f => q_inU rfl) (fun q => by rcases q with q | q <;> exact absurd q (by decide)) (q_cfA D730 (by decide) (t0 := 1) rfl r567 (fun j => rfl)) (fun f hf => absurd rfl hf) (fun f g hf _ _ => absurd rfl hf) (fun f hf => absurd rfl hf) (fun f hf => absurd (show (0 : Nat) = 5 from hf) (by decide)) (fun q => absurd q (by decide))
  try clear k739; try clear w721; try clear r567
  have D767 : X754.1 = D := x756.1.trans D730
  try clear D730
  have k768 : q_kd X754 q180 = 36 := by rw [dX754]; exact q_xg_h
  have n769 : q_ln X754 q180 = 60 := by rw [dX754]; exact if_pos rfl
  have x770 := x733.tr x756 (fun a e => Or.inr (by rw [e]; exact gg_q180))
  try clear x733
  have k771 := x756.kd k734 (by decide)
  have k772 := x756.kd k735 (by decide)
  have k773 := x756.kd k736 (by decide)
  have k774 := x756.kd k737 (by decide)
  have k775 := x756.kd k738 (by decide)
  have k776 := x756.kd k731 (by decide)
  have k777 : q_kd X754 q212 = 0 := x756.k0 k740 (by first | exact (Nat.ne_of_gt cc_q212) | (omega))
  try clear k740
  have k778 : q_kd X754 q246 = 0 := x756.k0 k741 (by first | exact (Nat.ne_of_gt (Nat.lt_trans cc_q212 cc_q246)) | (omega))
  try clear k741
  have k779 : q_kd X754 q282 = 0 := x756.k0 k742 (by first | exact (Nat.ne_of_gt (Nat.lt_trans (Nat.lt_trans cc_q212 cc_q246) cc_q282)) | (omega))
  try clear k742
  have k780 : q_kd X754 q320 = 0 := x756.k0 k743 (by first | exact (Nat.ne_of_gt (Nat.lt_trans (Nat.lt_trans (Nat.lt_trans cc_q212 cc_q246) cc_q282) cc_q320)) | (omega))
  try clear k743
  have k781 : q_kd X754 q360 = 0 := x756.k0 k744 (by first | exact (Nat.ne_of_gt (Nat.lt_trans (Nat.lt_trans (Nat.lt_trans (Nat.lt_trans cc_q212 cc_q246) cc_q282) cc_q320) cc_q360)) | (omega))
  try clear k744
  have k782 : q_kd X754 h = 0 := x756.k0 k745 (by first | exact (Nat.ne_of_lt hq180) | (omega))
  try clear k745
  have n783 : q_ln X754 q8 = 4 := (x756.2.2.2.1 q8 (by rw [k734]; decide)).2.1.trans n746
  have n784 : q_ln X754 q28 = 4 := (x756.2.2.2.1 q28 (by rw [k735]; decide)).2.1.trans n747
  have n785 : q_ln X754 q50 = 240 := (x756.2.2.2.1 q50 (by rw [k736]; decide)).2.1.trans n748
  try clear k736
  have n786 : q_ln X754 q74 = 900 := (x756.2.2.2.1 q74 (by rw [k737]; decide)).2.1.trans n749
  try clear k737
  have n787 : q_ln X754 q122 = 4650 := (x756.2.2.2.1 q122 (by rw [k738]; decide)).2.1.trans n750
  have n788 : q_ln X754 q150 = 654 := (x756.2.2.2.1 q150 (by rw [k731]; decide)).2.1.trans n732
  try clear k731
  have j789 : ∀ j, σ755.1 q8 j = (fun _ => 0 : Nat → Int32) j := fun j => (q_exi x756 (by rw [k734]; decide)).trans (j751 j)
  try clear k734
  have j790 : ∀ j, σ755.1 q28 j = (fun j => if j = (3 : Int32).toNatClampNeg then ((-1) : Int32) else (fun j => if j = (2 : Int32).toNatClampNeg then ((-1) : Int32) else (fun j => if j = (1 : Int32).toNatClampNeg then ((-1) : Int32) else (fun j => if j = (0 : Int32).toNatClampNeg then ((-1) : Int32) else (fun _ => 0 : Nat → Int32) j) j) j) j) j := fun j => (q_exi x756 (by rw [k735]; decide)).trans (j752 j)
  try clear k735
  have j791 : ∀ j, σ755.1 q122 j = (fun j => if j = (6 : Int32).toNatClampNeg then ((-1) : Int32) else (fun j => if j = (8 : Int32).toNatClampNeg then ((-1) : Int32) else (fun j => if j = (4 : Int32).toNatClampNeg then (4 : Int32) else (fun j => if j = (1 : Int32).toNatClampNeg then (1 : Int32) else (fun j => if j = (0 : Int32).toNatClampNeg then (2 : Int32) else (fun _ => 0 : Nat → Int32) j) j) j) j) j) j := fun j => (q_exi x756 (by rw [k738]; decide)).trans (j753 j)
  try clear x756; try clear k738
  have y796 := raw_lt r568
  try clear y796
  obtain ⟨X792, dX792⟩ : ∃ Y, Y = q_xg X754 q212 37 30 (fun _ => 0) := ⟨_, rfl⟩
  obtain ⟨σ793, dσ793⟩ : ∃ τ, τ = q_sg σ755 q212 (fun _ => 0) (fun _ => 0) 0 := ⟨_, rfl⟩
  have x794 : q_ext (fun a => a = q212) X754 X792 σ755 σ793 := by rw [dX792, dσ793]; exact q_ext.add k777
  have y797 : y_root X792 q8 := by rw [dX792]; exact y759.add y_xg (fun f hf => absurd rfl hf)
  try clear y759
  have y798 : y_root X792 q28 := by rw [dX792]; exact y760.add y_xg (fun f hf => absurd rfl hf)
  try clear y760
  have y799 : y_root X792 q50 := by rw [dX792]; exact y761.add y_xg (fun f hf => absurd rfl hf)
  try clear y761
  have y800 : y_root X792 q74 := by rw [dX792]; exact y762.add y_xg (fun f hf => absurd rfl hf)
  try clear y762
  have y801 : y_root X792 q122 := by rw [dX792]; exact y763.add y_xg (fun f hf => absurd rfl hf)
  try clear y763
  have y802 : y_root X792 q150 := by rw [dX792]; exact y764.add y_xg (fun f hf => absurd rfl hf)
  try clear y764
  have y803 : y_root X792 q180 := by rw [dX792]; exact y765.add y_xg (fun f hf => absurd rfl hf)
  try clear y765
  have y804 : y_root X792 q212 := by rw [dX792]; exact (y_root.out w757.1 k777).add y_xg (fun f hf => absurd rfl hf)
  have y805 : y_rt X X792 := by rw [dX792]; exact y766.add y_xg (fun f hf => absurd rfl hf)
  try clear y766
  have w795 : q_w X792 σ793 H554 := by
    rw [dX792, dσ793]
    exact w757.add k777 (fun f hf => absurd rfl hf) (fun _ => rfl) (by decide) (fun q => absurd q (by decide)) (fun f => q_inU rfl) (fun q => by rcases q with q | q <;> exact absurd q (by decide)) (q_cfA D767 (by decide) (t0 := 2) rfl r568 (fun j => rfl)) (fun f hf => absurd rfl hf) (fun f g hf _ _ => absurd rfl hf) (fun f hf => absurd rfl hf) (fun f hf => absurd (show (0 : Nat) = 5 from hf) (by decide)) (fun q => absurd q (by decide))
  try clear k777; try clear w757; try clear r568
  have D806 : X792.1 = D := x794.1.trans D767
  try clear D767
  have k807 : q_kd X792 q212 = 37 := by rw [dX792]; exact q_xg_h
  have n808 : q_ln X792 q212 = 30 := by rw [dX792]; exact if_pos rfl
  have x809 := x770.tr x794 (fun a e => Or.inr (by rw [e]; exact gg_q212))
  try clear x770
  have k810 := x794.kd k771 (by decide)
  have k811 := x794.kd k772 (by decide)
  have k812 := x794.kd k773 (by decide)
  have k813 := x794.kd k774 (by decide)
  have k814 := x794.kd k775 (by decide)
  have k815 := x794.kd k776 (by decide)
  have k816 := x794.kd k768 (by decide)
  have k817 : q_kd X792 q246 = 0 := x794.k0 k778 (by first | exact (Nat.ne_of_gt cc_q246) | (omega))
  try clear k778
  have k818 : q_kd X792 q282 = 0 := x794.k0 k779 (by first | exact (Nat.ne_of_gt (Nat.lt_trans cc_q246 cc_q282)) | (omega))
  try clear k779
  have k819 : q_kd X792 q320 = 0 := x794.k0 k780 (by first | exact (Nat.ne_of_gt (Nat.lt_trans (Nat.lt_trans cc_q246 cc_q282) cc_q320)) | (omega))
  try clear k780
  have k820 : q_kd X792 q360 = 0 := x794.k0 k781 (by first | exact (Nat.ne_of_gt (Nat.lt_trans (Nat.lt_trans (Nat.lt_trans cc_q246 cc_q282) cc_q320) cc_q360)) | (omega))
  try clear k781
  have k821 : q_kd X792 h = 0 := x794.k0 k782 (by first | exact (Nat.ne_of_lt hq212) | (omega))
  try clear k782
  have n822 : q_ln X792 q8 = 4 := (x794.2.2.2.1 q8 (by rw [k771]; decide)).2.1.trans n783
  have n823 : q_ln X792 q28 = 4 := (x794.2.2.2.1 q28 (by rw [k772]; decide)).2.1.trans n784
  have n824 : q_ln X792 q50 = 240 := (x794.2.2.2.1 q50 (by rw [k773]; decide)).2.1.trans n785
  try clear k773
  have n825 : q_ln X792 q74 = 900 := (x794.2.2.2.1 q74 (by rw [k774]; decide)).2.1.trans n786
  try clear k774
  have n826 : q_ln X792 q122 = 4650 := (x794.2.2.2.1 q122 (by rw [k775]; decide)).2.1.trans n787
  have n827 : q_ln X792 q150 = 654 := (x794.2.2.2.1 q150 (by rw [k776]; decide)).2.1.trans n788
  try clear k776
  have n828 : q_ln X792 q180 = 60 := (x794.2.2.2.1 q180 (by rw [k768]; decide)).2.1.trans n769
  try clear k768
  have j829 : ∀ j, σ793.1 q8 j = (fun _ => 0 : Nat → Int32) j := fun j => (q_exi x794 (by rw [k771]; decide)).trans (j789 j)
  try clear k771
  have j830 : ∀ j, σ793.1 q28 j = (fun j => if j = (3 : Int32).toNatClampNeg then ((-1) : Int32) else (fun j => if j = (2 : Int32).toNatClampNeg then ((-1) : Int32) else (fun j => if j = (1 : Int32).toNatClampNeg then ((-1) : Int32) else (fun j => if j = (0 : Int32).toNatClampNeg then ((-1) : Int32) else (fun _ => 0 : Nat → Int32) j) j) j) j) j := fun j => (q_exi x794 (by rw [k772]; decide)).trans (j790 j)
  try clear k772
  have j831 : ∀ j, σ793.1 q122 j = (fun j => if j = (6 : Int32).toNatClampNeg then ((-1) : Int32) else (fun j => if j = (8 : Int32).toNatClampNeg then ((-1) : Int32) else (fun j => if j = (4 : Int32).toNatClampNeg then (4 : Int32) else (fun j => if j = (1 : Int32).toNatClampNeg then (1 : Int32) else (fun j => if j = (0 : Int32).toNatClampNeg then (2 : Int32) else (fun _ => 0 : Nat → Int32) j) j) j) j) j) j := fun j => (q_exi x794 (by rw [k775]; decide)).trans (j791 j)
  try clear x794; try clear k775
  have y836 := raw_lt r569
  try clear y836
  obtain ⟨X832, dX832⟩ : ∃ Y, Y = q_xg X792 q246 39 10 (fun _ => 0) := ⟨_, rfl⟩
  obtain ⟨σ833, dσ833⟩ : ∃ τ, τ = q_sg σ793 q246 (fun _ => 0 : Nat → Int32) (fun _ => 0) 0 := ⟨_, rfl⟩
  have x834 : q_ext (fun a => a = q246) X792 X832 σ793 σ833 := by rw [dX832, dσ833]; exact q_ext.add k817
  have y837 : y_root X832 q8 := by rw [dX832]; exact y797.add y_xg (fun f hf => absurd rfl hf)
  try clear y797
  have y838 : y_root X832 q28 := by rw [dX832]; exact y798.add y_xg (fun f hf => absurd rfl hf)
  try clear y798
  have y839 : y_root X832 q50 := by rw [dX832]; exact y799.add y_xg (fun f hf => absurd rfl hf)
  try clear y799
  have y840 : y_root X832 q74 := by rw [dX832]; exact y800.add y_xg (fun f hf => absurd rfl hf)
  try clear y800
  have y841 : y_root X832 q122 := by rw [dX832]; exact y801.add y_xg (fun f hf => absurd rfl hf)
  try clear y801
  have y842 : y_root X832 q150 := by rw [dX832]; exact y802.add y_xg (fun f hf => absurd rfl hf)
  try clear y802
  have y843 : y_root X832 q180 := by rw [dX832]; exact y803.add y_xg (fun f hf => absurd rfl hf)
  try clear y803
  have y844 : y_root X832 q212 := by rw [dX832]; exact y804.add y_xg (fun f hf => absurd rfl hf)
  try clear y804
  have y845 : y_root X832 q246 := by rw [dX832]; exact (y_root.out w795.1 k817).add y_xg (fun f hf => absurd rfl hf)
  have y846 : y_rt X X832 := by rw [dX832]; exact y805.add y_xg (fun f hf => absurd rfl hf)
  try clear y805
  have w835 : q_w X832 σ833 H554 := by
    rw [dX832, dσ833]
    exact w795.add k817 (fun f hf => absurd rfl hf) (fun _ => rfl) (by decide) (fun q => absurd q (by decide)) (fun f => q_inU rfl) (fun q => by rcases q with q | q <;> exact absurd q (by decide)) (q_cfA D806 (by decide) (t0 := 1) rfl r569 (fun j => rfl)) (fun f hf => absurd rfl hf) (fun f g hf _ _ => absurd rfl hf) (fun f hf => absurd rfl hf) (fun f hf => absurd (show (0 : Nat) = 5 from hf) (by decide)) (fun q => absurd q (by decide))
  try clear k817; try clear w795; try clear r569
  have D847 : X832.1 = D := x834.1.trans D806
  try clear D806
  have k848 : q_kd X832 q246 = 39 := by rw [dX832]; exact q_xg_h
  have n849 : q_ln X832 q246 = 10 := by rw [dX832]; exact if_pos rfl
  have x850 := x809.tr x834 (fun a e => Or.inr (by rw [e]; exact gg_q246))
  try clear x809
  have k851 := x834.kd k810 (by decide)
  have k852 := x834.kd k811 (by decide)
  have k853 := x834.kd k812 (by decide)
  have k854 := x834.kd k813 (by decide)
  have k855 := x834.kd k814 (by decide)
  have k856 := x834.kd k815 (by decide)
  have k857 := x834.kd k816 (by decide)
  have k858 := x834.kd k807 (by decide)
  have k859 : q_kd X832 q282 = 0 := x834.k0 k818 (by first | exact (Nat.ne_of_gt cc_q282) | (omega))
  try clear k818
  have k860 : q_kd X832 q320 = 0 := x834.k0 k819 (by first | exact (Nat.ne_of_gt (Nat.lt_trans cc_q282 cc_q320)) | (omega))
  try clear k819
  have k861 : q_kd X832 q360 = 0 := x834.k0 k820 (by first | exact (Nat.ne_of_gt (Nat.lt_trans (Nat.lt_trans cc_q282 cc_q320) cc_q360)) | (omega))
  try clear k820
  have k862 : q_kd X832 h = 0 := x834.k0 k821 (by first | exact (Nat.ne_of_lt hq246) | (omega))
  try clear k821
  have n863 : q_ln X832 q8 = 4 := (x834.2.2.2.1 q8 (by rw [k810]; decide)).2.1.trans n822
  have n864 : q_ln X832 q28 = 4 := (x834.2.2.2.1 q28 (by rw [k811]; decide)).2.1.trans n823
  have n865 : q_ln X832 q50 = 240 := (x834.2.2.2.1 q50 (by rw [k812]; decide)).2.1.trans n824
  try clear k812
  have n866 : q_ln X832 q74 = 900 := (x834.2.2.2.1 q74 (by rw [k813]; decide)).2.1.trans n825
  try clear k813
  have n867 : q_ln X832 q122 = 4650 := (x834.2.2.2.1 q122 (by rw [k814]; decide)).2.1.trans n826
  have n868 : q_ln X832 q150 = 654 := (x834.2.2.2.1 q150 (by rw [k815]; decide)).2.1.trans n827
  try clear k815
  have n869 : q_ln X832 q180 = 60 := (x834.2.2.2.1 q180 (by rw [k816]; decide)).2.1.trans n828
  try clear k816
  have n870 : q_ln X832 q212 = 30 := (x834.2.2.2.1 q212 (by rw [k807]; decide)).2.1.trans n808
  try clear k807
  have j871 : ∀ j, σ833.1 q8 j = (fun _ => 0 : Nat → Int32) j := fun j => (q_exi x834 (by rw [k810]; decide)).trans (j829 j)
  try clear k810
  have j872 : ∀ j, σ833.1 q28 j = (fun j => if j = (3 : Int32).toNatClampNeg then ((-1) : Int32) else (fun j => if j = (2 : Int32).toNatClampNeg then ((-1) : Int32) else (fun j => if j = (1 : Int32).toNatClampNeg then ((-1) : Int32) else (fun j => if j = (0 : Int32).toNatClampNeg then ((-1) : Int32) else (fun _ => 0 : Nat → Int32) j) j) j) j) j := fun j => (q_exi x834 (by rw [k811]; decide)).trans (j830 j)
  try clear k811
  have j873 : ∀ j, σ833.1 q122 j = (fun j => if j = (6 : Int32).toNatClampNeg then ((-1) : Int32) else (fun j => if j = (8 : Int32).toNatClampNeg then ((-1) : Int32) else (fun j => if j = (4 : Int32).toNatClampNeg then (4 : Int32) else (fun j => if j = (1 : Int32).toNatClampNeg then (1 : Int32) else (fun j => if j = (0 : Int32).toNatClampNeg then (2 : Int32) else (fun _ => 0 : Nat → Int32) j) j) j) j) j) j := fun j => (q_exi x834 (by rw [k814]; decide)).trans (j831 j)
  try clear x834; try clear k814
  have y878 := raw_lt r570
  try clear y878
  obtain ⟨X874, dX874⟩ : ∃ Y, Y = q_xg X832 q282 40 4 (fun _ => 0) := ⟨_, rfl⟩
  obtain ⟨σ875, dσ875⟩ : ∃ τ, τ = q_sg σ833 q282 (fun _ => 0 : Nat → Int32) (fun _ => 0) 0 := ⟨_, rfl⟩
  have x876 : q_ext (fun a => a = q282) X832 X874 σ833 σ875 := by rw [dX874, dσ875]; exact q_ext.add k859
  have y879 : y_root X874 q8 := by rw [dX874]; exact y837.add y_xg (fun f hf => absurd rfl hf)
  try clear y837
  have y880 : y_root X874 q28 := by rw [dX874]; exact y838.add y_xg (fun f hf => absurd rfl hf)
  try clear y838
  have y881 : y_root X874 q50 := by rw [dX874]; exact y839.add y_xg (fun f hf => absurd rfl hf)
  try clear y839
  have y882 : y_root X874 q74 := by rw [dX874]; exact y840.add y_xg (fun f hf => absurd rfl hf)
  try clear y840
  have y883 : y_root X874 q122 := by rw [dX874]; exact y841.add y_xg (fun f hf => absurd rfl hf)
  try clear y841
  have y884 : y_root X874 q150 := by rw [dX874]; exact y842.add y_xg (fun f hf => absurd rfl hf)
  try clear y842
  have y885 : y_root X874 q180 := by rw [dX874]; exact y843.add y_xg (fun f hf => absurd rfl hf)
  try clear y843
  have y886 : y_root X874 q212 := by rw [dX874]; exact y844.add y_xg (fun f hf => absurd rfl hf)
  try clear y844
  have y887 : y_root X874 q246 := by rw [dX874]; exact y845.add y_xg (fun f hf => absurd rfl hf)
  try clear y845
  have y888 : y_root X874 q282 := by rw [dX874]; exact (y_root.out w835.1 k859).add y_xg (fun f hf => absurd rfl hf)
  have y889 : y_rt X X874 := by rw [dX874]; exact y846.add y_xg (fun f hf => absurd rfl hf)
  try clear y846
  have w877 : q_w X874 σ875 H554 := by
    rw [dX874, dσ875]
    exact w835.add k859 (fun f hf => absurd rfl hf) (fun _ => rfl) (by decide) (fun q => absurd q (by decide)) (fun f => q_inU rfl) (fun q => by rcases q with q | q <;> exact absurd q (by decide)) (q_cfA D847 (by decide) (t0 := 1) rfl r570 (fun j => rfl)) (fun f hf => absurd rfl hf) (fun f g hf _ _ => absurd rfl hf) (fun f hf => absurd rfl hf) (fun f hf => absurd (show (0 : Nat) = 5 from hf) (by decide)) (fun q => absurd q (by decide))
  try clear k859; try clear w835; try clear r570
  have D890 : X874.1 = D := x876.1.trans D847
  try clear D847
  have k891 : q_kd X874 q282 = 40 := by rw [dX874]; exact q_xg_h
  have n892 : q_ln X874 q282 = 4 := by rw [dX874]; exact if_pos rfl
  have x893 := x850.tr x876 (fun a e => Or.inr (by rw [e]; exact gg_q282))
  try clear x850
  have k894 := x876.kd k851 (by decide)
  have k895 := x876.kd k852 (by decide)
  have k896 := x876.kd k853 (by decide)
  have k897 := x876.kd k854 (by decide)
  have k898 := x876.kd k855 (by decide)
  have k899 := x876.kd k856 (by decide)
  have k900 := x876.kd k857 (by decide)
  have k901 := x876.kd k858 (by decide)
  have k902 := x876.kd k848 (by decide)
  have k903 : q_kd X874 q320 = 0 := x876.k0 k860 (by first | exact (Nat.ne_of_gt cc_q320) | (omega))
  try clear k860
  have k904 : q_kd X874 q360 = 0 := x876.k0 k861 (by first | exact (Nat.ne_of_gt (Nat.lt_trans cc_q320 cc_q360)) | (omega))
  try clear k861
  have k905 : q_kd X874 h = 0 := x876.k0 k862 (by first | exact (Nat.ne_of_lt hq282) | (omega))
  try clear k862
  have n906 : q_ln X874 q8 = 4 := (x876.2.2.2.1 q8 (by rw [k851]; decide)).2.1.trans n863
  have n907 : q_ln X874 q28 = 4 := (x876.2.2.2.1 q28 (by rw [k852]; decide)).2.1.trans n864
  have n908 : q_ln X874 q50 = 240 := (x876.2.2.2.1 q50 (by rw [k853]; decide)).2.1.trans n865
  try clear k853
  have n909 : q_ln X874 q74 = 900 := (x876.2.2.2.1 q74 (by rw [k854]; decide)).2.1.trans n866
  try clear k854
  have n910 : q_ln X874 q122 = 4650 := (x876.2.2.2.1 q122 (by rw [k855]; decide)).2.1.trans n867
  have n911 : q_ln X874 q150 = 654 := (x876.2.2.2.1 q150 (by rw [k856]; decide)).2.1.trans n868
  try clear k856
  have n912 : q_ln X874 q180 = 60 := (x876.2.2.2.1 q180 (by rw [k857]; decide)).2.1.trans n869
  try clear k857
  have n913 : q_ln X874 q212 = 30 := (x876.2.2.2.1 q212 (by rw [k858]; decide)).2.1.trans n870
  try clear k858
  have n914 : q_ln X874 q246 = 10 := (x876.2.2.2.1 q246 (by rw [k848]; decide)).2.1.trans n849
  try clear k848
  have j915 : ∀ j, σ875.1 q8 j = (fun _ => 0 : Nat → Int32) j := fun j => (q_exi x876 (by rw [k851]; decide)).trans (j871 j)
  try clear k851
  have j916 : ∀ j, σ875.1 q28 j = (fun j => if j = (3 : Int32).toNatClampNeg then ((-1) : Int32) else (fun j => if j = (2 : Int32).toNatClampNeg then ((-1) : Int32) else (fun j => if j = (1 : Int32).toNatClampNeg then ((-1) : Int32) else (fun j => if j = (0 : Int32).toNatClampNeg then ((-1) : Int32) else (fun _ => 0 : Nat → Int32) j) j) j) j) j := fun j => (q_exi x876 (by rw [k852]; decide)).trans (j872 j)
  try clear k852
  have j917 : ∀ j, σ875.1 q122 j = (fun j => if j = (6 : Int32).toNatClampNeg then ((-1) : Int32) else (fun j => if j = (8 : Int32).toNatClampNeg then ((-1) : Int32) else (fun j => if j = (4 : Int32).toNatClampNeg then (4 : Int32) else (fun j => if j = (1 : Int32).toNatClampNeg then (1 : Int32) else (fun j => if j = (0 : Int32).toNatClampNeg then (2 : Int32) else (fun _ => 0 : Nat → Int32) j) j) j) j) j) j := fun j => (q_exi x876 (by rw [k855]; decide)).trans (j873 j)
  try clear x876; try clear k855
  have y922 := raw_lt r571
  try clear y922
  obtain ⟨X918, dX918⟩ : ∃ Y, Y = q_xg X874 q320 38 10 (fun _ => 0) := ⟨_, rfl⟩
  obtain ⟨σ919, dσ919⟩ : ∃ τ, τ = q_sg σ875 q320 (fun _ => 0 : Nat → Int32) (fun _ => 0) 0 := ⟨_, rfl⟩
  have x920 : q_ext (fun a => a = q320) X874 X918 σ875 σ919 := by rw [dX918, dσ919]; exact q_ext.add k903
  have y923 : y_root X918 q8 := by rw [dX918]; exact y879.add y_xg (fun f hf => absurd rfl hf)
  try clear y879
  have y924 : y_root X918 q28 := by rw [dX918]; exact y880.add y_xg (fun f hf => absurd rfl hf)
  try clear y880
  have y925 : y_root X918 q50 := by rw [dX918]; exact y881.add y_xg (fun f hf => absurd rfl hf)
  try clear y881
  have y926 : y_root X918 q74 := by rw [dX918]; exact y882.add y_xg (fun f hf => absurd rfl hf)
  try clear y882
  have y927 : y_root X918 q122 := by rw [dX918]; exact y883.add y_xg (fun f hf => absurd rfl hf)
  try clear y883
  have y928 : y_root X918 q150 := by rw [dX918]; exact y884.add y_xg (fun f hf => absurd rfl hf)
  try clear y884
  have y929 : y_root X918 q180 := by rw [dX918]; exact y885.add y_xg (fun f hf => absurd rfl hf)
  try clear y885
  have y930 : y_root X918 q212 := by rw [dX918]; exact y886.add y_xg (fun f hf => absurd rfl hf)
  try clear y886
  have y931 : y_root X918 q246 := by rw [dX918]; exact y887.add y_xg (fun f hf => absurd rfl hf)
  try clear y887
  have y932 : y_root X918 q282 := by rw [dX918]; exact y888.add y_xg (fun f hf => absurd rfl hf)
  try clear y888
  have y933 : y_root X918 q320 := by rw [dX918]; exact (y_root.out w877.1 k903).add y_xg (fun f hf => absurd rfl hf)
  have y934 : y_rt X X918 := by rw [dX918]; exact y889.add y_xg (fun f hf => absurd rfl hf)
  try clear y889
  have w921 : q_w X918 σ919 H554 := by
    rw [dX918, dσ919]
    exact w877.add k903 (fun f hf => absurd rfl hf) (fun _ => rfl) (by decide) (fun q => absurd q (by decide)) (fun f => q_inU rfl) (fun q => by rcases q with q | q <;> exact absurd q (by decide)) (q_cfA D890 (by decide) (t0 := 1) rfl r571 (fun j => rfl)) (fun f hf => absurd rfl hf) (fun f g hf _ _ => absurd rfl hf) (fun f hf => absurd rfl hf) (fun f hf => absurd (show (0 : Nat) = 5 from hf) (by decide)) (fun q => absurd q (by decide))
  try clear k903; try clear w877; try clear r571
  have D935 : X918.1 = D := x920.1.trans D890
  try clear D890
  have k936 : q_kd X918 q320 = 38 := by rw [dX918]; exact q_xg_h
  have n937 : q_ln X918 q320 = 10 := by rw [dX918]; exact if_pos rfl
  have x938 := x893.tr x920 (fun a e => Or.inr (by rw [e]; exact gg_q320))
  try clear x893
  have k939 := x920.kd k894 (by decide)
  have k940 := x920.kd k895 (by decide)
  have k941 := x920.kd k896 (by decide)
  have k942 := x920.kd k897 (by decide)
  have k943 := x920.kd k898 (by decide)
  have k944 := x920.kd k899 (by decide)
  have k945 := x920.kd k900 (by decide)
  have k946 := x920.kd k901 (by decide)
  have k947 := x920.kd k902 (by decide)
  have k948 := x920.kd k891 (by decide)
  have k949 : q_kd X918 q360 = 0 := x920.k0 k904 (by first | exact (Nat.ne_of_gt cc_q360) | (omega))
  try clear k904
  have k950 : q_kd X918 h = 0 := x920.k0 k905 (by first | exact (Nat.ne_of_lt hq320) | (omega))
  try clear k905
  have n951 : q_ln X918 q8 = 4 := (x920.2.2.2.1 q8 (by rw [k894]; decide)).2.1.trans n906
  have n952 : q_ln X918 q28 = 4 := (x920.2.2.2.1 q28 (by rw [k895]; decide)).2.1.trans n907
  have n953 : q_ln X918 q50 = 240 := (x920.2.2.2.1 q50 (by rw [k896]; decide)).2.1.trans n908
  try clear k896
  have n954 : q_ln X918 q74 = 900 := (x920.2.2.2.1 q74 (by rw [k897]; decide)).2.1.trans n909
  try clear k897
  have n955 : q_ln X918 q122 = 4650 := (x920.2.2.2.1 q122 (by rw [k898]; decide)).2.1.trans n910
  have n956 : q_ln X918 q150 = 654 := (x920.2.2.2.1 q150 (by rw [k899]; decide)).2.1.trans n911
  try clear k899
  have n957 : q_ln X918 q180 = 60 := (x920.2.2.2.1 q180 (by rw [k900]; decide)).2.1.trans n912
  try clear k900
  have n958 : q_ln X918 q212 = 30 := (x920.2.2.2.1 q212 (by rw [k901]; decide)).2.1.trans n913
  try clear k901
  have n959 : q_ln X918 q246 = 10 := (x920.2.2.2.1 q246 (by rw [k902]; decide)).2.1.trans n914
  try clear k902
  have n960 : q_ln X918 q282 = 4 := (x920.2.2.2.1 q282 (by rw [k891]; decide)).2.1.trans n892
  try clear k891
  have j961 : ∀ j, σ919.1 q8 j = (fun _ => 0 : Nat → Int32) j := fun j => (q_exi x920 (by rw [k894]; decide)).trans (j915 j)
  try clear k894
  have j962 : ∀ j, σ919.1 q28 j = (fun j => if j = (3 : Int32).toNatClampNeg then ((-1) : Int32) else (fun j => if j = (2 : Int32).toNatClampNeg then ((-1) : Int32) else (fun j => if j = (1 : Int32).toNatClampNeg then ((-1) : Int32) else (fun j => if j = (0 : Int32).toNatClampNeg then ((-1) : Int32) else (fun _ => 0 : Nat → Int32) j) j) j) j) j := fun j => (q_exi x920 (by rw [k895]; decide)).trans (j916 j)
  try clear k895
  have j963 : ∀ j, σ919.1 q122 j = (fun j => if j = (6 : Int32).toNatClampNeg then ((-1) : Int32) else (fun j => if j = (8 : Int32).toNatClampNeg then ((-1) : Int32) else (fun j => if j = (4 : Int32).toNatClampNeg then (4 : Int32) else (fun j => if j = (1 : Int32).toNatClampNeg then (1 : Int32) else (fun j => if j = (0 : Int32).toNatClampNeg then (2 : Int32) else (fun _ => 0 : Nat → Int32) j) j) j) j) j) j := fun j => (q_exi x920 (by rw [k898]; decide)).trans (j917 j)
  try clear x920; try clear k898
  have y968 := raw_lt r572
  try clear y968
  obtain ⟨X964, dX964⟩ : ∃ Y, Y = q_xg X918 q360 41 5 (fun _ => 0) := ⟨_, rfl⟩
  obtain ⟨σ965, dσ965⟩ : ∃ τ, τ = q_sg σ919 q360 (fun _ => 0 : Nat → Int32) (fun _ => 0) 0 := ⟨_, rfl⟩
  have x966 : q_ext (fun a => a = q360) X918 X964 σ919 σ965 := by rw [dX964, dσ965]; exact q_ext.add k949
  have y969 : y_root X964 q8 := by rw [dX964]; exact y923.add y_xg (fun f hf => absurd rfl hf)
  try clear y923
  have y970 : y_root X964 q28 := by rw [dX964]; exact y924.add y_xg (fun f hf => absurd rfl hf)
  try clear y924
  have y971 : y_root X964 q50 := by rw [dX964]; exact y925.add y_xg (fun f hf => absurd rfl hf)
  try clear y925
  have y972 : y_root X964 q74 := by rw [dX964]; exact y926.add y_xg (fun f hf => absurd rfl hf)
  try clear y926
  have y973 : y_root X964 q122 := by rw [dX964]; exact y927.add y_xg (fun f hf => absurd rfl hf)
  try clear y927
  have y974 : y_root X964 q150 := by rw [dX964]; exact y928.add y_xg (fun f hf => absurd rfl hf)
  try clear y928
  have y975 : y_root X964 q180 := by rw [dX964]; exact y929.add y_xg (fun f hf => absurd rfl hf)
  try clear y929
  have y976 : y_root X964 q212 := by rw [dX964]; exact y930.add y_xg (fun f hf => absurd rfl hf)
  try clear y930
  have y977 : y_root X964 q246 := by rw [dX964]; exact y931.add y_xg (fun f hf => absurd rfl hf)
  try clear y931
  have y978 : y_root X964 q282 := by rw [dX964]; exact y932.add y_xg (fun f hf => absurd rfl hf)
  try clear y932
  have y979 : y_root X964 q320 := by rw [dX964]; exact y933.add y_xg (fun f hf => absurd rfl hf)
  try clear y933
  have y980 : y_root X964 q360 := by rw [dX964]; exact (y_root.out w921.1 k949).add y_xg (fun f hf => absurd rfl hf)
  have y981 : y_rt X X964 := by rw [dX964]; exact y934.add y_xg (fun f hf => absurd rfl hf)
  try clear y934
  have w967 : q_w X964 σ965 H554 := by
    rw [dX964, dσ965]
    exact w921.add k949 (fun f hf => absurd rfl hf) (fun _ => rfl) (by decide) (fun q => absurd q (by decide)) (fun f => q_inU rfl) (fun q => by rcases q with q | q <;> exact absurd q (by decide)) (q_cfA D935 (by decide) (t0 := 1) rfl r572 (fun j => rfl)) (fun f hf => absurd rfl hf) (fun f g hf _ _ => absurd rfl hf) (fun f hf => absurd rfl hf) (fun f hf => absurd (show (0 : Nat) = 5 from hf) (by decide)) (fun q => absurd q (by decide))
  try clear k949; try clear w921; try clear r572; try clear t0
  have D982 : X964.1 = D := x966.1.trans D935
  try clear D935
  have k983 : q_kd X964 q360 = 41 := by rw [dX964]; exact q_xg_h
  have n984 : q_ln X964 q360 = 5 := by rw [dX964]; exact if_pos rfl
  have x985 := x938.tr x966 (fun a e => Or.inr (by rw [e]; exact gg_q360))
  try clear x938
  have k986 := x966.kd k939 (by decide)
  have k987 := x966.kd k940 (by decide)
  have k988 := x966.kd k941 (by decide)
  have k989 := x966.kd k942 (by decide)
  have k990 := x966.kd k943 (by decide)
  have k991 := x966.kd k944 (by decide)
  have k992 := x966.kd k945 (by decide)
  have k993 := x966.kd k946 (by decide)
  have k994 := x966.kd k947 (by decide)
  have k995 := x966.kd k948 (by decide)
  have k996 := x966.kd k936 (by decide)
  have k997 : q_kd X964 h = 0 := x966.k0 k950 (by first | exact (Nat.ne_of_lt hq360) | (omega))
  try clear k950
  have n998 : q_ln X964 q8 = 4 := (x966.2.2.2.1 q8 (by rw [k939]; decide)).2.1.trans n951
  have n999 : q_ln X964 q28 = 4 := (x966.2.2.2.1 q28 (by rw [k940]; decide)).2.1.trans n952
  have n1000 : q_ln X964 q50 = 240 := (x966.2.2.2.1 q50 (by rw [k941]; decide)).2.1.trans n953
  try clear k941
  have n1001 : q_ln X964 q74 = 900 := (x966.2.2.2.1 q74 (by rw [k942]; decide)).2.1.trans n954
  try clear k942
  have n1002 : q_ln X964 q122 = 4650 := (x966.2.2.2.1 q122 (by rw [k943]; decide)).2.1.trans n955
  have n1003 : q_ln X964 q150 = 654 := (x966.2.2.2.1 q150 (by rw [k944]; decide)).2.1.trans n956
  try clear k944
  have n1004 : q_ln X964 q180 = 60 := (x966.2.2.2.1 q180 (by rw [k945]; decide)).2.1.trans n957
  try clear k945
  have n1005 : q_ln X964 q212 = 30 := (x966.2.2.2.1 q212 (by rw [k946]; decide)).2.1.trans n958
  try clear k946
  have n1006 : q_ln X964 q246 = 10 := (x966.2.2.2.1 q246 (by rw [k947]; decide)).2.1.trans n959
  try clear k947
  have n1007 : q_ln X964 q282 = 4 := (x966.2.2.2.1 q282 (by rw [k948]; decide)).2.1.trans n960
  try clear k948
  have n1008 : q_ln X964 q320 = 10 := (x966.2.2.2.1 q320 (by rw [k936]; decide)).2.1.trans n937
  try clear k936
  have j1009 : ∀ j, σ965.1 q8 j = (fun _ => 0 : Nat → Int32) j := fun j => (q_exi x966 (by rw [k939]; decide)).trans (j961 j)
  try clear k939
  have j1010 : ∀ j, σ965.1 q28 j = (fun j => if j = (3 : Int32).toNatClampNeg then ((-1) : Int32) else (fun j => if j = (2 : Int32).toNatClampNeg then ((-1) : Int32) else (fun j => if j = (1 : Int32).toNatClampNeg then ((-1) : Int32) else (fun j => if j = (0 : Int32).toNatClampNeg then ((-1) : Int32) else (fun _ => 0 : Nat → Int32) j) j) j) j) j := fun j => (q_exi x966 (by rw [k940]; decide)).trans (j962 j)
  try clear k940
  have j1011 : ∀ j, σ965.1 q122 j = (fun j => if j = (6 : Int32).toNatClampNeg then ((-1) : Int32) else (fun j => if j = (8 : Int32).toNatClampNeg then ((-1) : Int32) else (fun j => if j = (4 : Int32).toNatClampNeg then (4 : Int32) else (fun j => if j = (1 : Int32).toNatClampNeg then (1 : Int32) else (fun j => if j = (0 : Int32).toNatClampNeg then (2 : Int32) else (fun _ => 0 : Nat → Int32) j) j) j) j) j) j := fun j => (q_exi x966 (by rw [k943]; decide)).trans (j963 j)
  try clear x966; try clear k943
  obtain ⟨X1012, dX1012⟩ : ∃ Y, Y = q_xg X964 h 12 0 (fun f => ([0, 0, 0, 0, q8, q28, q50, q74, 0, 0, 0, 0, 0, 0, 0, 0, 0, 0, 0, 0, q122, q150, q180, q212, 0, 0, 0, 0, q246, q282, 0, 0, q320, 0, 0, 0, q360, 0, 0, 0, 0, 0, 0, 0, 0, 0] : List Nat).getD f 0) := ⟨_, rfl⟩
  obtain ⟨σ1013, dσ1013⟩ : ∃ τ, τ = q_sg σ965 h (fun f => ([0, 0, 0, 0, 0, 0, 0, 0, 0, 0, (-1), (-1), 0, 0, 0, 0, 0, 0, 0, 0, 0, 0, 0, 0, 0, 0, 0, 0, 0, 0, 0, 0, 0, 0, 0, 0, 0, 0, 0, 0, 0, 0, 0, 0, 0, 0] : List Int32).getD f 0) (fun f => ([0, 0, 0, 1, 0, 0, 0, 0, 0, 0, 0, 0, 0, 0, 0, 0, 0, 0, 0, 0, 0, 0, 0, 0, 0, 0, 0, 0, 0, 0, 0, 0, 0, 0, 0, 0, 0, 0, 0, 0, 0, 0, 0, 0, 0, 0] : List Int64).getD f 0) 0 := ⟨_, rfl⟩
  have x1014 : q_ext (fun a => a = h) X964 X1012 σ965 σ1013 := by rw [dX1012, dσ1013]; exact q_ext.add k997
  have hrk : ∀ f, f < 40 → q_rk 12 f ≠ 0 → q_kd X964 (([0, 0, 0, 0, q8, q28, q50, q74, 0, 0, 0, 0, 0, 0, 0, 0, 0, 0, 0, 0, q122, q150, q180, q212, 0, 0, 0, 0, q246, q282, 0, 0, q320, 0, 0, 0, q360, 0, 0, 0, 0, 0, 0, 0, 0, 0] : List Nat).getD f 0) = q_rk 12 f := fun f h40 hf => match f, h40, hf with | 0, _, hf => absurd rfl hf | 1, _, hf => absurd rfl hf | 2, _, hf => absurd rfl hf | 3, _, hf => absurd rfl hf | 4, _, _ => k986 | 5, _, _ => k987 | 6, _, _ => k988 | 7, _, _ => k989 | 8, _, hf => absurd rfl hf | 9, _, hf => absurd rfl hf | 10, _, hf => absurd rfl hf | 11, _, hf => absurd rfl hf | 12, _, hf => absurd rfl hf | 13, _, hf => absurd rfl hf | 14, _, hf => absurd rfl hf | 15, _, hf => absurd rfl hf | 16, _, hf => absurd rfl hf | 17, _, hf => absurd rfl hf | 18, _, hf => absurd rfl hf | 19, _, hf => absurd rfl hf | 20, _, _ => k990 | 21, _, _ => k991 | 22, _, _ => k992 | 23, _, _ => k993 | 24, _, hf => absurd rfl hf | 25, _, hf => absurd rfl hf | 26, _, hf => absurd rfl hf | 27, _, hf => absurd rfl hf | 28, _, _ => k994 | 29, _, _ => k995 | 30, _, hf => absurd rfl hf | 31, _, hf => absurd rfl hf | 32, _, _ => k996 | 33, _, hf => absurd rfl hf | 34, _, hf => absurd rfl hf | 35, _, hf => absurd rfl hf | 36, _, _ => k983 | 37, _, hf => absurd rfl hf | 38, _, hf => absurd rfl hf | 39, _, hf => absurd rfl hf | (n + 40), h40, _ => absurd h40 (Nat.not_lt_of_ge (Nat.le_add_left 40 n))
  have hB : ∀ f, f < 40 → (q_bn 12 f).1 ≤ ((([0, 0, 0, 0, 0, 0, 0, 0, 0, 0, (-1), (-1), 0, 0, 0, 0, 0, 0, 0, 0, 0, 0, 0, 0, 0, 0, 0, 0, 0, 0, 0, 0, 0, 0, 0, 0, 0, 0, 0, 0, 0, 0, 0, 0, 0, 0] : List Int32).getD f 0).toInt) ∧ (([0, 0, 0, 0, 0, 0, 0, 0, 0, 0, (-1), (-1), 0, 0, 0, 0, 0, 0, 0, 0, 0, 0, 0, 0, 0, 0, 0, 0, 0, 0, 0, 0, 0, 0, 0, 0, 0, 0, 0, 0, 0, 0, 0, 0, 0, 0] : List Int32).getD f 0).toInt ≤ (q_bn 12 f).2 := by decide +kernel
  have y1016 : ∀ f, q_rk 12 f ≠ 0 → h < ([0, 0, 0, 0, q8, q28, q50, q74, 0, 0, 0, 0, 0, 0, 0, 0, 0, 0, 0, 0, q122, q150, q180, q212, 0, 0, 0, 0, q246, q282, 0, 0, q320, 0, 0, 0, q360, 0, 0, 0, 0, 0, 0, 0, 0, 0] : List Nat).getD f 0 := by
    intro f hf
    rcases y_fs12 hf with rfl | rfl | rfl | rfl | rfl | rfl | rfl | rfl | rfl | rfl | rfl | rfl
    · exact (hq8)
    · exact (hq28)
    · exact (hq50)
    · exact (hq74)
    · exact (hq122)
    · exact (hq150)
    · exact (hq180)
    · exact (hq212)
    · exact (hq246)
    · exact (hq282)
    · exact (hq320)
    · exact (hq360)
  have y1017 : ∀ f, q_rk 12 f ≠ 0 → y_root X964 (([0, 0, 0, 0, q8, q28, q50, q74, 0, 0, 0, 0, 0, 0, 0, 0, 0, 0, 0, 0, q122, q150, q180, q212, 0, 0, 0, 0, q246, q282, 0, 0, q320, 0, 0, 0, q360, 0, 0, 0, 0, 0, 0, 0, 0, 0] : List Nat).getD f 0) := by
    intro f hf
    rcases y_fs12 hf with rfl | rfl | rfl | rfl | rfl | rfl | rfl | rfl | rfl | rfl | rfl | rfl
    · exact y969
    · exact y970
    · exact y971
    · exact y972
    · exact y973
    · exact y974
    · exact y975
    · exact y976
    · exact y977
    · exact y978
    · exact y979
    · exact y980
  try clear y980; try clear y979; try clear y978; try clear y977; try clear y976; try clear y975; try clear y974; try clear y973; try clear y972; try clear y971; try clear y970; try clear y969
  have y1018 : ∀ f, q_rk 12 f = 5 → q_ln X964 (q_rf X964 (([0, 0, 0, 0, q8, q28, q50, q74, 0, 0, 0, 0, 0, 0, 0, 0, 0, 0, 0, 0, q122, q150, q180, q212, 0, 0, 0, 0, q246, q282, 0, 0, q320, 0, 0, 0, q360, 0, 0, 0, 0, 0, 0, 0, 0, 0] : List Nat).getD f 0) 0) = y_rl 12 f := by
    intro f hf
    rcases y_fs12 (show q_rk 12 f ≠ 0 by rw [hf]; decide) with rfl | rfl | rfl | rfl | rfl | rfl | rfl | rfl | rfl | rfl | rfl | rfl
    · exact absurd hf (by decide)
    · exact absurd hf (by decide)
    · exact absurd hf (by decide)
    · exact absurd hf (by decide)
    · exact absurd hf (by decide)
    · exact absurd hf (by decide)
    · exact absurd hf (by decide)
    · exact absurd hf (by decide)
    · exact absurd hf (by decide)
    · exact absurd hf (by decide)
    · exact absurd hf (by decide)
    · exact absurd hf (by decide)
  have y1019 : ∀ f, q_rk 12 f ≠ 0 → ([0, 0, 0, 0, q8, q28, q50, q74, 0, 0, 0, 0, 0, 0, 0, 0, 0, 0, 0, 0, q122, q150, q180, q212, 0, 0, 0, 0, q246, q282, 0, 0, q320, 0, 0, 0, q360, 0, 0, 0, 0, 0, 0, 0, 0, 0] : List Nat).getD f 0 ≠ h := by
    intro f hf
    rcases y_fs12 hf with rfl | rfl | rfl | rfl | rfl | rfl | rfl | rfl | rfl | rfl | rfl | rfl
    · exact ((Nat.ne_of_gt hq8))
    · exact ((Nat.ne_of_gt hq28))
    · exact ((Nat.ne_of_gt hq50))
    · exact ((Nat.ne_of_gt hq74))
    · exact ((Nat.ne_of_gt hq122))
    · exact ((Nat.ne_of_gt hq150))
    · exact ((Nat.ne_of_gt hq180))
    · exact ((Nat.ne_of_gt hq212))
    · exact ((Nat.ne_of_gt hq246))
    · exact ((Nat.ne_of_gt hq282))
    · exact ((Nat.ne_of_gt hq320))
    · exact ((Nat.ne_of_gt hq360))
  have y1020 : ∀ f, q_rk 12 f ≠ 0 → q_kd X (([0, 0, 0, 0, q8, q28, q50, q74, 0, 0, 0, 0, 0, 0, 0, 0, 0, 0, 0, 0, q122, q150, q180, q212, 0, 0, 0, 0, q246, q282, 0, 0, q320, 0, 0, 0, q360, 0, 0, 0, 0, 0, 0, 0, 0, 0] : List Nat).getD f 0) = 0 := by
    intro f hf
    rcases y_fs12 hf with rfl | rfl | rfl | rfl | rfl | rfl | rfl | rfl | rfl | rfl | rfl | rfl
    · exact hw0.fresh (gg_q8)
    · exact hw0.fresh (gg_q28)
    · exact hw0.fresh (gg_q50)
    · exact hw0.fresh (gg_q74)
    · exact hw0.fresh (gg_q122)
    · exact hw0.fresh (gg_q150)
    · exact hw0.fresh (gg_q180)
    · exact hw0.fresh (gg_q212)
    · exact hw0.fresh (gg_q246)
    · exact hw0.fresh (gg_q282)
    · exact hw0.fresh (gg_q320)
    · exact hw0.fresh (gg_q360)
  have hIV : ∀ f, f < 60 → ([0, 0, 0, 0, 0, 0, 0, 0, 0, 0, (-1), (-1), 0, 0, 0, 0, 0, 0, 0, 0, 0, 0, 0, 0, 0, 0, 0, 0, 0, 0, 0, 0, 0, 0, 0, 0, 0, 0, 0, 0, 0, 0, 0, 0, 0, 0] : List Int32).getD f 0 = y_iv 12 f ∧ ([0, 0, 0, 1, 0, 0, 0, 0, 0, 0, 0, 0, 0, 0, 0, 0, 0, 0, 0, 0, 0, 0, 0, 0, 0, 0, 0, 0, 0, 0, 0, 0, 0, 0, 0, 0, 0, 0, 0, 0, 0, 0, 0, 0, 0, 0] : List Int64).getD f 0 = y_il 12 f := by decide +kernel
  have w1015 : q_w X1012 σ1013 H554 := by
    rw [dX1012, dσ1013]
    exact w967.add k997 (q_hrk hrk) (fun q => absurd rfl q) (by decide) (fun q => absurd q (by decide)) (q_hB2 hB) (fun q => by rcases q with q | q <;> exact absurd q (by decide)) (q_cfO D982 ⟨rfl, by decide⟩ (show vwCl[11]? = some (RX12, TX12, 46) from rfl) b560 (fun f hf => match f, hf with | 0, _ => rfl | 1, _ => rfl | 2, _ => rfl | 3, _ => rfl | 4, _ => rfl | 5, _ => rfl | 6, _ => rfl | 7, _ => rfl | 8, _ => rfl | 9, _ => rfl | 10, _ => rfl | 11, _ => rfl | 12, _ => rfl | 13, _ => rfl | 14, _ => rfl | 15, _ => rfl | 16, _ => rfl | 17, _ => rfl | 18, _ => rfl | 19, _ => rfl | 20, _ => rfl | 21, _ => rfl | 22, _ => rfl | 23, _ => rfl | 24, _ => rfl | 25, _ => rfl | 26, _ => rfl | 27, _ => rfl | 28, _ => rfl | 29, _ => rfl | 30, _ => rfl | 31, _ => rfl | 32, _ => rfl | 33, _ => rfl | 34, _ => rfl | 35, _ => rfl | 36, _ => rfl | 37, _ => rfl | 38, _ => rfl | 39, _ => rfl | 40, _ => rfl | 41, _ => rfl | 42, _ => rfl | 43, _ => rfl | 44, _ => rfl | 45, _ => rfl | (n + 46), hf => absurd hf (Nat.not_lt_of_ge (Nat.le_add_left 46 n)))) y1016 (y_in12 (rf := (fun f => ([0, 0, 0, 0, q8, q28, q50, q74, 0, 0, 0, 0, 0, 0, 0, 0, 0, 0, 0, 0, q122, q150, q180, q212, 0, 0, 0, 0, q246, q282, 0, 0, q320, 0, 0, 0, q360, 0, 0, 0, 0, 0, 0, 0, 0, 0] : List Nat).getD f 0)) (show q8 < q28 from cc_q28) (show q28 < q50 from cc_q50) (show q50 < q74 from cc_q74) (show q74 < q122 from cc_q122) (show q122 < q150 from cc_q150) (show q150 < q180 from cc_q180) (show q180 < q212 from cc_q212) (show q212 < q246 from cc_q246) (show q246 < q282 from cc_q282) (show q282 < q320 from cc_q320) (show q320 < q360 from cc_q360)) y1017 y1018 (fun _ f hf => hIV f (hf.resolve_left (by decide)))
  try clear y1018; try clear y1017; try clear y1016; try clear D982; try clear b560
  have y1021 : y_root X1012 h := by
    rw [dX1012]
    exact (y_root.out w967.1 k997).add y_xg y1019
  try clear y1019; try clear k997; try clear w967
  have y1022 : y_rt X X1012 := by
    rw [dX1012]
    exact y981.add y_xg y1020
  try clear y1020; try clear y981
  have k1023 : q_kd X1012 h = 12 := by rw [dX1012]; exact q_xg_h
  have x1024 := x985.tr x1014 (fun a e => Or.inl e)
  try clear x985
  have k1025 := x1014.kd k986 (by decide)
  try clear k1025
  have k1026 := x1014.kd k987 (by decide)
  try clear k1026
  have k1027 := x1014.kd k988 (by decide)
  try clear k1027; try clear k988
  have k1028 := x1014.kd k989 (by decide)
  try clear k1028; try clear k989
  have k1029 := x1014.kd k990 (by decide)
  try clear k1029
  have k1030 := x1014.kd k991 (by decide)
  try clear k1030; try clear k991
  have k1031 := x1014.kd k992 (by decide)
  try clear k1031; try clear k992
  have k1032 := x1014.kd k993 (by decide)
  try clear k1032; try clear k993
  have k1033 := x1014.kd k994 (by decide)
  try clear k1033; try clear k994
  have k1034 := x1014.kd k995 (by decide)
  try clear k1034; try clear k995
  have k1035 := x1014.kd k996 (by decide)
  try clear k1035; try clear k996
  have k1036 := x1014.kd k983 (by decide)
  try clear k1036; try clear k983
  have hr4 : q_rf X1012 h 4 = q8 := by rw [dX1012]; exact if_pos rfl
  have ha4 : ∀ j, σ1013.1 q8 j = (fun _ => 0 : Nat → Int32) j := fun j => (q_exi x1014 (by rw [k986]; decide)).trans (j1009 j)
  try clear k986
  have hr5 : q_rf X1012 h 5 = q28 := by rw [dX1012]; exact if_pos rfl
  have ha5 : ∀ j, σ1013.1 q28 j = (fun j => if j = (3 : Int32).toNatClampNeg then ((-1) : Int32) else (fun j => if j = (2 : Int32).toNatClampNeg then ((-1) : Int32) else (fun j => if j = (1 : Int32).toNatClampNeg then ((-1) : Int32) else (fun j => if j = (0 : Int32).toNatClampNeg then ((-1) : Int32) else (fun _ => 0 : Nat → Int32) j) j) j) j) j := fun j => (q_exi x1014 (by rw [k987]; decide)).trans (j1010 j)
  try clear k987
  have hr20 : q_rf X1012 h 20 = q122 := by rw [dX1012]; exact if_pos rfl
  have ha20 : ∀ j, σ1013.1 q122 j = (fun j => if j = (6 : Int32).toNatClampNeg then ((-1) : Int32) else (fun j => if j = (8 : Int32).toNatClampNeg then ((-1) : Int32) else (fun j => if j = (4 : Int32).toNatClampNeg then (4 : Int32) else (fun j => if j = (1 : Int32).toNatClampNeg then (1 : Int32) else (fun j => if j = (0 : Int32).toNatClampNeg then (2 : Int32) else (fun _ => 0 : Nat → Int32) j) j) j) j) j) j := fun j => (q_exi x1014 (by rw [k990]; decide)).trans (j1011 j)
  try clear x1014; try clear k990
  exact b_ret E hr hlk S558 x1024 k1023 ⟨⟨y1022, y1021⟩, ⟨⟨by rw [dσ1013]; exact if_pos rfl, by rw [dσ1013]; exact if_pos rfl⟩, fun j hj => by rw [hr4, hr5, ha4, ha5]; exact match j, hj with | 0, _ => ⟨rfl, rfl⟩ | 1, _ => ⟨rfl, rfl⟩ | 2, _ => ⟨rfl, rfl⟩ | 3, _ => ⟨rfl, rfl⟩ | (n + 4), hj => absurd hj (Nat.not_lt_of_ge (Nat.le_add_left 4 n)), fun j => by rw [hr20, ha20]; rfl⟩⟩ w1015 dX12_init_172
