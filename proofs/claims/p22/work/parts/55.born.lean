/-! FROM 55.born.lean.txt -/
section
set_option maxRecDepth 100000 in
set_option maxHeartbeats 4000000 in
theorem n_X12 (l : Launch) (D : DW) (X : XW) (σ : ST) (h sz : Nat) : Met l yX12_init (q_ws yX12_init cX12_init 2 none) { frames := 1, cells := 12, slots := 6571, locals := 12 } (q_PN D X σ h sz 11 46 (fun k => defaultValue (tyX12 k)) [.ref h]) (q_QN X σ h sz 12 (fun X' σ' => (y_rt X X' ∧ y_root X' h) ∧ (σ'.1 h 8 = 0 ∧ σ'.1 h 24 = 0) ∧ (∀ j, j < 4 → σ'.1 (q_rf X' h 4) j = 0 ∧ σ'.1 (q_rf X' h 5) j = -1) ∧ ∀ j, σ'.1 (q_rf X' h 20) j = if j = 6 then -1 else if j = 8 then -1 else if j = 4 then 4 else if j = 1 then 1 else if j = 0 then 2 else 0)) 12 6571 (q_nw h sz) := by
  refine b_met  (by first | exact rfl | decide +kernel) rfl rfl (Nat.le_of_ble_eq_true rfl) (fun p e s m below meth c E hml hr hlk hnm hsz hD hw0 h00 hob ls hl => ?_)
  subst hsz
  have hxx := E.1
  have hb := E.2.1
  have hl : lv_has ls 2 [(0, .ref h)] := hl
  have hS : va_S (q_nw h s.heap.size) s.heap s.heap [] := va_S.rf
  have hx0 : q_ext (q_nw h s.heap.size) X X σ σ := q_ext.rf
  have hAh : q_nw h s.heap.size h := Or.inl rfl
  have yr0 : y_rt X X := y_rt.rf
  have hlt := t_lt hob
  refine lv_aload_n hxx hb dX12_init_0 rfl (lv_at hl 0 rfl) ?_
  refine W.objInit hxx hb E.2.2.1 (E.2.2.2.1 _ bw_1424) (E.2.2.2.1 _ bw_26) (E.2.2.2.1 _ bw_27) rfl (by rw [hml]; exact hl.1) rfl dX12_init_1 (Nat.le_of_ble_eq_true rfl) (Nat.le_of_ble_eq_true rfl) ?_
  refine W.eq (g2 := F0 m 4 ls []) rfl ?_
  refine lv_aload_n hxx hb dX12_init_4 rfl (lv_at hl 0 rfl) ?_
  refine lv_lconst (v := 1) hxx hb dX12_init_5 (by decide) ?_
  refine b_put E hS hAh hnm (f := 3) hob (show vwCl[11]? = some (RX12, TX12, 46) from rfl) q_inX12 tyX12_ok nmX12 (by decide) bw_1428 rfl (fun _ => rfl) (tyX12_ok 3 (by decide)) rfl rfl dX12_init_6 (fun H1 locs1 z2 o3 b4 S5 => ?_)
  have w6 : q_w X σ H1 := hw0.kept (fun a ha => o3 a (fun e => ha (by rw [e]; exact h00)))
  try clear o3
  have t7 := t_lt b4
  refine lv_aload_n hxx hb dX12_init_9 rfl (lv_at hl 0 rfl) ?_
  refine lv_iconst (v := 4) hxx hb dX12_init_10 (by decide) ?_
  refine b_newa E S5 bw_56 (t := 1) rfl (fun _ _ => rfl) (N' := 4) (by decide) (by decide) (by decide) (Nat.le_of_ble_eq_true rfl) (Nat.le_of_ble_eq_true rfl) dX12_init_11 (fun q8 H9 e10 z11 o12 r13 S14 => ?_)
  have hq8 : h < q8 := by first | exact Nat.lt_of_lt_of_eq t7 e10.symm | omega
  have gg_q8 : s.heap.size ≤ q8 := Nat.le_trans S5.1 (Nat.le_of_eq e10.symm)
  have mm_q8 : q8 < H9.size := by rw [z11, e10]; exact Nat.lt_succ_self _
  try clear S5
  have w15 : q_w X σ H9 := w6.kept (fun a ha => o12 a (w6.lt ha))
  have b16 := b4.kept (o12 h t7)
  try clear o12; try clear b4
  have t17 := t_lt b16
  try clear t7
  have k18 : q_kd X q8 = 0 := w6.fresh (Nat.le_of_eq e10.symm)
  try clear w6
  have g19 := S14.1
  refine b_put E S14 hAh hnm (f := 4) b16 (show vwCl[11]? = some (RX12, TX12, 46) from rfl) q_inX12 tyX12_ok nmX12 (by decide) bw_1429 rfl (fun _ => rfl) (tyX12_ok 4 (by decide)) rfl rfl dX12_init_13 (fun H20 locs1 z21 o22 b23 S24 => ?_)
  try clear b16; try clear S14
  have w25 : q_w X σ H20 := w15.kept (fun a ha => o22 a (fun e => ha (by rw [e]; exact h00)))
  try clear w15
  have t26 := t_lt b23
  try clear t17
  have r27 := (o22 q8 (by first | exact (Nat.ne_of_gt hq8) | omega)).trans r13
  try clear o22; try clear r13
  refine lv_aload_n hxx hb dX12_init_16 rfl (lv_at hl 0 rfl) ?_
  refine lv_iconst (v := 4) hxx hb dX12_init_17 (by decide) ?_
  refine b_newa E S24 bw_56 (t := 1) rfl (fun _ _ => rfl) (N' := 4) (by decide) (by decide) (by decide) (Nat.le_of_ble_eq_true rfl) (Nat.le_of_ble_eq_true rfl) dX12_init_18 (fun q28 H29 e30 z31 o32 r33 S34 => ?_)
  have hq28 : h < q28 := by first | exact Nat.lt_of_lt_of_eq t26 e30.symm | omega
  have gg_q28 : s.heap.size ≤ q28 := Nat.le_trans S24.1 (Nat.le_of_eq e30.symm)
  have mm_q28 : q28 < H29.size := by rw [z31, e30]; exact Nat.lt_succ_self _
  have cc_q28 : q8 < q28 := by first | exact Nat.lt_of_lt_of_eq (Nat.lt_of_lt_of_le mm_q8 (Nat.le_of_eq z21.symm)) e30.symm | omega
  try clear S24
  have w35 : q_w X σ H29 := w25.kept (fun a ha => o32 a (w25.lt ha))
  have b36 := b23.kept (o32 h t26)
  try clear b23
  have t37 := t_lt b36
  try clear t26
  have r38 := (o32 q8 (raw_lt r27)).trans r27
  try clear o32; try clear r27
  have k39 : q_kd X q28 = 0 := w25.fresh (Nat.le_of_eq e30.symm)
  try clear w25
  have g40 := S34.1
  refine b_put E S34 hAh hnm (f := 5) b36 (show vwCl[11]? = some (RX12, TX12, 46) from rfl) q_inX12 tyX12_ok nmX12 (by decide) bw_1430 rfl (fun _ => rfl) (tyX12_ok 5 (by decide)) rfl rfl dX12_init_20 (fun H41 locs1 z42 o43 b44 S45 => ?_)
  try clear b36; try clear S34
  have w46 : q_w X σ H41 := w35.kept (fun a ha => o43 a (fun e => ha (by rw [e]; exact h00)))
  try clear w35
  have t47 := t_lt b44
  try clear t37
  have r48 := (o43 q8 (by first | exact (Nat.ne_of_gt hq8) | omega)).trans r38
  try clear r38
  have r49 := (o43 q28 (by first | exact (Nat.ne_of_gt hq28) | omega)).trans r33
  try clear o43; try clear r33
  refine lv_aload_n hxx hb dX12_init_23 rfl (lv_at hl 0 rfl) ?_
  refine lv_sipush (v := 240) hxx hb dX12_init_24 (by decide) ?_
  refine b_newa E S45 bw_441 (t := 2) rfl (fun _ _ => rfl) (N' := 240) (by decide) (by decide) (by decide) (Nat.le_of_ble_eq_true rfl) (Nat.le_of_ble_eq_true rfl) dX12_init_27 (fun q50 H51 e52 z53 o54 r55 S56 => ?_)
  have hq50 : h < q50 := by first | exact Nat.lt_of_lt_of_eq t47 e52.symm | omega
  have gg_q50 : s.heap.size ≤ q50 := Nat.le_trans S45.1 (Nat.le_of_eq e52.symm)
  have mm_q50 : q50 < H51.size := by rw [z53, e52]; exact Nat.lt_succ_self _
  have cc_q50 : q28 < q50 := by first | exact Nat.lt_of_lt_of_eq (Nat.lt_of_lt_of_le mm_q28 (Nat.le_of_eq z42.symm)) e52.symm | omega
  try clear S45
  have w57 : q_w X σ H51 := w46.kept (fun a ha => o54 a (w46.lt ha))
  have b58 := b44.kept (o54 h t47)
  try clear b44
  have t59 := t_lt b58
  try clear t47
  have r60 := (o54 q8 (raw_lt r48)).trans r48
  try clear r48
  have r61 := (o54 q28 (raw_lt r49)).trans r49
  try clear o54; try clear r49
  have k62 : q_kd X q50 = 0 := w46.fresh (Nat.le_of_eq e52.symm)
  try clear w46
  have g63 := S56.1
  refine b_put E S56 hAh hnm (f := 6) b58 (show vwCl[11]? = some (RX12, TX12, 46) from rfl) q_inX12 tyX12_ok nmX12 (by decide) bw_1431 rfl (fun _ => rfl) (tyX12_ok 6 (by decide)) rfl rfl dX12_init_29 (fun H64 locs1 z65 o66 b67 S68 => ?_)
  try clear b58; try clear S56
  have w69 : q_w X σ H64 := w57.kept (fun a ha => o66 a (fun e => ha (by rw [e]; exact h00)))
  try clear w57
  have t70 := t_lt b67
  try clear t59
  have r71 := (o66 q8 (by first | exact (Nat.ne_of_gt hq8) | omega)).trans r60
  try clear r60
  have r72 := (o66 q28 (by first | exact (Nat.ne_of_gt hq28) | omega)).trans r61
  try clear r61
  have r73 := (o66 q50 (by first | exact (Nat.ne_of_gt hq50) | omega)).trans r55
  try clear o66; try clear r55
  refine lv_aload_n hxx hb dX12_init_32 rfl (lv_at hl 0 rfl) ?_
  refine lv_sipush (v := 900) hxx hb dX12_init_33 (by decide) ?_
  refine b_newa E S68 bw_55 (t := 0) rfl (fun _ _ => rfl) (N' := 900) (by decide) (by decide) (by decide) (Nat.le_of_ble_eq_true rfl) (Nat.le_of_ble_eq_true rfl) dX12_init_36 (fun q74 H75 e76 z77 o78 r79 S80 => ?_)
  have hq74 : h < q74 := by first | exact Nat.lt_of_lt_of_eq t70 e76.symm | omega
  have gg_q74 : s.heap.size ≤ q74 := Nat.le_trans S68.1 (Nat.le_of_eq e76.symm)
  have mm_q74 : q74 < H75.size := by rw [z77, e76]; exact Nat.lt_succ_self _
  have cc_q74 : q50 < q74 := by first | exact Nat.lt_of_lt_of_eq (Nat.lt_of_lt_of_le mm_q50 (Nat.le_of_eq z65.symm)) e76.symm | omega
  try clear S68
  have w81 : q_w X σ H75 := w69.kept (fun a ha => o78 a (w69.lt ha))
  have b82 := b67.kept (o78 h t70)
  try clear b67
  have t83 := t_lt b82
  try clear t70
  have r84 := (o78 q8 (raw_lt r71)).trans r71
  try clear r71
  have r85 := (o78 q28 (raw_lt r72)).trans r72
  try clear r72
  have r86 := (o78 q50 (raw_lt r73)).trans r73
  try clear o78; try clear r73
  have k87 : q_kd X q74 = 0 := w69.fresh (Nat.le_of_eq e76.symm)
  try clear w69
  have g88 := S80.1
  refine b_put E S80 hAh hnm (f := 7) b82 (show vwCl[11]? = some (RX12, TX12, 46) from rfl) q_inX12 tyX12_ok nmX12 (by decide) bw_1432 rfl (fun _ => rfl) (tyX12_ok 7 (by decide)) rfl rfl dX12_init_38 (fun H89 locs1 z90 o91 b92 S93 => ?_)
  try clear b82; try clear S80
  have w94 : q_w X σ H89 := w81.kept (fun a ha => o91 a (fun e => ha (by rw [e]; exact h00)))
  try clear w81
  have t95 := t_lt b92
  try clear t83
  have r96 := (o91 q8 (by first | exact (Nat.ne_of_gt hq8) | omega)).trans r84
  try clear r84
  have r97 := (o91 q28 (by first | exact (Nat.ne_of_gt hq28) | omega)).trans r85
  try clear r85
  have r98 := (o91 q50 (by first | exact (Nat.ne_of_gt hq50) | omega)).trans r86
  try clear r86
  have r99 := (o91 q74 (by first | exact (Nat.ne_of_gt hq74) | omega)).trans r79
  try clear o91; try clear r79
  refine lv_aload_n hxx hb dX12_init_41 rfl (lv_at hl 0 rfl) ?_
  refine lv_iconst (v := (-1)) hxx hb dX12_init_42 (by decide) ?_
  refine b_put E S93 hAh hnm (f := 10) b92 (show vwCl[11]? = some (RX12, TX12, 46) from rfl) q_inX12 tyX12_ok nmX12 (by decide) bw_1435 rfl (fun _ => rfl) (tyX12_ok 10 (by decide)) rfl rfl dX12_init_43 (fun H100 locs1 z101 o102 b103 S104 => ?_)
  try clear S93; try clear b92
  have w105 : q_w X σ H100 := w94.kept (fun a ha => o102 a (fun e => ha (by rw [e]; exact h00)))
  try clear w94
  have t106 := t_lt b103
  try clear t95
  have r107 := (o102 q8 (by first | exact (Nat.ne_of_gt hq8) | omega)).trans r96
  try clear r96
  have r108 := (o102 q28 (by first | exact (Nat.ne_of_gt hq28) | omega)).trans r97
  try clear r97
  have r109 := (o102 q50 (by first | exact (Nat.ne_of_gt hq50) | omega)).trans r98
  try clear r98
  have r110 := (o102 q74 (by first | exact (Nat.ne_of_gt hq74) | omega)).trans r99
  try clear o102; try clear r99
  refine lv_aload_n hxx hb dX12_init_46 rfl (lv_at hl 0 rfl) ?_
  refine lv_iconst (v := (-1)) hxx hb dX12_init_47 (by decide) ?_
  refine b_put E S104 hAh hnm (f := 11) b103 (show vwCl[11]? = some (RX12, TX12, 46) from rfl) q_inX12 tyX12_ok nmX12 (by decide) bw_1436 rfl (fun _ => rfl) (tyX12_ok 11 (by decide)) rfl rfl dX12_init_48 (fun H111 locs1 z112 o113 b114 S115 => ?_)
  try clear S104; try clear b103
  have w116 : q_w X σ H111 := w105.kept (fun a ha => o113 a (fun e => ha (by rw [e]; exact h00)))
  try clear w105
  have t117 := t_lt b114
  try clear t106
  have r118 := (o113 q8 (by first | exact (Nat.ne_of_gt hq8) | omega)).trans r107
  try clear r107
  have r119 := (o113 q28 (by first | exact (Nat.ne_of_gt hq28) | omega)).trans r108
  try clear r108
  have r120 := (o113 q50 (by first | exact (Nat.ne_of_gt hq50) | omega)).trans r109
  try clear r109
  have r121 := (o113 q74 (by first | exact (Nat.ne_of_gt hq74) | omega)).trans r110
  try clear o113; try clear r110
  refine lv_aload_n hxx hb dX12_init_51 rfl (lv_at hl 0 rfl) ?_
  refine lv_sipush (v := 4650) hxx hb dX12_init_52 (by decide) ?_
  refine b_newa E S115 bw_56 (t := 1) rfl (fun _ _ => rfl) (N' := 4650) (by decide) (by decide) (by decide) (Nat.le_of_ble_eq_true rfl) (Nat.le_of_ble_eq_true rfl) dX12_init_55 (fun q122 H123 e124 z125 o126 r127 S128 => ?_)
  have hq122 : h < q122 := by first | exact Nat.lt_of_lt_of_eq t117 e124.symm | omega
  have gg_q122 : s.heap.size ≤ q122 := Nat.le_trans S115.1 (Nat.le_of_eq e124.symm)
  have mm_q122 : q122 < H123.size := by rw [z125, e124]; exact Nat.lt_succ_self _
  have cc_q122 : q74 < q122 := by first | exact Nat.lt_of_lt_of_eq (Nat.lt_of_lt_of_le (Nat.lt_of_lt_of_le (Nat.lt_of_lt_of_le mm_q74 (Nat.le_of_eq z90.symm)) (Nat.le_of_eq z101.symm)) (Nat.le_of_eq z112.symm)) e124.symm | omega
  try clear S115
  have w129 : q_w X σ H123 := w116.kept (fun a ha => o126 a (w116.lt ha))
  have b130 := b114.kept (o126 h t117)
  try clear b114
  have t131 := t_lt b130
  try clear t117
  have r132 := (o126 q8 (raw_lt r118)).trans r118
  try clear r118
  have r133 := (o126 q28 (raw_lt r119)).trans r119
  try clear r119
  have r134 := (o126 q50 (raw_lt r120)).trans r120
  try clear r120
  have r135 := (o126 q74 (raw_lt r121)).trans r121
  try clear o126; try clear r121
  have k136 : q_kd X q122 = 0 := w116.fresh (Nat.le_of_eq e124.symm)
  try clear w116
  have g137 := S128.1
  refine b_put E S128 hAh hnm (f := 20) b130 (show vwCl[11]? = some (RX12, TX12, 46) from rfl) q_inX12 tyX12_ok nmX12 (by decide) bw_1445 rfl (fun _ => rfl) (tyX12_ok 20 (by decide)) rfl rfl dX12_init_57 (fun H138 locs1 z139 o140 b141 S142 => ?_)
  try clear b130; try clear S128
  have w143 : q_w X σ H138 := w129.kept (fun a ha => o140 a (fun e => ha (by rw [e]; exact h00)))
  try clear w129
  have t144 := t_lt b141
  try clear t131
  have r145 := (o140 q8 (by first | exact (Nat.ne_of_gt hq8) | omega)).trans r132
  try clear r132
  have r146 := (o140 q28 (by first | exact (Nat.ne_of_gt hq28) | omega)).trans r133
  try clear r133
  have r147 := (o140 q50 (by first | exact (Nat.ne_of_gt hq50) | omega)).trans r134
  try clear r134
  have r148 := (o140 q74 (by first | exact (Nat.ne_of_gt hq74) | omega)).trans r135
  try clear r135
  have r149 := (o140 q122 (by first | exact (Nat.ne_of_gt hq122) | omega)).trans r127
  try clear o140; try clear r127
  refine lv_aload_n hxx hb dX12_init_60 rfl (lv_at hl 0 rfl) ?_
  refine lv_sipush (v := 654) hxx hb dX12_init_61 (by decide) ?_
  refine b_newa E S142 bw_56 (t := 1) rfl (fun _ _ => rfl) (N' := 654) (by decide) (by decide) (by decide) (Nat.le_of_ble_eq_true rfl) (Nat.le_of_ble_eq_true rfl) dX12_init_64 (fun q150 H151 e152 z153 o154 r155 S156 => ?_)
  have hq150 : h < q150 := by first | exact Nat.lt_of_lt_of_eq t144 e152.symm | omega
  have gg_q150 : s.heap.size ≤ q150 := Nat.le_trans S142.1 (Nat.le_of_eq e152.symm)
  have mm_q150 : q150 < H151.size := by rw [z153, e152]; exact Nat.lt_succ_self _
  have cc_q150 : q122 < q150 := by first | exact Nat.lt_of_lt_of_eq (Nat.lt_of_lt_of_le mm_q122 (Nat.le_of_eq z139.symm)) e152.symm | omega
  try clear S142
  have w157 : q_w X σ H151 := w143.kept (fun a ha => o154 a (w143.lt ha))
  have b158 := b141.kept (o154 h t144)
  try clear b141
  have t159 := t_lt b158
  try clear t144
  have r160 := (o154 q8 (raw_lt r145)).trans r145
  try clear r145
  have r161 := (o154 q28 (raw_lt r146)).trans r146
  try clear r146
  have r162 := (o154 q50 (raw_lt r147)).trans r147
  try clear r147
  have r163 := (o154 q74 (raw_lt r148)).trans r148
  try clear r148
  have r164 := (o154 q122 (raw_lt r149)).trans r149
  try clear o154; try clear r149
  have k165 : q_kd X q150 = 0 := w143.fresh (Nat.le_of_eq e152.symm)
  try clear w143
  have g166 := S156.1
  refine b_put E S156 hAh hnm (f := 21) b158 (show vwCl[11]? = some (RX12, TX12, 46) from rfl) q_inX12 tyX12_ok nmX12 (by decide) bw_1446 rfl (fun _ => rfl) (tyX12_ok 21 (by decide)) rfl rfl dX12_init_66 (fun H167 locs1 z168 o169 b170 S171 => ?_)
  try clear b158; try clear S156
  have w172 : q_w X σ H167 := w157.kept (fun a ha => o169 a (fun e => ha (by rw [e]; exact h00)))
  try clear w157
  have t173 := t_lt b170
  try clear t159
  have r174 := (o169 q8 (by first | exact (Nat.ne_of_gt hq8) | omega)).trans r160
  try clear r160
  have r175 := (o169 q28 (by first | exact (Nat.ne_of_gt hq28) | omega)).trans r161
  try clear r161
  have r176 := (o169 q50 (by first | exact (Nat.ne_of_gt hq50) | omega)).trans r162
  try clear r162
  have r177 := (o169 q74 (by first | exact (Nat.ne_of_gt hq74) | omega)).trans r163
  try clear r163
  have r178 := (o169 q122 (by first | exact (Nat.ne_of_gt hq122) | omega)).trans r164
  try clear r164
  have r179 := (o169 q150 (by first | exact (Nat.ne_of_gt hq150) | omega)).trans r155
  try clear o169; try clear r155
  refine lv_aload_n hxx hb dX12_init_69 rfl (lv_at hl 0 rfl) ?_
  refine lv_bipush (v := 60) hxx hb dX12_init_70 (by decide) ?_
  refine b_newa E S171 bw_56 (t := 1) rfl (fun _ _ => rfl) (N' := 60) (by decide) (by decide) (by decide) (Nat.le_of_ble_eq_true rfl) (Nat.le_of_ble_eq_true rfl) dX12_init_72 (fun q180 H181 e182 z183 o184 r185 S186 => ?_)
  have hq180 : h < q180 := by first | exact Nat.lt_of_lt_of_eq t173 e182.symm | omega
  have gg_q180 : s.heap.size ≤ q180 := Nat.le_trans S171.1 (Nat.le_of_eq e182.symm)
  have mm_q180 : q180 < H181.size := by rw [z183, e182]; exact Nat.lt_succ_self _
  have cc_q180 : q150 < q180 := by first | exact Nat.lt_of_lt_of_eq (Nat.lt_of_lt_of_le mm_q150 (Nat.le_of_eq z168.symm)) e182.symm | omega
  try clear S171
  have w187 : q_w X σ H181 := w172.kept (fun a ha => o184 a (w172.lt ha))
  have b188 := b170.kept (o184 h t173)
  try clear b170
  have t189 := t_lt b188
  try clear t173
  have r190 := (o184 q8 (raw_lt r174)).trans r174
  try clear r174
  have r191 := (o184 q28 (raw_lt r175)).trans r175
  try clear r175
  have r192 := (o184 q50 (raw_lt r176)).trans r176
  try clear r176
  have r193 := (o184 q74 (raw_lt r177)).trans r177
  try clear r177
  have r194 := (o184 q122 (raw_lt r178)).trans r178
  try clear r178
  have r195 := (o184 q150 (raw_lt r179)).trans r179
  try clear o184; try clear r179
  have k196 : q_kd X q180 = 0 := w172.fresh (Nat.le_of_eq e182.symm)
  try clear w172
  have g197 := S186.1
  refine b_put E S186 hAh hnm (f := 22) b188 (show vwCl[11]? = some (RX12, TX12, 46) from rfl) q_inX12 tyX12_ok nmX12 (by decide) bw_1447 rfl (fun _ => rfl) (tyX12_ok 22 (by decide)) rfl rfl dX12_init_74 (fun H198 locs1 z199 o200 b201 S202 => ?_)
  try clear b188; try clear S186
  have w203 : q_w X σ H198 := w187.kept (fun a ha => o200 a (fun e => ha (by rw [e]; exact h00)))
  try clear w187
  have t204 := t_lt b201
  try clear t189
  have r205 := (o200 q8 (by first | exact (Nat.ne_of_gt hq8) | omega)).trans r190
  try clear r190
  have r206 := (o200 q28 (by first | exact (Nat.ne_of_gt hq28) | omega)).trans r191
  try clear r191
  have r207 := (o200 q50 (by first | exact (Nat.ne_of_gt hq50) | omega)).trans r192
  try clear r192
  have r208 := (o200 q74 (by first | exact (Nat.ne_of_gt hq74) | omega)).trans r193
  try clear r193
  have r209 := (o200 q122 (by first | exact (Nat.ne_of_gt hq122) | omega)).trans r194
  try clear r194
  have r210 := (o200 q150 (by first | exact (Nat.ne_of_gt hq150) | omega)).trans r195
  try clear r195
  have r211 := (o200 q180 (by first | exact (Nat.ne_of_gt hq180) | omega)).trans r185
  try clear o200; try clear r185
  refine lv_aload_n hxx hb dX12_init_77 rfl (lv_at hl 0 rfl) ?_
  refine lv_bipush (v := 30) hxx hb dX12_init_78 (by decide) ?_
  refine b_newa E S202 bw_441 (t := 2) rfl (fun _ _ => rfl) (N' := 30) (by decide) (by decide) (by decide) (Nat.le_of_ble_eq_true rfl) (Nat.le_of_ble_eq_true rfl) dX12_init_80 (fun q212 H213 e214 z215 o216 r217 S218 => ?_)
  have hq212 : h < q212 := by first | exact Nat.lt_of_lt_of_eq t204 e214.symm | omega
  have gg_q212 : s.heap.size ≤ q212 := Nat.le_trans S202.1 (Nat.le_of_eq e214.symm)
  have mm_q212 : q212 < H213.size := by rw [z215, e214]; exact Nat.lt_succ_self _
  have cc_q212 : q180 < q212 := by first | exact Nat.lt_of_lt_of_eq (Nat.lt_of_lt_of_le mm_q180 (Nat.le_of_eq z199.symm)) e214.symm | omega
  try clear S202
  have w219 : q_w X σ H213 := w203.kept (fun a ha => o216 a (w203.lt ha))
  have b220 := b201.kept (o216 h t204)
  try clear b201
  have t221 := t_lt b220
  try clear t204
  have r222 := (o216 q8 (raw_lt r205)).trans r205
  try clear r205
  have r223 := (o216 q28 (raw_lt r206)).trans r206
  try clear r206
  have r224 := (o216 q50 (raw_lt r207)).trans r207
  try clear r207
  have r225 := (o216 q74 (raw_lt r208)).trans r208
  try clear r208
  have r226 := (o216 q122 (raw_lt r209)).trans r209
  try clear r209
  have r227 := (o216 q150 (raw_lt r210)).trans r210
  try clear r210
  have r228 := (o216 q180 (raw_lt r211)).trans r211
  try clear o216; try clear r211
  have k229 : q_kd X q212 = 0 := w203.fresh (Nat.le_of_eq e214.symm)
  try clear w203
  have g230 := S218.1
  refine b_put E S218 hAh hnm (f := 23) b220 (show vwCl[11]? = some (RX12, TX12, 46) from rfl) q_inX12 tyX12_ok nmX12 (by decide) bw_1448 rfl (fun _ => rfl) (tyX12_ok 23 (by decide)) rfl rfl dX12_init_82 (fun H231 locs1 z232 o233 b234 S235 => ?_)
  try clear b220; try clear S218
  have w236 : q_w X σ H231 := w219.kept (fun a ha => o233 a (fun e => ha (by rw [e]; exact h00)))
  try clear w219
  have t237 := t_lt b234
  try clear t221
  have r238 := (o233 q8 (by first | exact (Nat.ne_of_gt hq8) | omega)).trans r222
  try clear r222
  have r239 := (o233 q28 (by first | exact (Nat.ne_of_gt hq28) | omega)).trans r223
  try clear r223
  have r240 := (o233 q50 (by first | exact (Nat.ne_of_gt hq50) | omega)).trans r224
  try clear r224
  have r241 := (o233 q74 (by first | exact (Nat.ne_of_gt hq74) | omega)).trans r225
  try clear r225
  have r242 := (o233 q122 (by first | exact (Nat.ne_of_gt hq122) | omega)).trans r226
  try clear r226
  have r243 := (o233 q150 (by first | exact (Nat.ne_of_gt hq150) | omega)).trans r227
  try clear r227
  have r244 := (o233 q180 (by first | exact (Nat.ne_of_gt hq180) | omega)).trans r228
  try clear r228
  have r245 := (o233 q212 (by first | exact (Nat.ne_of_gt hq212) | omega)).trans r217
  try clear o233; try clear r217
  refine lv_aload_n hxx hb dX12_init_85 rfl (lv_at hl 0 rfl) ?_
  refine lv_bipush (v := 10) hxx hb dX12_init_86 (by decide) ?_
  refine b_newa E S235 bw_56 (t := 1) rfl (fun _ _ => rfl) (N' := 10) (by decide) (by decide) (by decide) (Nat.le_of_ble_eq_true rfl) (Nat.le_of_ble_eq_true rfl) dX12_init_88 (fun q246 H247 e248 z249 o250 r251 S252 => ?_)
  have hq246 : h < q246 := by first | exact Nat.lt_of_lt_of_eq t237 e248.symm | omega
  have gg_q246 : s.heap.size ≤ q246 := Nat.le_trans S235.1 (Nat.le_of_eq e248.symm)
  have mm_q246 : q246 < H247.size := by rw [z249, e248]; exact Nat.lt_succ_self _
  have cc_q246 : q212 < q246 := by first | exact Nat.lt_of_lt_of_eq (Nat.lt_of_lt_of_le mm_q212 (Nat.le_of_eq z232.symm)) e248.symm | omega
  try clear S235
  have w253 : q_w X σ H247 := w236.kept (fun a ha => o250 a (w236.lt ha))
  have b254 := b234.kept (o250 h t237)
  try clear b234
  have t255 := t_lt b254
  try clear t237
  have r256 := (o250 q8 (raw_lt r238)).trans r238
  try clear r238
  have r257 := (o250 q28 (raw_lt r239)).trans r239
  try clear r239
  have r258 := (o250 q50 (raw_lt r240)).trans r240
  try clear r240
  have r259 := (o250 q74 (raw_lt r241)).trans r241
  try clear r241
  have r260 := (o250 q122 (raw_lt r242)).trans r242
  try clear r242
  have r261 := (o250 q150 (raw_lt r243)).trans r243
  try clear r243
  have r262 := (o250 q180 (raw_lt r244)).trans r244
  try clear r244
  have r263 := (o250 q212 (raw_lt r245)).trans r245
  try clear o250; try clear r245
  have k264 : q_kd X q246 = 0 := w236.fresh (Nat.le_of_eq e248.symm)
  try clear w236
  have g265 := S252.1
  refine b_put E S252 hAh hnm (f := 28) b254 (show vwCl[11]? = some (RX12, TX12, 46) from rfl) q_inX12 tyX12_ok nmX12 (by decide) bw_1453 rfl (fun _ => rfl) (tyX12_ok 28 (by decide)) rfl rfl dX12_init_90 (fun H266 locs1 z267 o268 b269 S270 => ?_)
  try clear b254; try clear S252
  have w271 : q_w X σ H266 := w253.kept (fun a ha => o268 a (fun e => ha (by rw [e]; exact h00)))
  try clear w253
  have t272 := t_lt b269
  try clear t255
  have r273 := (o268 q8 (by first | exact (Nat.ne_of_gt hq8) | omega)).trans r256
  try clear r256
  have r274 := (o268 q28 (by first | exact (Nat.ne_of_gt hq28) | omega)).trans r257
  try clear r257
  have r275 := (o268 q50 (by first | exact (Nat.ne_of_gt hq50) | omega)).trans r258
  try clear r258
  have r276 := (o268 q74 (by first | exact (Nat.ne_of_gt hq74) | omega)).trans r259
  try clear r259
  have r277 := (o268 q122 (by first | exact (Nat.ne_of_gt hq122) | omega)).trans r260
  try clear r260
  have r278 := (o268 q150 (by first | exact (Nat.ne_of_gt hq150) | omega)).trans r261
  try clear r261
  have r279 := (o268 q180 (by first | exact (Nat.ne_of_gt hq180) | omega)).trans r262
  try clear r262
  have r280 := (o268 q212 (by first | exact (Nat.ne_of_gt hq212) | omega)).trans r263
  try clear r263
  have r281 := (o268 q246 (by first | exact (Nat.ne_of_gt hq246) | omega)).trans r251
  try clear o268; try clear r251
  refine lv_aload_n hxx hb dX12_init_93 rfl (lv_at hl 0 rfl) ?_
  refine lv_iconst (v := 4) hxx hb dX12_init_94 (by decide) ?_
  refine b_newa E S270 bw_56 (t := 1) rfl (fun _ _ => rfl) (N' := 4) (by decide) (by decide) (by decide) (Nat.le_of_ble_eq_true rfl) (Nat.le_of_ble_eq_true rfl) dX12_init_95 (fun q282 H283 e284 z285 o286 r287 S288 => ?_)
  have hq282 : h < q282 := by first | exact Nat.lt_of_lt_of_eq t272 e284.symm | omega
  have gg_q282 : s.heap.size ≤ q282 := Nat.le_trans S270.1 (Nat.le_of_eq e284.symm)
  have mm_q282 : q282 < H283.size := by rw [z285, e284]; exact Nat.lt_succ_self _
  have cc_q282 : q246 < q282 := by first | exact Nat.lt_of_lt_of_eq (Nat.lt_of_lt_of_le mm_q246 (Nat.le_of_eq z267.symm)) e284.symm | omega
  try clear S270
  have w289 : q_w X σ H283 := w271.kept (fun a ha => o286 a (w271.lt ha))
  have b290 := b269.kept (o286 h t272)
  try clear b269
  have t291 := t_lt b290
  try clear t272
  have r292 := (o286 q8 (raw_lt r273)).trans r273
  try clear r273
  have r293 := (o286 q28 (raw_lt r274)).trans r274
  try clear r274
  have r294 := (o286 q50 (raw_lt r275)).trans r275
  try clear r275
  have r295 := (o286 q74 (raw_lt r276)).trans r276
  try clear r276
  have r296 := (o286 q122 (raw_lt r277)).trans r277
  try clear r277
  have r297 := (o286 q150 (raw_lt r278)).trans r278
  try clear r278
  have r298 := (o286 q180 (raw_lt r279)).trans r279
  try clear r279
  have r299 := (o286 q212 (raw_lt r280)).trans r280
  try clear r280
  have r300 := (o286 q246 (raw_lt r281)).trans r281
  try clear o286; try clear r281
  have k301 : q_kd X q282 = 0 := w271.fresh (Nat.le_of_eq e284.symm)
  try clear w271
  have g302 := S288.1
  refine b_put E S288 hAh hnm (f := 29) b290 (show vwCl[11]? = some (RX12, TX12, 46) from rfl) q_inX12 tyX12_ok nmX12 (by decide) bw_1454 rfl (fun _ => rfl) (tyX12_ok 29 (by decide)) rfl rfl dX12_init_97 (fun H303 locs1 z304 o305 b306 S307 => ?_)
  try clear b290; try clear S288
  have w308 : q_w X σ H303 := w289.kept (fun a ha => o305 a (fun e => ha (by rw [e]; exact h00)))
  try clear w289
  have t309 := t_lt b306
  try clear t291
  have r310 := (o305 q8 (by first | exact (Nat.ne_of_gt hq8) | omega)).trans r292
  try clear r292
  have r311 := (o305 q28 (by first | exact (Nat.ne_of_gt hq28) | omega)).trans r293
  try clear r293
  have r312 := (o305 q50 (by first | exact (Nat.ne_of_gt hq50) | omega)).trans r294
  try clear r294
  have r313 := (o305 q74 (by first | exact (Nat.ne_of_gt hq74) | omega)).trans r295
  try clear r295
  have r314 := (o305 q122 (by first | exact (Nat.ne_of_gt hq122) | omega)).trans r296
  try clear r296
  have r315 := (o305 q150 (by first | exact (Nat.ne_of_gt hq150) | omega)).trans r297
  try clear r297
  have r316 := (o305 q180 (by first | exact (Nat.ne_of_gt hq180) | omega)).trans r298
  try clear r298
  have r317 := (o305 q212 (by first | exact (Nat.ne_of_gt hq212) | omega)).trans r299
  try clear r299
  have r318 := (o305 q246 (by first | exact (Nat.ne_of_gt hq246) | omega)).trans r300
  try clear r300
  have r319 := (o305 q282 (by first | exact (Nat.ne_of_gt hq282) | omega)).trans r287
  try clear o305; try clear r287
  refine lv_aload_n hxx hb dX12_init_100 rfl (lv_at hl 0 rfl) ?_
  refine lv_bipush (v := 10) hxx hb dX12_init_101 (by decide) ?_
  refine b_newa E S307 bw_56 (t := 1) rfl (fun _ _ => rfl) (N' := 10) (by decide) (by decide) (by decide) (Nat.le_of_ble_eq_true rfl) (Nat.le_of_ble_eq_true rfl) dX12_init_103 (fun q320 H321 e322 z323 o324 r325 S326 => ?_)
  have hq320 : h < q320 := by first | exact Nat.lt_of_lt_of_eq t309 e322.symm | omega
  have gg_q320 : s.heap.size ≤ q320 := Nat.le_trans S307.1 (Nat.le_of_eq e322.symm)
  have mm_q320 : q320 < H321.size := by rw [z323, e322]; exact Nat.lt_succ_self _
  have cc_q320 : q282 < q320 := by first | exact Nat.lt_of_lt_of_eq (Nat.lt_of_lt_of_le mm_q282 (Nat.le_of_eq z304.symm)) e322.symm | omega
  try clear S307
  have w327 : q_w X σ H321 := w308.kept (fun a ha => o324 a (w308.lt ha))
  have b328 := b306.kept (o324 h t309)
  try clear b306
  have t329 := t_lt b328
  try clear t309
  have r330 := (o324 q8 (raw_lt r310)).trans r310
  try clear r310
  have r331 := (o324 q28 (raw_lt r311)).trans r311
  try clear r311
  have r332 := (o324 q50 (raw_lt r312)).trans r312
  try clear r312
  have r333 := (o324 q74 (raw_lt r313)).trans r313
  try clear r313
  have r334 := (o324 q122 (raw_lt r314)).trans r314
  try clear r314
  have r335 := (o324 q150 (raw_lt r315)).trans r315
  try clear r315
  have r336 := (o324 q180 (raw_lt r316)).trans r316
  try clear r316
  have r337 := (o324 q212 (raw_lt r317)).trans r317
  try clear r317
  have r338 := (o324 q246 (raw_lt r318)).trans r318
  try clear r318
  have r339 := (o324 q282 (raw_lt r319)).trans r319
  try clear o324; try clear r319
  have k340 : q_kd X q320 = 0 := w308.fresh (Nat.le_of_eq e322.symm)
  try clear w308
  have g341 := S326.1
  refine b_put E S326 hAh hnm (f := 32) b328 (show vwCl[11]? = some (RX12, TX12, 46) from rfl) q_inX12 tyX12_ok nmX12 (by decide) bw_1457 rfl (fun _ => rfl) (tyX12_ok 32 (by decide)) rfl rfl dX12_init_105 (fun H342 locs1 z343 o344 b345 S346 => ?_)
  try clear b328; try clear S326
  have w347 : q_w X σ H342 := w327.kept (fun a ha => o344 a (fun e => ha (by rw [e]; exact h00)))
  try clear w327
  have t348 := t_lt b345
  try clear t329
  have r349 := (o344 q8 (by first | exact (Nat.ne_of_gt hq8) | omega)).trans r330
  try clear r330
  have r350 := (o344 q28 (by first | exact (Nat.ne_of_gt hq28) | omega)).trans r331
  try clear r331
  have r351 := (o344 q50 (by first | exact (Nat.ne_of_gt hq50) | omega)).trans r332
  try clear r332
  have r352 := (o344 q74 (by first | exact (Nat.ne_of_gt hq74) | omega)).trans r333
  try clear r333
  have r353 := (o344 q122 (by first | exact (Nat.ne_of_gt hq122) | omega)).trans r334
  try clear r334
  have r354 := (o344 q150 (by first | exact (Nat.ne_of_gt hq150) | omega)).trans r335
  try clear r335
  have r355 := (o344 q180 (by first | exact (Nat.ne_of_gt hq180) | omega)).trans r336
  try clear r336
  have r356 := (o344 q212 (by first | exact (Nat.ne_of_gt hq212) | omega)).trans r337
  try clear r337
  have r357 := (o344 q246 (by first | exact (Nat.ne_of_gt hq246) | omega)).trans r338
  try clear r338
  have r358 := (o344 q282 (by first | exact (Nat.ne_of_gt hq282) | omega)).trans r339
  try clear r339
  have r359 := (o344 q320 (by first | exact (Nat.ne_of_gt hq320) | omega)).trans r325
  try clear o344; try clear r325
  refine lv_aload_n hxx hb dX12_init_108 rfl (lv_at hl 0 rfl) ?_
  refine lv_iconst (v := 5) hxx hb dX12_init_109 (by decide) ?_
  refine b_newa E S346 bw_56 (t := 1) rfl (fun _ _ => rfl) (N' := 5) (by decide) (by decide) (by decide) (Nat.le_of_ble_eq_true rfl) (Nat.le_of_ble_eq_true rfl) dX12_init_110 (fun q360 H361 e362 z363 o364 r365 S366 => ?_)
  have hq360 : h < q360 := by first | exact Nat.lt_of_lt_of_eq t348 e362.symm | omega
  have gg_q360 : s.heap.size ≤ q360 := Nat.le_trans S346.1 (Nat.le_of_eq e362.symm)
  have mm_q360 : q360 < H361.size := by rw [z363, e362]; exact Nat.lt_succ_self _
  have cc_q360 : q320 < q360 := by first | exact Nat.lt_of_lt_of_eq (Nat.lt_of_lt_of_le mm_q320 (Nat.le_of_eq z343.symm)) e362.symm | omega
  try clear S346
  have w367 : q_w X σ H361 := w347.kept (fun a ha => o364 a (w347.lt ha))
  have b368 := b345.kept (o364 h t348)
  try clear b345
  have t369 := t_lt b368
  try clear t348
  have r370 := (o364 q8 (raw_lt r349)).trans r349
  try clear r349
  have r371 := (o364 q28 (raw_lt r350)).trans r350
  try clear r350
  have r372 := (o364 q50 (raw_lt r351)).trans r351
  try clear r351
  have r373 := (o364 q74 (raw_lt r352)).trans r352
  try clear r352
  have r374 := (o364 q122 (raw_lt r353)).trans r353
  try clear r353
  have r375 := (o364 q150 (raw_lt r354)).trans r354
  try clear r354
  have r376 := (o364 q180 (raw_lt r355)).trans r355
  try clear r355
  have r377 := (o364 q212 (raw_lt r356)).trans r356
  try clear r356
  have r378 := (o364 q246 (raw_lt r357)).trans r357
  try clear r357
  have r379 := (o364 q282 (raw_lt r358)).trans r358
  try clear r358
  have r380 := (o364 q320 (raw_lt r359)).trans r359
  try clear o364; try clear r359
  have k381 : q_kd X q360 = 0 := w347.fresh (Nat.le_of_eq e362.symm)
  try clear w347
  have g382 := S366.1
  refine b_put E S366 hAh hnm (f := 36) b368 (show vwCl[11]? = some (RX12, TX12, 46) from rfl) q_inX12 tyX12_ok nmX12 (by decide) bw_1461 rfl (fun _ => rfl) (tyX12_ok 36 (by decide)) rfl rfl dX12_init_112 (fun H383 locs1 z384 o385 b386 S387 => ?_)
  try clear b368; try clear S366
  have w388 : q_w X σ H383 := w367.kept (fun a ha => o385 a (fun e => ha (by rw [e]; exact h00)))
  try clear w367
  have t389 := t_lt b386
  try clear t369
  have r390 := (o385 q8 (by first | exact (Nat.ne_of_gt hq8) | omega)).trans r370
  try clear r370
  have r391 := (o385 q28 (by first | exact (Nat.ne_of_gt hq28) | omega)).trans r371
  try clear r371
  have r392 := (o385 q50 (by first | exact (Nat.ne_of_gt hq50) | omega)).trans r372
  try clear r372
  have r393 := (o385 q74 (by first | exact (Nat.ne_of_gt hq74) | omega)).trans r373
  try clear r373
  have r394 := (o385 q122 (by first | exact (Nat.ne_of_gt hq122) | omega)).trans r374
  try clear r374
  have r395 := (o385 q150 (by first | exact (Nat.ne_of_gt hq150) | omega)).trans r375
  try clear r375
  have r396 := (o385 q180 (by first | exact (Nat.ne_of_gt hq180) | omega)).trans r376
  try clear r376
  have r397 := (o385 q212 (by first | exact (Nat.ne_of_gt hq212) | omega)).trans r377
  try clear r377
  have r398 := (o385 q246 (by first | exact (Nat.ne_of_gt hq246) | omega)).trans r378
  try clear r378
  have r399 := (o385 q282 (by first | exact (Nat.ne_of_gt hq282) | omega)).trans r379
  try clear r379
  have r400 := (o385 q320 (by first | exact (Nat.ne_of_gt hq320) | omega)).trans r380
  try clear r380
  have r401 := (o385 q360 (by first | exact (Nat.ne_of_gt hq360) | omega)).trans r365
  try clear o385; try clear r365
  refine lv_iconst (v := 0) hxx hb dX12_init_115 (by decide) ?_
  refine lv_istore_n (lv' := [(1, .int 0), (0, .ref h)]) hxx hb dX12_init_116 rfl hl (by decide) rfl (fun ls hl => ?_)
  refine lv_iload_n hxx hb dX12_init_117 rfl (lv_at hl 0 rfl) ?_
  refine lv_iconst (v := 4) hxx hb dX12_init_118 (by decide) ?_
  refine lv_icmp_ge hxx hb dX12_init_119 (tgt := 135) (by decide) (fun q => absurd q (by decide)) (fun _ => ?_)
  refine lv_aload_n hxx hb dX12_init_122 rfl (lv_at hl 1 rfl) ?_
  refine b_get E (f := 5) b386 (show vwCl[11]? = some (RX12, TX12, 46) from rfl) q_inX12 (by decide) bw_1430 rfl (v := .ref q28) rfl dX12_init_123 ?_
  refine lv_iload_n hxx hb dX12_init_126 rfl (lv_at hl 0 rfl) ?_
  refine lv_iconst (v := (-1)) hxx hb dX12_init_127 (by decide) ?_
  refine b_iast E S387 (Or.inr gg_q28) (g := (fun _ => 0 : Nat → Int32)) r391 (by decide) (by decide) dX12_init_128 (fun H402 locs1 z403 o404 r405 S406 => ?_)
  try clear r391; try clear S387
  have w407 : q_w X σ H402 := w388.kept (fun a ha => o404 a (fun e => ha (by rw [e]; exact k39)))
  try clear w388
  have b408 := b386.kept (o404 h (by first | exact (Nat.ne_of_lt hq28) | omega))
  try clear b386
  have t409 := t_lt b408
  try clear t389
  have r410 := (o404 q8 (by first | exact (Nat.ne_of_lt cc_q28) | omega)).trans r390
  try clear r390
  have r411 := (o404 q50 (by first | exact (Nat.ne_of_gt cc_q50) | omega)).trans r392
  try clear r392
  have r412 := (o404 q74 (by first | exact (Nat.ne_of_gt (Nat.lt_trans cc_q50 cc_q74)) | omega)).trans r393
  try clear r393
  have r413 := (o404 q122 (by first | exact (Nat.ne_of_gt (Nat.lt_trans (Nat.lt_trans cc_q50 cc_q74) cc_q122)) | omega)).trans r394
  try clear r394
  have r414 := (o404 q150 (by first | exact (Nat.ne_of_gt (Nat.lt_trans (Nat.lt_trans (Nat.lt_trans cc_q50 cc_q74) cc_q122) cc_q150)) | omega)).trans r395
  try clear r395
  have r415 := (o404 q180 (by first | exact (Nat.ne_of_gt (Nat.lt_trans (Nat.lt_trans (Nat.lt_trans (Nat.lt_trans cc_q50 cc_q74) cc_q122) cc_q150) cc_q180)) | omega)).trans r396
  try clear r396
  have r416 := (o404 q212 (by first | exact (Nat.ne_of_gt (Nat.lt_trans (Nat.lt_trans (Nat.lt_trans (Nat.lt_trans (Nat.lt_trans cc_q50 cc_q74) cc_q122) cc_q150) cc_q180) cc_q212)) | omega)).trans r397
  try clear r397
  have r417 := (o404 q246 (by first | exact (Nat.ne_of_gt (Nat.lt_trans (Nat.lt_trans (Nat.lt_trans (Nat.lt_trans (Nat.lt_trans (Nat.lt_trans cc_q50 cc_q74) cc_q122) cc_q150) cc_q180) cc_q212) cc_q246)) | omega)).trans r398
  try clear r398
  have r418 := (o404 q282 (by first | exact (Nat.ne_of_gt (Nat.lt_trans (Nat.lt_trans (Nat.lt_trans (Nat.lt_trans (Nat.lt_trans (Nat.lt_trans (Nat.lt_trans cc_q50 cc_q74) cc_q122) cc_q150) cc_q180) cc_q212) cc_q246) cc_q282)) | omega)).trans r399
  try clear r399
  have r419 := (o404 q320 (by first | exact (Nat.ne_of_gt (Nat.lt_trans (Nat.lt_trans (Nat.lt_trans (Nat.lt_trans (Nat.lt_trans (Nat.lt_trans (Nat.lt_trans (Nat.lt_trans cc_q50 cc_q74) cc_q122) cc_q150) cc_q180) cc_q212) cc_q246) cc_q282) cc_q320)) | omega)).trans r400
  try clear r400
  have r420 := (o404 q360 (by first | exact (Nat.ne_of_gt (Nat.lt_trans (Nat.lt_trans (Nat.lt_trans (Nat.lt_trans (Nat.lt_trans (Nat.lt_trans (Nat.lt_trans (Nat.lt_trans (Nat.lt_trans cc_q50 cc_q74) cc_q122) cc_q150) cc_q180) cc_q212) cc_q246) cc_q282) cc_q320) cc_q360)) | omega)).trans r401
  try clear o404; try clear r401
  refine lv_iinc (v := 1) (lv' := [(1, .int 1), (0, .ref h)]) hxx hb dX12_init_129 hl (k := 0) rfl (by decide) (by decide) rfl (fun ls hl => ?_)
  refine lv_goto (tgt := 117) hxx hb dX12_init_132 (by decide) ?_
  refine lv_iload_n hxx hb dX12_init_117 rfl (lv_at hl 0 rfl) ?_
  refine lv_iconst (v := 4) hxx hb dX12_init_118 (by decide) ?_
  refine lv_icmp_ge hxx hb dX12_init_119 (tgt := 135) (by decide) (fun q => absurd q (by decide)) (fun _ => ?_)
  refine lv_aload_n hxx hb dX12_init_122 rfl (lv_at hl 1 rfl) ?_
  refine b_get E (f := 5) b408 (show vwCl[11]? = some (RX12, TX12, 46) from rfl) q_inX12 (by decide) bw_1430 rfl (v := .ref q28) rfl dX12_init_123 ?_
  refine lv_iload_n hxx hb dX12_init_126 rfl (lv_at hl 0 rfl) ?_
  refine lv_iconst (v := (-1)) hxx hb dX12_init_127 (by decide) ?_
  refine b_iast E S406 (Or.inr gg_q28) (g := (fun j => if j = (0 : Int32).toNatClampNeg then ((-1) : Int32) else (fun _ => 0 : Nat → Int32) j)) r405 (by decide) (by decide) dX12_init_128 (fun H421 locs1 z422 o423 r424 S425 => ?_)
  try clear S406; try clear r405
  have w426 : q_w X σ H421 := w407.kept (fun a ha => o423 a (fun e => ha (by rw [e]; exact k39)))
  try clear w407
  have b427 := b408.kept (o423 h (by first | exact (Nat.ne_of_lt hq28) | omega))
  try clear b408
  have t428 := t_lt b427
  try clear t409
  have r429 := (o423 q8 (by first | exact (Nat.ne_of_lt cc_q28) | omega)).trans r410
  try clear r410
  have r430 := (o423 q50 (by first | exact (Nat.ne_of_gt cc_q50) | omega)).trans r411
  try clear r411
  have r431 := (o423 q74 (by first | exact (Nat.ne_of_gt (Nat.lt_trans cc_q50 cc_q74)) | omega)).trans r412
  try clear r412
  have r432 := (o423 q122 (by first | exact (Nat.ne_of_gt (Nat.lt_trans (Nat.lt_trans cc_q50 cc_q74) cc_q122)) | omega)).trans r413
  try clear r413
  have r433 := (o423 q150 (by first | exact (Nat.ne_of_gt (Nat.lt_trans (Nat.lt_trans (Nat.lt_trans cc_q50 cc_q74) cc_q122) cc_q150)) | omega)).trans r414
  try clear r414
  have r434 := (o423 q180 (by first | exact (Nat.ne_of_gt (Nat.lt_trans (Nat.lt_trans (Nat.lt_trans (Nat.lt_trans cc_q50 cc_q74) cc_q122) cc_q150) cc_q180)) | omega)).trans r415
  try clear r415
  have r435 := (o423 q212 (by first | exact (Nat.ne_of_gt (Nat.lt_trans (Nat.lt_trans (Nat.lt_trans (Nat.lt_trans (Nat.lt_trans cc_q50 cc_q74) cc_q122) cc_q150) cc_q180) cc_q212)) | omega)).trans r416
  try clear r416
  have r436 := (o423 q246 (by first | exact (Nat.ne_of_gt (Nat.lt_trans (Nat.lt_trans (Nat.lt_trans (Nat.lt_trans (Nat.lt_trans (Nat.lt_trans cc_q50 cc_q74) cc_q122) cc_q150) cc_q180) cc_q212) cc_q246)) | omega)).trans r417
  try clear r417
  have r437 := (o423 q282 (by first | exact (Nat.ne_of_gt (Nat.lt_trans (Nat.lt_trans (Nat.lt_trans (Nat.lt_trans (Nat.lt_trans (Nat.lt_trans (Nat.lt_trans cc_q50 cc_q74) cc_q122) cc_q150) cc_q180) cc_q212) cc_q246) cc_q282)) | omega)).trans r418
  try clear r418
  have r438 := (o423 q320 (by first | exact (Nat.ne_of_gt (Nat.lt_trans (Nat.lt_trans (Nat.lt_trans (Nat.lt_trans (Nat.lt_trans (Nat.lt_trans (Nat.lt_trans (Nat.lt_trans cc_q50 cc_q74) cc_q122) cc_q150) cc_q180) cc_q212) cc_q246) cc_q282) cc_q320)) | omega)).trans r419
  try clear r419
  have r439 := (o423 q360 (by first | exact (Nat.ne_of_gt (Nat.lt_trans (Nat.lt_trans (Nat.lt_trans (Nat.lt_trans (Nat.lt_trans (Nat.lt_trans (Nat.lt_trans (Nat.lt_trans (Nat.lt_trans cc_q50 cc_q74) cc_q122) cc_q150) cc_q180) cc_q212) cc_q246) cc_q282) cc_q320) cc_q360)) | omega)).trans r420
  try clear o423; try clear r420
  refine lv_iinc (v := 2) (lv' := [(1, .int 2), (0, .ref h)]) hxx hb dX12_init_129 hl (k := 0) rfl (by decide) (by decide) rfl (fun ls hl => ?_)
  refine lv_goto (tgt := 117) hxx hb dX12_init_132 (by decide) ?_
  refine lv_iload_n hxx hb dX12_init_117 rfl (lv_at hl 0 rfl) ?_
  refine lv_iconst (v := 4) hxx hb dX12_init_118 (by decide) ?_
  refine lv_icmp_ge hxx hb dX12_init_119 (tgt := 135) (by decide) (fun q => absurd q (by decide)) (fun _ => ?_)
  refine lv_aload_n hxx hb dX12_init_122 rfl (lv_at hl 1 rfl) ?_
  refine b_get E (f := 5) b427 (show vwCl[11]? = some (RX12, TX12, 46) from rfl) q_inX12 (by decide) bw_1430 rfl (v := .ref q28) rfl dX12_init_123 ?_
  refine lv_iload_n hxx hb dX12_init_126 rfl (lv_at hl 0 rfl) ?_
  refine lv_iconst (v := (-1)) hxx hb dX12_init_127 (by decide) ?_
  refine b_iast E S425 (Or.inr gg_q28) (g := (fun j => if j = (1 : Int32).toNatClampNeg then ((-1) : Int32) else (fun j => if j = (0 : Int32).toNatClampNeg then ((-1) : Int32) else (fun _ => 0 : Nat → Int32) j) j)) r424 (by decide) (by decide) dX12_init_128 (fun H440 locs1 z441 o442 r443 S444 => ?_)
  try clear S425; try clear r424
  have w445 : q_w X σ H440 := w426.kept (fun a ha => o442 a (fun e => ha (by rw [e]; exact k39)))
  try clear w426
  have b446 := b427.kept (o442 h (by first | exact (Nat.ne_of_lt hq28) | omega))
  try clear b427
  have t447 := t_lt b446
  try clear t428
  have r448 := (o442 q8 (by first | exact (Nat.ne_of_lt cc_q28) | omega)).trans r429
  try clear r429
  have r449 := (o442 q50 (by first | exact (Nat.ne_of_gt cc_q50) | omega)).trans r430
  try clear r430
  have r450 := (o442 q74 (by first | exact (Nat.ne_of_gt (Nat.lt_trans cc_q50 cc_q74)) | omega)).trans r431
  try clear r431
  have r451 := (o442 q122 (by first | exact (Nat.ne_of_gt (Nat.lt_trans (Nat.lt_trans cc_q50 cc_q74) cc_q122)) | omega)).trans r432
  try clear r432
  have r452 := (o442 q150 (by first | exact (Nat.ne_of_gt (Nat.lt_trans (Nat.lt_trans (Nat.lt_trans cc_q50 cc_q74) cc_q122) cc_q150)) | omega)).trans r433
  try clear r433
  have r453 := (o442 q180 (by first | exact (Nat.ne_of_gt (Nat.lt_trans (Nat.lt_trans (Nat.lt_trans (Nat.lt_trans cc_q50 cc_q74) cc_q122) cc_q150) cc_q180)) | omega)).trans r434
  try clear r434
  have r454 := (o442 q212 (by first | exact (Nat.ne_of_gt (Nat.lt_trans (Nat.lt_trans (Nat.lt_trans (Nat.lt_trans (Nat.lt_trans cc_q50 cc_q74) cc_q122) cc_q150) cc_q180) cc_q212)) | omega)).trans r435
  try clear r435
  have r455 := (o442 q246 (by first | exact (Nat.ne_of_gt (Nat.lt_trans (Nat.lt_trans (Nat.lt_trans (Nat.lt_trans (Nat.lt_trans (Nat.lt_trans cc_q50 cc_q74) cc_q122) cc_q150) cc_q180) cc_q212) cc_q246)) | omega)).trans r436
  try clear r436
  have r456 := (o442 q282 (by first | exact (Nat.ne_of_gt (Nat.lt_trans (Nat.lt_trans (Nat.lt_trans (Nat.lt_trans (Nat.lt_trans (Nat.lt_trans (Nat.lt_trans cc_q50 cc_q74) cc_q122) cc_q150) cc_q180) cc_q212) cc_q246) cc_q282)) | omega)).trans r437
  try clear r437
  have r457 := (o442 q320 (by first | exact (Nat.ne_of_gt (Nat.lt_trans (Nat.lt_trans (Nat.lt_trans (Nat.lt_trans (Nat.lt_trans (Nat.lt_trans (Nat.lt_trans (Nat.lt_trans cc_q50 cc_q74) cc_q122) cc_q150) cc_q180) cc_q212) cc_q246) cc_q282) cc_q320)) | omega)).trans r438
  try clear r438
  have r458 := (o442 q360 (by first | exact (Nat.ne_of_gt (Nat.lt_trans (Nat.lt_trans (Nat.lt_trans (Nat.lt_trans (Nat.lt_trans (Nat.lt_trans (Nat.lt_trans (Nat.lt_trans (Nat.lt_trans cc_q50 cc_q74) cc_q122) cc_q150) cc_q180) cc_q212) cc_q246) cc_q282) cc_q320) cc_q360)) | omega)).trans r439
  try clear o442; try clear r439
  refine lv_iinc (v := 3) (lv' := [(1, .int 3), (0, .ref h)]) hxx hb dX12_init_129 hl (k := 0) rfl (by decide) (by decide) rfl (fun ls hl => ?_)
  refine lv_goto (tgt := 117) hxx hb dX12_init_132 (by decide) ?_
  refine lv_iload_n hxx hb dX12_init_117 rfl (lv_at hl 0 rfl) ?_
  refine lv_iconst (v := 4) hxx hb dX12_init_118 (by decide) ?_
  refine lv_icmp_ge hxx hb dX12_init_119 (tgt := 135) (by decide) (fun q => absurd q (by decide)) (fun _ => ?_)
  refine lv_aload_n hxx hb dX12_init_122 rfl (lv_at hl 1 rfl) ?_
  refine b_get E (f := 5) b446 (show vwCl[11]? = some (RX12, TX12, 46) from rfl) q_inX12 (by decide) bw_1430 rfl (v := .ref q28) rfl dX12_init_123 ?_
  refine lv_iload_n hxx hb dX12_init_126 rfl (lv_at hl 0 rfl) ?_
  refine lv_iconst (v := (-1)) hxx hb dX12_init_127 (by decide) ?_
  refine b_iast E S444 (Or.inr gg_q28) (g := (fun j => if j = (2 : Int32).toNatClampNeg then ((-1) : Int32) else (fun j => if j = (1 : Int32).toNatClampNeg then ((-1) : Int32) else (fun j => if j = (0 : Int32).toNatClampNeg then ((-1) : Int32) else (fun _ => 0 : Nat → Int32) j) j) j)) r443 (by decide) (by decide) dX12_init_128 (fun H459 locs1 z460 o461 r462 S463 => ?_)
  try clear S444; try clear r443
  have w464 : q_w X σ H459 := w445.kept (fun a ha => o461 a (fun e => ha (by rw [e]; exact k39)))
  try clear w445
  have b465 := b446.kept (o461 h (by first | exact (Nat.ne_of_lt hq28) | omega))
  try clear b446
  have t466 := t_lt b465
  try clear t447
  have r467 := (o461 q8 (by first | exact (Nat.ne_of_lt cc_q28) | omega)).trans r448
  try clear r448
  have r468 := (o461 q50 (by first | exact (Nat.ne_of_gt cc_q50) | omega)).trans r449
  try clear r449
  have r469 := (o461 q74 (by first | exact (Nat.ne_of_gt (Nat.lt_trans cc_q50 cc_q74)) | omega)).trans r450
  try clear r450
  have r470 := (o461 q122 (by first | exact (Nat.ne_of_gt (Nat.lt_trans (Nat.lt_trans cc_q50 cc_q74) cc_q122)) | omega)).trans r451
  try clear r451
  have r471 := (o461 q150 (by first | exact (Nat.ne_of_gt (Nat.lt_trans (Nat.lt_trans (Nat.lt_trans cc_q50 cc_q74) cc_q122) cc_q150)) | omega)).trans r452
  try clear r452
  have r472 := (o461 q180 (by first | exact (Nat.ne_of_gt (Nat.lt_trans (Nat.lt_trans (Nat.lt_trans (Nat.lt_trans cc_q50 cc_q74) cc_q122) cc_q150) cc_q180)) | omega)).trans r453
  try clear r453
  have r473 := (o461 q212 (by first | exact (Nat.ne_of_gt (Nat.lt_trans (Nat.lt_trans (Nat.lt_trans (Nat.lt_trans (Nat.lt_trans cc_q50 cc_q74) cc_q122) cc_q150) cc_q180) cc_q212)) | omega)).trans r454
  try clear r454
  have r474 := (o461 q246 (by first | exact (Nat.ne_of_gt (Nat.lt_trans (Nat.lt_trans (Nat.lt_trans (Nat.lt_trans (Nat.lt_trans (Nat.lt_trans cc_q50 cc_q74) cc_q122) cc_q150) cc_q180) cc_q212) cc_q246)) | omega)).trans r455
  try clear r455
  have r475 := (o461 q282 (by first | exact (Nat.ne_of_gt (Nat.lt_trans (Nat.lt_trans (Nat.lt_trans (Nat.lt_trans (Nat.lt_trans (Nat.lt_trans (Nat.lt_trans cc_q50 cc_q74) cc_q122) cc_q150) cc_q180) cc_q212) cc_q246) cc_q282)) | omega)).trans r456
  try clear r456
  have r476 := (o461 q320 (by first | exact (Nat.ne_of_gt (Nat.lt_trans (Nat.lt_trans (Nat.lt_trans (Nat.lt_trans (Nat.lt_trans (Nat.lt_trans (Nat.lt_trans (Nat.lt_trans cc_q50 cc_q74) cc_q122) cc_q150) cc_q180) cc_q212) cc_q246) cc_q282) cc_q320)) | omega)).trans r457
  try clear r457
  have r477 := (o461 q360 (by first | exact (Nat.ne_of_gt (Nat.lt_trans (Nat.lt_trans (Nat.lt_trans (Nat.lt_trans (Nat.lt_trans (Nat.lt_trans (Nat.lt_trans (Nat.lt_trans (Nat.lt_trans cc_q50 cc_q74) cc_q122) cc_q150) cc_q180) cc_q212) cc_q246) cc_q282) cc_q320) cc_q360)) | omega)).trans r458
  try clear o461; try clear r458
  refine lv_iinc (v := 4) (lv' := [(1, .int 4), (0, .ref h)]) hxx hb dX12_init_129 hl (k := 0) rfl (by decide) (by decide) rfl (fun ls hl => ?_)
  refine lv_goto (tgt := 117) hxx hb dX12_init_132 (by decide) ?_
  refine lv_iload_n hxx hb dX12_init_117 rfl (lv_at hl 0 rfl) ?_
  refine lv_iconst (v := 4) hxx hb dX12_init_118 (by decide) ?_
  refine lv_icmp_ge hxx hb dX12_init_119 (tgt := 135) (by decide) (fun _ => ?_) (fun q => absurd (by decide) q)
  refine lv_aload_n hxx hb dX12_init_135 rfl (lv_at hl 1 rfl) ?_
  refine b_get E (f := 20) b465 (show vwCl[11]? = some (RX12, TX12, 46) from rfl) q_inX12 (by decide) bw_1445 rfl (v := .ref q122) rfl dX12_init_136 ?_
  refine lv_iconst (v := 0) hxx hb dX12_init_139 (by decide) ?_
  refine lv_iconst (v := 2) hxx hb dX12_init_140 (by decide) ?_
  refine b_iast E S463 (Or.inr gg_q122) (g := (fun _ => 0 : Nat → Int32)) r470 (by decide) (by decide) dX12_init_141 (fun H478 locs1 z479 o480 r481 S482 => ?_)
  try clear r470; try clear S463
  have w483 : q_w X σ H478 := w464.kept (fun a ha => o480 a (fun e => ha (by rw [e]; exact k136)))
  try clear w464
  have b484 := b465.kept (o480 h (by first | exact (Nat.ne_of_lt hq122) | omega))
  try clear b465
  have t485 := t_lt b484
  try clear t466
  have r486 := (o480 q8 (by first | exact (Nat.ne_of_lt (Nat.lt_trans (Nat.lt_trans (Nat.lt_trans cc_q28 cc_q50) cc_q74) cc_q122)) | omega)).trans r467
  try clear r467
  have r487 := (o480 q28 (by first | exact (Nat.ne_of_lt (Nat.lt_trans (Nat.lt_trans cc_q50 cc_q74) cc_q122)) | omega)).trans r462
  try clear r462
  have r488 := (o480 q50 (by first | exact (Nat.ne_of_lt (Nat.lt_trans cc_q74 cc_q122)) | omega)).trans r468
  try clear r468
  have r489 := (o480 q74 (by first | exact (Nat.ne_of_lt cc_q122) | omega)).trans r469
  try clear r469
  have r490 := (o480 q150 (by first | exact (Nat.ne_of_gt cc_q150) | omega)).trans r471
  try clear r471
  have r491 := (o480 q180 (by first | exact (Nat.ne_of_gt (Nat.lt_trans cc_q150 cc_q180)) | omega)).trans r472
  try clear r472
  have r492 := (o480 q212 (by first | exact (Nat.ne_of_gt (Nat.lt_trans (Nat.lt_trans cc_q150 cc_q180) cc_q212)) | omega)).trans r473
  try clear r473
  have r493 := (o480 q246 (by first | exact (Nat.ne_of_gt (Nat.lt_trans (Nat.lt_trans (Nat.lt_trans cc_q150 cc_q180) cc_q212) cc_q246)) | omega)).trans r474
  try clear r474
  have r494 := (o480 q282 (by first | exact (Nat.ne_of_gt (Nat.lt_trans (Nat.lt_trans (Nat.lt_trans (Nat.lt_trans cc_q150 cc_q180) cc_q212) cc_q246) cc_q282)) | omega)).trans r475
  try clear r475
  have r495 := (o480 q320 (by first | exact (Nat.ne_of_gt (Nat.lt_trans (Nat.lt_trans (Nat.lt_trans (Nat.lt_trans (Nat.lt_trans cc_q150 cc_q180) cc_q212) cc_q246) cc_q282) cc_q320)) | omega)).trans r476
  try clear r476
  have r496 := (o480 q360 (by first | exact (Nat.ne_of_gt (Nat.lt_trans (Nat.lt_trans (Nat.lt_trans (Nat.lt_trans (Nat.lt_trans (Nat.lt_trans cc_q150 cc_q180) cc_q212) cc_q246) cc_q282) cc_q320) cc_q360)) | omega)).trans r477
  try clear o480; try clear r477
  refine lv_aload_n hxx hb dX12_init_142 rfl (lv_at hl 1 rfl) ?_
  refine b_get E (f := 20) b484 (show vwCl[11]? = some (RX12, TX12, 46) from rfl) q_inX12 (by decide) bw_1445 rfl (v := .ref q122) rfl dX12_init_143 ?_
  refine lv_iconst (v := 1) hxx hb dX12_init_146 (by decide) ?_
  refine lv_iconst (v := 1) hxx hb dX12_init_147 (by decide) ?_
  refine b_iast E S482 (Or.inr gg_q122) (g := (fun j => if j = (0 : Int32).toNatClampNeg then (2 : Int32) else (fun _ => 0 : Nat → Int32) j)) r481 (by decide) (by decide) dX12_init_148 (fun H497 locs1 z498 o499 r500 S501 => ?_)
  try clear S482; try clear r481
  have w502 : q_w X σ H497 := w483.kept (fun a ha => o499 a (fun e => ha (by rw [e]; exact k136)))
  try clear w483
  have b503 := b484.kept (o499 h (by first | exact (Nat.ne_of_lt hq122) | omega))
  try clear b484
  have t504 := t_lt b503
  try clear t485
  have r505 := (o499 q8 (by first | exact (Nat.ne_of_lt (Nat.lt_trans (Nat.lt_trans (Nat.lt_trans cc_q28 cc_q50) cc_q74) cc_q122)) | omega)).trans r486
  try clear r486
  have r506 := (o499 q28 (by first | exact (Nat.ne_of_lt (Nat.lt_trans (Nat.lt_trans cc_q50 cc_q74) cc_q122)) | omega)).trans r487
  try clear r487
  have r507 := (o499 q50 (by first | exact (Nat.ne_of_lt (Nat.lt_trans cc_q74 cc_q122)) | omega)).trans r488
  try clear r488
  have r508 := (o499 q74 (by first | exact (Nat.ne_of_lt cc_q122) | omega)).trans r489
  try clear r489
  have r509 := (o499 q150 (by first | exact (Nat.ne_of_gt cc_q150) | omega)).trans r490
  try clear r490
  have r510 := (o499 q180 (by first | exact (Nat.ne_of_gt (Nat.lt_trans cc_q150 cc_q180)) | omega)).trans r491
  try clear r491
  have r511 := (o499 q212 (by first | exact (Nat.ne_of_gt (Nat.lt_trans (Nat.lt_trans cc_q150 cc_q180) cc_q212)) | omega)).trans r492
  try clear r492
  have r512 := (o499 q246 (by first | exact (Nat.ne_of_gt (Nat.lt_trans (Nat.lt_trans (Nat.lt_trans cc_q150 cc_q180) cc_q212) cc_q246)) | omega)).trans r493
  try clear r493
  have r513 := (o499 q282 (by first | exact (Nat.ne_of_gt (Nat.lt_trans (Nat.lt_trans (Nat.lt_trans (Nat.lt_trans cc_q150 cc_q180) cc_q212) cc_q246) cc_q282)) | omega)).trans r494
  try clear r494
  have r514 := (o499 q320 (by first | exact (Nat.ne_of_gt (Nat.lt_trans (Nat.lt_trans (Nat.lt_trans (Nat.lt_trans (Nat.lt_trans cc_q150 cc_q180) cc_q212) cc_q246) cc_q282) cc_q320)) | omega)).trans r495
  try clear r495
  have r515 := (o499 q360 (by first | exact (Nat.ne_of_gt (Nat.lt_trans (Nat.lt_trans (Nat.lt_trans (Nat.lt_trans (Nat.lt_trans (Nat.lt_trans cc_q150 cc_q180) cc_q212) cc_q246) cc_q282) cc_q320) cc_q360)) | omega)).trans r496
  try clear o499; try clear r496
  refine lv_aload_n hxx hb dX12_init_149 rfl (lv_at hl 1 rfl) ?_
  refine b_get E (f := 20) b503 (show vwCl[11]? = some (RX12, TX12, 46) from rfl) q_inX12 (by decide) bw_1445 rfl (v := .ref q122) rfl dX12_init_150 ?_
  refine lv_iconst (v := 4) hxx hb dX12_init_153 (by decide) ?_
  refine lv_iconst (v := 4) hxx hb dX12_init_154 (by decide) ?_
  refine b_iast E S501 (Or.inr gg_q122) (g := (fun j => if j = (1 : Int32).toNatClampNeg then (1 : Int32) else (fun j => if j = (0 : Int32).toNatClampNeg then (2 : Int32) else (fun _ => 0 : Nat → Int32) j) j)) r500 (by decide) (by decide) dX12_init_155 (fun H516 locs1 z517 o518 r519 S520 => ?_)
  try clear S501; try clear r500
  have w521 : q_w X σ H516 := w502.kept (fun a ha => o518 a (fun e => ha (by rw [e]; exact k136)))
  try clear w502
  have b522 := b503.kept (o518 h (by first | exact (Nat.ne_of_lt hq122) | omega))
  try clear b503
  have t523 := t_lt b522
  try clear t504
  have r524 := (o518 q8 (by first | exact (Nat.ne_of_lt (Nat.lt_trans (Nat.lt_trans (Nat.lt_trans cc_q28 cc_q50) cc_q74) cc_q122)) | omega)).trans r505
  try clear r505
  have r525 := (o518 q28 (by first | exact (Nat.ne_of_lt (Nat.lt_trans (Nat.lt_trans cc_q50 cc_q74) cc_q122)) | omega)).trans r506
  try clear r506
  have r526 := (o518 q50 (by first | exact (Nat.ne_of_lt (Nat.lt_trans cc_q74 cc_q122)) | omega)).trans r507
  try clear r507
  have r527 := (o518 q74 (by first | exact (Nat.ne_of_lt cc_q122) | omega)).trans r508
  try clear r508
  have r528 := (o518 q150 (by first | exact (Nat.ne_of_gt cc_q150) | omega)).trans r509
  try clear r509
  have r529 := (o518 q180 (by first | exact (Nat.ne_of_gt (Nat.lt_trans cc_q150 cc_q180)) | omega)).trans r510
  try clear r510
  have r530 := (o518 q212 (by first | exact (Nat.ne_of_gt (Nat.lt_trans (Nat.lt_trans cc_q150 cc_q180) cc_q212)) | omega)).trans r511
  try clear r511
  have r531 := (o518 q246 (by first | exact (Nat.ne_of_gt (Nat.lt_trans (Nat.lt_trans (Nat.lt_trans cc_q150 cc_q180) cc_q212) cc_q246)) | omega)).trans r512
  try clear r512
  have r532 := (o518 q282 (by first | exact (Nat.ne_of_gt (Nat.lt_trans (Nat.lt_trans (Nat.lt_trans (Nat.lt_trans cc_q150 cc_q180) cc_q212) cc_q246) cc_q282)) | omega)).trans r513
  try clear r513
  have r533 := (o518 q320 (by first | exact (Nat.ne_of_gt (Nat.lt_trans (Nat.lt_trans (Nat.lt_trans (Nat.lt_trans (Nat.lt_trans cc_q150 cc_q180) cc_q212) cc_q246) cc_q282) cc_q320)) | omega)).trans r514
  try clear r514
  have r534 := (o518 q360 (by first | exact (Nat.ne_of_gt (Nat.lt_trans (Nat.lt_trans (Nat.lt_trans (Nat.lt_trans (Nat.lt_trans (Nat.lt_trans cc_q150 cc_q180) cc_q212) cc_q246) cc_q282) cc_q320) cc_q360)) | omega)).trans r515
  try clear o518; try clear r515
  refine lv_aload_n hxx hb dX12_init_156 rfl (lv_at hl 1 rfl) ?_
  refine b_get E (f := 20) b522 (show vwCl[11]? = some (RX12, TX12, 46) from rfl) q_inX12 (by decide) bw_1445 rfl (v := .ref q122) rfl dX12_init_157 ?_
  refine lv_bipush (v := 8) hxx hb dX12_init_160 (by decide) ?_
  refine lv_iconst (v := (-1)) hxx hb dX12_init_162 (by decide) ?_
  refine b_iast E S520 (Or.inr gg_q122) (g := (fun j => if j = (4 : Int32).toNatClampNeg then (4 : Int32) else (fun j => if j = (1 : Int32).toNatClampNeg then (1 : Int32) else (fun j => if j = (0 : Int32).toNatClampNeg then (2 : Int32) else (fun _ => 0 : Nat → Int32) j) j) j)) r519 (by decide) (by decide) dX12_init_163 (fun H535 locs1 z536 o537 r538 S539 => ?_)
  try clear S520; try clear r519
  have w540 : q_w X σ H535 := w521.kept (fun a ha => o537 a (fun e => ha (by rw [e]; exact k136)))
  try clear w521
  have b541 := b522.kept (o537 h (by first | exact (Nat.ne_of_lt hq122) | omega))
  try clear b522
  have t542 := t_lt b541
  try clear t523
  have r543 := (o537 q8 (by first | exact (Nat.ne_of_lt (Nat.lt_trans (Nat.lt_trans (Nat.lt_trans cc_q28 cc_q50) cc_q74) cc_q122)) | omega)).trans r524
  try clear r524
  have r544 := (o537 q28 (by first | exact (Nat.ne_of_lt (Nat.lt_trans (Nat.lt_trans cc_q50 cc_q74) cc_q122)) | omega)).trans r525
  try clear r525
  have r545 := (o537 q50 (by first | exact (Nat.ne_of_lt (Nat.lt_trans cc_q74 cc_q122)) | omega)).trans r526
  try clear r526
  have r546 := (o537 q74 (by first | exact (Nat.ne_of_lt cc_q122) | omega)).trans r527
  try clear r527
  have r547 := (o537 q150 (by first | exact (Nat.ne_of_gt cc_q150) | omega)).trans r528
  try clear r528
  have r548 := (o537 q180 (by first | exact (Nat.ne_of_gt (Nat.lt_trans cc_q150 cc_q180)) | omega)).trans r529
  try clear r529
  have r549 := (o537 q212 (by first | exact (Nat.ne_of_gt (Nat.lt_trans (Nat.lt_trans cc_q150 cc_q180) cc_q212)) | omega)).trans r530
  try clear r530
  have r550 := (o537 q246 (by first | exact (Nat.ne_of_gt (Nat.lt_trans (Nat.lt_trans (Nat.lt_trans cc_q150 cc_q180) cc_q212) cc_q246)) | omega)).trans r531
  try clear r531
  have r551 := (o537 q282 (by first | exact (Nat.ne_of_gt (Nat.lt_trans (Nat.lt_trans (Nat.lt_trans (Nat.lt_trans cc_q150 cc_q180) cc_q212) cc_q246) cc_q282)) | omega)).trans r532
  try clear r532
  have r552 := (o537 q320 (by first | exact (Nat.ne_of_gt (Nat.lt_trans (Nat.lt_trans (Nat.lt_trans (Nat.lt_trans (Nat.lt_trans cc_q150 cc_q180) cc_q212) cc_q246) cc_q282) cc_q320)) | omega)).trans r533
  try clear r533
  have r553 := (o537 q360 (by first | exact (Nat.ne_of_gt (Nat.lt_trans (Nat.lt_trans (Nat.lt_trans (Nat.lt_trans (Nat.lt_trans (Nat.lt_trans cc_q150 cc_q180) cc_q212) cc_q246) cc_q282) cc_q320) cc_q360)) | omega)).trans r534
  try clear o537; try clear r534
  refine lv_aload_n hxx hb dX12_init_164 rfl (lv_at hl 1 rfl) ?_
  refine b_get E (f := 20) b541 (show vwCl[11]? = some (RX12, TX12, 46) from rfl) q_inX12 (by decide) bw_1445 rfl (v := .ref q122) rfl dX12_init_165 ?_
  refine lv_bipush (v := 6) hxx hb dX12_init_168 (by decide) ?_
  refine lv_iconst (v := (-1)) hxx hb dX12_init_170 (by decide) ?_
  refine b_iast E S539 (Or.inr gg_q122) (g := (fun j => if j = (8 : Int32).toNatClampNeg then ((-1) : Int32) else (fun j => if j = (4 : Int32).toNatClampNeg then (4 : Int32) else (fun j => if j = (1 : Int32).toNatClampNeg then (1 : Int32) else (fun j => if j = (0 : Int32).toNatClampNeg then (2 : Int32) else (fun _ => 0 : Nat → Int32) j) j) j) j)) r538 (by decide) (by decide) dX12_init_171 (fun H554 locs1 z555 o556 r557 S558 => ?_)
  try clear S539; try clear r538
  have w559 : q_w X σ H554 := w540.kept (fun a ha => o556 a (fun e => ha (by rw [e]; exact k136)))
  try clear w540
  have b560 := b541.kept (o556 h (by first | exact (Nat.ne_of_lt hq122) | omega))
  try clear b541
  have t561 := t_lt b560
  try clear t542
  have r562 := (o556 q8 (by first | exact (Nat.ne_of_lt (Nat.lt_trans (Nat.lt_trans (Nat.lt_trans cc_q28 cc_q50) cc_q74) cc_q122)) | omega)).trans r543
  try clear r543
  have r563 := (o556 q28 (by first | exact (Nat.ne_of_lt (Nat.lt_trans (Nat.lt_trans cc_q50 cc_q74) cc_q122)) | omega)).trans r544
  try clear r544
  have r564 := (o556 q50 (by first | exact (Nat.ne_of_lt (Nat.lt_trans cc_q74 cc_q122)) | omega)).trans r545
  try clear r545
  have r565 := (o556 q74 (by first | exact (Nat.ne_of_lt cc_q122) | omega)).trans r546
  try clear r546
  have r566 := (o556 q150 (by first | exact (Nat.ne_of_gt cc_q150) | omega)).trans r547
  try clear r547
  have r567 := (o556 q180 (by first | exact (Nat.ne_of_gt (Nat.lt_trans cc_q150 cc_q180)) | omega)).trans r548
  try clear r548
  have r568 := (o556 q212 (by first | exact (Nat.ne_of_gt (Nat.lt_trans (Nat.lt_trans cc_q150 cc_q180) cc_q212)) | omega)).trans r549
  try clear r549
  have r569 := (o556 q246 (by first | exact (Nat.ne_of_gt (Nat.lt_trans (Nat.lt_trans (Nat.lt_trans cc_q150 cc_q180) cc_q212) cc_q246)) | omega)).trans r550
  try clear r550
  have r570 := (o556 q282 (by first | exact (Nat.ne_of_gt (Nat.lt_trans (Nat.lt_trans (Nat.lt_trans (Nat.lt_trans cc_q150 cc_q180) cc_q212) cc_q246) cc_q282)) | omega)).trans r551
  try clear r551
  have r571 := (o556 q320 (by first | exact (Nat.ne_of_gt (Nat.lt_trans (Nat.lt_trans (Nat.lt_trans (Nat.lt_trans (Nat.lt_trans cc_q150 cc_q180) cc_q212) cc_q246) cc_q282) cc_q320)) | omega)).trans r552
  try clear r552
  have r572 := (o556 q360 (by first | exact (Nat.ne_of_gt (Nat.lt_trans (Nat.lt_trans (Nat.lt_trans (Nat.lt_trans (Nat.lt_trans (Nat.lt_trans cc_q150 cc_q180) cc_q212) cc_q246) cc_q282) cc_q320) cc_q360)) | omega)).trans r553
  try clear o556; try clear r553
  have y577 := raw_lt r562
  try clear y577
  obtain ⟨X573, dX573⟩ : ∃ Y, Y = q_xg X q8 30 4 (fun _ => 0) := ⟨_, rfl⟩
  obtain ⟨σ574, dσ574⟩ : ∃ τ, τ = q_sg σ q8 (fun _ => 0 : Nat → Int32) (fun _ => 0) 0 := ⟨_, rfl⟩
  have x575 : q_ext (fun a => a = q8) X X573 σ σ574 := by rw [dX573, dσ574]; exact q_ext.add k18
  have y578 : y_root X573 q8 := by rw [dX573]; exact (y_root.out w559.1 k18).add y_xg (fun f hf => absurd rfl hf)
  have y579 : y_rt X X573 := by rw [dX573]; exact yr0.add y_xg (fun f hf => absurd rfl hf)
  have w576 : q_w X573 σ574 H554 := by
    rw [dX573, dσ574]
    exact w559.add k18 (fun f hf => absurd rfl hf) (fun _ => rfl) (by decide) (fun q => absurd q (by decide)) (fun f => by refine q_inB (lo := 0) (hi := 3) rfl ?_ ?_ <;> ((try dsimp only); repeat' split) <;> decide) (fun q => by rcases q with q | q <;> exact absurd q (by decide)) (q_cfA hD (by decide) (t0 := 1) rfl r562 (fun j => rfl)) (fun f hf => absurd rfl hf) (fun f g hf _ _ => absurd rfl hf) (fun f hf => absurd rfl hf) (fun f hf => absurd (show (0 : Nat) = 5 from hf) (by decide)) (fun q => absurd q (by decide))
  try clear r562; try clear w559; try clear k18
  have D580 : X573.1 = D := x575.1.trans hD
  have k581 : q_kd X573 q8 = 30 := by rw [dX573]; exact q_xg_h
  have n582 : q_ln X573 q8 = 4 := by rw [dX573]; exact if_pos rfl
  have x583 := hx0.tr x575 (fun a e => Or.inr (by rw [e]; exact gg_q8))
  have k584 : q_kd X573 q28 = 0 := x575.k0 k39 (by first | exact (Nat.ne_of_gt cc_q28) | (omega))
  try clear k39
  have k585 : q_kd X573 q50 = 0 := x575.k0 k62 (by first | exact (Nat.ne_of_gt (Nat.lt_trans cc_q28 cc_q50)) | (omega))
  try clear k62
  have k586 : q_kd X573 q74 = 0 := x575.k0 k87 (by first | exact (Nat.ne_of_gt (Nat.lt_trans (Nat.lt_trans cc_q28 cc_q50) cc_q74)) | (omega))
  try clear k87
  have k587 : q_kd X573 q122 = 0 := x575.k0 k136 (by first | exact (Nat.ne_of_gt (Nat.lt_trans (Nat.lt_trans (Nat.lt_trans cc_q28 cc_q50) cc_q74) cc_q122)) | (omega))
  try clear k136
  have k588 : q_kd X573 q150 = 0 := x575.k0 k165 (by first | exact (Nat.ne_of_gt (Nat.lt_trans (Nat.lt_trans (Nat.lt_trans (Nat.lt_trans cc_q28 cc_q50) cc_q74) cc_q122) cc_q150)) | (omega))
  try clear k165
  have k589 : q_kd X573 q180 = 0 := x575.k0 k196 (by first | exact (Nat.ne_of_gt (Nat.lt_trans (Nat.lt_trans (Nat.lt_trans (Nat.lt_trans (Nat.lt_trans cc_q28 cc_q50) cc_q74) cc_q122) cc_q150) cc_q180)) | (omega))
  try clear k196
  have k590 : q_kd X573 q212 = 0 := x575.k0 k229 (by first | exact (Nat.ne_of_gt (Nat.lt_trans (Nat.lt_trans (Nat.lt_trans (Nat.lt_trans (Nat.lt_trans (Nat.lt_trans cc_q28 cc_q50) cc_q74) cc_q122) cc_q150) cc_q180) cc_q212)) | (omega))
  try clear k229
  have k591 : q_kd X573 q246 = 0 := x575.k0 k264 (by first | exact (Nat.ne_of_gt (Nat.lt_trans (Nat.lt_trans (Nat.lt_trans (Nat.lt_trans (Nat.lt_trans (Nat.lt_trans (Nat.lt_trans cc_q28 cc_q50) cc_q74) cc_q122) cc_q150) cc_q180) cc_q212) cc_q246)) | (omega))
  try clear k264
  have k592 : q_kd X573 q282 = 0 := x575.k0 k301 (by first | exact (Nat.ne_of_gt (Nat.lt_trans (Nat.lt_trans (Nat.lt_trans (Nat.lt_trans (Nat.lt_trans (Nat.lt_trans (Nat.lt_trans (Nat.lt_trans cc_q28 cc_q50) cc_q74) cc_q122) cc_q150) cc_q180) cc_q212) cc_q246) cc_q282)) | (omega))
  try clear k301
  have k593 : q_kd X573 q320 = 0 := x575.k0 k340 (by first | exact (Nat.ne_of_gt (Nat.lt_trans (Nat.lt_trans (Nat.lt_trans (Nat.lt_trans (Nat.lt_trans (Nat.lt_trans (Nat.lt_trans (Nat.lt_trans (Nat.lt_trans cc_q28 cc_q50) cc_q74) cc_q122) cc_q150) cc_q180) cc_q212) cc_q246) cc_q282) cc_q320)) | (omega))
  try clear k340
  have k594 : q_kd X573 q360 = 0 := x575.k0 k381 (by first | exact (Nat.ne_of_gt (Nat.lt_trans (Nat.lt_trans (Nat.lt_trans (Nat.lt_trans (Nat.lt_trans (Nat.lt_trans (Nat.lt_trans (Nat.lt_trans (Nat.lt_trans (Nat.lt_trans cc_q28 cc_q50) cc_q74) cc_q122) cc_q150) cc_q180) cc_q212) cc_q246) cc_q282) cc_q320) cc_q360)) | (omega))
  try clear k381
  have k595 : q_kd X573 h = 0 := x575.k0 h00 (by first | exact (Nat.ne_of_lt hq8) | (omega))
  try clear x575
  have j596 : ∀ j, σ574.1 q8 j = (fun _ => 0 : Nat → Int32) j := fun j => by rw [dσ574]; exact if_pos rfl
  have y601 := raw_lt r563
  try clear y601
  obtain ⟨X597, dX597⟩ : ∃ Y, Y = q_xg X573 q28 31 4 (fun _ => 0) := ⟨_, rfl⟩
  obtain ⟨σ598, dσ598⟩ : ∃ τ, τ = q_sg σ574 q28 (fun j => if j = (3 : Int32).toNatClampNeg then ((-1) : Int32) else (fun j => if j = (2 : Int32).toNatClampNeg then ((-1) : Int32) else (fun j => if j = (1 : Int32).toNatClampNeg then ((-1) : Int32) else (fun j => if j = (0 : Int32).toNatClampNeg then ((-1) : Int32) else (fun _ => 0 : Nat → Int32) j) j) j) j) (fun _ => 0) 0 := ⟨_, rfl⟩
  have x599 : q_ext (fun a => a = q28) X573 X597 σ574 σ598 := by rw [dX597, dσ598]; exact q_ext.add k584
  have y602 : y_root X597 q8 := by rw [dX597]; exact y578.add y_xg (fun f hf => absurd rfl hf)
  try clear y578
  have y603 : y_root X597 q28 := by rw [dX597]; exact (y_root.out w576.1 k584).add y_xg (fun f hf => absurd rfl hf)
  have y604 : y_rt X X597 := by rw [dX597]; exact y579.add y_xg (fun f hf => absurd rfl hf)
  try clear y579
  have w600 : q_w X597 σ598 H554 := by
    rw [dX597, dσ598]
    exact w576.add k584 (fun f hf => absurd rfl hf) (fun _ => rfl) (by decide) (fun q => absurd q (by decide)) (fun f => by refine q_inB (lo := -1) (hi := 60) rfl ?_ ?_ <;> ((try dsimp only); repeat' split) <;> decide) (fun q => by rcases q with q | q <;> exact absurd q (by decide)) (q_cfA D580 (by decide) (t0 := 1) rfl r563 (fun j => rfl)) (fun f hf => absurd rfl hf) (fun f g hf _ _ => absurd rfl hf) (fun f hf => absurd rfl hf) (fun f hf => absurd (show (0 : Nat) = 5 from hf) (by decide)) (fun q => absurd q (by decide))
  try clear k584; try clear w576; try clear r563
  have D605 : X597.1 = D := x599.1.trans D580
  try clear D580
  have k606 : q_kd X597 q28 = 31 := by rw [dX597]; exact q_xg_h
  have n607 : q_ln X597 q28 = 4 := by rw [dX597]; exact if_pos rfl
  have x608 := x583.tr x599 (fun a e => Or.inr (by rw [e]; exact gg_q28))
  try clear x583
  have k609 := x599.kd k581 (by decide)
  have k610 : q_kd X597 q50 = 0 := x599.k0 k585 (by first | exact (Nat.ne_of_gt cc_q50) | (omega))
  try clear k585
  have k611 : q_kd X597 q74 = 0 := x599.k0 k586 (by first | exact (Nat.ne_of_gt (Nat.lt_trans cc_q50 cc_q74)) | (omega))
  try clear k586
  have k612 : q_kd X597 q122 = 0 := x599.k0 k587 (by first | exact (Nat.ne_of_gt (Nat.lt_trans (Nat.lt_trans cc_q50 cc_q74) cc_q122)) | (omega))
  try clear k587
  have k613 : q_kd X597 q150 = 0 := x599.k0 k588 (by first | exact (Nat.ne_of_gt (Nat.lt_trans (Nat.lt_trans (Nat.lt_trans cc_q50 cc_q74) cc_q122) cc_q150)) | (omega))
  try clear k588
  have k614 : q_kd X597 q180 = 0 := x599.k0 k589 (by first | exact (Nat.ne_of_gt (Nat.lt_trans (Nat.lt_trans (Nat.lt_trans (Nat.lt_trans cc_q50 cc_q74) cc_q122) cc_q150) cc_q180)) | (omega))
  try clear k589
  have k615 : q_kd X597 q212 = 0 := x599.k0 k590 (by first | exact (Nat.ne_of_gt (Nat.lt_trans (Nat.lt_trans (Nat.lt_trans (Nat.lt_trans (Nat.lt_trans cc_q50 cc_q74) cc_q122) cc_q150) cc_q180) cc_q212)) | (omega))
  try clear k590
  have k616 : q_kd X597 q246 = 0 := x599.k0 k591 (by first | exact (Nat.ne_of_gt (Nat.lt_trans (Nat.lt_trans (Nat.lt_trans (Nat.lt_trans (Nat.lt_trans (Nat.lt_trans cc_q50 cc_q74) cc_q122) cc_q150) cc_q180) cc_q212) cc_q246)) | (omega))
  try clear k591
  have k617 : q_kd X597 q282 = 0 := x599.k0 k592 (by first | exact (Nat.ne_of_gt (Nat.lt_trans (Nat.lt_trans (Nat.lt_trans (Nat.lt_trans (Nat.lt_trans (Nat.lt_trans (Nat.lt_trans cc_q50 cc_q74) cc_q122) cc_q150) cc_q180) cc_q212) cc_q246) cc_q282)) | (omega))
  try clear k592
  have k618 : q_kd X597 q320 = 0 := x599.k0 k593 (by first | exact (Nat.ne_of_gt (Nat.lt_trans (Nat.lt_trans (Nat.lt_trans (Nat.lt_trans (Nat.lt_trans (Nat.lt_trans (Nat.lt_trans (Nat.lt_trans cc_q50 cc_q74) cc_q122) cc_q150) cc_q180) cc_q212) cc_q246) cc_q282) cc_q320)) | (omega))
  try clear k593
  have k619 : q_kd X597 q360 = 0 := x599.k0 k594 (by first | exact (Nat.ne_of_gt (Nat.lt_trans (Nat.lt_trans (Nat.lt_trans (Nat.lt_trans (Nat.lt_trans (Nat.lt_trans (Nat.lt_trans (Nat.lt_trans (Nat.lt_trans cc_q50 cc_q74) cc_q122) cc_q150) cc_q180) cc_q212) cc_q246) cc_q282) cc_q320) cc_q360)) | (omega))
  try clear k594
  have k620 : q_kd X597 h = 0 := x599.k0 k595 (by first | exact (Nat.ne_of_lt hq28) | (omega))
  try clear k595
  have n621 : q_ln X597 q8 = 4 := (x599.2.2.2.1 q8 (by rw [k581]; decide)).2.1.trans n582
  have j622 : ∀ j, σ598.1 q8 j = (fun _ => 0 : Nat → Int32) j := fun j => (q_exi x599 (by rw [k581]; decide)).trans (j596 j)
  try clear x599; try clear k581
  have j623 : ∀ j, σ598.1 q28 j = (fun j => if j = (3 : Int32).toNatClampNeg then ((-1) : Int32) else (fun j => if j = (2 : Int32).toNatClampNeg then ((-1) : Int32) else (fun j => if j = (1 : Int32).toNatClampNeg then ((-1) : Int32) else (fun j => if j = (0 : Int32).toNatClampNeg then ((-1) : Int32) else (fun _ => 0 : Nat → Int32) j) j) j) j) j := fun j => by rw [dσ598]; exact if_pos rfl
  have y628 := raw_lt r564
  try clear y628
  obtain ⟨X624, dX624⟩ : ∃ Y, Y = q_xg X597 q50 32 240 (fun _ => 0) := ⟨_, rfl⟩
  obtain ⟨σ625, dσ625⟩ : ∃ τ, τ = q_sg σ598 q50 (fun _ => 0) (fun _ => 0) 0 := ⟨_, rfl⟩
  have x626 : q_ext (fun a => a = q50) X597 X624 σ598 σ625 := by rw [dX624, dσ625]; exact q_ext.add k610
  have y629 : y_root X624 q8 := by rw [dX624]; exact y602.add y_xg (fun f hf => absurd rfl hf)
  try clear y602
  have y630 : y_root X624 q28 := by rw [dX624]; exact y603.add y_xg (fun f hf => absurd rfl hf)
  try clear y603
  have y631 : y_root X624 q50 := by rw [dX624]; exact (y_root.out w600.1 k610).add y_xg (fun f hf => absurd rfl hf)
  have y632 : y_rt X X624 := by rw [dX624]; exact y604.add y_xg (fun f hf => absurd rfl hf)
  try clear y604
  have w627 : q_w X624 σ625 H554 := by
    rw [dX624, dσ625]
    exact w600.add k610 (fun f hf => absurd rfl hf) (fun _ => rfl) (by decide) (fun q => absurd q (by decide)) (fun f => q_inU rfl) (fun q => by rcases q with q | q <;> exact absurd q (by decide)) (q_cfA D605 (by decide) (t0 := 2) rfl r564 (fun j => rfl)) (fun f hf => absurd rfl hf) (fun f g hf _ _ => absurd rfl hf) (fun f hf => absurd rfl hf) (fun f hf => absurd (show (0 : Nat) = 5 from hf) (by decide)) (fun q => absurd q (by decide))
  try clear k610; try clear w600; try clear r564
  have D633 : X624.1 = D := x626.1.trans D605
  try clear D605
  have k634 : q_kd X624 q50 = 32 := by rw [dX624]; exact q_xg_h
  have n635 : q_ln X624 q50 = 240 := by rw [dX624]; exact if_pos rfl
  have x636 := x608.tr x626 (fun a e => Or.inr (by rw [e]; exact gg_q50))
  try clear x608
  have k637 := x626.kd k609 (by decide)
  have k638 := x626.kd k606 (by decide)
  have k639 : q_kd X624 q74 = 0 := x626.k0 k611 (by first | exact (Nat.ne_of_gt cc_q74) | (omega))
  try clear k611
  have k640 : q_kd X624 q122 = 0 := x626.k0 k612 (by first | exact (Nat.ne_of_gt (Nat.lt_trans cc_q74 cc_q122)) | (omega))
  try clear k612
  have k641 : q_kd X624 q150 = 0 := x626.k0 k613 (by first | exact (Nat.ne_of_gt (Nat.lt_trans (Nat.lt_trans cc_q74 cc_q122) cc_q150)) | (omega))
  try clear k613
  have k642 : q_kd X624 q180 = 0 := x626.k0 k614 (by first | exact (Nat.ne_of_gt (Nat.lt_trans (Nat.lt_trans (Nat.lt_trans cc_q74 cc_q122) cc_q150) cc_q180)) | (omega))
  try clear k614
  have k643 : q_kd X624 q212 = 0 := x626.k0 k615 (by first | exact (Nat.ne_of_gt (Nat.lt_trans (Nat.lt_trans (Nat.lt_trans (Nat.lt_trans cc_q74 cc_q122) cc_q150) cc_q180) cc_q212)) | (omega))
  try clear k615
  have k644 : q_kd X624 q246 = 0 := x626.k0 k616 (by first | exact (Nat.ne_of_gt (Nat.lt_trans (Nat.lt_trans (Nat.lt_trans (Nat.lt_trans (Nat.lt_trans cc_q74 cc_q122) cc_q150) cc_q180) cc_q212) cc_q246)) | (omega))
  try clear k616
  have k645 : q_kd X624 q282 = 0 := x626.k0 k617 (by first | exact (Nat.ne_of_gt (Nat.lt_trans (Nat.lt_trans (Nat.lt_trans (Nat.lt_trans (Nat.lt_trans (Nat.lt_trans cc_q74 cc_q122) cc_q150) cc_q180) cc_q212) cc_q246) cc_q282)) | (omega))
  try clear k617
  have k646 : q_kd X624 q320 = 0 := x626.k0 k618 (by first | exact (Nat.ne_of_gt (Nat.lt_trans (Nat.lt_trans (Nat.lt_trans (Nat.lt_trans (Nat.lt_trans (Nat.lt_trans (Nat.lt_trans cc_q74 cc_q122) cc_q150) cc_q180) cc_q212) cc_q246) cc_q282) cc_q320)) | (omega))
  try clear k618
  have k647 : q_kd X624 q360 = 0 := x626.k0 k619 (by first | exact (Nat.ne_of_gt (Nat.lt_trans (Nat.lt_trans (Nat.lt_trans (Nat.lt_trans (Nat.lt_trans (Nat.lt_trans (Nat.lt_trans (Nat.lt_trans cc_q74 cc_q122) cc_q150) cc_q180) cc_q212) cc_q246) cc_q282) cc_q320) cc_q360)) | (omega))
  try clear k619
  have k648 : q_kd X624 h = 0 := x626.k0 k620 (by first | exact (Nat.ne_of_lt hq50) | (omega))
  try clear k620
  have n649 : q_ln X624 q8 = 4 := (x626.2.2.2.1 q8 (by rw [k609]; decide)).2.1.trans n621
  have n650 : q_ln X624 q28 = 4 := (x626.2.2.2.1 q28 (by rw [k606]; decide)).2.1.trans n607
  have j651 : ∀ j, σ625.1 q8 j = (fun _ => 0 : Nat → Int32) j := fun j => (q_exi x626 (by rw [k609]; decide)).trans (j622 j)
  try clear k609
  have j652 : ∀ j, σ625.1 q28 j = (fun j => if j = (3 : Int32).toNatClampNeg then ((-1) : Int32) else (fun j => if j = (2 : Int32).toNatClampNeg then ((-1) : Int32) else (fun j => if j = (1 : Int32).toNatClampNeg then ((-1) : Int32) else (fun j => if j = (0 : Int32).toNatClampNeg then ((-1) : Int32) else (fun _ => 0 : Nat → Int32) j) j) j) j) j := fun j => (q_exi x626 (by rw [k606]; decide)).trans (j623 j)
  try clear x626; try clear k606
  have y657 := raw_lt r565
  try clear y657
  obtain ⟨X653, dX653⟩ : ∃ Y, Y = q_xg X624 q74 33 900 (fun _ => 0) := ⟨_, rfl⟩
  obtain ⟨σ654, dσ654⟩ : ∃ τ, τ = q_sg σ625 q74 (fun _ => 0 : Nat → Int32) (fun _ => 0) 0 := ⟨_, rfl⟩
  have x655 : q_ext (fun a => a = q74) X624 X653 σ625 σ654 := by rw [dX653, dσ654]; exact q_ext.add k639
  have y658 : y_root X653 q8 := by rw [dX653]; exact y629.add y_xg (fun f hf => absurd rfl hf)
  try clear y629
  have y659 : y_root X653 q28 := by rw [dX653]; exact y630.add y_xg (fun f hf => absurd rfl hf)
  try clear y630
  have y660 : y_root X653 q50 := by rw [dX653]; exact y631.add y_xg (fun f hf => absurd rfl hf)
  try clear y631
  have y661 : y_root X653 q74 := by rw [dX653]; exact (y_root.out w627.1 k639).add y_xg (fun f hf => absurd rfl hf)
  have y662 : y_rt X X653 := by rw [dX653]; exact y632.add y_xg (fun f hf => absurd rfl hf)
  try clear y632
  have w656 : q_w X653 σ654 H554 := by
    rw [dX653, dσ654]
    exact w627.add k639 (fun f hf => absurd rfl hf) (fun _ => rfl) (by decide) (fun q => absurd q (by decide)) (fun f => q_inU rfl) (fun q => by rcases q with q | q <;> exact absurd q (by decide)) (q_cfA D633 (by decide) (t0 := 0) rfl r565 (fun j => rfl)) (fun f hf => absurd rfl hf) (fun f g hf _ _ => absurd rfl hf) (fun f hf => absurd rfl hf) (fun f hf => absurd (show (0 : Nat) = 5 from hf) (by decide)) (fun q => absurd q (by decide))
  try clear k639; try clear w627; try clear r565
  have D663 : X653.1 = D := x655.1.trans D633
  try clear D633
  have k664 : q_kd X653 q74 = 33 := by rw [dX653]; exact q_xg_h
  have n665 : q_ln X653 q74 = 900 := by rw [dX653]; exact if_pos rfl
  have x666 := x636.tr x655 (fun a e => Or.inr (by rw [e]; exact gg_q74))
  try clear x636
  have k667 := x655.kd k637 (by decide)
  have k668 := x655.kd k638 (by decide)
  have k669 := x655.kd k634 (by decide)
  have k670 : q_kd X653 q122 = 0 := x655.k0 k640 (by first | exact (Nat.ne_of_gt cc_q122) | (omega))
  try clear k640
  have k671 : q_kd X653 q150 = 0 := x655.k0 k641 (by first | exact (Nat.ne_of_gt (Nat.lt_trans cc_q122 cc_q150)) | (omega))
  try clear k641
  have k672 : q_kd X653 q180 = 0 := x655.k0 k642 (by first | exact (Nat.ne_of_gt (Nat.lt_trans (Nat.lt_trans cc_q122 cc_q150) cc_q180)) | (omega))
  try clear k642
  have k673 : q_kd X653 q212 = 0 := x655.k0 k643 (by first | exact (Nat.ne_of_gt (Nat.lt_trans (Nat.lt_trans (Nat.lt_trans cc_q122 cc_q150) cc_q180) cc_q212)) | (omega))
  try clear k643
  have k674 : q_kd X653 q246 = 0 := x655.k0 k644 (by first | exact (Nat.ne_of_gt (Nat.lt_trans (Nat.lt_trans (Nat.lt_trans (Nat.lt_trans cc_q122 cc_q150) cc_q180) cc_q212) cc_q246)) | (omega))
  try clear k644
  have k675 : q_kd X653 q282 = 0 := x655.k0 k645 (by first | exact (Nat.ne_of_gt (Nat.lt_trans (Nat.lt_trans (Nat.lt_trans (Nat.lt_trans (Nat.lt_trans cc_q122 cc_q150) cc_q180) cc_q212) cc_q246) cc_q282)) | (omega))
  try clear k645
  have k676 : q_kd X653 q320 = 0 := x655.k0 k646 (by first | exact (Nat.ne_of_gt (Nat.lt_trans (Nat.lt_trans (Nat.lt_trans (Nat.lt_trans (Nat.lt_trans (Nat.lt_trans cc_q122 cc_q150) cc_q180) cc_q212) cc_q246) cc_q282) cc_q320)) | (omega))
  try clear k646
  have k677 : q_kd X653 q360 = 0 := x655.k0 k647 (by first | exact (Nat.ne_of_gt (Nat.lt_trans (Nat.lt_trans (Nat.lt_trans (Nat.lt_trans (Nat.lt_trans (Nat.lt_trans (Nat.lt_trans cc_q122 cc_q150) cc_q180) cc_q212) cc_q246) cc_q282) cc_q320) cc_q360)) | (omega))
  try clear k647
  have k678 : q_kd X653 h = 0 := x655.k0 k648 (by first | exact (Nat.ne_of_lt hq74) | (omega))
  try clear k648
  have n679 : q_ln X653 q8 = 4 := (x655.2.2.2.1 q8 (by rw [k637]; decide)).2.1.trans n649
  have n680 : q_ln X653 q28 = 4 := (x655.2.2.2.1 q28 (by rw [k638]; decide)).2.1.trans n650
  have n681 : q_ln X653 q50 = 240 := (x655.2.2.2.1 q50 (by rw [k634]; decide)).2.1.trans n635
  try clear k634
  have j682 : ∀ j, σ654.1 q8 j = (fun _ => 0 : Nat → Int32) j := fun j => (q_exi x655 (by rw [k637]; decide)).trans (j651 j)
  try clear k637
  have j683 : ∀ j, σ654.1 q28 j = (fun j => if j = (3 : Int32).toNatClampNeg then ((-1) : Int32) else (fun j => if j = (2 : Int32).toNatClampNeg then ((-1) : Int32) else (fun j => if j = (1 : Int32).toNatClampNeg then ((-1) : Int32) else (fun j => if j = (0 : Int32).toNatClampNeg then ((-1) : Int32) else (fun _ => 0 : Nat → Int32) j) j) j) j) j := fun j => (q_exi x655 (by rw [k638]; decide)).trans (j652 j)
  try clear x655; try clear k638
  have y688 := raw_lt r557
  try clear y688
  obtain ⟨X684, dX684⟩ : ∃ Y, Y = q_xg X653 q122 34 4650 (fun _ => 0) := ⟨_, rfl⟩
  obtain ⟨σ685, dσ685⟩ : ∃ τ, τ = q_sg σ654 q122 (fun j => if j = (6 : Int32).toNatClampNeg then ((-1) : Int32) else (fun j => if j = (8 : Int32).toNatClampNeg then ((-1) : Int32) else (fun j => if j = (4 : Int32).toNatClampNeg then (4 : Int32) else (fun j => if j = (1 : Int32).toNatClampNeg then (1 : Int32) else (fun j => if j = (0 : Int32).toNatClampNeg then (2 : Int32) else (fun _ => 0 : Nat → Int32) j) j) j) j) j) (fun _ => 0) 0 := ⟨_, rfl⟩
  have x686 : q_ext (fun a => a = q122) X653 X684 σ654 σ685 := by rw [dX684, dσ685]; exact q_ext.add k670
  have y689 : y_root X684 q8 := by rw [dX684]; exact y658.add y_xg (fun f hf => absurd rfl hf)
  try clear y658
  have y690 : y_root X684 q28 := by rw [dX684]; exact y659.add y_xg (fun f hf => absurd rfl hf)
  try clear y659
  have y691 : y_root X684 q50 := by rw [dX684]; exact y660.add y_xg (fun f hf => absurd rfl hf)
  try clear y660
  have y692 : y_root X684 q74 := by rw [dX684]; exact y661.add y_xg (fun f hf => absurd rfl hf)
  try clear y661
  have y693 : y_root X684 q122 := by rw [dX684]; exact (y_root.out w656.1 k670).add y_xg (fun f hf => absurd rfl hf)
  have y694 : y_rt X X684 := by rw [dX684]; exact y662.add y_xg (fun f hf => absurd rfl hf)
  try clear y662
  have w687 : q_w X684 σ685 H554 := by
    rw [dX684, dσ685]
    exact w656.add k670 (fun f hf => absurd rfl hf) (fun _ => rfl) (by decide) (fun q => absurd q (by decide)) (fun f => q_inU rfl) (fun q => by rcases q with q | q <;> exact absurd q (by decide)) (q_cfA D663 (by decide) (t0 := 1) rfl r557 (fun j => rfl)) (fun f hf => absurd rfl hf) (fun f g hf _ _ => absurd rfl hf) (fun f hf => absurd rfl hf) (fun f hf => absurd (show (0 : Nat) = 5 from hf) (by decide)) (fun q => absurd q (by decide))
  try clear k670; try clear w656; try clear r557
  have D695 : X684.1 = D := x686.1.trans D663
  try clear D663
  have k696 : q_kd X684 q122 = 34 := by rw [dX684]; exact q_xg_h
  have n697 : q_ln X684 q122 = 4650 := by rw [dX684]; exact if_pos rfl
  have x698 := x666.tr x686 (fun a e => Or.inr (by rw [e]; exact gg_q122))
  try clear x666
  have k699 := x686.kd k667 (by decide)
  have k700 := x686.kd k668 (by decide)
  have k701 := x686.kd k669 (by decide)
  have k702 := x686.kd k664 (by decide)
  have k703 : q_kd X684 q150 = 0 := x686.k0 k671 (by first | exact (Nat.ne_of_gt cc_q150) | (omega))
  try clear k671
  have k704 : q_kd X684 q180 = 0 := x686.k0 k672 (by first | exact (Nat.ne_of_gt (Nat.lt_trans cc_q150 cc_q180)) | (omega))
  try clear k672
  have k705 : q_kd X684 q212 = 0 := x686.k0 k673 (by first | exact (Nat.ne_of_gt (Nat.lt_trans (Nat.lt_trans cc_q150 cc_q180) cc_q212)) | (omega))
  try clear k673
  have k706 : q_kd X684 q246 = 0 := x686.k0 k674 (by first | exact (Nat.ne_of_gt (Nat.lt_trans (Nat.lt_trans (Nat.lt_trans cc_q150 cc_q180) cc_q212) cc_q246)) | (omega))
  try clear k674
  have k707 : q_kd X684 q282 = 0 := x686.k0 k675 (by first | exact (Nat.ne_of_gt (Nat.lt_trans (Nat.lt_trans (Nat.lt_trans (Nat.lt_trans cc_q150 cc_q180) cc_q212) cc_q246) cc_q282)) | (omega))
  try clear k675
  have k708 : q_kd X684 q320 = 0 := x686.k0 k676 (by first | exact (Nat.ne_of_gt (Nat.lt_trans (Nat.lt_trans (Nat.lt_trans (Nat.lt_trans (Nat.lt_trans cc_q150 cc_q180) cc_q212) cc_q246) cc_q282) cc_q320)) | (omega))
  try clear k676
  have k709 : q_kd X684 q360 = 0 := x686.k0 k677 (by first | exact (Nat.ne_of_gt (Nat.lt_trans (Nat.lt_trans (Nat.lt_trans (Nat.lt_trans (Nat.lt_trans (Nat.lt_trans cc_q150 cc_q180) cc_q212) cc_q246) cc_q282) cc_q320) cc_q360)) | (omega))
  try clear k677
  have k710 : q_kd X684 h = 0 := x686.k0 k678 (by first | exact (Nat.ne_of_lt hq122) | (omega))
  try clear k678
  have n711 : q_ln X684 q8 = 4 := (x686.2.2.2.1 q8 (by rw [k667]; decide)).2.1.trans n679
  have n712 : q_ln X684 q28 = 4 := (x686.2.2.2.1 q28 (by rw [k668]; decide)).2.1.trans n680
  have n713 : q_ln X684 q50 = 240 := (x686.2.2.2.1 q50 (by rw [k669]; decide)).2.1.trans n681
  try clear k669
  have n714 : q_ln X684 q74 = 900 := (x686.2.2.2.1 q74 (by rw [k664]; decide)).2.1.trans n665
  try clear k664
  have j715 : ∀ j, σ685.1 q8 j = (fun _ => 0 : Nat → Int32) j := fun j => (q_exi x686 (by rw [k667]; decide)).trans (j682 j)
  try clear k667
  have j716 : ∀ j, σ685.1 q28 j = (fun j => if j = (3 : Int32).toNatClampNeg then ((-1) : Int32) else (fun j => if j = (2 : Int32).toNatClampNeg then ((-1) : Int32) else (fun j => if j = (1 : Int32).toNatClampNeg then ((-1) : Int32) else (fun j => if j = (0 : Int32).toNatClampNeg then ((-1) : Int32) else (fun _ => 0 : Nat → Int32) j) j) j) j) j := fun j => (q_exi x686 (by rw [k668]; decide)).trans (j683 j)
  try clear x686; try clear k668
  have j717 : ∀ j, σ685.1 q122 j = (fun j => if j = (6 : Int32).toNatClampNeg then ((-1) : Int32) else (fun j => if j = (8 : Int32).toNatClampNeg then ((-1) : Int32) else (fun j => if j = (4 : Int32).toNatClampNeg then (4 : Int32) else (fun j => if j = (1 : Int32).toNatClampNeg then (1 : Int32) else (fun j => if j = (0 : Int32).toNatClampNeg then (2 : Int32) else (fun _ => 0 : Nat → Int32) j) j) j) j) j) j := fun j => by rw [dσ685]; exact if_pos rfl
  have y722 := raw_lt r566
  try clear y722
  obtain ⟨X718, dX718⟩ : ∃ Y, Y = q_xg X684 q150 35 654 (fun _ => 0) := ⟨_, rfl⟩
  obtain ⟨σ719, dσ719⟩ : ∃ τ, τ = q_sg σ685 q150 (fun _ => 0 : Nat → Int32) (fun _ => 0) 0 := ⟨_, rfl⟩
  have x720 : q_ext (fun a => a = q150) X684 X718 σ685 σ719 := by rw [dX718, dσ719]; exact q_ext.add k703
  have y723 : y_root X718 q8 := by rw [dX718]; exact y689.add y_xg (fun f hf => absurd rfl hf)
  try clear y689
  have y724 : y_root X718 q28 := by rw [dX718]; exact y690.add y_xg (fun f hf => absurd rfl hf)
  try clear y690
  have y725 : y_root X718 q50 := by rw [dX718]; exact y691.add y_xg (fun f hf => absurd rfl hf)
  try clear y691
  have y726 : y_root X718 q74 := by rw [dX718]; exact y692.add y_xg (fun f hf => absurd rfl hf)
  try clear y692
  have y727 : y_root X718 q122 := by rw [dX718]; exact y693.add y_xg (fun f hf => absurd rfl hf)
  try clear y693
  have y728 : y_root X718 q150 := by rw [dX718]; exact (y_root.out w687.1 k703).add y_xg (fun f hf => absurd rfl hf)
  have y729 : y_rt X X718 := by rw [dX718]; exact y694.add y_xg (fun f hf => absurd rfl hf)
  try clear y694
  have w721 : q_w X718 σ719 H554 := by
    rw [dX718, dσ719]
    exact w687.add k703 (fun f hf => absurd rfl hf) (fun _ => rfl) (by decide) (fun q => absurd q (by decide)) (fun f => q_inU rfl) (fun q => by rcases q with q | q <;> exact absurd q (by decide)) (q_cfA D695 (by decide) (t0 := 1) rfl r566 (fun j => rfl)) (fun f hf => absurd rfl hf) (fun f g hf _ _ => absurd rfl hf) (fun f hf => absurd rfl hf) (fun f hf => absurd (show (0 : Nat) = 5 from hf) (by decide)) (fun q => absurd q (by decide))
  try clear k703; try clear w687; try clear r566
  have D730 : X718.1 = D := x720.1.trans D695
  try clear D695
  have k731 : q_kd X718 q150 = 35 := by rw [dX718]; exact q_xg_h
  have n732 : q_ln X718 q150 = 654 := by rw [dX718]; exact if_pos rfl
  have x733 := x698.tr x720 (fun a e => Or.inr (by rw [e]; exact gg_q150))
  try clear x698
  have k734 := x720.kd k699 (by decide)
  have k735 := x720.kd k700 (by decide)
  have k736 := x720.kd k701 (by decide)
  have k737 := x720.kd k702 (by decide)
  have k738 := x720.kd k696 (by decide)
  have k739 : q_kd X718 q180 = 0 := x720.k0 k704 (by first | exact (Nat.ne_of_gt cc_q180) | (omega))
  try clear k704
  have k740 : q_kd X718 q212 = 0 := x720.k0 k705 (by first | exact (Nat.ne_of_gt (Nat.lt_trans cc_q180 cc_q212)) | (omega))
  try clear k705
  have k741 : q_kd X718 q246 = 0 := x720.k0 k706 (by first | exact (Nat.ne_of_gt (Nat.lt_trans (Nat.lt_trans cc_q180 cc_q212) cc_q246)) | (omega))
  try clear k706
  have k742 : q_kd X718 q282 = 0 := x720.k0 k707 (by first | exact (Nat.ne_of_gt (Nat.lt_trans (Nat.lt_trans (Nat.lt_trans cc_q180 cc_q212) cc_q246) cc_q282)) | (omega))
  try clear k707
  have k743 : q_kd X718 q320 = 0 := x720.k0 k708 (by first | exact (Nat.ne_of_gt (Nat.lt_trans (Nat.lt_trans (Nat.lt_trans (Nat.lt_trans cc_q180 cc_q212) cc_q246) cc_q282) cc_q320)) | (omega))
  try clear k708
  have k744 : q_kd X718 q360 = 0 := x720.k0 k709 (by first | exact (Nat.ne_of_gt (Nat.lt_trans (Nat.lt_trans (Nat.lt_trans (Nat.lt_trans (Nat.lt_trans cc_q180 cc_q212) cc_q246) cc_q282) cc_q320) cc_q360)) | (omega))
  try clear k709
  have k745 : q_kd X718 h = 0 := x720.k0 k710 (by first | exact (Nat.ne_of_lt hq150) | (omega))
  try clear k710
  have n746 : q_ln X718 q8 = 4 := (x720.2.2.2.1 q8 (by rw [k699]; decide)).2.1.trans n711
  have n747 : q_ln X718 q28 = 4 := (x720.2.2.2.1 q28 (by rw [k700]; decide)).2.1.trans n712
  have n748 : q_ln X718 q50 = 240 := (x720.2.2.2.1 q50 (by rw [k701]; decide)).2.1.trans n713
  try clear k701
  have n749 : q_ln X718 q74 = 900 := (x720.2.2.2.1 q74 (by rw [k702]; decide)).2.1.trans n714
  try clear k702
  have n750 : q_ln X718 q122 = 4650 := (x720.2.2.2.1 q122 (by rw [k696]; decide)).2.1.trans n697
  have j751 : ∀ j, σ719.1 q8 j = (fun _ => 0 : Nat → Int32) j := fun j => (q_exi x720 (by rw [k699]; decide)).trans (j715 j)
  try clear k699
  have j752 : ∀ j, σ719.1 q28 j = (fun j => if j = (3 : Int32).toNatClampNeg then ((-1) : Int32) else (fun j => if j = (2 : Int32).toNatClampNeg then ((-1) : Int32) else (fun j => if j = (1 : Int32).toNatClampNeg then ((-1) : Int32) else (fun j => if j = (0 : Int32).toNatClampNeg then ((-1) : Int32) else (fun _ => 0 : Nat → Int32) j) j) j) j) j := fun j => (q_exi x720 (by rw [k700]; decide)).trans (j716 j)
  try clear k700
  have j753 : ∀ j, σ719.1 q122 j = (fun j => if j = (6 : Int32).toNatClampNeg then ((-1) : Int32) else (fun j => if j = (8 : Int32).toNatClampNeg then ((-1) : Int32) else (fun j => if j = (4 : Int32).toNatClampNeg then (4 : Int32) else (fun j => if j = (1 : Int32).toNatClampNeg then (1 : Int32) else (fun j => if j = (0 : Int32).toNatClampNeg then (2 : Int32) else (fun _ => 0 : Nat → Int32) j) j) j) j) j) j := fun j => (q_exi x720 (by rw [k696]; decide)).trans (j717 j)
  try clear x720; try clear k696
  have y758 := raw_lt r567
  try clear y758
  obtain ⟨X754, dX754⟩ : ∃ Y, Y = q_xg X718 q180 36 60 (fun _ => 0) := ⟨_, rfl⟩
  obtain ⟨σ755, dσ755⟩ : ∃ τ, τ = q_sg σ719 q180 (fun _ => 0 : Nat → Int32) (fun _ => 0) 0 := ⟨_, rfl⟩
  have x756 : q_ext (fun a => a = q180) X718 X754 σ719 σ755 := by rw [dX754, dσ755]; exact q_ext.add k739
  have y759 : y_root X754 q8 := by rw [dX754]; exact y723.add y_xg (fun f hf => absurd rfl hf)
  try clear y723
  have y760 : y_root X754 q28 := by rw [dX754]; exact y724.add y_xg (fun f hf => absurd rfl hf)
  try clear y724
  have y761 : y_root X754 q50 := by rw [dX754]; exact y725.add y_xg (fun f hf => absurd rfl hf)
  try clear y725
  have y762 : y_root X754 q74 := by rw [dX754]; exact y726.add y_xg (fun f hf => absurd rfl hf)
  try clear y726
  have y763 : y_root X754 q122 := by rw [dX754]; exact y727.add y_xg (fun f hf => absurd rfl hf)
  try clear y727
  have y764 : y_root X754 q150 := by rw [dX754]; exact y728.add y_xg (fun f hf => absurd rfl hf)
  try clear y728
  have y765 : y_root X754 q180 := by rw [dX754]; exact (y_root.out w721.1 k739).add y_xg (fun f hf => absurd rfl hf)
  have y766 : y_rt X X754 := by rw [dX754]; exact y729.add y_xg (fun f hf => absurd rfl hf)
  try clear y729
  have w757 : q_w X754 σ755 H554 := by
    rw [dX754, dσ755]
    exact w721.add k739 (fun f hf => absurd rfl hf) (fun _ => rfl) (by decide) (fun q => absurd q (by decide)) (fun f => q_inU rfl) (fun q => by rcases q with q | q <;> exact absurd q (by decide)) (q_cfA D730 (by decide) (t0 := 1) rfl r567 (fun j => rfl)) (fun f hf => absurd rfl hf) (fun f g hf _ _ => absurd rfl hf) (fun f hf => absurd rfl hf) (fun f hf => absurd (show (0 : Nat) = 5 from hf) (by decide)) (fun q => absurd q (by decide))
  try clear k739; try clear w721; try clear r567
  have D767 : X754.1 = D := x756.1.trans D730
  try clear D730
  have k768 : q_kd X754 q180 = 36 := by rw [dX754]; exact q_xg_h
  have n769 : q_ln X754 q180 = 60 := by rw [dX754]; exact if_pos rfl
  have x770 := x733.tr x756 (fun a e => Or.inr (by rw [e]; exact gg_q180))
  try clear x733
  have k771 := x756.kd k734 (by decide)
  have k772 := x756.kd k735 (by decide)
  have k773 := x756.kd k736 (by decide)
  have k774 := x756.kd k737 (by decide)
  have k775 := x756.kd k738 (by decide)
  have k776 := x756.kd k731 (by decide)
  have k777 : q_kd X754 q212 = 0 := x756.k0 k740 (by first | exact (Nat.ne_of_gt cc_q212) | (omega))
  try clear k740
  have k778 : q_kd X754 q246 = 0 := x756.k0 k741 (by first | exact (Nat.ne_of_gt (Nat.lt_trans cc_q212 cc_q246)) | (omega))
  try clear k741
  have k779 : q_kd X754 q282 = 0 := x756.k0 k742 (by first | exact (Nat.ne_of_gt (Nat.lt_trans (Nat.lt_trans cc_q212 cc_q246) cc_q282)) | (omega))
  try clear k742
  have k780 : q_kd X754 q320 = 0 := x756.k0 k743 (by first | exact (Nat.ne_of_gt (Nat.lt_trans (Nat.lt_trans (Nat.lt_trans cc_q212 cc_q246) cc_q282) cc_q320)) | (omega))
  try clear k743
  have k781 : q_kd X754 q360 = 0 := x756.k0 k744 (by first | exact (Nat.ne_of_gt (Nat.lt_trans (Nat.lt_trans (Nat.lt_trans (Nat.lt_trans cc_q212 cc_q246) cc_q282) cc_q320) cc_q360)) | (omega))
  try clear k744
  have k782 : q_kd X754 h = 0 := x756.k0 k745 (by first | exact (Nat.ne_of_lt hq180) | (omega))
  try clear k745
  have n783 : q_ln X754 q8 = 4 := (x756.2.2.2.1 q8 (by rw [k734]; decide)).2.1.trans n746
  have n784 : q_ln X754 q28 = 4 := (x756.2.2.2.1 q28 (by rw [k735]; decide)).2.1.trans n747
  have n785 : q_ln X754 q50 = 240 := (x756.2.2.2.1 q50 (by rw [k736]; decide)).2.1.trans n748
  try clear k736
  have n786 : q_ln X754 q74 = 900 := (x756.2.2.2.1 q74 (by rw [k737]; decide)).2.1.trans n749
  try clear k737
  have n787 : q_ln X754 q122 = 4650 := (x756.2.2.2.1 q122 (by rw [k738]; decide)).2.1.trans n750
  have n788 : q_ln X754 q150 = 654 := (x756.2.2.2.1 q150 (by rw [k731]; decide)).2.1.trans n732
  try clear k731
  have j789 : ∀ j, σ755.1 q8 j = (fun _ => 0 : Nat → Int32) j := fun j => (q_exi x756 (by rw [k734]; decide)).trans (j751 j)
  try clear k734
  have j790 : ∀ j, σ755.1 q28 j = (fun j => if j = (3 : Int32).toNatClampNeg then ((-1) : Int32) else (fun j => if j = (2 : Int32).toNatClampNeg then ((-1) : Int32) else (fun j => if j = (1 : Int32).toNatClampNeg then ((-1) : Int32) else (fun j => if j = (0 : Int32).toNatClampNeg then ((-1) : Int32) else (fun _ => 0 : Nat → Int32) j) j) j) j) j := fun j => (q_exi x756 (by rw [k735]; decide)).trans (j752 j)
  try clear k735
  have j791 : ∀ j, σ755.1 q122 j = (fun j => if j = (6 : Int32).toNatClampNeg then ((-1) : Int32) else (fun j => if j = (8 : Int32).toNatClampNeg then ((-1) : Int32) else (fun j => if j = (4 : Int32).toNatClampNeg then (4 : Int32) else (fun j => if j = (1 : Int32).toNatClampNeg then (1 : Int32) else (fun j => if j = (0 : Int32).toNatClampNeg then (2 : Int32) else (fun _ => 0 : Nat → Int32) j) j) j) j) j) j := fun j => (q_exi x756 (by rw [k738]; decide)).trans (j753 j)
  try clear x756; try clear k738
  have y796 := raw_lt r568
  try clear y796
  obtain ⟨X792, dX792⟩ : ∃ Y, Y = q_xg X754 q212 37 30 (fun _ => 0) := ⟨_, rfl⟩
  obtain ⟨σ793, dσ793⟩ : ∃ τ, τ = q_sg σ755 q212 (fun _ => 0) (fun _ => 0) 0 := ⟨_, rfl⟩
  have x794 : q_ext (fun a => a = q212) X754 X792 σ755 σ793 := by rw [dX792, dσ793]; exact q_ext.add k777
  have y797 : y_root X792 q8 := by rw [dX792]; exact y759.add y_xg (fun f hf => absurd rfl hf)
  try clear y759
  have y798 : y_root X792 q28 := by rw [dX792]; exact y760.add y_xg (fun f hf => absurd rfl hf)
  try clear y760
  have y799 : y_root X792 q50 := by rw [dX792]; exact y761.add y_xg (fun f hf => absurd rfl hf)
  try clear y761
  have y800 : y_root X792 q74 := by rw [dX792]; exact y762.add y_xg (fun f hf => absurd rfl hf)
  try clear y762
  have y801 : y_root X792 q122 := by rw [dX792]; exact y763.add y_xg (fun f hf => absurd rfl hf)
  try clear y763
  have y802 : y_root X792 q150 := by rw [dX792]; exact y764.add y_xg (fun f hf => absurd rfl hf)
  try clear y764
  have y803 : y_root X792 q180 := by rw [dX792]; exact y765.add y_xg (fun f hf => absurd rfl hf)
  try clear y765
  have y804 : y_root X792 q212 := by rw [dX792]; exact (y_root.out w757.1 k777).add y_xg (fun f hf => absurd rfl hf)
  have y805 : y_rt X X792 := by rw [dX792]; exact y766.add y_xg (fun f hf => absurd rfl hf)
  try clear y766
  have w795 : q_w X792 σ793 H554 := by
    rw [dX792, dσ793]
    exact w757.add k777 (fun f hf => absurd rfl hf) (fun _ => rfl) (by decide) (fun q => absurd q (by decide)) (fun f => q_inU rfl) (fun q => by rcases q with q | q <;> exact absurd q (by decide)) (q_cfA D767 (by decide) (t0 := 2) rfl r568 (fun j => rfl)) (fun f hf => absurd rfl hf) (fun f g hf _ _ => absurd rfl hf) (fun f hf => absurd rfl hf) (fun f hf => absurd (show (0 : Nat) = 5 from hf) (by decide)) (fun q => absurd q (by decide))
  try clear k777; try clear w757; try clear r568
  have D806 : X792.1 = D := x794.1.trans D767
  try clear D767
  have k807 : q_kd X792 q212 = 37 := by rw [dX792]; exact q_xg_h
  have n808 : q_ln X792 q212 = 30 := by rw [dX792]; exact if_pos rfl
  have x809 := x770.tr x794 (fun a e => Or.inr (by rw [e]; exact gg_q212))
  try clear x770
  have k810 := x794.kd k771 (by decide)
  have k811 := x794.kd k772 (by decide)
  have k812 := x794.kd k773 (by decide)
  have k813 := x794.kd k774 (by decide)
  have k814 := x794.kd k775 (by decide)
  have k815 := x794.kd k776 (by decide)
  have k816 := x794.kd k768 (by decide)
  have k817 : q_kd X792 q246 = 0 := x794.k0 k778 (by first | exact (Nat.ne_of_gt cc_q246) | (omega))
  try clear k778
  have k818 : q_kd X792 q282 = 0 := x794.k0 k779 (by first | exact (Nat.ne_of_gt (Nat.lt_trans cc_q246 cc_q282)) | (omega))
  try clear k779
  have k819 : q_kd X792 q320 = 0 := x794.k0 k780 (by first | exact (Nat.ne_of_gt (Nat.lt_trans (Nat.lt_trans cc_q246 cc_q282) cc_q320)) | (omega))
  try clear k780
  have k820 : q_kd X792 q360 = 0 := x794.k0 k781 (by first | exact (Nat.ne_of_gt (Nat.lt_trans (Nat.lt_trans (Nat.lt_trans cc_q246 cc_q282) cc_q320) cc_q360)) | (omega))
  try clear k781
  have k821 : q_kd X792 h = 0 := x794.k0 k782 (by first | exact (Nat.ne_of_lt hq212) | (omega))
  try clear k782
  have n822 : q_ln X792 q8 = 4 := (x794.2.2.2.1 q8 (by rw [k771]; decide)).2.1.trans n783
  have n823 : q_ln X792 q28 = 4 := (x794.2.2.2.1 q28 (by rw [k772]; decide)).2.1.trans n784
  have n824 : q_ln X792 q50 = 240 := (x794.2.2.2.1 q50 (by rw [k773]; decide)).2.1.trans n785
  try clear k773
  have n825 : q_ln X792 q74 = 900 := (x794.2.2.2.1 q74 (by rw [k774]; decide)).2.1.trans n786
  try clear k774
  have n826 : q_ln X792 q122 = 4650 := (x794.2.2.2.1 q122 (by rw [k775]; decide)).2.1.trans n787
  have n827 : q_ln X792 q150 = 654 := (x794.2.2.2.1 q150 (by rw [k776]; decide)).2.1.trans n788
  try clear k776
  have n828 : q_ln X792 q180 = 60 := (x794.2.2.2.1 q180 (by rw [k768]; decide)).2.1.trans n769
  try clear k768
  have j829 : ∀ j, σ793.1 q8 j = (fun _ => 0 : Nat → Int32) j := fun j => (q_exi x794 (by rw [k771]; decide)).trans (j789 j)
  try clear k771
  have j830 : ∀ j, σ793.1 q28 j = (fun j => if j = (3 : Int32).toNatClampNeg then ((-1) : Int32) else (fun j => if j = (2 : Int32).toNatClampNeg then ((-1) : Int32) else (fun j => if j = (1 : Int32).toNatClampNeg then ((-1) : Int32) else (fun j => if j = (0 : Int32).toNatClampNeg then ((-1) : Int32) else (fun _ => 0 : Nat → Int32) j) j) j) j) j := fun j => (q_exi x794 (by rw [k772]; decide)).trans (j790 j)
  try clear k772
  have j831 : ∀ j, σ793.1 q122 j = (fun j => if j = (6 : Int32).toNatClampNeg then ((-1) : Int32) else (fun j => if j = (8 : Int32).toNatClampNeg then ((-1) : Int32) else (fun j => if j = (4 : Int32).toNatClampNeg then (4 : Int32) else (fun j => if j = (1 : Int32).toNatClampNeg then (1 : Int32) else (fun j => if j = (0 : Int32).toNatClampNeg then (2 : Int32) else (fun _ => 0 : Nat → Int32) j) j) j) j) j) j := fun j => (q_exi x794 (by rw [k775]; decide)).trans (j791 j)
  try clear x794; try clear k775
  have y836 := raw_lt r569
  try clear y836
  obtain ⟨X832, dX832⟩ : ∃ Y, Y = q_xg X792 q246 39 10 (fun _ => 0) := ⟨_, rfl⟩
  obtain ⟨σ833, dσ833⟩ : ∃ τ, τ = q_sg σ793 q246 (fun _ => 0 : Nat → Int32) (fun _ => 0) 0 := ⟨_, rfl⟩
  have x834 : q_ext (fun a => a = q246) X792 X832 σ793 σ833 := by rw [dX832, dσ833]; exact q_ext.add k817
  have y837 : y_root X832 q8 := by rw [dX832]; exact y797.add y_xg (fun f hf => absurd rfl hf)
  try clear y797
  have y838 : y_root X832 q28 := by rw [dX832]; exact y798.add y_xg (fun f hf => absurd rfl hf)
  try clear y798
  have y839 : y_root X832 q50 := by rw [dX832]; exact y799.add y_xg (fun f hf => absurd rfl hf)
  try clear y799
  have y840 : y_root X832 q74 := by rw [dX832]; exact y800.add y_xg (fun f hf => absurd rfl hf)
  try clear y800
  have y841 : y_root X832 q122 := by rw [dX832]; exact y801.add y_xg (fun f hf => absurd rfl hf)
  try clear y801
  have y842 : y_root X832 q150 := by rw [dX832]; exact y802.add y_xg (fun f hf => absurd rfl hf)
  try clear y802
  have y843 : y_root X832 q180 := by rw [dX832]; exact y803.add y_xg (fun f hf => absurd rfl hf)
  try clear y803
  have y844 : y_root X832 q212 := by rw [dX832]; exact y804.add y_xg (fun f hf => absurd rfl hf)
  try clear y804
  have y845 : y_root X832 q246 := by rw [dX832]; exact (y_root.out w795.1 k817).add y_xg (fun f hf => absurd rfl hf)
  have y846 : y_rt X X832 := by rw [dX832]; exact y805.add y_xg (fun f hf => absurd rfl hf)
  try clear y805
  have w835 : q_w X832 σ833 H554 := by
    rw [dX832, dσ833]
    exact w795.add k817 (fun f hf => absurd rfl hf) (fun _ => rfl) (by decide) (fun q => absurd q (by decide)) (fun f => q_inU rfl) (fun q => by rcases q with q | q <;> exact absurd q (by decide)) (q_cfA D806 (by decide) (t0 := 1) rfl r569 (fun j => rfl)) (fun f hf => absurd rfl hf) (fun f g hf _ _ => absurd rfl hf) (fun f hf => absurd rfl hf) (fun f hf => absurd (show (0 : Nat) = 5 from hf) (by decide)) (fun q => absurd q (by decide))
  try clear k817; try clear w795; try clear r569
  have D847 : X832.1 = D := x834.1.trans D806
  try clear D806
  have k848 : q_kd X832 q246 = 39 := by rw [dX832]; exact q_xg_h
  have n849 : q_ln X832 q246 = 10 := by rw [dX832]; exact if_pos rfl
  have x850 := x809.tr x834 (fun a e => Or.inr (by rw [e]; exact gg_q246))
  try clear x809
  have k851 := x834.kd k810 (by decide)
  have k852 := x834.kd k811 (by decide)
  have k853 := x834.kd k812 (by decide)
  have k854 := x834.kd k813 (by decide)
  have k855 := x834.kd k814 (by decide)
  have k856 := x834.kd k815 (by decide)
  have k857 := x834.kd k816 (by decide)
  have k858 := x834.kd k807 (by decide)
  have k859 : q_kd X832 q282 = 0 := x834.k0 k818 (by first | exact (Nat.ne_of_gt cc_q282) | (omega))
  try clear k818
  have k860 : q_kd X832 q320 = 0 := x834.k0 k819 (by first | exact (Nat.ne_of_gt (Nat.lt_trans cc_q282 cc_q320)) | (omega))
  try clear k819
  have k861 : q_kd X832 q360 = 0 := x834.k0 k820 (by first | exact (Nat.ne_of_gt (Nat.lt_trans (Nat.lt_trans cc_q282 cc_q320) cc_q360)) | (omega))
  try clear k820
  have k862 : q_kd X832 h = 0 := x834.k0 k821 (by first | exact (Nat.ne_of_lt hq246) | (omega))
  try clear k821
  have n863 : q_ln X832 q8 = 4 := (x834.2.2.2.1 q8 (by rw [k810]; decide)).2.1.trans n822
  have n864 : q_ln X832 q28 = 4 := (x834.2.2.2.1 q28 (by rw [k811]; decide)).2.1.trans n823
  have n865 : q_ln X832 q50 = 240 := (x834.2.2.2.1 q50 (by rw [k812]; decide)).2.1.trans n824
  try clear k812
  have n866 : q_ln X832 q74 = 900 := (x834.2.2.2.1 q74 (by rw [k813]; decide)).2.1.trans n825
  try clear k813
  have n867 : q_ln X832 q122 = 4650 := (x834.2.2.2.1 q122 (by rw [k814]; decide)).2.1.trans n826
  have n868 : q_ln X832 q150 = 654 := (x834.2.2.2.1 q150 (by rw [k815]; decide)).2.1.trans n827
  try clear k815
  have n869 : q_ln X832 q180 = 60 := (x834.2.2.2.1 q180 (by rw [k816]; decide)).2.1.trans n828
  try clear k816
  have n870 : q_ln X832 q212 = 30 := (x834.2.2.2.1 q212 (by rw [k807]; decide)).2.1.trans n808
  try clear k807
  have j871 : ∀ j, σ833.1 q8 j = (fun _ => 0 : Nat → Int32) j := fun j => (q_exi x834 (by rw [k810]; decide)).trans (j829 j)
  try clear k810
  have j872 : ∀ j, σ833.1 q28 j = (fun j => if j = (3 : Int32).toNatClampNeg then ((-1) : Int32) else (fun j => if j = (2 : Int32).toNatClampNeg then ((-1) : Int32) else (fun j => if j = (1 : Int32).toNatClampNeg then ((-1) : Int32) else (fun j => if j = (0 : Int32).toNatClampNeg then ((-1) : Int32) else (fun _ => 0 : Nat → Int32) j) j) j) j) j := fun j => (q_exi x834 (by rw [k811]; decide)).trans (j830 j)
  try clear k811
  have j873 : ∀ j, σ833.1 q122 j = (fun j => if j = (6 : Int32).toNatClampNeg then ((-1) : Int32) else (fun j => if j = (8 : Int32).toNatClampNeg then ((-1) : Int32) else (fun j => if j = (4 : Int32).toNatClampNeg then (4 : Int32) else (fun j => if j = (1 : Int32).toNatClampNeg then (1 : Int32) else (fun j => if j = (0 : Int32).toNatClampNeg then (2 : Int32) else (fun _ => 0 : Nat → Int32) j) j) j) j) j) j := fun j => (q_exi x834 (by rw [k814]; decide)).trans (j831 j)
  try clear x834; try clear k814
  have y878 := raw_lt r570
  try clear y878
  obtain ⟨X874, dX874⟩ : ∃ Y, Y = q_xg X832 q282 40 4 (fun _ => 0) := ⟨_, rfl⟩
  obtain ⟨σ875, dσ875⟩ : ∃ τ, τ = q_sg σ833 q282 (fun _ => 0 : Nat → Int32) (fun _ => 0) 0 := ⟨_, rfl⟩
  have x876 : q_ext (fun a => a = q282) X832 X874 σ833 σ875 := by rw [dX874, dσ875]; exact q_ext.add k859
  have y879 : y_root X874 q8 := by rw [dX874]; exact y837.add y_xg (fun f hf => absurd rfl hf)
  try clear y837
  have y880 : y_root X874 q28 := by rw [dX874]; exact y838.add y_xg (fun f hf => absurd rfl hf)
  try clear y838
  have y881 : y_root X874 q50 := by rw [dX874]; exact y839.add y_xg (fun f hf => absurd rfl hf)
  try clear y839
  have y882 : y_root X874 q74 := by rw [dX874]; exact y840.add y_xg (fun f hf => absurd rfl hf)
  try clear y840
  have y883 : y_root X874 q122 := by rw [dX874]; exact y841.add y_xg (fun f hf => absurd rfl hf)
  try clear y841
  have y884 : y_root X874 q150 := by rw [dX874]; exact y842.add y_xg (fun f hf => absurd rfl hf)
  try clear y842
  have y885 : y_root X874 q180 := by rw [dX874]; exact y843.add y_xg (fun f hf => absurd rfl hf)
  try clear y843
  have y886 : y_root X874 q212 := by rw [dX874]; exact y844.add y_xg (fun f hf => absurd rfl hf)
  try clear y844
  have y887 : y_root X874 q246 := by rw [dX874]; exact y845.add y_xg (fun f hf => absurd rfl hf)
  try clear y845
  have y888 : y_root X874 q282 := by rw [dX874]; exact (y_root.out w835.1 k859).add y_xg (fun f hf => absurd rfl hf)
  have y889 : y_rt X X874 := by rw [dX874]; exact y846.add y_xg (fun f hf => absurd rfl hf)
  try clear y846
  have w877 : q_w X874 σ875 H554 := by
    rw [dX874, dσ875]
    exact w835.add k859 (fun f hf => absurd rfl hf) (fun _ => rfl) (by decide) (fun q => absurd q (by decide)) (fun f => q_inU rfl) (fun q => by rcases q with q | q <;> exact absurd q (by decide)) (q_cfA D847 (by decide) (t0 := 1) rfl r570 (fun j => rfl)) (fun f hf => absurd rfl hf) (fun f g hf _ _ => absurd rfl hf) (fun f hf => absurd rfl hf) (fun f hf => absurd (show (0 : Nat) = 5 from hf) (by decide)) (fun q => absurd q (by decide))
  try clear k859; try clear w835; try clear r570
  have D890 : X874.1 = D := x876.1.trans D847
  try clear D847
  have k891 : q_kd X874 q282 = 40 := by rw [dX874]; exact q_xg_h
  have n892 : q_ln X874 q282 = 4 := by rw [dX874]; exact if_pos rfl
  have x893 := x850.tr x876 (fun a e => Or.inr (by rw [e]; exact gg_q282))
  try clear x850
  have k894 := x876.kd k851 (by decide)
  have k895 := x876.kd k852 (by decide)
  have k896 := x876.kd k853 (by decide)
  have k897 := x876.kd k854 (by decide)
  have k898 := x876.kd k855 (by decide)
  have k899 := x876.kd k856 (by decide)
  have k900 := x876.kd k857 (by decide)
  have k901 := x876.kd k858 (by decide)
  have k902 := x876.kd k848 (by decide)
  have k903 : q_kd X874 q320 = 0 := x876.k0 k860 (by first | exact (Nat.ne_of_gt cc_q320) | (omega))
  try clear k860
  have k904 : q_kd X874 q360 = 0 := x876.k0 k861 (by first | exact (Nat.ne_of_gt (Nat.lt_trans cc_q320 cc_q360)) | (omega))
  try clear k861
  have k905 : q_kd X874 h = 0 := x876.k0 k862 (by first | exact (Nat.ne_of_lt hq282) | (omega))
  try clear k862
  have n906 : q_ln X874 q8 = 4 := (x876.2.2.2.1 q8 (by rw [k851]; decide)).2.1.trans n863
  have n907 : q_ln X874 q28 = 4 := (x876.2.2.2.1 q28 (by rw [k852]; decide)).2.1.trans n864
  have n908 : q_ln X874 q50 = 240 := (x876.2.2.2.1 q50 (by rw [k853]; decide)).2.1.trans n865
  try clear k853
  have n909 : q_ln X874 q74 = 900 := (x876.2.2.2.1 q74 (by rw [k854]; decide)).2.1.trans n866
  try clear k854
  have n910 : q_ln X874 q122 = 4650 := (x876.2.2.2.1 q122 (by rw [k855]; decide)).2.1.trans n867
  have n911 : q_ln X874 q150 = 654 := (x876.2.2.2.1 q150 (by rw [k856]; decide)).2.1.trans n868
  try clear k856
  have n912 : q_ln X874 q180 = 60 := (x876.2.2.2.1 q180 (by rw [k857]; decide)).2.1.trans n869
  try clear k857
  have n913 : q_ln X874 q212 = 30 := (x876.2.2.2.1 q212 (by rw [k858]; decide)).2.1.trans n870
  try clear k858
  have n914 : q_ln X874 q246 = 10 := (x876.2.2.2.1 q246 (by rw [k848]; decide)).2.1.trans n849
  try clear k848
  have j915 : ∀ j, σ875.1 q8 j = (fun _ => 0 : Nat → Int32) j := fun j => (q_exi x876 (by rw [k851]; decide)).trans (j871 j)
  try clear k851
  have j916 : ∀ j, σ875.1 q28 j = (fun j => if j = (3 : Int32).toNatClampNeg then ((-1) : Int32) else (fun j => if j = (2 : Int32).toNatClampNeg then ((-1) : Int32) else (fun j => if j = (1 : Int32).toNatClampNeg then ((-1) : Int32) else (fun j => if j = (0 : Int32).toNatClampNeg then ((-1) : Int32) else (fun _ => 0 : Nat → Int32) j) j) j) j) j := fun j => (q_exi x876 (by rw [k852]; decide)).trans (j872 j)
  try clear k852
  have j917 : ∀ j, σ875.1 q122 j = (fun j => if j = (6 : Int32).toNatClampNeg then ((-1) : Int32) else (fun j => if j = (8 : Int32).toNatClampNeg then ((-1) : Int32) else (fun j => if j = (4 : Int32).toNatClampNeg then (4 : Int32) else (fun j => if j = (1 : Int32).toNatClampNeg then (1 : Int32) else (fun j => if j = (0 : Int32).toNatClampNeg then (2 : Int32) else (fun _ => 0 : Nat → Int32) j) j) j) j) j) j := fun j => (q_exi x876 (by rw [k855]; decide)).trans (j873 j)
  try clear x876; try clear k855
  have y922 := raw_lt r571
  try clear y922
  obtain ⟨X918, dX918⟩ : ∃ Y, Y = q_xg X874 q320 38 10 (fun _ => 0) := ⟨_, rfl⟩
  obtain ⟨σ919, dσ919⟩ : ∃ τ, τ = q_sg σ875 q320 (fun _ => 0 : Nat → Int32) (fun _ => 0) 0 := ⟨_, rfl⟩
  have x920 : q_ext (fun a => a = q320) X874 X918 σ875 σ919 := by rw [dX918, dσ919]; exact q_ext.add k903
  have y923 : y_root X918 q8 := by rw [dX918]; exact y879.add y_xg (fun f hf => absurd rfl hf)
  try clear y879
  have y924 : y_root X918 q28 := by rw [dX918]; exact y880.add y_xg (fun f hf => absurd rfl hf)
  try clear y880
  have y925 : y_root X918 q50 := by rw [dX918]; exact y881.add y_xg (fun f hf => absurd rfl hf)
  try clear y881
  have y926 : y_root X918 q74 := by rw [dX918]; exact y882.add y_xg (fun f hf => absurd rfl hf)
  try clear y882
  have y927 : y_root X918 q122 := by rw [dX918]; exact y883.add y_xg (fun f hf => absurd rfl hf)
  try clear y883
  have y928 : y_root X918 q150 := by rw [dX918]; exact y884.add y_xg (fun f hf => absurd rfl hf)
  try clear y884
  have y929 : y_root X918 q180 := by rw [dX918]; exact y885.add y_xg (fun f hf => absurd rfl hf)
  try clear y885
  have y930 : y_root X918 q212 := by rw [dX918]; exact y886.add y_xg (fun f hf => absurd rfl hf)
  try clear y886
  have y931 : y_root X918 q246 := by rw [dX918]; exact y887.add y_xg (fun f hf => absurd rfl hf)
  try clear y887
  have y932 : y_root X918 q282 := by rw [dX918]; exact y888.add y_xg (fun f hf => absurd rfl hf)
  try clear y888
  have y933 : y_root X918 q320 := by rw [dX918]; exact (y_root.out w877.1 k903).add y_xg (fun f hf => absurd rfl hf)
  have y934 : y_rt X X918 := by rw [dX918]; exact y889.add y_xg (fun f hf => absurd rfl hf)
  try clear y889
  have w921 : q_w X918 σ919 H554 := by
    rw [dX918, dσ919]
    exact w877.add k903 (fun f hf => absurd rfl hf) (fun _ => rfl) (by decide) (fun q => absurd q (by decide)) (fun f => q_inU rfl) (fun q => by rcases q with q | q <;> exact absurd q (by decide)) (q_cfA D890 (by decide) (t0 := 1) rfl r571 (fun j => rfl)) (fun f hf => absurd rfl hf) (fun f g hf _ _ => absurd rfl hf) (fun f hf => absurd rfl hf) (fun f hf => absurd (show (0 : Nat) = 5 from hf) (by decide)) (fun q => absurd q (by decide))
  try clear k903; try clear w877; try clear r571
  have D935 : X918.1 = D := x920.1.trans D890
  try clear D890
  have k936 : q_kd X918 q320 = 38 := by rw [dX918]; exact q_xg_h
  have n937 : q_ln X918 q320 = 10 := by rw [dX918]; exact if_pos rfl
  have x938 := x893.tr x920 (fun a e => Or.inr (by rw [e]; exact gg_q320))
  try clear x893
  have k939 := x920.kd k894 (by decide)
  have k940 := x920.kd k895 (by decide)
  have k941 := x920.kd k896 (by decide)
  have k942 := x920.kd k897 (by decide)
  have k943 := x920.kd k898 (by decide)
  have k944 := x920.kd k899 (by decide)
  have k945 := x920.kd k900 (by decide)
  have k946 := x920.kd k901 (by decide)
  have k947 := x920.kd k902 (by decide)
  have k948 := x920.kd k891 (by decide)
  have k949 : q_kd X918 q360 = 0 := x920.k0 k904 (by first | exact (Nat.ne_of_gt cc_q360) | (omega))
  try clear k904
  have k950 : q_kd X918 h = 0 := x920.k0 k905 (by first | exact (Nat.ne_of_lt hq320) | (omega))
  try clear k905
  have n951 : q_ln X918 q8 = 4 := (x920.2.2.2.1 q8 (by rw [k894]; decide)).2.1.trans n906
  have n952 : q_ln X918 q28 = 4 := (x920.2.2.2.1 q28 (by rw [k895]; decide)).2.1.trans n907
  have n953 : q_ln X918 q50 = 240 := (x920.2.2.2.1 q50 (by rw [k896]; decide)).2.1.trans n908
  try clear k896
  have n954 : q_ln X918 q74 = 900 := (x920.2.2.2.1 q74 (by rw [k897]; decide)).2.1.trans n909
  try clear k897
  have n955 : q_ln X918 q122 = 4650 := (x920.2.2.2.1 q122 (by rw [k898]; decide)).2.1.trans n910
  have n956 : q_ln X918 q150 = 654 := (x920.2.2.2.1 q150 (by rw [k899]; decide)).2.1.trans n911
  try clear k899
  have n957 : q_ln X918 q180 = 60 := (x920.2.2.2.1 q180 (by rw [k900]; decide)).2.1.trans n912
  try clear k900
  have n958 : q_ln X918 q212 = 30 := (x920.2.2.2.1 q212 (by rw [k901]; decide)).2.1.trans n913
  try clear k901
  have n959 : q_ln X918 q246 = 10 := (x920.2.2.2.1 q246 (by rw [k902]; decide)).2.1.trans n914
  try clear k902
  have n960 : q_ln X918 q282 = 4 := (x920.2.2.2.1 q282 (by rw [k891]; decide)).2.1.trans n892
  try clear k891
  have j961 : ∀ j, σ919.1 q8 j = (fun _ => 0 : Nat → Int32) j := fun j => (q_exi x920 (by rw [k894]; decide)).trans (j915 j)
  try clear k894
  have j962 : ∀ j, σ919.1 q28 j = (fun j => if j = (3 : Int32).toNatClampNeg then ((-1) : Int32) else (fun j => if j = (2 : Int32).toNatClampNeg then ((-1) : Int32) else (fun j => if j = (1 : Int32).toNatClampNeg then ((-1) : Int32) else (fun j => if j = (0 : Int32).toNatClampNeg then ((-1) : Int32) else (fun _ => 0 : Nat → Int32) j) j) j) j) j := fun j => (q_exi x920 (by rw [k895]; decide)).trans (j916 j)
  try clear k895
  have j963 : ∀ j, σ919.1 q122 j = (fun j => if j = (6 : Int32).toNatClampNeg then ((-1) : Int32) else (fun j => if j = (8 : Int32).toNatClampNeg then ((-1) : Int32) else (fun j => if j = (4 : Int32).toNatClampNeg then (4 : Int32) else (fun j => if j = (1 : Int32).toNatClampNeg then (1 : Int32) else (fun j => if j = (0 : Int32).toNatClampNeg then (2 : Int32) else (fun _ => 0 : Nat → Int32) j) j) j) j) j) j := fun j => (q_exi x920 (by rw [k898]; decide)).trans (j917 j)
  try clear x920; try clear k898
  have y968 := raw_lt r572
  try clear y968
  obtain ⟨X964, dX964⟩ : ∃ Y, Y = q_xg X918 q360 41 5 (fun _ => 0) := ⟨_, rfl⟩
  obtain ⟨σ965, dσ965⟩ : ∃ τ, τ = q_sg σ919 q360 (fun _ => 0 : Nat → Int32) (fun _ => 0) 0 := ⟨_, rfl⟩
  have x966 : q_ext (fun a => a = q360) X918 X964 σ919 σ965 := by rw [dX964, dσ965]; exact q_ext.add k949
  have y969 : y_root X964 q8 := by rw [dX964]; exact y923.add y_xg (fun f hf => absurd rfl hf)
  try clear y923
  have y970 : y_root X964 q28 := by rw [dX964]; exact y924.add y_xg (fun f hf => absurd rfl hf)
  try clear y924
  have y971 : y_root X964 q50 := by rw [dX964]; exact y925.add y_xg (fun f hf => absurd rfl hf)
  try clear y925
  have y972 : y_root X964 q74 := by rw [dX964]; exact y926.add y_xg (fun f hf => absurd rfl hf)
  try clear y926
  have y973 : y_root X964 q122 := by rw [dX964]; exact y927.add y_xg (fun f hf => absurd rfl hf)
  try clear y927
  have y974 : y_root X964 q150 := by rw [dX964]; exact y928.add y_xg (fun f hf => absurd rfl hf)
  try clear y928
  have y975 : y_root X964 q180 := by rw [dX964]; exact y929.add y_xg (fun f hf => absurd rfl hf)
  try clear y929
  have y976 : y_root X964 q212 := by rw [dX964]; exact y930.add y_xg (fun f hf => absurd rfl hf)
  try clear y930
  have y977 : y_root X964 q246 := by rw [dX964]; exact y931.add y_xg (fun f hf => absurd rfl hf)
  try clear y931
  have y978 : y_root X964 q282 := by rw [dX964]; exact y932.add y_xg (fun f hf => absurd rfl hf)
  try clear y932
  have y979 : y_root X964 q320 := by rw [dX964]; exact y933.add y_xg (fun f hf => absurd rfl hf)
  try clear y933
  have y980 : y_root X964 q360 := by rw [dX964]; exact (y_root.out w921.1 k949).add y_xg (fun f hf => absurd rfl hf)
  have y981 : y_rt X X964 := by rw [dX964]; exact y934.add y_xg (fun f hf => absurd rfl hf)
  try clear y934
  have w967 : q_w X964 σ965 H554 := by
    rw [dX964, dσ965]
    exact w921.add k949 (fun f hf => absurd rfl hf) (fun _ => rfl) (by decide) (fun q => absurd q (by decide)) (fun f => q_inU rfl) (fun q => by rcases q with q | q <;> exact absurd q (by decide)) (q_cfA D935 (by decide) (t0 := 1) rfl r572 (fun j => rfl)) (fun f hf => absurd rfl hf) (fun f g hf _ _ => absurd rfl hf) (fun f hf => absurd rfl hf) (fun f hf => absurd (show (0 : Nat) = 5 from hf) (by decide)) (fun q => absurd q (by decide))
  try clear k949; try clear w921; try clear r572; try clear t0
  have D982 : X964.1 = D := x966.1.trans D935
  try clear D935
  have k983 : q_kd X964 q360 = 41 := by rw [dX964]; exact q_xg_h
  have n984 : q_ln X964 q360 = 5 := by rw [dX964]; exact if_pos rfl
  have x985 := x938.tr x966 (fun a e => Or.inr (by rw [e]; exact gg_q360))
  try clear x938
  have k986 := x966.kd k939 (by decide)
  have k987 := x966.kd k940 (by decide)
  have k988 := x966.kd k941 (by decide)
  have k989 := x966.kd k942 (by decide)
  have k990 := x966.kd k943 (by decide)
  have k991 := x966.kd k944 (by decide)
  have k992 := x966.kd k945 (by decide)
  have k993 := x966.kd k946 (by decide)
  have k994 := x966.kd k947 (by decide)
  have k995 := x966.kd k948 (by decide)
  have k996 := x966.kd k936 (by decide)
  have k997 : q_kd X964 h = 0 := x966.k0 k950 (by first | exact (Nat.ne_of_lt hq360) | (omega))
  try clear k950
  have n998 : q_ln X964 q8 = 4 := (x966.2.2.2.1 q8 (by rw [k939]; decide)).2.1.trans n951
  have n999 : q_ln X964 q28 = 4 := (x966.2.2.2.1 q28 (by rw [k940]; decide)).2.1.trans n952
  have n1000 : q_ln X964 q50 = 240 := (x966.2.2.2.1 q50 (by rw [k941]; decide)).2.1.trans n953
  try clear k941
  have n1001 : q_ln X964 q74 = 900 := (x966.2.2.2.1 q74 (by rw [k942]; decide)).2.1.trans n954
  try clear k942
  have n1002 : q_ln X964 q122 = 4650 := (x966.2.2.2.1 q122 (by rw [k943]; decide)).2.1.trans n955
  have n1003 : q_ln X964 q150 = 654 := (x966.2.2.2.1 q150 (by rw [k944]; decide)).2.1.trans n956
  try clear k944
  have n1004 : q_ln X964 q180 = 60 := (x966.2.2.2.1 q180 (by rw [k945]; decide)).2.1.trans n957
  try clear k945
  have n1005 : q_ln X964 q212 = 30 := (x966.2.2.2.1 q212 (by rw [k946]; decide)).2.1.trans n958
  try clear k946
  have n1006 : q_ln X964 q246 = 10 := (x966.2.2.2.1 q246 (by rw [k947]; decide)).2.1.trans n959
  try clear k947
  have n1007 : q_ln X964 q282 = 4 := (x966.2.2.2.1 q282 (by rw [k948]; decide)).2.1.trans n960
  try clear k948
  have n1008 : q_ln X964 q320 = 10 := (x966.2.2.2.1 q320 (by rw [k936]; decide)).2.1.trans n937
  try clear k936
  have j1009 : ∀ j, σ965.1 q8 j = (fun _ => 0 : Nat → Int32) j := fun j => (q_exi x966 (by rw [k939]; decide)).trans (j961 j)
  try clear k939
  have j1010 : ∀ j, σ965.1 q28 j = (fun j => if j = (3 : Int32).toNatClampNeg then ((-1) : Int32) else (fun j => if j = (2 : Int32).toNatClampNeg then ((-1) : Int32) else (fun j => if j = (1 : Int32).toNatClampNeg then ((-1) : Int32) else (fun j => if j = (0 : Int32).toNatClampNeg then ((-1) : Int32) else (fun _ => 0 : Nat → Int32) j) j) j) j) j := fun j => (q_exi x966 (by rw [k940]; decide)).trans (j962 j)
  try clear k940
  have j1011 : ∀ j, σ965.1 q122 j = (fun j => if j = (6 : Int32).toNatClampNeg then ((-1) : Int32) else (fun j => if j = (8 : Int32).toNatClampNeg then ((-1) : Int32) else (fun j => if j = (4 : Int32).toNatClampNeg then (4 : Int32) else (fun j => if j = (1 : Int32).toNatClampNeg then (1 : Int32) else (fun j => if j = (0 : Int32).toNatClampNeg then (2 : Int32) else (fun _ => 0 : Nat → Int32) j) j) j) j) j) j := fun j => (q_exi x966 (by rw [k943]; decide)).trans (j963 j)
  try clear x966; try clear k943
  obtain ⟨X1012, dX1012⟩ : ∃ Y, Y = q_xg X964 h 12 0 (fun f => ([0, 0, 0, 0, q8, q28, q50, q74, 0, 0, 0, 0, 0, 0, 0, 0, 0, 0, 0, 0, q122, q150, q180, q212, 0, 0, 0, 0, q246, q282, 0, 0, q320, 0, 0, 0, q360, 0, 0, 0, 0, 0, 0, 0, 0, 0] : List Nat).getD f 0) := ⟨_, rfl⟩
  obtain ⟨σ1013, dσ1013⟩ : ∃ τ, τ = q_sg σ965 h (fun f => ([0, 0, 0, 0, 0, 0, 0, 0, 0, 0, (-1), (-1), 0, 0, 0, 0, 0, 0, 0, 0, 0, 0, 0, 0, 0, 0, 0, 0, 0, 0, 0, 0, 0, 0, 0, 0, 0, 0, 0, 0, 0, 0, 0, 0, 0, 0] : List Int32).getD f 0) (fun f => ([0, 0, 0, 1, 0, 0, 0, 0, 0, 0, 0, 0, 0, 0, 0, 0, 0, 0, 0, 0, 0, 0, 0, 0, 0, 0, 0, 0, 0, 0, 0, 0, 0, 0, 0, 0, 0, 0, 0, 0, 0, 0, 0, 0, 0, 0] : List Int64).getD f 0) 0 := ⟨_, rfl⟩
  have x1014 : q_ext (fun a => a = h) X964 X1012 σ965 σ1013 := by rw [dX1012, dσ1013]; exact q_ext.add k997
  have hrk : ∀ f, f < 40 → q_rk 12 f ≠ 0 → q_kd X964 (([0, 0, 0, 0, q8, q28, q50, q74, 0, 0, 0, 0, 0, 0, 0, 0, 0, 0, 0, 0, q122, q150, q180, q212, 0, 0, 0, 0, q246, q282, 0, 0, q320, 0, 0, 0, q360, 0, 0, 0, 0, 0, 0, 0, 0, 0] : List Nat).getD f 0) = q_rk 12 f := fun f h40 hf => match f, h40, hf with | 0, _, hf => absurd rfl hf | 1, _, hf => absurd rfl hf | 2, _, hf => absurd rfl hf | 3, _, hf => absurd rfl hf | 4, _, _ => k986 | 5, _, _ => k987 | 6, _, _ => k988 | 7, _, _ => k989 | 8, _, hf => absurd rfl hf | 9, _, hf => absurd rfl hf | 10, _, hf => absurd rfl hf | 11, _, hf => absurd rfl hf | 12, _, hf => absurd rfl hf | 13, _, hf => absurd rfl hf | 14, _, hf => absurd rfl hf | 15, _, hf => absurd rfl hf | 16, _, hf => absurd rfl hf | 17, _, hf => absurd rfl hf | 18, _, hf => absurd rfl hf | 19, _, hf => absurd rfl hf | 20, _, _ => k990 | 21, _, _ => k991 | 22, _, _ => k992 | 23, _, _ => k993 | 24, _, hf => absurd rfl hf | 25, _, hf => absurd rfl hf | 26, _, hf => absurd rfl hf | 27, _, hf => absurd rfl hf | 28, _, _ => k994 | 29, _, _ => k995 | 30, _, hf => absurd rfl hf | 31, _, hf => absurd rfl hf | 32, _, _ => k996 | 33, _, hf => absurd rfl hf | 34, _, hf => absurd rfl hf | 35, _, hf => absurd rfl hf | 36, _, _ => k983 | 37, _, hf => absurd rfl hf | 38, _, hf => absurd rfl hf | 39, _, hf => absurd rfl hf | (n + 40), h40, _ => absurd h40 (Nat.not_lt_of_ge (Nat.le_add_left 40 n))
  have hB : ∀ f, f < 40 → (q_bn 12 f).1 ≤ ((([0, 0, 0, 0, 0, 0, 0, 0, 0, 0, (-1), (-1), 0, 0, 0, 0, 0, 0, 0, 0, 0, 0, 0, 0, 0, 0, 0, 0, 0, 0, 0, 0, 0, 0, 0, 0, 0, 0, 0, 0, 0, 0, 0, 0, 0, 0] : List Int32).getD f 0).toInt) ∧ (([0, 0, 0, 0, 0, 0, 0, 0, 0, 0, (-1), (-1), 0, 0, 0, 0, 0, 0, 0, 0, 0, 0, 0, 0, 0, 0, 0, 0, 0, 0, 0, 0, 0, 0, 0, 0, 0, 0, 0, 0, 0, 0, 0, 0, 0, 0] : List Int32).getD f 0).toInt ≤ (q_bn 12 f).2 := by decide +kernel
  have y1016 : ∀ f, q_rk 12 f ≠ 0 → h < ([0, 0, 0, 0, q8, q28, q50, q74, 0, 0, 0, 0, 0, 0, 0, 0, 0, 0, 0, 0, q122, q150, q180, q212, 0, 0, 0, 0, q246, q282, 0, 0, q320, 0, 0, 0, q360, 0, 0, 0, 0, 0, 0, 0, 0, 0] : List Nat).getD f 0 := by
    intro f hf
    rcases y_fs12 hf with rfl | rfl | rfl | rfl | rfl | rfl | rfl | rfl | rfl | rfl | rfl | rfl
    · exact (hq8)
    · exact (hq28)
    · exact (hq50)
    · exact (hq74)
    · exact (hq122)
    · exact (hq150)
    · exact (hq180)
    · exact (hq212)
    · exact (hq246)
    · exact (hq282)
    · exact (hq320)
    · exact (hq360)
  have y1017 : ∀ f, q_rk 12 f ≠ 0 → y_root X964 (([0, 0, 0, 0, q8, q28, q50, q74, 0, 0, 0, 0, 0, 0, 0, 0, 0, 0, 0, 0, q122, q150, q180, q212, 0, 0, 0, 0, q246, q282, 0, 0, q320, 0, 0, 0, q360, 0, 0, 0, 0, 0, 0, 0, 0, 0] : List Nat).getD f 0) := by
    intro f hf
    rcases y_fs12 hf with rfl | rfl | rfl | rfl | rfl | rfl | rfl | rfl | rfl | rfl | rfl | rfl
    · exact y969
    · exact y970
    · exact y971
    · exact y972
    · exact y973
    · exact y974
    · exact y975
    · exact y976
    · exact y977
    · exact y978
    · exact y979
    · exact y980
  try clear y980; try clear y979; try clear y978; try clear y977; try clear y976; try clear y975; try clear y974; try clear y973; try clear y972; try clear y971; try clear y970; try clear y969
  have y1018 : ∀ f, q_rk 12 f = 5 → q_ln X964 (q_rf X964 (([0, 0, 0, 0, q8, q28, q50, q74, 0, 0, 0, 0, 0, 0, 0, 0, 0, 0, 0, 0, q122, q150, q180, q212, 0, 0, 0, 0, q246, q282, 0, 0, q320, 0, 0, 0, q360, 0, 0, 0, 0, 0, 0, 0, 0, 0] : List Nat).getD f 0) 0) = y_rl 12 f := by
    intro f hf
    rcases y_fs12 (show q_rk 12 f ≠ 0 by rw [hf]; decide) with rfl | rfl | rfl | rfl | rfl | rfl | rfl | rfl | rfl | rfl | rfl | rfl
    · exact absurd hf (by decide)
    · exact absurd hf (by decide)
    · exact absurd hf (by decide)
    · exact absurd hf (by decide)
    · exact absurd hf (by decide)
    · exact absurd hf (by decide)
    · exact absurd hf (by decide)
    · exact absurd hf (by decide)
    · exact absurd hf (by decide)
    · exact absurd hf (by decide)
    · exact absurd hf (by decide)
    · exact absurd hf (by decide)
  have y1019 : ∀ f, q_rk 12 f ≠ 0 → ([0, 0, 0, 0, q8, q28, q50, q74, 0, 0, 0, 0, 0, 0, 0, 0, 0, 0, 0, 0, q122, q150, q180, q212, 0, 0, 0, 0, q246, q282, 0, 0, q320, 0, 0, 0, q360, 0, 0, 0, 0, 0, 0, 0, 0, 0] : List Nat).getD f 0 ≠ h := by
    intro f hf
    rcases y_fs12 hf with rfl | rfl | rfl | rfl | rfl | rfl | rfl | rfl | rfl | rfl | rfl | rfl
    · exact ((Nat.ne_of_gt hq8))
    · exact ((Nat.ne_of_gt hq28))
    · exact ((Nat.ne_of_gt hq50))
    · exact ((Nat.ne_of_gt hq74))
    · exact ((Nat.ne_of_gt hq122))
    · exact ((Nat.ne_of_gt hq150))
    · exact ((Nat.ne_of_gt hq180))
    · exact ((Nat.ne_of_gt hq212))
    · exact ((Nat.ne_of_gt hq246))
    · exact ((Nat.ne_of_gt hq282))
    · exact ((Nat.ne_of_gt hq320))
    · exact ((Nat.ne_of_gt hq360))
  have y1020 : ∀ f, q_rk 12 f ≠ 0 → q_kd X (([0, 0, 0, 0, q8, q28, q50, q74, 0, 0, 0, 0, 0, 0, 0, 0, 0, 0, 0, 0, q122, q150, q180, q212, 0, 0, 0, 0, q246, q282, 0, 0, q320, 0, 0, 0, q360, 0, 0, 0, 0, 0, 0, 0, 0, 0] : List Nat).getD f 0) = 0 := by
    intro f hf
    rcases y_fs12 hf with rfl | rfl | rfl | rfl | rfl | rfl | rfl | rfl | rfl | rfl | rfl | rfl
    · exact hw0.fresh (gg_q8)
    · exact hw0.fresh (gg_q28)
    · exact hw0.fresh (gg_q50)
    · exact hw0.fresh (gg_q74)
    · exact hw0.fresh (gg_q122)
    · exact hw0.fresh (gg_q150)
    · exact hw0.fresh (gg_q180)
    · exact hw0.fresh (gg_q212)
    · exact hw0.fresh (gg_q246)
    · exact hw0.fresh (gg_q282)
    · exact hw0.fresh (gg_q320)
    · exact hw0.fresh (gg_q360)
  have hIV : ∀ f, f < 60 → ([0, 0, 0, 0, 0, 0, 0, 0, 0, 0, (-1), (-1), 0, 0, 0, 0, 0, 0, 0, 0, 0, 0, 0, 0, 0, 0, 0, 0, 0, 0, 0, 0, 0, 0, 0, 0, 0, 0, 0, 0, 0, 0, 0, 0, 0, 0] : List Int32).getD f 0 = y_iv 12 f ∧ ([0, 0, 0, 1, 0, 0, 0, 0, 0, 0, 0, 0, 0, 0, 0, 0, 0, 0, 0, 0, 0, 0, 0, 0, 0, 0, 0, 0, 0, 0, 0, 0, 0, 0, 0, 0, 0, 0, 0, 0, 0, 0, 0, 0, 0, 0] : List Int64).getD f 0 = y_il 12 f := by decide +kernel
  have w1015 : q_w X1012 σ1013 H554 := by
    rw [dX1012, dσ1013]
    exact w967.add k997 (q_hrk hrk) (fun q => absurd rfl q) (by decide) (fun q => absurd q (by decide)) (q_hB2 hB) (fun q => by rcases q with q | q <;> exact absurd q (by decide)) (q_cfO D982 ⟨rfl, by decide⟩ (show vwCl[11]? = some (RX12, TX12, 46) from rfl) b560 (fun f hf => match f, hf with | 0, _ => rfl | 1, _ => rfl | 2, _ => rfl | 3, _ => rfl | 4, _ => rfl | 5, _ => rfl | 6, _ => rfl | 7, _ => rfl | 8, _ => rfl | 9, _ => rfl | 10, _ => rfl | 11, _ => rfl | 12, _ => rfl | 13, _ => rfl | 14, _ => rfl | 15, _ => rfl | 16, _ => rfl | 17, _ => rfl | 18, _ => rfl | 19, _ => rfl | 20, _ => rfl | 21, _ => rfl | 22, _ => rfl | 23, _ => rfl | 24, _ => rfl | 25, _ => rfl | 26, _ => rfl | 27, _ => rfl | 28, _ => rfl | 29, _ => rfl | 30, _ => rfl | 31, _ => rfl | 32, _ => rfl | 33, _ => rfl | 34, _ => rfl | 35, _ => rfl | 36, _ => rfl | 37, _ => rfl | 38, _ => rfl | 39, _ => rfl | 40, _ => rfl | 41, _ => rfl | 42, _ => rfl | 43, _ => rfl | 44, _ => rfl | 45, _ => rfl | (n + 46), hf => absurd hf (Nat.not_lt_of_ge (Nat.le_add_left 46 n)))) y1016 (y_in12 (rf := (fun f => ([0, 0, 0, 0, q8, q28, q50, q74, 0, 0, 0, 0, 0, 0, 0, 0, 0, 0, 0, 0, q122, q150, q180, q212, 0, 0, 0, 0, q246, q282, 0, 0, q320, 0, 0, 0, q360, 0, 0, 0, 0, 0, 0, 0, 0, 0] : List Nat).getD f 0)) (show q8 < q28 from cc_q28) (show q28 < q50 from cc_q50) (show q50 < q74 from cc_q74) (show q74 < q122 from cc_q122) (show q122 < q150 from cc_q150) (show q150 < q180 from cc_q180) (show q180 < q212 from cc_q212) (show q212 < q246 from cc_q246) (show q246 < q282 from cc_q282) (show q282 < q320 from cc_q320) (show q320 < q360 from cc_q360)) y1017 y1018 (fun _ f hf => hIV f (hf.resolve_left (by decide)))
  try clear y1018; try clear y1017; try clear y1016; try clear D982; try clear b560
  have y1021 : y_root X1012 h := by
    rw [dX1012]
    exact (y_root.out w967.1 k997).add y_xg y1019
  try clear y1019; try clear k997; try clear w967
  have y1022 : y_rt X X1012 := by
    rw [dX1012]
    exact y981.add y_xg y1020
  try clear y1020; try clear y981
  have k1023 : q_kd X1012 h = 12 := by rw [dX1012]; exact q_xg_h
  have x1024 := x985.tr x1014 (fun a e => Or.inl e)
  try clear x985
  have k1025 := x1014.kd k986 (by decide)
  try clear k1025
  have k1026 := x1014.kd k987 (by decide)
  try clear k1026
  have k1027 := x1014.kd k988 (by decide)
  try clear k1027; try clear k988
  have k1028 := x1014.kd k989 (by decide)
  try clear k1028; try clear k989
  have k1029 := x1014.kd k990 (by decide)
  try clear k1029
  have k1030 := x1014.kd k991 (by decide)
  try clear k1030; try clear k991
  have k1031 := x1014.kd k992 (by decide)
  try clear k1031; try clear k992
  have k1032 := x1014.kd k993 (by decide)
  try clear k1032; try clear k993
  have k1033 := x1014.kd k994 (by decide)
  try clear k1033; try clear k994
  have k1034 := x1014.kd k995 (by decide)
  try clear k1034; try clear k995
  have k1035 := x1014.kd k996 (by decide)
  try clear k1035; try clear k996
  have k1036 := x1014.kd k983 (by decide)
  try clear k1036; try clear k983
  have hr4 : q_rf X1012 h 4 = q8 := by rw [dX1012]; exact if_pos rfl
  have ha4 : ∀ j, σ1013.1 q8 j = (fun _ => 0 : Nat → Int32) j := fun j => (q_exi x1014 (by rw [k986]; decide)).trans (j1009 j)
  try clear k986
  have hr5 : q_rf X1012 h 5 = q28 := by rw [dX1012]; exact if_pos rfl
  have ha5 : ∀ j, σ1013.1 q28 j = (fun j => if j = (3 : Int32).toNatClampNeg then ((-1) : Int32) else (fun j => if j = (2 : Int32).toNatClampNeg then ((-1) : Int32) else (fun j => if j = (1 : Int32).toNatClampNeg then ((-1) : Int32) else (fun j => if j = (0 : Int32).toNatClampNeg then ((-1) : Int32) else (fun _ => 0 : Nat → Int32) j) j) j) j) j := fun j => (q_exi x1014 (by rw [k987]; decide)).trans (j1010 j)
  try clear k987
  have hr20 : q_rf X1012 h 20 = q122 := by rw [dX1012]; exact if_pos rfl
  have ha20 : ∀ j, σ1013.1 q122 j = (fun j => if j = (6 : Int32).toNatClampNeg then ((-1) : Int32) else (fun j => if j = (8 : Int32).toNatClampNeg then ((-1) : Int32) else (fun j => if j = (4 : Int32).toNatClampNeg then (4 : Int32) else (fun j => if j = (1 : Int32).toNatClampNeg then (1 : Int32) else (fun j => if j = (0 : Int32).toNatClampNeg then (2 : Int32) else (fun _ => 0 : Nat → Int32) j) j) j) j) j) j := fun j => (q_exi x1014 (by rw [k990]; decide)).trans (j1011 j)
  try clear x1014; try clear k990
  exact b_ret E hr hlk S558 x1024 k1023 ⟨⟨y1022, y1021⟩, ⟨⟨by rw [dσ1013]; exact if_pos rfl, by rw [dσ1013]; exact if_pos rfl⟩, fun j hj => by rw [hr4, hr5, ha4, ha5]; exact match j, hj with | 0, _ => ⟨rfl, rfl⟩ | 1, _ => ⟨rfl, rfl⟩ | 2, _ => ⟨rfl, rfl⟩ | 3, _ => ⟨rfl, rfl⟩ | (n + 4), hj => absurd hj (Nat.not_lt_of_ge (Nat.le_add_left 4 n)), fun j => by rw [hr20, ha20]; rfl⟩⟩ w1015 dX12_init_172
end
/-! FROM 60.law.lean.txt -/
section
/-! THE LAW: its loop, case by case -/
theorem lw_in {i L : Nat} {v : Int32} {j : Nat} (hv : v.toInt = j) (h : i + j < L) (hL : L ≤ 3072) : vp_in (nI i + v) L := by
  have e : (nI i).toInt = i := nI_toInt (by omega)
  refine vp_in_iff.mpr ?_
  rw [Int32.toInt_add, e, hv, Int.bmod_eq_of_le (by omega) (by omega)]
  omega
theorem q_c34 {X : XW} {a : Nat} (hT : q_T X) (ha : q_kd X a = 12) : q_kd X (q_rf X a 20) = 34 := (hT.1 a 20 (by rw [ha]; decide)).trans (by rw [ha]; rfl)
theorem q_c30 {X : XW} {a : Nat} (hT : q_T X) (ha : q_kd X a = 12) : q_kd X (q_rf X a 4) = 30 := (hT.1 a 4 (by rw [ha]; decide)).trans (by rw [ha]; rfl)
theorem q_c31 {X : XW} {a : Nat} (hT : q_T X) (ha : q_kd X a = 12) : q_kd X (q_rf X a 5) = 31 := (hT.1 a 5 (by rw [ha]; decide)).trans (by rw [ha]; rfl)
theorem q_c23 {X : XW} {a : Nat} (hT : q_T X) (ha : q_kd X a = 11) : q_kd X (q_rf X a 3) = 23 := (hT.1 a 3 (by rw [ha]; decide)).trans (by rw [ha]; rfl)
theorem q_c10 {X : XW} {a i : Nat} (hT : q_T X) (ha : q_kd X a = 11) (hi : i < 4) : q_kd X (q_rf X (q_rf X a 3) i) = 10 := by
  have h := q_c23 hT ha
  have e : q_rk 23 i = 10 := match i, hi with | 0, _ => rfl | 1, _ => rfl | 2, _ => rfl | 3, _ => rfl | (n + 4), hi => absurd hi (by omega)
  have z := hT.1 (q_rf X a 3) i (by rw [h, e]; decide)
  rw [z, h, e]
theorem lw_kC {X : XW} {σ σ1 : ST} {mo : Nat} {n : Int} (e2 : σ1.1 mo 24 = σ.1 mo 24) (e : m_c X σ1 mo = m_c X σ mo) (h : m_M (m_c X σ mo) (σ.1 mo 24).toInt n) : m_M (m_c X σ1 mo) (σ1.1 mo 24).toInt n := by
  rw [e, e2]
  exact h
theorem lw_kM {X : XW} {σ σ1 : ST} {mo lev : Nat} {n : Int} (hk : q_K lev X σ σ1) (hT : q_T X) (hmo : q_kd X mo = 12) (hl : 2 ≤ lev) (h : m_M (m_c X σ mo) (σ.1 mo 24).toInt n) : m_M (m_c X σ1 mo) (σ1.1 mo 24).toInt n :=
  lw_kC (hk mo 24 (by rw [hmo]; exact Nat.le_trans (by decide) hl)) (funext fun j => m_cK hk hT hmo hl j) h
theorem lw_kS {S : Nat → Nat → Prop} {X : XW} {σ σ1 : ST} {mo : Nat} {n : Int} (hk : q_KS S 8 X σ σ1) (hT : q_T X) (hmo : q_kd X mo = 12) (h1 : ∀ j, ¬ S (q_rf X mo 20) j) (h2 : ¬ S mo 24) (h : m_M (m_c X σ mo) (σ.1 mo 24).toInt n) : m_M (m_c X σ1 mo) (σ1.1 mo 24).toInt n :=
  lw_kC (hk mo 24 (by rw [hmo]; decide) h2) (funext fun j => congrArg Int32.toInt (hk _ _ (by rw [q_c34 hT hmo]; show (2 : Nat) ≤ 8; decide) (h1 _))) h
theorem lw_kT {X : XW} {σ σ1 : ST} {xo mo : Nat} {n : Int} {v1 r : Int32} {P : Prop} (h0 : 0 ≤ r.toInt ∧ r.toInt ≤ 1) (hi : r.toInt = 1 ↔ (0 ≤ v1.toInt ∧ v1.toInt < 4 ∧ P)) (hk : q_KS (fun b g => b = (q_rf X (q_rf X xo 3) v1.toNatClampNeg) ∧ g ≤ 1) 8 X σ σ1) (h8 : r.toInt = 0 → q_K 8 X σ σ1) (hT : q_T X) (hmo : q_kd X mo = 12) (hxo : q_kd X xo = 11) (h : m_M (m_c X σ mo) (σ.1 mo 24).toInt n) : m_M (m_c X σ1 mo) (σ1.1 mo 24).toInt n := by
  by_cases q : r.toInt = 1
  · obtain ⟨a, b, -⟩ := hi.mp q
    have k10 := q_c10 (i := v1.toNatClampNeg) hT hxo (by rw [q_cn]; omega)
    exact lw_kS hk hT hmo (fun j z => m_ne (q_c34 hT hmo) k10 (by decide) z.1) (fun z => m_ne hmo k10 (by decide) z.1) h
  · exact lw_kM (h8 (by omega)) hT hmo (by decide) h
theorem lw_up {c : Int → Int} {k n : Int} (h : m_M c k n) (hk : k ≤ 3) : m_M c k (n + 301) := m_M.up h h.1.1 (m_W.le h.1.2 (by omega)) (fun _ _ _ => rfl) hk (Int.le_refl k) (by omega)
theorem lw_wr {X : XW} {σ σ1 : ST} {mo : Nat} {n n' : Int} (e2 : σ1.1 mo 24 = σ.1 mo 24) (hG : m_G (m_c X σ1 mo)) (hW : m_W (m_c X σ1 mo) n') (e : ∀ j : Int, 930 ≤ j → j < 3720 → m_c X σ1 mo j = m_c X σ mo j) (h : m_M (m_c X σ mo) (σ.1 mo 24).toInt n) (h3 : (σ.1 mo 24).toInt ≤ 3) (hn : n ≤ n') : m_M (m_c X σ1 mo) (σ1.1 mo 24).toInt n' := by
  rw [e2]
  exact m_M.up h hG hW e h3 (Int.le_refl _) hn
theorem lw_eq {r r' : Int32} {P : Prop} (h : 0 ≤ r.toInt ∧ r.toInt ≤ 1) (h' : 0 ≤ r'.toInt ∧ r'.toInt ≤ 1) (i : r.toInt = 1 ↔ P) (i' : r'.toInt = 1 ↔ P) : r = r' := by
  refine Int32.toInt_inj.mp ?_
  by_cases q : P
  · have a := i.mpr q
    have b := i'.mpr q
    omega
  · have a : ¬ r.toInt = 1 := fun w => q (i.mp w)
    have b : ¬ r'.toInt = 1 := fun w => q (i'.mp w)
    omega
theorem m_and63 (x : Int32) : 0 ≤ (x &&& 63).toInt ∧ (x &&& 63).toInt ≤ 63 := by
  have h : (x &&& 63) = (x.toUInt32 &&& 63).toInt32 := rfl
  have h2 : (x.toUInt32 &&& 63).toNat ≤ 63 := by
    rw [UInt32.toNat_and]
    exact Nat.and_le_right
  have h3 : ((x.toUInt32 &&& 63).toInt32).toInt = ((x.toUInt32 &&& 63).toNat : Int) := by
    show ((x.toUInt32 &&& 63).toBitVec).toInt = _
    rw [BitVec.toInt_eq_toNat_of_lt (by show 2 * (x.toUInt32 &&& 63).toNat < _; omega)]
    rfl
  rw [h, h3]
  omega
/-! what the loop of this law keeps: the marks' numbers and the tapes' lengths of the two are the same -/
def lw_E (xo mo : Nat) (σ : ST) : Prop := (σ.1 xo 11).toInt = (σ.1 mo 24).toInt ∧ (σ.1 xo 5).toInt = (σ.1 mo 8).toInt
theorem lw_Ee {xo mo : Nat} {σ σ1 : ST} (a : σ1.1 xo 11 = σ.1 xo 11) (b : σ1.1 xo 5 = σ.1 xo 5) (c : σ1.1 mo 24 = σ.1 mo 24) (d : σ1.1 mo 8 = σ.1 mo 8) (h : lw_E xo mo σ) : lw_E xo mo σ1 := by
  unfold lw_E at h ⊢
  rw [a, b, c, d]
  exact h
theorem lw_EK {X : XW} {σ σ1 : ST} {xo mo lev : Nat} (hk : q_K lev X σ σ1) (h1 : 1 ≤ lev) (hxo : q_kd X xo = 11) (hmo : q_kd X mo = 12) (h : lw_E xo mo σ) : lw_E xo mo σ1 :=
  lw_Ee (hk _ _ (by rw [hxo]; exact h1)) (hk _ _ (by rw [hxo]; exact h1)) (hk _ _ (by rw [hmo]; exact h1)) (hk _ _ (by rw [hmo]; exact h1)) h
theorem lw_ES {S : Nat → Nat → Prop} {X : XW} {σ σ1 : ST} {xo mo lev : Nat} (hk : q_KS S lev X σ σ1) (h1 : 1 ≤ lev) (hxo : q_kd X xo = 11) (hmo : q_kd X mo = 12) (a : ¬ S xo 11) (b : ¬ S xo 5) (c : ¬ S mo 24) (d : ¬ S mo 8) (h : lw_E xo mo σ) : lw_E xo mo σ1 :=
  lw_Ee (hk _ _ (by rw [hxo]; exact h1) a) (hk _ _ (by rw [hxo]; exact h1) b) (hk _ _ (by rw [hmo]; exact h1) c) (hk _ _ (by rw [hmo]; exact h1) d) h
theorem lw_ET {X : XW} {σ σ1 : ST} {xo mo : Nat} {v1 r : Int32} {P : Prop} (h0 : 0 ≤ r.toInt ∧ r.toInt ≤ 1) (hi : r.toInt = 1 ↔ (0 ≤ v1.toInt ∧ v1.toInt < 4 ∧ P)) (hk : q_KS (fun b g => b = (q_rf X (q_rf X xo 3) v1.toNatClampNeg) ∧ g ≤ 1) 8 X σ σ1) (h8 : r.toInt = 0 → q_K 8 X σ σ1) (hT : q_T X) (hmo : q_kd X mo = 12) (hxo : q_kd X xo = 11) (h : lw_E xo mo σ) : lw_E xo mo σ1 := by
  by_cases q : r.toInt = 1
  · obtain ⟨a, b, -⟩ := hi.mp q
    have k10 := q_c10 (i := v1.toNatClampNeg) hT hxo (by rw [q_cn]; omega)
    exact lw_ES hk (by decide) hxo hmo (fun z => m_ne hxo k10 (by decide) z.1) (fun z => m_ne hxo k10 (by decide) z.1) (fun z => m_ne hmo k10 (by decide) z.1) (fun z => m_ne hmo k10 (by decide) z.1) h
  · exact lw_EK (h8 (by omega)) (by decide) hxo hmo h
theorem lw_Etape {X : XW} {σ σ1 σ2 : ST} {xo mo : Nat} {A : Int} (hxo : q_kd X xo = 11) (hmo : q_kd X mo = 12) (h : lw_E xo mo σ) {S2 : Nat → Nat → Prop} {lev : Nat} (k1 : q_KS (fun b g => b = xo ∧ g = 5) 8 X σ σ1) (k2 : q_KS S2 lev X σ1 σ2) (h1 : 1 ≤ lev) (s1 : ¬ S2 xo 11) (s2 : ¬ S2 xo 5) (s3 : ¬ S2 mo 24) (x : (σ1.1 xo 5).toInt = A) (y : (σ2.1 mo 8).toInt = A) : lw_E xo mo σ2 := by
  have ne : mo ≠ xo := m_ne hmo hxo (by decide)
  unfold lw_E at h ⊢
  rw [k2 xo 11 (by rw [hxo]; exact h1) s1, k2 xo 5 (by rw [hxo]; exact h1) s2, k2 mo 24 (by rw [hmo]; exact h1) s3, x, y, k1 xo 11 (by rw [hxo]; decide) (fun z => absurd z.2 (by decide)), k1 mo 24 (by rw [hmo]; decide) (fun z => ne z.1)]
  exact ⟨h.1, rfl⟩
theorem lw_Efeed {X : XW} {σ σ1 σ2 : ST} {xo mo : Nat} {r1 r2 : Int32} (hxo : q_kd X xo = 11) (hmo : q_kd X mo = 12) (h : lw_E xo mo σ) (k1 : q_KS (fun b g => b = xo ∧ g = 5) 8 X σ σ1) (a1 : (σ.1 xo 5).toInt + 20 > 900 → r1.toInt = -1 ∧ (σ1.1 xo 5).toInt = (σ.1 xo 5).toInt) (a2 : (σ.1 xo 5).toInt + 20 ≤ 900 → r1.toInt = (σ.1 xo 5).toInt + 20 ∧ (σ1.1 xo 5).toInt = (σ.1 xo 5).toInt + 20) (k2 : q_KS (fun b g => b = mo ∧ g = 8) 8 X σ1 σ2) (b1 : (σ1.1 mo 8).toInt + 20 > 900 → r2.toInt = -1 ∧ (σ2.1 mo 8).toInt = (σ1.1 mo 8).toInt) (b2 : (σ1.1 mo 8).toInt + 20 ≤ 900 → r2.toInt = (σ1.1 mo 8).toInt + 20 ∧ (σ2.1 mo 8).toInt = (σ1.1 mo 8).toInt + 20) : lw_E xo mo σ2 ∧ r1 = r2 := by
  have ne : mo ≠ xo := m_ne hmo hxo (by decide)
  have c : σ1.1 mo 8 = σ.1 mo 8 := k1 mo 8 (by rw [hmo]; decide) (fun z => ne z.1)
  have e := h.2
  rw [c] at b1 b2
  refine ⟨lw_Etape (A := (σ1.1 xo 5).toInt) hxo hmo h k1 k2 (by decide) (fun z => ne z.1.symm) (fun z => ne z.1.symm) (fun z => absurd z.2 (by decide)) rfl ?_, Int32.toInt_inj.mp ?_⟩
  · by_cases q : (σ.1 xo 5).toInt + 20 > 900
    · have := a1 q; have := b1 (by omega); omega
    · have := a2 (by omega); have := b2 (by omega); omega
  · by_cases q : (σ.1 xo 5).toInt + 20 > 900
    · have := a1 q; have := b1 (by omega); omega
    · have := a2 (by omega); have := b2 (by omega); omega
theorem lw_Etable {X : XW} {σ σ1 σ2 : ST} {xo mo : Nat} {v : Int32} (hxo : q_kd X xo = 11) (hmo : q_kd X mo = 12) (h : lw_E xo mo σ) (k1 : q_KS (fun b g => b = xo ∧ g = 5) 8 X σ σ1) (a1 : (v.toInt < 0 ∨ (σ.1 xo 5).toInt < v.toInt) → (σ1.1 xo 5).toInt = (σ.1 xo 5).toInt) (a2 : (0 ≤ v.toInt ∧ v.toInt ≤ (σ.1 xo 5).toInt) → (σ1.1 xo 5).toInt = 0) (k2 : q_KS (fun b g => b = mo ∧ 8 ≤ g ∧ g ≤ 18) 1 X σ1 σ2) (b1 : (v.toInt < 0 ∨ (σ1.1 mo 8).toInt < v.toInt) → (σ2.1 mo 8).toInt = (σ1.1 mo 8).toInt) (b2 : (0 ≤ v.toInt ∧ v.toInt ≤ (σ1.1 mo 8).toInt) → (σ2.1 mo 8).toInt = 0) : lw_E xo mo σ2 ∧ True := by
  have ne : mo ≠ xo := m_ne hmo hxo (by decide)
  have c : σ1.1 mo 8 = σ.1 mo 8 := k1 mo 8 (by rw [hmo]; decide) (fun z => ne z.1)
  have e := h.2
  rw [c] at b1 b2
  refine ⟨lw_Etape (A := (σ1.1 xo 5).toInt) hxo hmo h k1 k2 (by decide) (fun z => ne z.1.symm) (fun z => ne z.1.symm) (fun z => absurd z.2.2 (by decide)) rfl ?_, trivial⟩
  by_cases q : v.toInt < 0 ∨ (σ.1 xo 5).toInt < v.toInt
  · rw [a1 q, b1 (by omega)]; omega
  · rw [a2 (by omega), b2 (by omega)]
theorem lw_Eround {X : XW} {σ σ1 σ2 : ST} {xo mo : Nat} {v : Int32} (hxo : q_kd X xo = 11) (hmo : q_kd X mo = 12) (h : lw_E xo mo σ) (k1 : q_KS (fun b g => b = xo ∧ g = 5) 8 X σ σ1) (a1 : (v.toInt < 0 ∨ (σ.1 xo 5).toInt < v.toInt ∨ 300 < v.toInt) → (σ1.1 xo 5).toInt = (σ.1 xo 5).toInt) (a2 : (0 ≤ v.toInt ∧ v.toInt ≤ (σ.1 xo 5).toInt ∧ v.toInt ≤ 300) → (σ1.1 xo 5).toInt = 0) (k2 : q_KS (fun b g => b = mo ∧ 8 ≤ g ∧ g ≤ 18) 1 X σ1 σ2) (b1 : (v.toInt < 0 ∨ (σ1.1 mo 8).toInt < v.toInt ∨ 300 < v.toInt) → (σ2.1 mo 8).toInt = (σ1.1 mo 8).toInt) (b2 : (0 ≤ v.toInt ∧ v.toInt ≤ (σ1.1 mo 8).toInt ∧ v.toInt ≤ 300) → (σ2.1 mo 8).toInt = 0) : lw_E xo mo σ2 ∧ True := by
  have ne : mo ≠ xo := m_ne hmo hxo (by decide)
  have c : σ1.1 mo 8 = σ.1 mo 8 := k1 mo 8 (by rw [hmo]; decide) (fun z => ne z.1)
  have e := h.2
  rw [c] at b1 b2
  refine ⟨lw_Etape (A := (σ1.1 xo 5).toInt) hxo hmo h k1 k2 (by decide) (fun z => ne z.1.symm) (fun z => ne z.1.symm) (fun z => absurd z.2.2 (by decide)) rfl ?_, trivial⟩
  by_cases q : v.toInt < 0 ∨ (σ.1 xo 5).toInt < v.toInt ∨ 300 < v.toInt
  · rw [a1 q, b1 (by omega)]; omega
  · rw [a2 (by omega), b2 (by omega)]
theorem lw_Emk {X : XW} {σ σ1 σ2 : ST} {xo mo : Nat} {A : Int} (hxo : q_kd X xo = 11) (hmo : q_kd X mo = 12) (h : lw_E xo mo σ) (k1 : q_KS (fun b g => b = xo ∧ g = 11) 8 X σ σ1) (k2 : q_KS (fun b g => b = mo ∧ g = 24) 1 X σ1 σ2) (x : (σ1.1 xo 11).toInt = A) (y : (σ2.1 mo 24).toInt = A) : lw_E xo mo σ2 := by
  have ne : mo ≠ xo := m_ne hmo hxo (by decide)
  unfold lw_E at h ⊢
  rw [k2 xo 11 (by rw [hxo]; decide) (fun z => ne z.1.symm), k2 xo 5 (by rw [hxo]; decide) (fun z => ne z.1.symm), k2 mo 8 (by rw [hmo]; decide) (fun z => absurd z.2 (by decide)), x, y, k1 xo 5 (by rw [hxo]; decide) (fun z => absurd z.2 (by decide)), k1 mo 8 (by rw [hmo]; decide) (fun z => ne z.1)]
  exact ⟨rfl, h.2⟩
theorem lw_Emark {X : XW} {σ σ1 σ2 : ST} {xo mo : Nat} {r1 r2 : Int32} (hxo : q_kd X xo = 11) (hmo : q_kd X mo = 12) (hb : 0 ≤ (σ.1 xo 11).toInt ∧ (σ.1 xo 11).toInt ≤ 3) (h : lw_E xo mo σ) (k1 : q_KS (fun b g => b = xo ∧ g = 11) 8 X σ σ1) (a1 : (σ.1 xo 11).toInt < 3 → (σ1.1 xo 11).toInt = (σ.1 xo 11).toInt + 1 ∧ r1.toInt = (σ.1 xo 11).toInt + 1) (a2 : (σ.1 xo 11).toInt = 3 → (σ1.1 xo 11).toInt = 3 ∧ r1.toInt = -1) (k2 : q_KS (fun b g => b = mo ∧ g = 24) 1 X σ1 σ2) (b1 : (σ1.1 mo 24).toInt < 3 → (σ2.1 mo 24).toInt = (σ1.1 mo 24).toInt + 1 ∧ r2.toInt = (σ1.1 mo 24).toInt + 1) (b2 : (σ1.1 mo 24).toInt = 3 → (σ2.1 mo 24).toInt = 3 ∧ r2.toInt = -1) : lw_E xo mo σ2 ∧ r1 = r2 := by
  have ne : mo ≠ xo := m_ne hmo hxo (by decide)
  have c : σ1.1 mo 24 = σ.1 mo 24 := k1 mo 24 (by rw [hmo]; decide) (fun z => ne z.1)
  have e := h.1
  rw [c] at b1 b2
  refine ⟨lw_Emk (A := (σ1.1 xo 11).toInt) hxo hmo h k1 k2 rfl ?_, Int32.toInt_inj.mp ?_⟩
  · by_cases q : (σ.1 xo 11).toInt < 3
    · have := a1 q; have := b1 (by omega); omega
    · have := a2 (by omega); have := b2 (by omega); omega
  · by_cases q : (σ.1 xo 11).toInt < 3
    · have := a1 q; have := b1 (by omega); omega
    · have := a2 (by omega); have := b2 (by omega); omega
theorem lw_Eback {X : XW} {σ σ1 σ2 : ST} {xo mo : Nat} {r1 r2 : Int32} (hxo : q_kd X xo = 11) (hmo : q_kd X mo = 12) (hb : 0 ≤ (σ.1 xo 11).toInt ∧ (σ.1 xo 11).toInt ≤ 3) (h : lw_E xo mo σ) (k1 : q_KS (fun b g => b = xo ∧ g = 11) 8 X σ σ1) (a1 : 0 < (σ.1 xo 11).toInt → (σ1.1 xo 11).toInt = (σ.1 xo 11).toInt - 1 ∧ r1.toInt = (σ.1 xo 11).toInt - 1) (a2 : (σ.1 xo 11).toInt = 0 → (σ1.1 xo 11).toInt = 0 ∧ r1.toInt = -1) (k2 : q_KS (fun b g => b = mo ∧ g = 24) 1 X σ1 σ2) (b1 : 0 < (σ1.1 mo 24).toInt → (σ2.1 mo 24).toInt = (σ1.1 mo 24).toInt - 1 ∧ r2.toInt = (σ1.1 mo 24).toInt - 1) (b2 : (σ1.1 mo 24).toInt = 0 → (σ2.1 mo 24).toInt = 0 ∧ r2.toInt = -1) : lw_E xo mo σ2 ∧ r1 = r2 := by
  have ne : mo ≠ xo := m_ne hmo hxo (by decide)
  have c : σ1.1 mo 24 = σ.1 mo 24 := k1 mo 24 (by rw [hmo]; decide) (fun z => ne z.1)
  have e := h.1
  rw [c] at b1 b2
  refine ⟨lw_Emk (A := (σ1.1 xo 11).toInt) hxo hmo h k1 k2 rfl ?_, Int32.toInt_inj.mp ?_⟩
  · by_cases q : 0 < (σ.1 xo 11).toInt
    · have := a1 q; have := b1 (by omega); omega
    · have := a2 (by omega); have := b2 (by omega); omega
  · by_cases q : 0 < (σ.1 xo 11).toInt
    · have := a1 q; have := b1 (by omega); omega
    · have := a2 (by omega); have := b2 (by omega); omega
/-! what the loop of this law keeps besides: the tapes' bytes are the same (p10, p11, p12; NOT YET BUILT) -/
def lw_B (X : XW) (xo mo : Nat) (σ : ST) : Prop := ∀ p : Int, 0 ≤ p → p < (σ.1 xo 5).toInt → σ.1 (q_rf X xo 4) p.toNat = σ.1 (q_rf X mo 7) p.toNat ∧ -128 ≤ (σ.1 (q_rf X xo 4) p.toNat).toInt ∧ (σ.1 (q_rf X xo 4) p.toNat).toInt ≤ 127
theorem lw_noK {L : List (Nat × Nat)} {k f : Nat} (h : L.all (fun x => x.1 != k) = true) : q_in2 L k f = false := by
  unfold q_in2
  rw [List.any_eq_false]
  intro x hx
  have h1 := List.all_eq_true.mp h x hx
  have h2 : ¬ x.1 = k := by simpa using h1
  simp [h2]
section LB
variable {X : XW} {xo mo : Nat} {σ σ1 σ2 : ST} {L M L2 M2 : List (Nat × Nat)}
theorem lw_k22 (hT : q_T X) (hxo : q_kd X xo = 11) : q_kd X (q_rf X xo 4) = 22 := (hT.1 xo 4 (by rw [hxo]; decide)).trans (by rw [hxo]; rfl)
theorem lw_k33 (hT : q_T X) (hmo : q_kd X mo = 12) : q_kd X (q_rf X mo 7) = 33 := (hT.1 mo 7 (by rw [hmo]; decide)).trans (by rw [hmo]; rfl)
theorem lw_Bow (ow : q_ow L M X σ σ1) (hT : q_T X) (hxo : q_kd X xo = 11) (hmo : q_kd X mo = 12) (h22 : L.all (fun x => x.1 != 22) = true) (h33 : L.all (fun x => x.1 != 33) = true) : (∀ p, σ1.1 (q_rf X xo 4) p = σ.1 (q_rf X xo 4) p) ∧ ∀ p, σ1.1 (q_rf X mo 7) p = σ.1 (q_rf X mo 7) p :=
  ⟨fun p => ow.1 _ p (by rw [lw_k22 hT hxo]; exact lw_noK h22), fun p => ow.1 _ p (by rw [lw_k33 hT hmo]; exact lw_noK h33)⟩
/-- a call that leaves tapes and their lengths alone -/
theorem lw_BK (ow : q_ow L M X σ σ1) (hT : q_T X) (hxo : q_kd X xo = 11) (hmo : q_kd X mo = 12) (h22 : L.all (fun x => x.1 != 22) = true) (h33 : L.all (fun x => x.1 != 33) = true) (h5 : σ1.1 xo 5 = σ.1 xo 5) (h : lw_B X xo mo σ) : lw_B X xo mo σ1 := by
  obtain ⟨a1, a2⟩ := lw_Bow ow hT hxo hmo h22 h33
  intro p p0 p1
  rw [h5] at p1
  rw [a1, a2]
  exact h p p0 p1
/-- a table or a round: the tapes' bytes stand, the length stands or is 0 -/
theorem lw_B2 (ow : q_ow L M X σ σ1) (ow2 : q_ow L2 M2 X σ1 σ2) (hT : q_T X) (hxo : q_kd X xo = 11) (hmo : q_kd X mo = 12) (h22 : L.all (fun x => x.1 != 22) = true) (h33 : L.all (fun x => x.1 != 33) = true) (k22 : L2.all (fun x => x.1 != 22) = true) (k33 : L2.all (fun x => x.1 != 33) = true) (h5 : (σ2.1 xo 5).toInt = (σ.1 xo 5).toInt ∨ (σ2.1 xo 5).toInt = 0) (h : lw_B X xo mo σ) : lw_B X xo mo σ2 := by
  obtain ⟨a1, a2⟩ := lw_Bow ow hT hxo hmo h22 h33
  obtain ⟨b1, b2⟩ := lw_Bow ow2 hT hxo hmo k22 k33
  intro p p0 p1
  rw [b1, b2, a1, a2]
  rcases h5 with h5 | h5
  · exact h p p0 (by rw [h5] at p1; exact p1)
  · omega
theorem lw_tp (ow : q_ow L M X σ σ1) (hT : q_T X) (hxo : q_kd X xo = 11) (hmo : q_kd X mo = 12) (h33 : L.all (fun x => x.1 != 33) = true) (h8 : q_in2 L 12 8 = false) (he : (σ.1 xo 5).toInt = (σ.1 mo 8).toInt) (h : lw_B X xo mo σ) : tp_R X xo mo σ σ1 (σ.1 xo 5).toInt := by
  refine ⟨rfl, ?_, fun p p0 p1 => ?_⟩
  · rw [ow.1 mo 8 (by rw [hmo]; exact h8)]
    exact he.symm
  · rw [ow.1 (q_rf X mo 7) p.toNat (by rw [lw_k33 hT hmo]; exact lw_noK h33)]
    exact h p p0 p1
/-- feed -/
theorem lw_Bfeed {v1 v2 v3 v4 v5 r1 r2 : Int32} (e1 : (r1, σ1) = F_X11_feed X σ xo v1 v2 v3 v4 v5) (e2 : (r2, σ2) = F_X12_feed X σ1 mo v1 v2 v3 v4 v5) (ow : q_ow L M X σ σ1) (ow2 : q_ow L2 M2 X σ1 σ2) (hT : q_T X) (hxo : q_kd X xo = 11) (hmo : q_kd X mo = 12) (h33 : L.all (fun x => x.1 != 33) = true) (h8 : q_in2 L 12 8 = false) (k22 : L2.all (fun x => x.1 != 22) = true) (k5 : q_in2 L2 11 5 = false) (he : (σ.1 xo 5).toInt = (σ.1 mo 8).toInt) (hb : 0 ≤ (σ.1 xo 5).toInt ∧ (σ.1 xo 5).toInt ≤ 900) (h : lw_B X xo mo σ) : r1 = r2 ∧ lw_B X xo mo σ2 := by
  have nC : q_rf X xo 4 ≠ xo := m_ne (lw_k22 hT hxo) hxo (by decide)
  have na : q_rf X mo 7 ≠ mo := m_ne (lw_k33 hT hmo) hmo (by decide)
  obtain ⟨f1, m', m0, m1, R⟩ := tp_feed nC na (lw_tp ow hT hxo hmo h33 h8 he h) hb v1 v2 v3 v4 v5
  rw [← e1, ← e2] at f1 R
  obtain ⟨R1, R2, R3⟩ := R
  refine ⟨f1, fun p p0 p1 => ?_⟩
  have c5 : σ2.1 xo 5 = σ1.1 xo 5 := ow2.1 xo 5 (by rw [hxo]; exact k5)
  have cb : σ2.1 (q_rf X xo 4) p.toNat = σ1.1 (q_rf X xo 4) p.toNat := ow2.1 _ _ (by rw [lw_k22 hT hxo]; exact lw_noK k22)
  rw [c5] at p1
  rw [cb]
  have R1' : (σ1.1 xo 5).toInt = m' := R1
  exact R3 p p0 (by omega)
/-- table: the compared case -/
theorem lw_Btable {lb : Nat → Nat} {v r1 r2 : Int32} (hcl : tb_Cls X lb xo mo) (e1 : (r1, σ1) = F_X11_table X σ xo v) (e2 : (r2, σ2) = F_X12_table X σ1 mo v) (ow : q_ow L M X σ σ1) (hT : q_T X) (hxo : q_kd X xo = 11) (hmo : q_kd X mo = 12) (h33 : L.all (fun x => x.1 != 33) = true) (h8 : q_in2 L 12 8 = false) (he : (σ.1 xo 5).toInt = (σ.1 mo 8).toInt) (hb : 0 ≤ (σ.1 xo 5).toInt ∧ (σ.1 xo 5).toInt ≤ 900) (h : lw_B X xo mo σ) : r1 = r2 := by
  obtain ⟨t1, t2, t3⟩ := lw_tp ow hT hxo hmo h33 h8 he h
  obtain ⟨z, σ', z', τ', a1, a2, a3, -⟩ := tb_table (B := fun p => (σ.1 (q_rf X xo 4) p.toNat).toInt) hcl t1 t2 hb (fun p p0 p1 => ⟨rfl, (t3 p p0 p1).2⟩) (fun p p0 p1 => (congrArg Int32.toInt (t3 p p0 p1).1).symm) v
  rw [← e1] at a1
  rw [← e2] at a2
  have b1 : r1 = z := congrArg Prod.fst a1
  have b2 : r2 = z' := congrArg Prod.fst a2
  rw [b1, b2]
  exact Int32.toInt_inj.mp a3
end LB
theorem lw_h5t {xo : Nat} {σ σ1 σ2 : ST} {v : Int32} (a1 : (v.toInt < 0 ∨ (σ.1 xo 5).toInt < v.toInt) → (σ1.1 xo 5).toInt = (σ.1 xo 5).toInt) (a2 : (0 ≤ v.toInt ∧ v.toInt ≤ (σ.1 xo 5).toInt) → (σ1.1 xo 5).toInt = 0) (k : σ2.1 xo 5 = σ1.1 xo 5) : (σ2.1 xo 5).toInt = (σ.1 xo 5).toInt ∨ (σ2.1 xo 5).toInt = 0 := by
  rw [k]
  by_cases q : v.toInt < 0 ∨ (σ.1 xo 5).toInt < v.toInt
  · exact Or.inl (a1 q)
  · exact Or.inr (a2 (by omega))
theorem lw_h5r {xo : Nat} {σ σ1 σ2 : ST} {v : Int32} (a1 : (v.toInt < 0 ∨ (σ.1 xo 5).toInt < v.toInt ∨ 300 < v.toInt) → (σ1.1 xo 5).toInt = (σ.1 xo 5).toInt) (a2 : (0 ≤ v.toInt ∧ v.toInt ≤ (σ.1 xo 5).toInt ∧ v.toInt ≤ 300) → (σ1.1 xo 5).toInt = 0) (k : σ2.1 xo 5 = σ1.1 xo 5) : (σ2.1 xo 5).toInt = (σ.1 xo 5).toInt ∨ (σ2.1 xo 5).toInt = 0 := by
  rw [k]
  by_cases q : v.toInt < 0 ∨ (σ.1 xo 5).toInt < v.toInt ∨ 300 < v.toInt
  · exact Or.inl (a1 q)
  · exact Or.inr (a2 (by omega))
/-! what the loop of this law keeps besides: both games are the same (p11 and what follows) -/
section LA
variable {X : XW} {lb : Nat → Nat} {xo mo : Nat} {σ σ1 σ2 : ST} {L M L2 M2 : List (Nat × Nat)} {n : Int}
theorem lw_Aob (K : al_C X lb xo mo) {P Q : Int32 × ST} {r1 r2 : Int32} (o : ob_O X xo mo P Q) (e1 : (r1, σ1) = P) (e2 : (r2, σ2) = Q) (ow : q_ow L2 M2 X σ1 σ2) (h : kp_C L2 = true) : r1 = r2 ∧ al_R X xo mo σ2 σ2 := by
  rw [← e1, ← e2] at o
  exact ⟨Int32.toInt_inj.mp o.1, o.2.2.post K ow h⟩
theorem lw_fs {S F : Nat → Nat → Prop} {P : Int32 × ST} {r1 : Int32} (e1 : (r1, σ1) = P) (h : tkl S F σ P.2) : tkl S F σ σ1 := by
  rw [← e1] at h
  exact h
/-- what both tell of the latest reading -/
def lw_Y (xo mo : Nat) (σ : ST) : Prop := (σ.1 xo 6).toInt = (σ.1 mo 10).toInt ∧ (σ.1 xo 7).toInt = (σ.1 mo 11).toInt
def kp_Y (L : List (Nat × Nat)) : Bool := L.all (fun x => x.1 != 11 || (x.2 != 6 && x.2 != 99)) && L.all (fun x => x.1 != 11 || (x.2 != 7 && x.2 != 99)) && L.all (fun x => x.1 != 12 || (x.2 != 10 && x.2 != 99)) && L.all (fun x => x.1 != 12 || (x.2 != 11 && x.2 != 99))
theorem lw_YK (K : al_C X lb xo mo) (h : lw_Y xo mo σ) (ow : q_ow L M X σ σ1) (k : kp_Y L = true) : lw_Y xo mo σ1 := by
  unfold kp_Y at k
  rw [Bool.and_eq_true, Bool.and_eq_true, Bool.and_eq_true] at k
  unfold lw_Y
  rw [ow.1 xo 6 (by rw [K.1]; exact kp_no k.1.1.1), ow.1 xo 7 (by rw [K.1]; exact kp_no k.1.1.2), ow.1 mo 10 (by rw [K.2.1]; exact kp_no k.1.2), ow.1 mo 11 (by rw [K.2.1]; exact kp_no k.2)]
  exact h
theorem lw_Yrd (K : al_C X lb xo mo) (h : lw_Y xo mo σ) (ow : q_ow L M X σ σ1) (ow2 : q_ow L2 M2 X σ1 σ2) (k1 : q_in2 L 12 10 = false) (k2 : q_in2 L 12 11 = false) (k3 : q_in2 L2 11 6 = false) (k4 : q_in2 L2 11 7 = false) (o : (tk (fun b f => b = xo ∧ f = 0) σ σ1 ∧ tkl (fun b f => b = mo ∧ (f = 0 ∨ f = 1)) (fun _ _ => False) σ1 σ2) ∨ ((σ1.1 xo 6).toInt = (σ2.1 mo 10).toInt ∧ (σ1.1 xo 7).toInt = (σ2.1 mo 11).toInt)) : lw_Y xo mo σ2 := by
  unfold lw_Y at h ⊢
  rw [ow2.1 xo 6 (by rw [K.1]; exact k3), ow2.1 xo 7 (by rw [K.1]; exact k4)]
  rcases o with ⟨o1, o2⟩ | o
  · rw [o1.1 xo 6 (fun z => absurd z.2 (by decide)), o1.1 xo 7 (fun z => absurd z.2 (by decide)), o2.1 mo 10 (fun z => absurd z.2 (by decide)), o2.1 mo 11 (fun z => absurd z.2 (by decide)), ow.1 mo 10 (by rw [K.2.1]; exact k1), ow.1 mo 11 (by rw [K.2.1]; exact k2)]
    exact h
  · exact o
theorem lw_Around (hcl : tb_Cls X lb xo mo) (K : al_C X lb xo mo) (A : al_R X xo mo σ σ1) (Mm : m_M (m_c X σ1 mo) (σ1.1 mo 24).toInt n) {v r1 r2 : Int32} (e1 : (r1, σ1) = F_X11_round X σ xo v) (e2 : (r2, σ2) = F_X12_round X σ1 mo v) (ow : q_ow L M X σ σ1) (ow2 : q_ow L2 M2 X σ1 σ2) (hT : q_T X) (hxo : q_kd X xo = 11) (hmo : q_kd X mo = 12) (h33 : L.all (fun x => x.1 != 33) = true) (h8 : q_in2 L 12 8 = false) (h : kp_C L2 = true) (he : (σ.1 xo 5).toInt = (σ.1 mo 8).toInt) (hb : 0 ≤ (σ.1 xo 5).toInt ∧ (σ.1 xo 5).toInt ≤ 900) (hB : lw_B X xo mo σ) :
    r1 = r2 ∧ al_R X xo mo σ2 σ2 ∧ rr_Out xo mo σ σ1 v (σ.1 xo 5).toInt σ1 σ2 := by
  obtain ⟨t1, t2, t3⟩ := lw_tp ow hT hxo hmo h33 h8 he hB
  obtain ⟨z, σ', z', τ', a1, a2, a3, a4, a5, a6⟩ := al_round (B := fun p => (σ.1 (q_rf X xo 4) p.toNat).toInt) K hcl.2.2.2.2.2.2.1 A Mm t1 t2 hb (fun p p0 p1 => ⟨rfl, (t3 p p0 p1).2⟩) (fun p p0 p1 => (congrArg Int32.toInt (t3 p p0 p1).1).symm) v
  rw [← e1] at a1
  rw [← e2] at a2
  have b1 : r1 = z := congrArg Prod.fst a1
  have b2 : r2 = z' := congrArg Prod.fst a2
  have c1 : σ1 = σ' := congrArg Prod.snd a1
  have c2 : σ2 = τ' := congrArg Prod.snd a2
  subst c1
  subst c2
  refine ⟨?_, a6.post K ow2 h, a5⟩
  rw [b1, b2]
  exact Int32.toInt_inj.mp a3
theorem lw_Atable (hcl : tb_Cls X lb xo mo) (K : al_C X lb xo mo) (A : al_R X xo mo σ σ1) (Mm : m_M (m_c X σ1 mo) (σ1.1 mo 24).toInt n) {v r1 r2 : Int32} (e1 : (r1, σ1) = F_X11_table X σ xo v) (e2 : (r2, σ2) = F_X12_table X σ1 mo v) (ow : q_ow L M X σ σ1) (ow2 : q_ow L2 M2 X σ1 σ2) (hT : q_T X) (hxo : q_kd X xo = 11) (hmo : q_kd X mo = 12) (h33 : L.all (fun x => x.1 != 33) = true) (h8 : q_in2 L 12 8 = false) (h : kp_C L2 = true) (he : (σ.1 xo 5).toInt = (σ.1 mo 8).toInt) (hb : 0 ≤ (σ.1 xo 5).toInt ∧ (σ.1 xo 5).toInt ≤ 900) (hB : lw_B X xo mo σ) (hG : m_G (m_c X σ2 mo)) (k11 : q_in2 L 11 11 = false) (k24 : q_in2 L2 12 24 = false) (k24' : q_in2 L 12 24 = false) :
    r1 = r2 ∧ al_R X xo mo σ2 σ2 ∧ ∃ (z : Int32), tb_Out X xo mo σ σ1 v (σ.1 xo 5).toInt z σ1 σ2 := by
  obtain ⟨t1, t2, t3⟩ := lw_tp ow hT hxo hmo h33 h8 he hB
  obtain ⟨z, σ', z', τ', a1, a2, a3, a4, a5, a6⟩ := al_table (B := fun p => (σ.1 (q_rf X xo 4) p.toNat).toInt) K hcl.2.2.2.2.2.2.1 A Mm t1 t2 hb (fun p p0 p1 => ⟨rfl, (t3 p p0 p1).2⟩) (fun p p0 p1 => (congrArg Int32.toInt (t3 p p0 p1).1).symm) v
  rw [← e1] at a1
  rw [← e2] at a2
  have b1 : r1 = z := congrArg Prod.fst a1
  have b2 : r2 = z' := congrArg Prod.fst a2
  have c1 : σ1 = σ' := congrArg Prod.snd a1
  have c2 : σ2 = τ' := congrArg Prod.snd a2
  subst c1
  subst c2
  refine ⟨?_, (a6 hG (ow.1 xo 11 (by rw [hxo]; exact k11)) (ow2.1 mo 24 (by rw [hmo]; exact k24))).post K ow2 h, z, a5⟩
  rw [b1, b2]
  exact Int32.toInt_inj.mp a3
theorem lw_cz {z : Int32} {x y : Int64} (i : (z.toInt < 0 ↔ x.toInt < y.toInt) ∧ (0 < z.toInt ↔ y.toInt < x.toInt)) (e : x = y) : z.toInt = 0 := by
  subst e
  obtain ⟨i1, i2⟩ := i
  have a : ¬ z.toInt < 0 := fun q => absurd (i1.mp q) (Int.lt_irrefl _)
  have b : ¬ 0 < z.toInt := fun q => absurd (i2.mp q) (Int.lt_irrefl _)
  omega
end LA
theorem kl_13 : q_okV RL 13 RX11 yX11_status cX11_status 1 (some .int) 0 := ⟨(q_in_t3 (i := 14) (by first | rfl | decide +kernel) rfl), (q_in_t3 (i := 15) (by first | rfl | decide +kernel) rfl), (q_in_t3 (i := 16) (by first | rfl | decide +kernel) rfl), (q_in_t1 (i := 1) (by first | rfl | decide +kernel) rfl), (q_in_t3 (i := 17) (by first | rfl | decide +kernel) rfl), ⟨rfl, by decide, by decide, rfl⟩⟩
theorem kl_17 : q_okV RL 17 RX12 yX12_status cX12_status 1 (some .int) 0 := ⟨(q_in_t7 (i := 124) (by first | rfl | decide +kernel) rfl), (q_in_t7 (i := 125) (by first | rfl | decide +kernel) rfl), (q_in_t7 (i := 126) (by first | rfl | decide +kernel) rfl), (q_in_t1 (i := 14) (by first | rfl | decide +kernel) rfl), (q_in_t7 (i := 127) (by first | rfl | decide +kernel) rfl), ⟨rfl, by decide, by decide, rfl⟩⟩
theorem kl_18 : q_okV RL 18 RX11 yX11_top cX11_top 1 (some .long) 0 := ⟨(q_in_t3 (i := 18) (by first | rfl | decide +kernel) rfl), (q_in_t3 (i := 19) (by first | rfl | decide +kernel) rfl), (q_in_t3 (i := 20) (by first | rfl | decide +kernel) rfl), (q_in_t1 (i := 1) (by first | rfl | decide +kernel) rfl), (q_in_t3 (i := 21) (by first | rfl | decide +kernel) rfl), ⟨rfl, by decide, by decide, rfl⟩⟩
theorem kl_22 : q_okV RL 22 RX12 yX12_top cX12_top 1 (some .long) 0 := ⟨(q_in_t7 (i := 128) (by first | rfl | decide +kernel) rfl), (q_in_t7 (i := 129) (by first | rfl | decide +kernel) rfl), (q_in_t7 (i := 130) (by first | rfl | decide +kernel) rfl), (q_in_t1 (i := 14) (by first | rfl | decide +kernel) rfl), (q_in_t7 (i := 131) (by first | rfl | decide +kernel) rfl), ⟨rfl, by decide, by decide, rfl⟩⟩
theorem kl_23 : q_okV RL 23 RX11 yX11_bottom cX11_bottom 1 (some .long) 0 := ⟨(q_in_t3 (i := 22) (by first | rfl | decide +kernel) rfl), (q_in_t3 (i := 23) (by first | rfl | decide +kernel) rfl), (q_in_t3 (i := 24) (by first | rfl | decide +kernel) rfl), (q_in_t1 (i := 1) (by first | rfl | decide +kernel) rfl), (q_in_t3 (i := 25) (by first | rfl | decide +kernel) rfl), ⟨rfl, by decide, by decide, rfl⟩⟩
theorem kl_26 : q_okV RL 26 RX12 yX12_bottom cX12_bottom 1 (some .long) 0 := ⟨(q_in_t7 (i := 132) (by first | rfl | decide +kernel) rfl), (q_in_t7 (i := 133) (by first | rfl | decide +kernel) rfl), (q_in_t7 (i := 134) (by first | rfl | decide +kernel) rfl), (q_in_t1 (i := 14) (by first | rfl | decide +kernel) rfl), (q_in_t7 (i := 135) (by first | rfl | decide +kernel) rfl), ⟨rfl, by decide, by decide, rfl⟩⟩
theorem kl_27 : q_okV RL 27 RX11 yX11_tray cX11_tray 5 (some .boolean) 3 := ⟨(q_in_t3 (i := 26) (by first | rfl | decide +kernel) rfl), (q_in_t3 (i := 27) (by first | rfl | decide +kernel) rfl), (q_in_t3 (i := 28) (by first | rfl | decide +kernel) rfl), (q_in_t1 (i := 1) (by first | rfl | decide +kernel) rfl), (q_in_t3 (i := 29) (by first | rfl | decide +kernel) rfl), ⟨rfl, by decide, by decide, rfl⟩⟩
theorem kl_31 : q_okV RL 31 RX12 yX12_tray cX12_tray 5 (some .boolean) 3 := ⟨(q_in_t7 (i := 136) (by first | rfl | decide +kernel) rfl), (q_in_t7 (i := 137) (by first | rfl | decide +kernel) rfl), (q_in_t7 (i := 138) (by first | rfl | decide +kernel) rfl), (q_in_t1 (i := 14) (by first | rfl | decide +kernel) rfl), (q_in_t7 (i := 139) (by first | rfl | decide +kernel) rfl), ⟨rfl, by decide, by decide, rfl⟩⟩
theorem kl_34 : q_okV RL 34 RX11 yX11_write cX11_write 7 (some .boolean) 3 := ⟨(q_in_t3 (i := 50) (by first | rfl | decide +kernel) rfl), (q_in_t3 (i := 51) (by first | rfl | decide +kernel) rfl), (q_in_t3 (i := 52) (by first | rfl | decide +kernel) rfl), (q_in_t1 (i := 1) (by first | rfl | decide +kernel) rfl), (q_in_t3 (i := 53) (by first | rfl | decide +kernel) rfl), ⟨rfl, by decide, by decide, rfl⟩⟩
theorem kl_38 : q_okV RL 38 RX12 yX12_write cX12_write 5 (some .boolean) 3 := ⟨(q_in_t7 (i := 144) (by first | rfl | decide +kernel) rfl), (q_in_t7 (i := 145) (by first | rfl | decide +kernel) rfl), (q_in_t7 (i := 146) (by first | rfl | decide +kernel) rfl), (q_in_t1 (i := 14) (by first | rfl | decide +kernel) rfl), (q_in_t7 (i := 147) (by first | rfl | decide +kernel) rfl), ⟨rfl, by decide, by decide, rfl⟩⟩
theorem kl_39 : q_okV RL 39 RX11 yX11_read cX11_read 5 (some .long) 2 := ⟨(q_in_t3 (i := 73) (by first | rfl | decide +kernel) rfl), (q_in_t3 (i := 74) (by first | rfl | decide +kernel) rfl), (q_in_t3 (i := 75) (by first | rfl | decide +kernel) rfl), (q_in_t1 (i := 1) (by first | rfl | decide +kernel) rfl), (q_in_t3 (i := 76) (by first | rfl | decide +kernel) rfl), ⟨rfl, by decide, by decide, rfl⟩⟩
theorem kl_43 : q_okV RL 43 RX12 yX12_read cX12_read 3 (some .long) 2 := ⟨(q_in_t7 (i := 159) (by first | rfl | decide +kernel) rfl), (q_in_t7 (i := 160) (by first | rfl | decide +kernel) rfl), (q_in_t7 (i := 161) (by first | rfl | decide +kernel) rfl), (q_in_t1 (i := 14) (by first | rfl | decide +kernel) rfl), (q_in_t7 (i := 162) (by first | rfl | decide +kernel) rfl), ⟨rfl, by decide, by decide, rfl⟩⟩
theorem kl_44 : q_okV RL 44 RX11 yX11_pour cX11_pour 8 (some .boolean) 5 := ⟨(q_in_t3 (i := 85) (by first | rfl | decide +kernel) rfl), (q_in_t3 (i := 86) (by first | rfl | decide +kernel) rfl), (q_in_t3 (i := 87) (by first | rfl | decide +kernel) rfl), (q_in_t1 (i := 1) (by first | rfl | decide +kernel) rfl), (q_in_t3 (i := 88) (by first | rfl | decide +kernel) rfl), ⟨rfl, by decide, by decide, rfl⟩⟩
theorem kl_48 : q_okV RL 48 RX12 yX12_pour cX12_pour 9 (some .boolean) 5 := ⟨(q_in_t7 (i := 164) (by first | rfl | decide +kernel) rfl), (q_in_t7 (i := 165) (by first | rfl | decide +kernel) rfl), (q_in_t7 (i := 166) (by first | rfl | decide +kernel) rfl), (q_in_t1 (i := 14) (by first | rfl | decide +kernel) rfl), (q_in_t7 (i := 167) (by first | rfl | decide +kernel) rfl), ⟨rfl, by decide, by decide, rfl⟩⟩
theorem kl_49 : q_okV RL 49 RX11 yX11_feed cX11_feed 6 (some .int) 5 := ⟨(q_in_t3 (i := 97) (by first | rfl | decide +kernel) rfl), (q_in_t3 (i := 98) (by first | rfl | decide +kernel) rfl), (q_in_t3 (i := 99) (by first | rfl | decide +kernel) rfl), (q_in_t1 (i := 1) (by first | rfl | decide +kernel) rfl), (q_in_t3 (i := 100) (by first | rfl | decide +kernel) rfl), ⟨rfl, by decide, by decide, rfl⟩⟩
theorem kl_53 : q_okV RL 53 RX12 yX12_feed cX12_feed 6 (some .int) 5 := ⟨(q_in_t7 (i := 168) (by first | rfl | decide +kernel) rfl), (q_in_t7 (i := 169) (by first | rfl | decide +kernel) rfl), (q_in_t7 (i := 170) (by first | rfl | decide +kernel) rfl), (q_in_t1 (i := 14) (by first | rfl | decide +kernel) rfl), (q_in_t7 (i := 171) (by first | rfl | decide +kernel) rfl), ⟨rfl, by decide, by decide, rfl⟩⟩
theorem kl_54 : q_okV RL 54 RX11 yX11_table cX11_table 3 (some .int) 1 := ⟨(q_in_t3 (i := 105) (by first | rfl | decide +kernel) rfl), (q_in_t3 (i := 106) (by first | rfl | decide +kernel) rfl), (q_in_t3 (i := 107) (by first | rfl | decide +kernel) rfl), (q_in_t1 (i := 1) (by first | rfl | decide +kernel) rfl), (q_in_t3 (i := 108) (by first | rfl | decide +kernel) rfl), ⟨rfl, by decide, by decide, rfl⟩⟩
theorem kl_58 : q_okV RL 58 RX12 yX12_table cX12_table 3 (some .int) 1 := ⟨(q_in_t7 (i := 180) (by first | rfl | decide +kernel) rfl), (q_in_t7 (i := 181) (by first | rfl | decide +kernel) rfl), (q_in_t7 (i := 182) (by first | rfl | decide +kernel) rfl), (q_in_t1 (i := 14) (by first | rfl | decide +kernel) rfl), (q_in_t7 (i := 183) (by first | rfl | decide +kernel) rfl), ⟨rfl, by decide, by decide, rfl⟩⟩
theorem kl_59 : q_okV RL 59 RX11 yX11_round cX11_round 3 (some .int) 1 := ⟨(q_in_t4 (i := 156) (by first | rfl | decide +kernel) rfl), (q_in_t4 (i := 157) (by first | rfl | decide +kernel) rfl), (q_in_t4 (i := 158) (by first | rfl | decide +kernel) rfl), (q_in_t1 (i := 1) (by first | rfl | decide +kernel) rfl), (q_in_t4 (i := 159) (by first | rfl | decide +kernel) rfl), ⟨rfl, by decide, by decide, rfl⟩⟩
theorem kl_62 : q_okV RL 62 RX12 yX12_round cX12_round 3 (some .int) 1 := ⟨(q_in_t8 (i := 95) (by first | rfl | decide +kernel) rfl), (q_in_t8 (i := 96) (by first | rfl | decide +kernel) rfl), (q_in_t8 (i := 97) (by first | rfl | decide +kernel) rfl), (q_in_t1 (i := 14) (by first | rfl | decide +kernel) rfl), (q_in_t8 (i := 98) (by first | rfl | decide +kernel) rfl), ⟨rfl, by decide, by decide, rfl⟩⟩
theorem kl_63 : q_okV RL 63 RX11 yX11_fault cX11_fault 2 (some .int) 1 := ⟨(q_in_t5 (i := 2) (by first | rfl | decide +kernel) rfl), (q_in_t5 (i := 3) (by first | rfl | decide +kernel) rfl), (q_in_t5 (i := 4) (by first | rfl | decide +kernel) rfl), (q_in_t1 (i := 1) (by first | rfl | decide +kernel) rfl), (q_in_t5 (i := 5) (by first | rfl | decide +kernel) rfl), ⟨rfl, by decide, by decide, rfl⟩⟩
theorem kl_66 : q_okV RL 66 RX12 yX12_fault cX12_fault 2 (some .int) 1 := ⟨(q_in_t7 (i := 176) (by first | rfl | decide +kernel) rfl), (q_in_t7 (i := 177) (by first | rfl | decide +kernel) rfl), (q_in_t7 (i := 178) (by first | rfl | decide +kernel) rfl), (q_in_t1 (i := 14) (by first | rfl | decide +kernel) rfl), (q_in_t7 (i := 179) (by first | rfl | decide +kernel) rfl), ⟨rfl, by decide, by decide, rfl⟩⟩
theorem kl_67 : q_okV RL 67 RX11 yX11_many cX11_many 3 (some .int) 1 := ⟨(q_in_t5 (i := 6) (by first | rfl | decide +kernel) rfl), (q_in_t5 (i := 7) (by first | rfl | decide +kernel) rfl), (q_in_t5 (i := 8) (by first | rfl | decide +kernel) rfl), (q_in_t1 (i := 1) (by first | rfl | decide +kernel) rfl), (q_in_t5 (i := 9) (by first | rfl | decide +kernel) rfl), ⟨rfl, by decide, by decide, rfl⟩⟩
theorem kl_70 : q_okV RL 70 RX12 yX12_many cX12_many 2 (some .int) 1 := ⟨(q_in_t8 (i := 111) (by first | rfl | decide +kernel) rfl), (q_in_t8 (i := 112) (by first | rfl | decide +kernel) rfl), (q_in_t8 (i := 113) (by first | rfl | decide +kernel) rfl), (q_in_t1 (i := 14) (by first | rfl | decide +kernel) rfl), (q_in_t8 (i := 114) (by first | rfl | decide +kernel) rfl), ⟨rfl, by decide, by decide, rfl⟩⟩
theorem kl_71 : q_okV RL 71 RX11 yX11_player cX11_player 4 (some .int) 2 := ⟨(q_in_t5 (i := 10) (by first | rfl | decide +kernel) rfl), (q_in_t5 (i := 11) (by first | rfl | decide +kernel) rfl), (q_in_t5 (i := 12) (by first | rfl | decide +kernel) rfl), (q_in_t1 (i := 1) (by first | rfl | decide +kernel) rfl), (q_in_t5 (i := 13) (by first | rfl | decide +kernel) rfl), ⟨rfl, by decide, by decide, rfl⟩⟩
theorem kl_75 : q_okV RL 75 RX12 yX12_player cX12_player 3 (some .int) 2 := ⟨(q_in_t8 (i := 127) (by first | rfl | decide +kernel) rfl), (q_in_t8 (i := 128) (by first | rfl | decide +kernel) rfl), (q_in_t8 (i := 129) (by first | rfl | decide +kernel) rfl), (q_in_t1 (i := 14) (by first | rfl | decide +kernel) rfl), (q_in_t8 (i := 130) (by first | rfl | decide +kernel) rfl), ⟨rfl, by decide, by decide, rfl⟩⟩
theorem kl_76 : q_okV RL 76 RX11 yX11_hand cX11_hand 3 (some .int) 2 := ⟨(q_in_t5 (i := 28) (by first | rfl | decide +kernel) rfl), (q_in_t5 (i := 29) (by first | rfl | decide +kernel) rfl), (q_in_t5 (i := 30) (by first | rfl | decide +kernel) rfl), (q_in_t1 (i := 1) (by first | rfl | decide +kernel) rfl), (q_in_t5 (i := 31) (by first | rfl | decide +kernel) rfl), ⟨rfl, by decide, by decide, rfl⟩⟩
theorem kl_79 : q_okV RL 79 RX12 yX12_hand cX12_hand 3 (some .int) 2 := ⟨(q_in_t8 (i := 147) (by first | rfl | decide +kernel) rfl), (q_in_t8 (i := 148) (by first | rfl | decide +kernel) rfl), (q_in_t8 (i := 149) (by first | rfl | decide +kernel) rfl), (q_in_t1 (i := 14) (by first | rfl | decide +kernel) rfl), (q_in_t8 (i := 150) (by first | rfl | decide +kernel) rfl), ⟨rfl, by decide, by decide, rfl⟩⟩
theorem kl_80 : q_okV RL 80 RX11 yX11_inGame cX11_inGame 2 (some .int) 1 := ⟨(q_in_t5 (i := 41) (by first | rfl | decide +kernel) rfl), (q_in_t5 (i := 42) (by first | rfl | decide +kernel) rfl), (q_in_t5 (i := 43) (by first | rfl | decide +kernel) rfl), (q_in_t1 (i := 1) (by first | rfl | decide +kernel) rfl), (q_in_t5 (i := 44) (by first | rfl | decide +kernel) rfl), ⟨rfl, by decide, by decide, rfl⟩⟩
theorem kl_83 : q_okV RL 83 RX12 yX12_inGame cX12_inGame 2 (some .int) 1 := ⟨(q_in_t8 (i := 155) (by first | rfl | decide +kernel) rfl), (q_in_t8 (i := 156) (by first | rfl | decide +kernel) rfl), (q_in_t8 (i := 157) (by first | rfl | decide +kernel) rfl), (q_in_t1 (i := 14) (by first | rfl | decide +kernel) rfl), (q_in_t8 (i := 158) (by first | rfl | decide +kernel) rfl), ⟨rfl, by decide, by decide, rfl⟩⟩
theorem kl_84 : q_okV RL 84 RX11 yX11_laying cX11_laying 4 (some .int) 2 := ⟨(q_in_t5 (i := 45) (by first | rfl | decide +kernel) rfl), (q_in_t5 (i := 46) (by first | rfl | decide +kernel) rfl), (q_in_t5 (i := 47) (by first | rfl | decide +kernel) rfl), (q_in_t1 (i := 1) (by first | rfl | decide +kernel) rfl), (q_in_t5 (i := 48) (by first | rfl | decide +kernel) rfl), ⟨rfl, by decide, by decide, rfl⟩⟩
theorem kl_87 : q_okV RL 87 RX12 yX12_laying cX12_laying 3 (some .int) 2 := ⟨(q_in_t8 (i := 163) (by first | rfl | decide +kernel) rfl), (q_in_t8 (i := 164) (by first | rfl | decide +kernel) rfl), (q_in_t8 (i := 165) (by first | rfl | decide +kernel) rfl), (q_in_t1 (i := 14) (by first | rfl | decide +kernel) rfl), (q_in_t8 (i := 166) (by first | rfl | decide +kernel) rfl), ⟨rfl, by decide, by decide, rfl⟩⟩
theorem kl_88 : q_okV RL 88 RX11 yX11_cardOf cX11_cardOf 4 (some .int) 2 := ⟨(q_in_t5 (i := 54) (by first | rfl | decide +kernel) rfl), (q_in_t5 (i := 55) (by first | rfl | decide +kernel) rfl), (q_in_t5 (i := 56) (by first | rfl | decide +kernel) rfl), (q_in_t1 (i := 1) (by first | rfl | decide +kernel) rfl), (q_in_t5 (i := 57) (by first | rfl | decide +kernel) rfl), ⟨rfl, by decide, by decide, rfl⟩⟩
theorem kl_91 : q_okV RL 91 RX12 yX12_cardOf cX12_cardOf 3 (some .int) 2 := ⟨(q_in_t8 (i := 172) (by first | rfl | decide +kernel) rfl), (q_in_t8 (i := 173) (by first | rfl | decide +kernel) rfl), (q_in_t8 (i := 174) (by first | rfl | decide +kernel) rfl), (q_in_t1 (i := 14) (by first | rfl | decide +kernel) rfl), (q_in_t8 (i := 175) (by first | rfl | decide +kernel) rfl), ⟨rfl, by decide, by decide, rfl⟩⟩
theorem kl_92 : q_okV RL 92 RX11 yX11_copyHand cX11_copyHand 6 (some .int) 2 := ⟨(q_in_t5 (i := 62) (by first | rfl | decide +kernel) rfl), (q_in_t5 (i := 63) (by first | rfl | decide +kernel) rfl), (q_in_t5 (i := 64) (by first | rfl | decide +kernel) rfl), (q_in_t1 (i := 1) (by first | rfl | decide +kernel) rfl), (q_in_t5 (i := 65) (by first | rfl | decide +kernel) rfl), ⟨rfl, by decide, by decide, rfl⟩⟩
theorem kl_95 : q_okV RL 95 RX12 yX12_copyHand cX12_copyHand 4 (some .int) 2 := ⟨(q_in_t8 (i := 176) (by first | rfl | decide +kernel) rfl), (q_in_t8 (i := 177) (by first | rfl | decide +kernel) rfl), (q_in_t8 (i := 178) (by first | rfl | decide +kernel) rfl), (q_in_t1 (i := 14) (by first | rfl | decide +kernel) rfl), (q_in_t8 (i := 179) (by first | rfl | decide +kernel) rfl), ⟨rfl, by decide, by decide, rfl⟩⟩
theorem kl_96 : q_okV RL 96 RX11 yX11_lay cX11_lay 5 (some .int) 4 := ⟨(q_in_t5 (i := 66) (by first | rfl | decide +kernel) rfl), (q_in_t5 (i := 67) (by first | rfl | decide +kernel) rfl), (q_in_t5 (i := 68) (by first | rfl | decide +kernel) rfl), (q_in_t1 (i := 1) (by first | rfl | decide +kernel) rfl), (q_in_t5 (i := 69) (by first | rfl | decide +kernel) rfl), ⟨rfl, by decide, by decide, rfl⟩⟩
theorem kl_100 : q_okV RL 100 RX12 yX12_lay cX12_lay 9 (some .int) 4 := ⟨(q_in_t8 (i := 184) (by first | rfl | decide +kernel) rfl), (q_in_t8 (i := 185) (by first | rfl | decide +kernel) rfl), (q_in_t8 (i := 186) (by first | rfl | decide +kernel) rfl), (q_in_t1 (i := 14) (by first | rfl | decide +kernel) rfl), (q_in_t8 (i := 187) (by first | rfl | decide +kernel) rfl), ⟨rfl, by decide, by decide, rfl⟩⟩
theorem kl_101 : q_okV RL 101 RX11 yX11_leave cX11_leave 1 (some .int) 0 := ⟨(q_in_t5 (i := 109) (by first | rfl | decide +kernel) rfl), (q_in_t5 (i := 110) (by first | rfl | decide +kernel) rfl), (q_in_t5 (i := 111) (by first | rfl | decide +kernel) rfl), (q_in_t1 (i := 1) (by first | rfl | decide +kernel) rfl), (q_in_t5 (i := 112) (by first | rfl | decide +kernel) rfl), ⟨rfl, by decide, by decide, rfl⟩⟩
theorem kl_104 : q_okV RL 104 RX12 yX12_leave cX12_leave 1 (some .int) 0 := ⟨(q_in_t8 (i := 192) (by first | rfl | decide +kernel) rfl), (q_in_t8 (i := 193) (by first | rfl | decide +kernel) rfl), (q_in_t8 (i := 194) (by first | rfl | decide +kernel) rfl), (q_in_t1 (i := 14) (by first | rfl | decide +kernel) rfl), (q_in_t8 (i := 195) (by first | rfl | decide +kernel) rfl), ⟨rfl, by decide, by decide, rfl⟩⟩
theorem kl_105 : q_okV RL 105 RX11 yX11_doubt cX11_doubt 3 (some .int) 1 := ⟨(q_in_t5 (i := 132) (by first | rfl | decide +kernel) rfl), (q_in_t5 (i := 133) (by first | rfl | decide +kernel) rfl), (q_in_t5 (i := 134) (by first | rfl | decide +kernel) rfl), (q_in_t1 (i := 1) (by first | rfl | decide +kernel) rfl), (q_in_t5 (i := 135) (by first | rfl | decide +kernel) rfl), ⟨rfl, by decide, by decide, rfl⟩⟩
theorem kl_108 : q_okV RL 108 RX12 yX12_doubt cX12_doubt 2 (some .int) 1 := ⟨(q_in_t8 (i := 208) (by first | rfl | decide +kernel) rfl), (q_in_t8 (i := 209) (by first | rfl | decide +kernel) rfl), (q_in_t8 (i := 210) (by first | rfl | decide +kernel) rfl), (q_in_t1 (i := 14) (by first | rfl | decide +kernel) rfl), (q_in_t8 (i := 211) (by first | rfl | decide +kernel) rfl), ⟨rfl, by decide, by decide, rfl⟩⟩
theorem kl_109 : q_okV RL 109 RX11 yX11_bend cX11_bend 4 (some .boolean) 3 := ⟨(q_in_t5 (i := 161) (by first | rfl | decide +kernel) rfl), (q_in_t5 (i := 162) (by first | rfl | decide +kernel) rfl), (q_in_t5 (i := 163) (by first | rfl | decide +kernel) rfl), (q_in_t1 (i := 1) (by first | rfl | decide +kernel) rfl), (q_in_t5 (i := 164) (by first | rfl | decide +kernel) rfl), ⟨rfl, by decide, by decide, rfl⟩⟩
theorem kl_112 : q_okV RL 112 RX12 yX12_bend cX12_bend 4 (some .boolean) 3 := ⟨(q_in_t8 (i := 220) (by first | rfl | decide +kernel) rfl), (q_in_t8 (i := 221) (by first | rfl | decide +kernel) rfl), (q_in_t8 (i := 222) (by first | rfl | decide +kernel) rfl), (q_in_t1 (i := 14) (by first | rfl | decide +kernel) rfl), (q_in_t8 (i := 223) (by first | rfl | decide +kernel) rfl), ⟨rfl, by decide, by decide, rfl⟩⟩
theorem kl_113 : q_okV RL 113 RX11 yX11_known cX11_known 3 (some .int) 2 := ⟨(q_in_t5 (i := 169) (by first | rfl | decide +kernel) rfl), (q_in_t5 (i := 170) (by first | rfl | decide +kernel) rfl), (q_in_t5 (i := 171) (by first | rfl | decide +kernel) rfl), (q_in_t1 (i := 1) (by first | rfl | decide +kernel) rfl), (q_in_t5 (i := 172) (by first | rfl | decide +kernel) rfl), ⟨rfl, by decide, by decide, rfl⟩⟩
theorem kl_116 : q_okV RL 116 RX12 yX12_known cX12_known 3 (some .int) 2 := ⟨(q_in_t8 (i := 225) (by first | rfl | decide +kernel) rfl), (q_in_t8 (i := 226) (by first | rfl | decide +kernel) rfl), (q_in_t8 (i := 227) (by first | rfl | decide +kernel) rfl), (q_in_t1 (i := 14) (by first | rfl | decide +kernel) rfl), (q_in_t8 (i := 228) (by first | rfl | decide +kernel) rfl), ⟨rfl, by decide, by decide, rfl⟩⟩
theorem kl_117 : q_okV RL 117 RX11 yX11_unknown cX11_unknown 3 (some .int) 2 := ⟨(q_in_t5 (i := 177) (by first | rfl | decide +kernel) rfl), (q_in_t5 (i := 178) (by first | rfl | decide +kernel) rfl), (q_in_t5 (i := 179) (by first | rfl | decide +kernel) rfl), (q_in_t1 (i := 1) (by first | rfl | decide +kernel) rfl), (q_in_t5 (i := 180) (by first | rfl | decide +kernel) rfl), ⟨rfl, by decide, by decide, rfl⟩⟩
theorem kl_120 : q_okV RL 120 RX12 yX12_unknown cX12_unknown 3 (some .int) 2 := ⟨(q_in_t8 (i := 233) (by first | rfl | decide +kernel) rfl), (q_in_t8 (i := 234) (by first | rfl | decide +kernel) rfl), (q_in_t8 (i := 235) (by first | rfl | decide +kernel) rfl), (q_in_t1 (i := 14) (by first | rfl | decide +kernel) rfl), (q_in_t8 (i := 236) (by first | rfl | decide +kernel) rfl), ⟨rfl, by decide, by decide, rfl⟩⟩
theorem kl_121 : q_okV RL 121 RX11 yX11_impossible cX11_impossible 3 (some .int) 1 := ⟨(q_in_t5 (i := 191) (by first | rfl | decide +kernel) rfl), (q_in_t5 (i := 192) (by first | rfl | decide +kernel) rfl), (q_in_t5 (i := 193) (by first | rfl | decide +kernel) rfl), (q_in_t1 (i := 1) (by first | rfl | decide +kernel) rfl), (q_in_t5 (i := 194) (by first | rfl | decide +kernel) rfl), ⟨rfl, by decide, by decide, rfl⟩⟩
theorem kl_124 : q_okV RL 124 RX12 yX12_impossible cX12_impossible 2 (some .int) 1 := ⟨(q_in_t9 (i := 5) (by first | rfl | decide +kernel) rfl), (q_in_t9 (i := 6) (by first | rfl | decide +kernel) rfl), (q_in_t9 (i := 7) (by first | rfl | decide +kernel) rfl), (q_in_t1 (i := 14) (by first | rfl | decide +kernel) rfl), (q_in_t9 (i := 8) (by first | rfl | decide +kernel) rfl), ⟨rfl, by decide, by decide, rfl⟩⟩
theorem kl_125 : q_okV RL 125 RX11 yX11_blind cX11_blind 3 (some .boolean) 1 := ⟨(q_in_t5 (i := 203) (by first | rfl | decide +kernel) rfl), (q_in_t5 (i := 204) (by first | rfl | decide +kernel) rfl), (q_in_t5 (i := 205) (by first | rfl | decide +kernel) rfl), (q_in_t1 (i := 1) (by first | rfl | decide +kernel) rfl), (q_in_t5 (i := 206) (by first | rfl | decide +kernel) rfl), ⟨rfl, by decide, by decide, rfl⟩⟩
theorem kl_129 : q_okV RL 129 RX12 yX12_blind cX12_blind 2 (some .boolean) 1 := ⟨(q_in_t9 (i := 17) (by first | rfl | decide +kernel) rfl), (q_in_t9 (i := 18) (by first | rfl | decide +kernel) rfl), (q_in_t9 (i := 19) (by first | rfl | decide +kernel) rfl), (q_in_t1 (i := 14) (by first | rfl | decide +kernel) rfl), (q_in_t9 (i := 20) (by first | rfl | decide +kernel) rfl), ⟨rfl, by decide, by decide, rfl⟩⟩
theorem kl_130 : q_okV RL 130 RX11 yX11_honest cX11_honest 2 (some .boolean) 1 := ⟨(q_in_t5 (i := 229) (by first | rfl | decide +kernel) rfl), (q_in_t5 (i := 230) (by first | rfl | decide +kernel) rfl), (q_in_t5 (i := 231) (by first | rfl | decide +kernel) rfl), (q_in_t1 (i := 1) (by first | rfl | decide +kernel) rfl), (q_in_t5 (i := 232) (by first | rfl | decide +kernel) rfl), ⟨rfl, by decide, by decide, rfl⟩⟩
theorem kl_133 : q_okV RL 133 RX12 yX12_honest cX12_honest 2 (some .boolean) 1 := ⟨(q_in_t9 (i := 33) (by first | rfl | decide +kernel) rfl), (q_in_t9 (i := 34) (by first | rfl | decide +kernel) rfl), (q_in_t9 (i := 35) (by first | rfl | decide +kernel) rfl), (q_in_t1 (i := 14) (by first | rfl | decide +kernel) rfl), (q_in_t9 (i := 36) (by first | rfl | decide +kernel) rfl), ⟨rfl, by decide, by decide, rfl⟩⟩
theorem kl_134 : q_okV RL 134 RX11 yX11_belief cX11_belief 11 (some .boolean) 1 := ⟨(q_in_t6 (i := 2) (by first | rfl | decide +kernel) rfl), (q_in_t6 (i := 3) (by first | rfl | decide +kernel) rfl), (q_in_t6 (i := 4) (by first | rfl | decide +kernel) rfl), (q_in_t1 (i := 1) (by first | rfl | decide +kernel) rfl), (q_in_t6 (i := 5) (by first | rfl | decide +kernel) rfl), ⟨rfl, by decide, by decide, rfl⟩⟩
theorem kl_137 : q_okV RL 137 RX12 yX12_belief cX12_belief 7 (some .boolean) 1 := ⟨(q_in_t9 (i := 37) (by first | rfl | decide +kernel) rfl), (q_in_t9 (i := 38) (by first | rfl | decide +kernel) rfl), (q_in_t9 (i := 39) (by first | rfl | decide +kernel) rfl), (q_in_t1 (i := 14) (by first | rfl | decide +kernel) rfl), (q_in_t9 (i := 40) (by first | rfl | decide +kernel) rfl), ⟨rfl, by decide, by decide, rfl⟩⟩
theorem kl_138 : q_okV RL 138 RX11 yX11_worth cX11_worth 3 (some .boolean) 1 := ⟨(q_in_t6 (i := 6) (by first | rfl | decide +kernel) rfl), (q_in_t6 (i := 7) (by first | rfl | decide +kernel) rfl), (q_in_t6 (i := 8) (by first | rfl | decide +kernel) rfl), (q_in_t1 (i := 1) (by first | rfl | decide +kernel) rfl), (q_in_t6 (i := 9) (by first | rfl | decide +kernel) rfl), ⟨rfl, by decide, by decide, rfl⟩⟩
theorem kl_141 : q_okV RL 141 RX12 yX12_worth cX12_worth 2 (some .boolean) 1 := ⟨(q_in_t9 (i := 41) (by first | rfl | decide +kernel) rfl), (q_in_t9 (i := 42) (by first | rfl | decide +kernel) rfl), (q_in_t9 (i := 43) (by first | rfl | decide +kernel) rfl), (q_in_t1 (i := 14) (by first | rfl | decide +kernel) rfl), (q_in_t9 (i := 44) (by first | rfl | decide +kernel) rfl), ⟨rfl, by decide, by decide, rfl⟩⟩
theorem kl_142 : q_okV RL 142 RX11 yX11_ready cX11_ready 5 (some .int) 0 := ⟨(q_in_t6 (i := 17) (by first | rfl | decide +kernel) rfl), (q_in_t6 (i := 18) (by first | rfl | decide +kernel) rfl), (q_in_t6 (i := 19) (by first | rfl | decide +kernel) rfl), (q_in_t1 (i := 1) (by first | rfl | decide +kernel) rfl), (q_in_t6 (i := 20) (by first | rfl | decide +kernel) rfl), ⟨rfl, by decide, by decide, rfl⟩⟩
theorem kl_145 : q_okV RL 145 RX12 yX12_ready cX12_ready 9 (some .int) 0 := ⟨(q_in_t9 (i := 46) (by first | rfl | decide +kernel) rfl), (q_in_t9 (i := 47) (by first | rfl | decide +kernel) rfl), (q_in_t9 (i := 48) (by first | rfl | decide +kernel) rfl), (q_in_t1 (i := 14) (by first | rfl | decide +kernel) rfl), (q_in_t9 (i := 49) (by first | rfl | decide +kernel) rfl), ⟨rfl, by decide, by decide, rfl⟩⟩
theorem kl_146 : q_okV RL 146 RX11 yX11_heap cX11_heap 9 (some .boolean) 2 := ⟨(q_in_t6 (i := 22) (by first | rfl | decide +kernel) rfl), (q_in_t6 (i := 23) (by first | rfl | decide +kernel) rfl), (q_in_t6 (i := 24) (by first | rfl | decide +kernel) rfl), (q_in_t1 (i := 1) (by first | rfl | decide +kernel) rfl), (q_in_t6 (i := 25) (by first | rfl | decide +kernel) rfl), ⟨rfl, by decide, by decide, rfl⟩⟩
theorem kl_150 : q_okV RL 150 RX12 yX12_heap cX12_heap 9 (some .boolean) 2 := ⟨(q_in_t9 (i := 50) (by first | rfl | decide +kernel) rfl), (q_in_t9 (i := 51) (by first | rfl | decide +kernel) rfl), (q_in_t9 (i := 52) (by first | rfl | decide +kernel) rfl), (q_in_t1 (i := 14) (by first | rfl | decide +kernel) rfl), (q_in_t9 (i := 53) (by first | rfl | decide +kernel) rfl), ⟨rfl, by decide, by decide, rfl⟩⟩
theorem kl_151 : q_okV RL 151 RX11 yX11_said cX11_said 3 (some .int) 2 := ⟨(q_in_t6 (i := 27) (by first | rfl | decide +kernel) rfl), (q_in_t6 (i := 28) (by first | rfl | decide +kernel) rfl), (q_in_t6 (i := 29) (by first | rfl | decide +kernel) rfl), (q_in_t1 (i := 1) (by first | rfl | decide +kernel) rfl), (q_in_t6 (i := 30) (by first | rfl | decide +kernel) rfl), ⟨rfl, by decide, by decide, rfl⟩⟩
theorem kl_154 : q_okV RL 154 RX12 yX12_said cX12_said 5 (some .int) 2 := ⟨(q_in_t9 (i := 54) (by first | rfl | decide +kernel) rfl), (q_in_t9 (i := 55) (by first | rfl | decide +kernel) rfl), (q_in_t9 (i := 56) (by first | rfl | decide +kernel) rfl), (q_in_t1 (i := 14) (by first | rfl | decide +kernel) rfl), (q_in_t9 (i := 57) (by first | rfl | decide +kernel) rfl), ⟨rfl, by decide, by decide, rfl⟩⟩
theorem kl_155 : q_okV RL 155 RX11 yX11_waits cX11_waits 2 (some .int) 1 := ⟨(q_in_t6 (i := 35) (by first | rfl | decide +kernel) rfl), (q_in_t6 (i := 36) (by first | rfl | decide +kernel) rfl), (q_in_t6 (i := 37) (by first | rfl | decide +kernel) rfl), (q_in_t1 (i := 1) (by first | rfl | decide +kernel) rfl), (q_in_t6 (i := 38) (by first | rfl | decide +kernel) rfl), ⟨rfl, by decide, by decide, rfl⟩⟩
theorem kl_158 : q_okV RL 158 RX12 yX12_waits cX12_waits 2 (some .int) 1 := ⟨(q_in_t9 (i := 58) (by first | rfl | decide +kernel) rfl), (q_in_t9 (i := 59) (by first | rfl | decide +kernel) rfl), (q_in_t9 (i := 60) (by first | rfl | decide +kernel) rfl), (q_in_t1 (i := 14) (by first | rfl | decide +kernel) rfl), (q_in_t9 (i := 61) (by first | rfl | decide +kernel) rfl), ⟨rfl, by decide, by decide, rfl⟩⟩
theorem kl_159 : q_okV RL 159 RX11 yX11_falls cX11_falls 4 (some .int) 2 := ⟨(q_in_t6 (i := 43) (by first | rfl | decide +kernel) rfl), (q_in_t6 (i := 44) (by first | rfl | decide +kernel) rfl), (q_in_t6 (i := 45) (by first | rfl | decide +kernel) rfl), (q_in_t1 (i := 1) (by first | rfl | decide +kernel) rfl), (q_in_t6 (i := 46) (by first | rfl | decide +kernel) rfl), ⟨rfl, by decide, by decide, rfl⟩⟩
theorem kl_162 : q_okV RL 162 RX12 yX12_falls cX12_falls 3 (some .int) 2 := ⟨(q_in_t9 (i := 66) (by first | rfl | decide +kernel) rfl), (q_in_t9 (i := 67) (by first | rfl | decide +kernel) rfl), (q_in_t9 (i := 68) (by first | rfl | decide +kernel) rfl), (q_in_t1 (i := 14) (by first | rfl | decide +kernel) rfl), (q_in_t9 (i := 69) (by first | rfl | decide +kernel) rfl), ⟨rfl, by decide, by decide, rfl⟩⟩
theorem kl_163 : q_okV RL 163 RX11 yX11_honestly cX11_honestly 4 (some .int) 2 := ⟨(q_in_t6 (i := 56) (by first | rfl | decide +kernel) rfl), (q_in_t6 (i := 57) (by first | rfl | decide +kernel) rfl), (q_in_t6 (i := 58) (by first | rfl | decide +kernel) rfl), (q_in_t1 (i := 1) (by first | rfl | decide +kernel) rfl), (q_in_t6 (i := 59) (by first | rfl | decide +kernel) rfl), ⟨rfl, by decide, by decide, rfl⟩⟩
theorem kl_166 : q_okV RL 166 RX12 yX12_honestly cX12_honestly 3 (some .int) 2 := ⟨(q_in_t9 (i := 75) (by first | rfl | decide +kernel) rfl), (q_in_t9 (i := 76) (by first | rfl | decide +kernel) rfl), (q_in_t9 (i := 77) (by first | rfl | decide +kernel) rfl), (q_in_t1 (i := 14) (by first | rfl | decide +kernel) rfl), (q_in_t9 (i := 78) (by first | rfl | decide +kernel) rfl), ⟨rfl, by decide, by decide, rfl⟩⟩
theorem kl_167 : q_okV RL 167 RX11 yX11_rid cX11_rid 2 (some .int) 1 := ⟨(q_in_t6 (i := 67) (by first | rfl | decide +kernel) rfl), (q_in_t6 (i := 68) (by first | rfl | decide +kernel) rfl), (q_in_t6 (i := 69) (by first | rfl | decide +kernel) rfl), (q_in_t1 (i := 1) (by first | rfl | decide +kernel) rfl), (q_in_t6 (i := 70) (by first | rfl | decide +kernel) rfl), ⟨rfl, by decide, by decide, rfl⟩⟩
theorem kl_170 : q_okV RL 170 RX12 yX12_rid cX12_rid 3 (some .int) 1 := ⟨(q_in_t9 (i := 84) (by first | rfl | decide +kernel) rfl), (q_in_t9 (i := 85) (by first | rfl | decide +kernel) rfl), (q_in_t9 (i := 86) (by first | rfl | decide +kernel) rfl), (q_in_t1 (i := 14) (by first | rfl | decide +kernel) rfl), (q_in_t9 (i := 87) (by first | rfl | decide +kernel) rfl), ⟨rfl, by decide, by decide, rfl⟩⟩
theorem kl_171 : q_okV RL 171 RX11 yX11_lastKind cX11_lastKind 2 (some .int) 1 := ⟨(q_in_t6 (i := 75) (by first | rfl | decide +kernel) rfl), (q_in_t6 (i := 76) (by first | rfl | decide +kernel) rfl), (q_in_t6 (i := 77) (by first | rfl | decide +kernel) rfl), (q_in_t1 (i := 1) (by first | rfl | decide +kernel) rfl), (q_in_t6 (i := 78) (by first | rfl | decide +kernel) rfl), ⟨rfl, by decide, by decide, rfl⟩⟩
theorem kl_174 : q_okV RL 174 RX12 yX12_lastKind cX12_lastKind 2 (some .int) 1 := ⟨(q_in_t9 (i := 92) (by first | rfl | decide +kernel) rfl), (q_in_t9 (i := 93) (by first | rfl | decide +kernel) rfl), (q_in_t9 (i := 94) (by first | rfl | decide +kernel) rfl), (q_in_t1 (i := 14) (by first | rfl | decide +kernel) rfl), (q_in_t9 (i := 95) (by first | rfl | decide +kernel) rfl), ⟨rfl, by decide, by decide, rfl⟩⟩
theorem kl_175 : q_okV RL 175 RX11 yX11_mustLie cX11_mustLie 2 (some .int) 1 := ⟨(q_in_t6 (i := 79) (by first | rfl | decide +kernel) rfl), (q_in_t6 (i := 80) (by first | rfl | decide +kernel) rfl), (q_in_t6 (i := 81) (by first | rfl | decide +kernel) rfl), (q_in_t1 (i := 1) (by first | rfl | decide +kernel) rfl), (q_in_t6 (i := 82) (by first | rfl | decide +kernel) rfl), ⟨rfl, by decide, by decide, rfl⟩⟩
theorem kl_178 : q_okV RL 178 RX12 yX12_mustLie cX12_mustLie 2 (some .int) 1 := ⟨(q_in_t9 (i := 96) (by first | rfl | decide +kernel) rfl), (q_in_t9 (i := 97) (by first | rfl | decide +kernel) rfl), (q_in_t9 (i := 98) (by first | rfl | decide +kernel) rfl), (q_in_t1 (i := 14) (by first | rfl | decide +kernel) rfl), (q_in_t9 (i := 99) (by first | rfl | decide +kernel) rfl), ⟨rfl, by decide, by decide, rfl⟩⟩
theorem kl_179 : q_okV RL 179 RX11 yX11_soonest cX11_soonest 4 (some .int) 0 := ⟨(q_in_t6 (i := 83) (by first | rfl | decide +kernel) rfl), (q_in_t6 (i := 84) (by first | rfl | decide +kernel) rfl), (q_in_t6 (i := 85) (by first | rfl | decide +kernel) rfl), (q_in_t1 (i := 1) (by first | rfl | decide +kernel) rfl), (q_in_t6 (i := 86) (by first | rfl | decide +kernel) rfl), ⟨rfl, by decide, by decide, rfl⟩⟩
theorem kl_182 : q_okV RL 182 RX12 yX12_soonest cX12_soonest 5 (some .int) 0 := ⟨(q_in_t9 (i := 100) (by first | rfl | decide +kernel) rfl), (q_in_t9 (i := 101) (by first | rfl | decide +kernel) rfl), (q_in_t9 (i := 102) (by first | rfl | decide +kernel) rfl), (q_in_t1 (i := 14) (by first | rfl | decide +kernel) rfl), (q_in_t9 (i := 103) (by first | rfl | decide +kernel) rfl), ⟨rfl, by decide, by decide, rfl⟩⟩
theorem kl_183 : q_okV RL 183 RX11 yX11_best cX11_best 11 (some .int) 2 := ⟨(q_in_t6 (i := 87) (by first | rfl | decide +kernel) rfl), (q_in_t6 (i := 88) (by first | rfl | decide +kernel) rfl), (q_in_t6 (i := 89) (by first | rfl | decide +kernel) rfl), (q_in_t1 (i := 1) (by first | rfl | decide +kernel) rfl), (q_in_t6 (i := 90) (by first | rfl | decide +kernel) rfl), ⟨rfl, by decide, by decide, rfl⟩⟩
theorem kl_186 : q_okV RL 186 RX12 yX12_best cX12_best 13 (some .int) 2 := ⟨(q_in_t9 (i := 104) (by first | rfl | decide +kernel) rfl), (q_in_t9 (i := 105) (by first | rfl | decide +kernel) rfl), (q_in_t9 (i := 106) (by first | rfl | decide +kernel) rfl), (q_in_t1 (i := 14) (by first | rfl | decide +kernel) rfl), (q_in_t9 (i := 107) (by first | rfl | decide +kernel) rfl), ⟨rfl, by decide, by decide, rfl⟩⟩
theorem kl_187 : q_okV RL 187 RX11 yX11_sayer cX11_sayer 4 (some .int) 1 := ⟨(q_in_t6 (i := 97) (by first | rfl | decide +kernel) rfl), (q_in_t6 (i := 98) (by first | rfl | decide +kernel) rfl), (q_in_t6 (i := 99) (by first | rfl | decide +kernel) rfl), (q_in_t1 (i := 1) (by first | rfl | decide +kernel) rfl), (q_in_t6 (i := 100) (by first | rfl | decide +kernel) rfl), ⟨rfl, by decide, by decide, rfl⟩⟩
theorem kl_190 : q_okV RL 190 RX12 yX12_sayer cX12_sayer 4 (some .int) 1 := ⟨(q_in_t9 (i := 108) (by first | rfl | decide +kernel) rfl), (q_in_t9 (i := 109) (by first | rfl | decide +kernel) rfl), (q_in_t9 (i := 110) (by first | rfl | decide +kernel) rfl), (q_in_t1 (i := 14) (by first | rfl | decide +kernel) rfl), (q_in_t9 (i := 111) (by first | rfl | decide +kernel) rfl), ⟨rfl, by decide, by decide, rfl⟩⟩
theorem kl_191 : q_okV RL 191 RX11 yX11_has cX11_has 4 (some .int) 1 := ⟨(q_in_t6 (i := 102) (by first | rfl | decide +kernel) rfl), (q_in_t6 (i := 103) (by first | rfl | decide +kernel) rfl), (q_in_t6 (i := 104) (by first | rfl | decide +kernel) rfl), (q_in_t1 (i := 1) (by first | rfl | decide +kernel) rfl), (q_in_t6 (i := 105) (by first | rfl | decide +kernel) rfl), ⟨rfl, by decide, by decide, rfl⟩⟩
theorem kl_194 : q_okV RL 194 RX12 yX12_has cX12_has 4 (some .int) 1 := ⟨(q_in_t9 (i := 112) (by first | rfl | decide +kernel) rfl), (q_in_t9 (i := 113) (by first | rfl | decide +kernel) rfl), (q_in_t9 (i := 114) (by first | rfl | decide +kernel) rfl), (q_in_t1 (i := 14) (by first | rfl | decide +kernel) rfl), (q_in_t9 (i := 115) (by first | rfl | decide +kernel) rfl), ⟨rfl, by decide, by decide, rfl⟩⟩
theorem kl_195 : q_okV RL 195 RX11 yX11_lies cX11_lies 2 (some .int) 1 := ⟨(q_in_t6 (i := 106) (by first | rfl | decide +kernel) rfl), (q_in_t6 (i := 107) (by first | rfl | decide +kernel) rfl), (q_in_t6 (i := 108) (by first | rfl | decide +kernel) rfl), (q_in_t1 (i := 1) (by first | rfl | decide +kernel) rfl), (q_in_t6 (i := 109) (by first | rfl | decide +kernel) rfl), ⟨rfl, by decide, by decide, rfl⟩⟩
theorem kl_198 : q_okV RL 198 RX12 yX12_lies cX12_lies 2 (some .int) 1 := ⟨(q_in_t9 (i := 116) (by first | rfl | decide +kernel) rfl), (q_in_t9 (i := 117) (by first | rfl | decide +kernel) rfl), (q_in_t9 (i := 118) (by first | rfl | decide +kernel) rfl), (q_in_t1 (i := 14) (by first | rfl | decide +kernel) rfl), (q_in_t9 (i := 119) (by first | rfl | decide +kernel) rfl), ⟨rfl, by decide, by decide, rfl⟩⟩
theorem kl_199 : q_okV RL 199 RX11 yX11_guess cX11_guess 5 (some .boolean) 3 := ⟨(q_in_t6 (i := 115) (by first | rfl | decide +kernel) rfl), (q_in_t6 (i := 116) (by first | rfl | decide +kernel) rfl), (q_in_t6 (i := 117) (by first | rfl | decide +kernel) rfl), (q_in_t1 (i := 1) (by first | rfl | decide +kernel) rfl), (q_in_t6 (i := 118) (by first | rfl | decide +kernel) rfl), ⟨rfl, by decide, by decide, rfl⟩⟩
theorem kl_202 : q_okV RL 202 RX12 yX12_guess cX12_guess 4 (some .boolean) 3 := ⟨(q_in_t9 (i := 120) (by first | rfl | decide +kernel) rfl), (q_in_t9 (i := 121) (by first | rfl | decide +kernel) rfl), (q_in_t9 (i := 122) (by first | rfl | decide +kernel) rfl), (q_in_t1 (i := 14) (by first | rfl | decide +kernel) rfl), (q_in_t9 (i := 123) (by first | rfl | decide +kernel) rfl), ⟨rfl, by decide, by decide, rfl⟩⟩
theorem kl_203 : q_okV RL 203 RX11 yX11_fullest cX11_fullest 4 (some .int) 0 := ⟨(q_in_t6 (i := 120) (by first | rfl | decide +kernel) rfl), (q_in_t6 (i := 121) (by first | rfl | decide +kernel) rfl), (q_in_t6 (i := 122) (by first | rfl | decide +kernel) rfl), (q_in_t1 (i := 1) (by first | rfl | decide +kernel) rfl), (q_in_t6 (i := 123) (by first | rfl | decide +kernel) rfl), ⟨rfl, by decide, by decide, rfl⟩⟩
theorem kl_206 : q_okV RL 206 RX12 yX12_fullest cX12_fullest 3 (some .int) 0 := ⟨(q_in_t9 (i := 125) (by first | rfl | decide +kernel) rfl), (q_in_t9 (i := 126) (by first | rfl | decide +kernel) rfl), (q_in_t9 (i := 127) (by first | rfl | decide +kernel) rfl), (q_in_t1 (i := 14) (by first | rfl | decide +kernel) rfl), (q_in_t9 (i := 128) (by first | rfl | decide +kernel) rfl), ⟨rfl, by decide, by decide, rfl⟩⟩
theorem kl_207 : q_okV RL 207 RX11 yX11_quartet cX11_quartet 4 (some .int) 1 := ⟨(q_in_t6 (i := 124) (by first | rfl | decide +kernel) rfl), (q_in_t6 (i := 125) (by first | rfl | decide +kernel) rfl), (q_in_t6 (i := 126) (by first | rfl | decide +kernel) rfl), (q_in_t1 (i := 1) (by first | rfl | decide +kernel) rfl), (q_in_t6 (i := 127) (by first | rfl | decide +kernel) rfl), ⟨rfl, by decide, by decide, rfl⟩⟩
theorem kl_210 : q_okV RL 210 RX12 yX12_quartet cX12_quartet 3 (some .int) 1 := ⟨(q_in_t9 (i := 129) (by first | rfl | decide +kernel) rfl), (q_in_t9 (i := 130) (by first | rfl | decide +kernel) rfl), (q_in_t9 (i := 131) (by first | rfl | decide +kernel) rfl), (q_in_t1 (i := 14) (by first | rfl | decide +kernel) rfl), (q_in_t9 (i := 132) (by first | rfl | decide +kernel) rfl), ⟨rfl, by decide, by decide, rfl⟩⟩
theorem kl_211 : q_okV RL 211 RX11 yX11_sorts cX11_sorts 4 (some .int) 1 := ⟨(q_in_t6 (i := 128) (by first | rfl | decide +kernel) rfl), (q_in_t6 (i := 129) (by first | rfl | decide +kernel) rfl), (q_in_t6 (i := 130) (by first | rfl | decide +kernel) rfl), (q_in_t1 (i := 1) (by first | rfl | decide +kernel) rfl), (q_in_t6 (i := 131) (by first | rfl | decide +kernel) rfl), ⟨rfl, by decide, by decide, rfl⟩⟩
theorem kl_214 : q_okV RL 214 RX12 yX12_sorts cX12_sorts 4 (some .int) 1 := ⟨(q_in_t9 (i := 133) (by first | rfl | decide +kernel) rfl), (q_in_t9 (i := 134) (by first | rfl | decide +kernel) rfl), (q_in_t9 (i := 135) (by first | rfl | decide +kernel) rfl), (q_in_t1 (i := 14) (by first | rfl | decide +kernel) rfl), (q_in_t9 (i := 136) (by first | rfl | decide +kernel) rfl), ⟨rfl, by decide, by decide, rfl⟩⟩
theorem kl_215 : q_okV RL 215 RX11 yX11_liar cX11_liar 4 (some .int) 0 := ⟨(q_in_t6 (i := 132) (by first | rfl | decide +kernel) rfl), (q_in_t6 (i := 133) (by first | rfl | decide +kernel) rfl), (q_in_t6 (i := 134) (by first | rfl | decide +kernel) rfl), (q_in_t1 (i := 1) (by first | rfl | decide +kernel) rfl), (q_in_t6 (i := 135) (by first | rfl | decide +kernel) rfl), ⟨rfl, by decide, by decide, rfl⟩⟩
theorem kl_218 : q_okV RL 218 RX12 yX12_liar cX12_liar 5 (some .int) 0 := ⟨(q_in_t9 (i := 137) (by first | rfl | decide +kernel) rfl), (q_in_t9 (i := 138) (by first | rfl | decide +kernel) rfl), (q_in_t9 (i := 139) (by first | rfl | decide +kernel) rfl), (q_in_t1 (i := 14) (by first | rfl | decide +kernel) rfl), (q_in_t9 (i := 140) (by first | rfl | decide +kernel) rfl), ⟨rfl, by decide, by decide, rfl⟩⟩
theorem kl_219 : q_okV RL 219 RX11 yX11_play cX11_play 2 (some .int) 1 := ⟨(q_in_t6 (i := 136) (by first | rfl | decide +kernel) rfl), (q_in_t6 (i := 137) (by first | rfl | decide +kernel) rfl), (q_in_t6 (i := 138) (by first | rfl | decide +kernel) rfl), (q_in_t1 (i := 1) (by first | rfl | decide +kernel) rfl), (q_in_t6 (i := 139) (by first | rfl | decide +kernel) rfl), ⟨rfl, by decide, by decide, rfl⟩⟩
theorem kl_222 : q_okV RL 222 RX12 yX12_play cX12_play 2 (some .int) 1 := ⟨(q_in_t9 (i := 141) (by first | rfl | decide +kernel) rfl), (q_in_t9 (i := 142) (by first | rfl | decide +kernel) rfl), (q_in_t9 (i := 143) (by first | rfl | decide +kernel) rfl), (q_in_t1 (i := 14) (by first | rfl | decide +kernel) rfl), (q_in_t9 (i := 144) (by first | rfl | decide +kernel) rfl), ⟨rfl, by decide, by decide, rfl⟩⟩
theorem kl_223 : q_okV RL 223 RX11 yX11_played cX11_played 2 (some .int) 1 := ⟨(q_in_t6 (i := 191) (by first | rfl | decide +kernel) rfl), (q_in_t6 (i := 192) (by first | rfl | decide +kernel) rfl), (q_in_t6 (i := 193) (by first | rfl | decide +kernel) rfl), (q_in_t1 (i := 1) (by first | rfl | decide +kernel) rfl), (q_in_t6 (i := 194) (by first | rfl | decide +kernel) rfl), ⟨rfl, by decide, by decide, rfl⟩⟩
theorem kl_226 : q_okV RL 226 RX12 yX12_played cX12_played 2 (some .int) 1 := ⟨(q_in_t9 (i := 179) (by first | rfl | decide +kernel) rfl), (q_in_t9 (i := 180) (by first | rfl | decide +kernel) rfl), (q_in_t9 (i := 181) (by first | rfl | decide +kernel) rfl), (q_in_t1 (i := 14) (by first | rfl | decide +kernel) rfl), (q_in_t9 (i := 182) (by first | rfl | decide +kernel) rfl), ⟨rfl, by decide, by decide, rfl⟩⟩
theorem kl_227 : q_okV RL 227 RX11 yX11_wins cX11_wins 7 (some .boolean) 3 := ⟨(q_in_t6 (i := 195) (by first | rfl | decide +kernel) rfl), (q_in_t6 (i := 196) (by first | rfl | decide +kernel) rfl), (q_in_t6 (i := 197) (by first | rfl | decide +kernel) rfl), (q_in_t1 (i := 1) (by first | rfl | decide +kernel) rfl), (q_in_t6 (i := 198) (by first | rfl | decide +kernel) rfl), ⟨rfl, by decide, by decide, rfl⟩⟩
theorem kl_230 : q_okV RL 230 RX12 yX12_wins cX12_wins 4 (some .boolean) 3 := ⟨(q_in_t9 (i := 183) (by first | rfl | decide +kernel) rfl), (q_in_t9 (i := 184) (by first | rfl | decide +kernel) rfl), (q_in_t9 (i := 185) (by first | rfl | decide +kernel) rfl), (q_in_t1 (i := 14) (by first | rfl | decide +kernel) rfl), (q_in_t9 (i := 186) (by first | rfl | decide +kernel) rfl), ⟨rfl, by decide, by decide, rfl⟩⟩
theorem kl_231 : q_okV RL 231 RX11 yX11_left cX11_left 7 (some .boolean) 3 := ⟨(q_in_t6 (i := 203) (by first | rfl | decide +kernel) rfl), (q_in_t6 (i := 204) (by first | rfl | decide +kernel) rfl), (q_in_t6 (i := 205) (by first | rfl | decide +kernel) rfl), (q_in_t1 (i := 1) (by first | rfl | decide +kernel) rfl), (q_in_t6 (i := 206) (by first | rfl | decide +kernel) rfl), ⟨rfl, by decide, by decide, rfl⟩⟩
theorem kl_234 : q_okV RL 234 RX12 yX12_left cX12_left 4 (some .boolean) 3 := ⟨(q_in_t9 (i := 192) (by first | rfl | decide +kernel) rfl), (q_in_t9 (i := 193) (by first | rfl | decide +kernel) rfl), (q_in_t9 (i := 194) (by first | rfl | decide +kernel) rfl), (q_in_t1 (i := 14) (by first | rfl | decide +kernel) rfl), (q_in_t9 (i := 195) (by first | rfl | decide +kernel) rfl), ⟨rfl, by decide, by decide, rfl⟩⟩
theorem kl_235 : q_okV RL 235 RX11 yX11_mark cX11_mark 2 (some .int) 0 := ⟨(q_in_t6 (i := 207) (by first | rfl | decide +kernel) rfl), (q_in_t6 (i := 208) (by first | rfl | decide +kernel) rfl), (q_in_t6 (i := 209) (by first | rfl | decide +kernel) rfl), (q_in_t1 (i := 1) (by first | rfl | decide +kernel) rfl), (q_in_t6 (i := 210) (by first | rfl | decide +kernel) rfl), ⟨rfl, by decide, by decide, rfl⟩⟩
theorem kl_238 : q_okV RL 238 RX12 yX12_mark cX12_mark 1 (some .int) 0 := ⟨(q_in_t9 (i := 196) (by first | rfl | decide +kernel) rfl), (q_in_t9 (i := 197) (by first | rfl | decide +kernel) rfl), (q_in_t9 (i := 198) (by first | rfl | decide +kernel) rfl), (q_in_t1 (i := 14) (by first | rfl | decide +kernel) rfl), (q_in_t9 (i := 199) (by first | rfl | decide +kernel) rfl), ⟨rfl, by decide, by decide, rfl⟩⟩
theorem kl_239 : q_okV RL 239 RX11 yX11_back cX11_back 2 (some .int) 0 := ⟨(q_in_t6 (i := 215) (by first | rfl | decide +kernel) rfl), (q_in_t6 (i := 216) (by first | rfl | decide +kernel) rfl), (q_in_t6 (i := 217) (by first | rfl | decide +kernel) rfl), (q_in_t1 (i := 1) (by first | rfl | decide +kernel) rfl), (q_in_t6 (i := 218) (by first | rfl | decide +kernel) rfl), ⟨rfl, by decide, by decide, rfl⟩⟩
theorem kl_242 : q_okV RL 242 RX12 yX12_back cX12_back 1 (some .int) 0 := ⟨(q_in_t9 (i := 200) (by first | rfl | decide +kernel) rfl), (q_in_t9 (i := 201) (by first | rfl | decide +kernel) rfl), (q_in_t9 (i := 202) (by first | rfl | decide +kernel) rfl), (q_in_t1 (i := 14) (by first | rfl | decide +kernel) rfl), (q_in_t9 (i := 203) (by first | rfl | decide +kernel) rfl), ⟨rfl, by decide, by decide, rfl⟩⟩
end
/-! FROM 61.law.lean.txt -/
section
set_option maxRecDepth 100000 in
set_option maxHeartbeats 4000000 in
theorem lw_c0 {p : Program} {l : Launch} {e : Env} {s : State} {m : MethodId} {below : List Frame} {meth : Method} {c : Code} {b L : Nat} {xs : Nat → Int32} {X : XW} {xo mo : Nat} {σ0 : ST} {cells slots : Nat} {Q : State → Prop} {lb : Nat → Nat} (hcl : tb_Cls X lb xo mo) (hal : al_C X lb xo mo) (E : q_E p c cL_law s m #[Value.ref b] RL X) (hX : va_X b L xs s s.heap) (hbl : b < s.heap.size) (hbA : ¬ q_reg X b) (hml : c.maxLocals = 4) (hxo : q_kd X xo = 11) (hmo : q_kd X mo = 12) (hcs : cells ≤ room_1.cells ∧ slots ≤ room_1.slots) (hL : L ≤ 3072) {i : Nat} (hi : i + 6 ≤ L) {n : Int} (hn : 0 ≤ n ∧ n ≤ 199000) {σ : ST} {H : Heap} {locs : List Loc} {ls : Array Slot} (hI : q_I X 0 σ0 s.heap locs σ H) (hM : m_M (m_c X σ mo) (σ.1 mo 24).toInt n) (hl : lv_has ls 4 [(3, .int (nI i)), (2, .ref mo), (1, .ref xo), (0, .ref b)]) (hE : lw_E xo mo σ) (hB : lw_B X xo mo σ) (hA : al_R X xo mo σ σ)
    (kk : ∀ (σ : ST) (H : Heap) (locs : List Loc), q_I X 0 σ0 s.heap locs σ H → m_M (m_c X σ mo) (σ.1 mo 24).toInt (n + 301) → lw_E xo mo σ → lw_B X xo mo σ → al_R X xo mo σ σ → W p l e room_1 s m #[Value.ref b] below meth c H locs cells slots Q (F0 m 1796 ls [])) : W p l e room_1 s m #[Value.ref b] below meth c H locs cells slots Q (F0 m 264 ls []) := by
  have hx := E.1
  have hb := E.2.1
  have hI0 := hI
  have hE0 := hE
  have hB0 := hB
  have hA0 := hA
  have hM0 := hM
  refine lv_aload_n hx hb dL_law_264 rfl (lv_at hl 2 rfl) ?_
  have h3 := (q_bd hI hmo (rfl : q_bn 12 24 = (0, 3))).2
  refine q_ci (q_runV (As := []) (rest := []) E (hml.trans hl.1.symm) hI (c_X11_status l X σ xo hxo) kl_13 hxo ⟨rfl, by decide⟩ (show vwCl[10]? = some (RX11, TX11, 17) from rfl) rfl ⟨Nat.le_of_ble_eq_true rfl, Nat.le_of_ble_eq_true rfl⟩ hcs rfl (Nat.le_of_ble_eq_true rfl) dL_law_265) hI (by decide) (fun r1 σ1 H locs hp hk hI => ?_)
  obtain ⟨hs1, hex1⟩ := hp
  have how1 : q_ow [] [] X σ σ1 := by rw [hs1]; exact q_ow.rf
  have hp := True.intro
  have hB := lw_BK how1 hI.1 hxo hmo rfl rfl (how1.1 xo 5 (by rw [hxo]; rfl)) hB
  have hA1 := hA0.pre hal how1 rfl
  have hA := (hA.post hal how1 rfl).pre hal how1 rfl
  have hE := lw_EK hk (by decide) hxo hmo hE
  have hM := lw_kM hk hI.1 hmo (by decide) hM
  have hpp1 := hp
  have hMc := hM
  clear hp hk
  clear h3
  refine lv_pop hx hb dL_law_268 rfl ?_
  refine lv_aload_n hx hb dL_law_269 rfl (lv_at hl 1 rfl) ?_
  have h3 := (q_bd hI hmo (rfl : q_bn 12 24 = (0, 3))).2
  refine q_ci (q_runV (As := []) (rest := []) E (hml.trans hl.1.symm) hI (c_X12_status l X σ1 mo hmo) kl_17 hmo ⟨rfl, by decide⟩ (show vwCl[11]? = some (RX12, TX12, 46) from rfl) rfl ⟨Nat.le_of_ble_eq_true rfl, Nat.le_of_ble_eq_true rfl⟩ hcs rfl (Nat.le_of_ble_eq_true rfl) dL_law_270) hI (by decide) (fun r2 σ2 H locs hp hk hI => ?_)
  obtain ⟨hex2, how2⟩ := hp
  have hp := True.intro
  have hB := lw_BK how2 hI.1 hxo hmo rfl rfl (how2.1 xo 5 (by rw [hxo]; rfl)) hB
  have hA := (hA.post hal how2 rfl).pre hal how2 rfl
  have hE := lw_EK hk (by decide) hxo hmo hE
  have hM := lw_up (lw_kM hk hI.1 hmo (by decide) hM) (q_bd hI hmo (rfl : q_bn 12 24 = (0, 3))).2
  have hpp2 := hp
  clear hp hk
  clear h3
  refine lv_pop hx hb dL_law_273 rfl ?_
  refine lv_goto (tgt := 1796) hx hb dL_law_274 (by decide) ?_
  exact kk _ _ _ hI hM hE hB hA

set_option maxRecDepth 100000 in
set_option maxHeartbeats 4000000 in
theorem lw_c1 {p : Program} {l : Launch} {e : Env} {s : State} {m : MethodId} {below : List Frame} {meth : Method} {c : Code} {b L : Nat} {xs : Nat → Int32} {X : XW} {xo mo : Nat} {σ0 : ST} {cells slots : Nat} {Q : State → Prop} {lb : Nat → Nat} (hcl : tb_Cls X lb xo mo) (hal : al_C X lb xo mo) (E : q_E p c cL_law s m #[Value.ref b] RL X) (hX : va_X b L xs s s.heap) (hbl : b < s.heap.size) (hbA : ¬ q_reg X b) (hml : c.maxLocals = 4) (hxo : q_kd X xo = 11) (hmo : q_kd X mo = 12) (hcs : cells ≤ room_1.cells ∧ slots ≤ room_1.slots) (hL : L ≤ 3072) {i : Nat} (hi : i + 6 ≤ L) {n : Int} (hn : 0 ≤ n ∧ n ≤ 199000) {σ : ST} {H : Heap} {locs : List Loc} {ls : Array Slot} (hI : q_I X 0 σ0 s.heap locs σ H) (hM : m_M (m_c X σ mo) (σ.1 mo 24).toInt n) (hl : lv_has ls 4 [(3, .int (nI i)), (2, .ref mo), (1, .ref xo), (0, .ref b)]) (hE : lw_E xo mo σ) (hB : lw_B X xo mo σ) (hA : al_R X xo mo σ σ)
    (kk : ∀ (σ : ST) (H : Heap) (locs : List Loc), q_I X 0 σ0 s.heap locs σ H → m_M (m_c X σ mo) (σ.1 mo 24).toInt (n + 301) → lw_E xo mo σ → lw_B X xo mo σ → al_R X xo mo σ σ → W p l e room_1 s m #[Value.ref b] below meth c H locs cells slots Q (F0 m 1796 ls [])) : W p l e room_1 s m #[Value.ref b] below meth c H locs cells slots Q (F0 m 277 ls []) := by
  have hx := E.1
  have hb := E.2.1
  have hI0 := hI
  have hE0 := hE
  have hB0 := hB
  have hA0 := hA
  have hM0 := hM
  refine lv_aload_n hx hb dL_law_277 rfl (lv_at hl 2 rfl) ?_
  have h3 := (q_bd hI hmo (rfl : q_bn 12 24 = (0, 3))).2
  refine q_cl_ (q_runV (As := []) (rest := []) E (hml.trans hl.1.symm) hI (c_X11_top l X σ xo hxo) kl_18 hxo ⟨rfl, by decide⟩ (show vwCl[10]? = some (RX11, TX11, 17) from rfl) rfl ⟨Nat.le_of_ble_eq_true rfl, Nat.le_of_ble_eq_true rfl⟩ hcs rfl (Nat.le_of_ble_eq_true rfl) dL_law_278) hI (by decide) (fun r1 σ1 H locs hp hk hI => ?_)
  obtain ⟨hs1, hex1⟩ := hp
  have how1 : q_ow [] [] X σ σ1 := by rw [hs1]; exact q_ow.rf
  have hp := True.intro
  have hB := lw_BK how1 hI.1 hxo hmo rfl rfl (how1.1 xo 5 (by rw [hxo]; rfl)) hB
  have hA1 := hA0.pre hal how1 rfl
  have hA := (hA.post hal how1 rfl).pre hal how1 rfl
  have hE := lw_EK hk (by decide) hxo hmo hE
  have hM := lw_kM hk hI.1 hmo (by decide) hM
  have hpp1 := hp
  have hMc := hM
  clear hp hk
  clear h3
  refine lv_pop2_2 hx hb dL_law_281 rfl ?_
  refine lv_aload_n hx hb dL_law_282 rfl (lv_at hl 1 rfl) ?_
  have h3 := (q_bd hI hmo (rfl : q_bn 12 24 = (0, 3))).2
  refine q_cl_ (q_runV (As := []) (rest := []) E (hml.trans hl.1.symm) hI (c_X12_top l X σ1 mo hmo) kl_22 hmo ⟨rfl, by decide⟩ (show vwCl[11]? = some (RX12, TX12, 46) from rfl) rfl ⟨Nat.le_of_ble_eq_true rfl, Nat.le_of_ble_eq_true rfl⟩ hcs rfl (Nat.le_of_ble_eq_true rfl) dL_law_283) hI (by decide) (fun r2 σ2 H locs hp hk hI => ?_)
  obtain ⟨hex2, how2⟩ := hp
  have hp := True.intro
  have hB := lw_BK how2 hI.1 hxo hmo rfl rfl (how2.1 xo 5 (by rw [hxo]; rfl)) hB
  have hA := (hA.post hal how2 rfl).pre hal how2 rfl
  have hE := lw_EK hk (by decide) hxo hmo hE
  have hM := lw_up (lw_kM hk hI.1 hmo (by decide) hM) (q_bd hI hmo (rfl : q_bn 12 24 = (0, 3))).2
  have hpp2 := hp
  clear hp hk
  clear h3
  refine lv_pop2_2 hx hb dL_law_286 rfl ?_
  refine lv_goto (tgt := 1796) hx hb dL_law_287 (by decide) ?_
  exact kk _ _ _ hI hM hE hB hA

set_option maxRecDepth 100000 in
set_option maxHeartbeats 4000000 in
theorem lw_c2 {p : Program} {l : Launch} {e : Env} {s : State} {m : MethodId} {below : List Frame} {meth : Method} {c : Code} {b L : Nat} {xs : Nat → Int32} {X : XW} {xo mo : Nat} {σ0 : ST} {cells slots : Nat} {Q : State → Prop} {lb : Nat → Nat} (hcl : tb_Cls X lb xo mo) (hal : al_C X lb xo mo) (E : q_E p c cL_law s m #[Value.ref b] RL X) (hX : va_X b L xs s s.heap) (hbl : b < s.heap.size) (hbA : ¬ q_reg X b) (hml : c.maxLocals = 4) (hxo : q_kd X xo = 11) (hmo : q_kd X mo = 12) (hcs : cells ≤ room_1.cells ∧ slots ≤ room_1.slots) (hL : L ≤ 3072) {i : Nat} (hi : i + 6 ≤ L) {n : Int} (hn : 0 ≤ n ∧ n ≤ 199000) {σ : ST} {H : Heap} {locs : List Loc} {ls : Array Slot} (hI : q_I X 0 σ0 s.heap locs σ H) (hM : m_M (m_c X σ mo) (σ.1 mo 24).toInt n) (hl : lv_has ls 4 [(3, .int (nI i)), (2, .ref mo), (1, .ref xo), (0, .ref b)]) (hE : lw_E xo mo σ) (hB : lw_B X xo mo σ) (hA : al_R X xo mo σ σ)
    (kk : ∀ (σ : ST) (H : Heap) (locs : List Loc), q_I X 0 σ0 s.heap locs σ H → m_M (m_c X σ mo) (σ.1 mo 24).toInt (n + 301) → lw_E xo mo σ → lw_B X xo mo σ → al_R X xo mo σ σ → W p l e room_1 s m #[Value.ref b] below meth c H locs cells slots Q (F0 m 1796 ls [])) : W p l e room_1 s m #[Value.ref b] below meth c H locs cells slots Q (F0 m 290 ls []) := by
  have hx := E.1
  have hb := E.2.1
  have hI0 := hI
  have hE0 := hE
  have hB0 := hB
  have hA0 := hA
  have hM0 := hM
  refine lv_aload_n hx hb dL_law_290 rfl (lv_at hl 2 rfl) ?_
  have h3 := (q_bd hI hmo (rfl : q_bn 12 24 = (0, 3))).2
  refine q_cl_ (q_runV (As := []) (rest := []) E (hml.trans hl.1.symm) hI (c_X11_bottom l X σ xo hxo) kl_23 hxo ⟨rfl, by decide⟩ (show vwCl[10]? = some (RX11, TX11, 17) from rfl) rfl ⟨Nat.le_of_ble_eq_true rfl, Nat.le_of_ble_eq_true rfl⟩ hcs rfl (Nat.le_of_ble_eq_true rfl) dL_law_291) hI (by decide) (fun r1 σ1 H locs hp hk hI => ?_)
  obtain ⟨hs1, hex1⟩ := hp
  have how1 : q_ow [] [] X σ σ1 := by rw [hs1]; exact q_ow.rf
  have hp := True.intro
  have hB := lw_BK how1 hI.1 hxo hmo rfl rfl (how1.1 xo 5 (by rw [hxo]; rfl)) hB
  have hA1 := hA0.pre hal how1 rfl
  have hA := (hA.post hal how1 rfl).pre hal how1 rfl
  have hE := lw_EK hk (by decide) hxo hmo hE
  have hM := lw_kM hk hI.1 hmo (by decide) hM
  have hpp1 := hp
  have hMc := hM
  clear hp hk
  clear h3
  refine lv_pop2_2 hx hb dL_law_294 rfl ?_
  refine lv_aload_n hx hb dL_law_295 rfl (lv_at hl 1 rfl) ?_
  have h3 := (q_bd hI hmo (rfl : q_bn 12 24 = (0, 3))).2
  refine q_cl_ (q_runV (As := []) (rest := []) E (hml.trans hl.1.symm) hI (c_X12_bottom l X σ1 mo hmo) kl_26 hmo ⟨rfl, by decide⟩ (show vwCl[11]? = some (RX12, TX12, 46) from rfl) rfl ⟨Nat.le_of_ble_eq_true rfl, Nat.le_of_ble_eq_true rfl⟩ hcs rfl (Nat.le_of_ble_eq_true rfl) dL_law_296) hI (by decide) (fun r2 σ2 H locs hp hk hI => ?_)
  obtain ⟨hex2, how2⟩ := hp
  have hp := True.intro
  have hB := lw_BK how2 hI.1 hxo hmo rfl rfl (how2.1 xo 5 (by rw [hxo]; rfl)) hB
  have hA := (hA.post hal how2 rfl).pre hal how2 rfl
  have hE := lw_EK hk (by decide) hxo hmo hE
  have hM := lw_up (lw_kM hk hI.1 hmo (by decide) hM) (q_bd hI hmo (rfl : q_bn 12 24 = (0, 3))).2
  have hpp2 := hp
  clear hp hk
  clear h3
  refine lv_pop2_2 hx hb dL_law_299 rfl ?_
  refine lv_goto (tgt := 1796) hx hb dL_law_300 (by decide) ?_
  exact kk _ _ _ hI hM hE hB hA

set_option maxRecDepth 100000 in
set_option maxHeartbeats 4000000 in
theorem lw_c3 {p : Program} {l : Launch} {e : Env} {s : State} {m : MethodId} {below : List Frame} {meth : Method} {c : Code} {b L : Nat} {xs : Nat → Int32} {X : XW} {xo mo : Nat} {σ0 : ST} {cells slots : Nat} {Q : State → Prop} {lb : Nat → Nat} (hcl : tb_Cls X lb xo mo) (hal : al_C X lb xo mo) (E : q_E p c cL_law s m #[Value.ref b] RL X) (hX : va_X b L xs s s.heap) (hbl : b < s.heap.size) (hbA : ¬ q_reg X b) (hml : c.maxLocals = 4) (hxo : q_kd X xo = 11) (hmo : q_kd X mo = 12) (hcs : cells ≤ room_1.cells ∧ slots ≤ room_1.slots) (hL : L ≤ 3072) {i : Nat} (hi : i + 6 ≤ L) {n : Int} (hn : 0 ≤ n ∧ n ≤ 199000) {σ : ST} {H : Heap} {locs : List Loc} {ls : Array Slot} (hI : q_I X 0 σ0 s.heap locs σ H) (hM : m_M (m_c X σ mo) (σ.1 mo 24).toInt n) (hl : lv_has ls 4 [(3, .int (nI i)), (2, .ref mo), (1, .ref xo), (0, .ref b)]) (hE : lw_E xo mo σ) (hB : lw_B X xo mo σ) (hA : al_R X xo mo σ σ)
    (kk : ∀ (σ : ST) (H : Heap) (locs : List Loc), q_I X 0 σ0 s.heap locs σ H → m_M (m_c X σ mo) (σ.1 mo 24).toInt (n + 301) → lw_E xo mo σ → lw_B X xo mo σ → al_R X xo mo σ σ → W p l e room_1 s m #[Value.ref b] below meth c H locs cells slots Q (F0 m 1796 ls [])) : W p l e room_1 s m #[Value.ref b] below meth c H locs cells slots Q (F0 m 303 ls []) := by
  have hx := E.1
  have hb := E.2.1
  have hI0 := hI
  have hE0 := hE
  have hB0 := hB
  have hA0 := hA
  have hM0 := hM
  refine lv_aload_n hx hb dL_law_303 rfl (lv_at hl 2 rfl) ?_
  refine lv_aload_n hx hb dL_law_304 rfl (lv_at hl 3 rfl) ?_
  refine lv_iload_n hx hb dL_law_305 rfl (lv_at hl 0 rfl) ?_
  refine lv_iconst (v := 1) hx hb dL_law_306 (by decide) ?_
  refine lv_iadd hx hb dL_law_307 ?_
  refine va_sld hx hb hX hbl hbA hI.S (lw_in (j := 1) (by decide) (by omega) hL) dL_law_308 ?_
  refine lv_aload_n hx hb dL_law_309 rfl (lv_at hl 3 rfl) ?_
  refine lv_iload_n hx hb dL_law_310 rfl (lv_at hl 0 rfl) ?_
  refine lv_iconst (v := 2) hx hb dL_law_311 (by decide) ?_
  refine lv_iadd hx hb dL_law_312 ?_
  refine va_sld hx hb hX hbl hbA hI.S (lw_in (j := 2) (by decide) (by omega) hL) dL_law_313 ?_
  refine lv_aload_n hx hb dL_law_314 rfl (lv_at hl 3 rfl) ?_
  refine lv_iload_n hx hb dL_law_315 rfl (lv_at hl 0 rfl) ?_
  refine lv_iconst (v := 3) hx hb dL_law_316 (by decide) ?_
  refine lv_iadd hx hb dL_law_317 ?_
  refine va_sld hx hb hX hbl hbA hI.S (lw_in (j := 3) (by decide) (by omega) hL) dL_law_318 ?_
  have h3 := (q_bd hI hmo (rfl : q_bn 12 24 = (0, 3))).2
  refine q_ci (q_runV (As := [.int (xs (nI i + 1).toNatClampNeg), .int (xs (nI i + 2).toNatClampNeg), .int (xs (nI i + 3).toNatClampNeg)]) (rest := []) E (hml.trans hl.1.symm) hI (c_X11_tray l X σ xo ((xs (nI i + 1).toNatClampNeg)) ((xs (nI i + 2).toNatClampNeg)) ((xs (nI i + 3).toNatClampNeg)) hxo) kl_27 hxo ⟨rfl, by decide⟩ (show vwCl[10]? = some (RX11, TX11, 17) from rfl) rfl ⟨Nat.le_of_ble_eq_true rfl, Nat.le_of_ble_eq_true rfl⟩ hcs rfl (Nat.le_of_ble_eq_true rfl) dL_law_319) hI (by decide) (fun r1 σ1 H locs hp hk hI => ?_)
  obtain ⟨pq0, pq1, pq2, pq3, pq4, hex1, how1⟩ := hp
  have hp := And.intro pq0 (And.intro pq1 (And.intro pq2 (And.intro pq3 pq4)))
  have hB := lw_BK how1 hI.1 hxo hmo rfl rfl (how1.1 xo 5 (by rw [hxo]; rfl)) hB
  have hA1 := hA0.pre hal how1 rfl
  have hA := (hA.post hal how1 rfl).pre hal how1 rfl
  have hE := lw_ET hp.1 hp.2.2.1 hp.2.1 hp.2.2.2.2 hI.1 hmo hxo hE
  have hKS := hp.2.1
  have hM := lw_kT hp.1 hp.2.2.1 hp.2.1 hp.2.2.2.2 hI.1 hmo hxo hM
  have hpp1 := hp
  have hMc := hM
  clear hp hk
  clear h3
  refine lv_pop hx hb dL_law_322 rfl ?_
  refine lv_aload_n hx hb dL_law_323 rfl (lv_at hl 1 rfl) ?_
  refine lv_aload_n hx hb dL_law_324 rfl (lv_at hl 3 rfl) ?_
  refine lv_iload_n hx hb dL_law_325 rfl (lv_at hl 0 rfl) ?_
  refine lv_iconst (v := 1) hx hb dL_law_326 (by decide) ?_
  refine lv_iadd hx hb dL_law_327 ?_
  refine va_sld hx hb hX hbl hbA hI.S (lw_in (j := 1) (by decide) (by omega) hL) dL_law_328 ?_
  refine lv_aload_n hx hb dL_law_329 rfl (lv_at hl 3 rfl) ?_
  refine lv_iload_n hx hb dL_law_330 rfl (lv_at hl 0 rfl) ?_
  refine lv_iconst (v := 2) hx hb dL_law_331 (by decide) ?_
  refine lv_iadd hx hb dL_law_332 ?_
  refine va_sld hx hb hX hbl hbA hI.S (lw_in (j := 2) (by decide) (by omega) hL) dL_law_333 ?_
  refine lv_aload_n hx hb dL_law_334 rfl (lv_at hl 3 rfl) ?_
  refine lv_iload_n hx hb dL_law_335 rfl (lv_at hl 0 rfl) ?_
  refine lv_iconst (v := 3) hx hb dL_law_336 (by decide) ?_
  refine lv_iadd hx hb dL_law_337 ?_
  refine va_sld hx hb hX hbl hbA hI.S (lw_in (j := 3) (by decide) (by omega) hL) dL_law_338 ?_
  have h3 := (q_bd hI hmo (rfl : q_bn 12 24 = (0, 3))).2
  refine q_ci (q_runV (As := [.int (xs (nI i + 1).toNatClampNeg), .int (xs (nI i + 2).toNatClampNeg), .int (xs (nI i + 3).toNatClampNeg)]) (rest := []) E (hml.trans hl.1.symm) hI (c_X12_tray l X σ1 mo ((xs (nI i + 1).toNatClampNeg)) ((xs (nI i + 2).toNatClampNeg)) ((xs (nI i + 3).toNatClampNeg)) hmo) kl_31 hmo ⟨rfl, by decide⟩ (show vwCl[11]? = some (RX12, TX12, 46) from rfl) rfl ⟨Nat.le_of_ble_eq_true rfl, Nat.le_of_ble_eq_true rfl⟩ hcs rfl (Nat.le_of_ble_eq_true rfl) dL_law_339) hI (by decide) (fun r2 σ2 H locs hp hk hI => ?_)
  obtain ⟨pq0, pq1, pq2, pq3, pq4, hex2, how2⟩ := hp
  have hp := And.intro pq0 (And.intro pq1 (And.intro pq2 (And.intro pq3 pq4)))
  have hB := lw_BK how2 hI.1 hxo hmo rfl rfl (how2.1 xo 5 (by rw [hxo]; rfl)) hB
  have hA := (hA.post hal how2 rfl).pre hal how2 rfl
  have hE := lw_ES hp.2.1 (by decide) hxo hmo (fun z => z.1.elim (fun z => m_ne hxo (q_c30 hI.1 hmo) (by decide) z) (fun z => m_ne hxo (q_c31 hI.1 hmo) (by decide) z)) (fun z => z.1.elim (fun z => m_ne hxo (q_c30 hI.1 hmo) (by decide) z) (fun z => m_ne hxo (q_c31 hI.1 hmo) (by decide) z)) (fun z => z.1.elim (fun z => m_ne hmo (q_c30 hI.1 hmo) (by decide) z) (fun z => m_ne hmo (q_c31 hI.1 hmo) (by decide) z)) (fun z => z.1.elim (fun z => m_ne hmo (q_c30 hI.1 hmo) (by decide) z) (fun z => m_ne hmo (q_c31 hI.1 hmo) (by decide) z)) hE
  have hM := lw_up (lw_kS hp.2.1 hI.1 hmo (fun j z => z.1.elim (fun z => m_ne (q_c34 hI.1 hmo) (q_c30 hI.1 hmo) (by decide) z) (fun z => m_ne (q_c34 hI.1 hmo) (q_c31 hI.1 hmo) (by decide) z)) (fun z => z.1.elim (fun z => m_ne hmo (q_c30 hI.1 hmo) (by decide) z) (fun z => m_ne hmo (q_c31 hI.1 hmo) (by decide) z)) hM) (q_bd hI hmo (rfl : q_bn 12 24 = (0, 3))).2
  have hpp2 := hp
  clear hp hk
  clear h3
  refine lv_pop hx hb dL_law_342 rfl ?_
  refine lv_goto (tgt := 1796) hx hb dL_law_343 (by decide) ?_
  exact kk _ _ _ hI hM hE hB hA

set_option maxRecDepth 100000 in
set_option maxHeartbeats 4000000 in
theorem lw_c4 {p : Program} {l : Launch} {e : Env} {s : State} {m : MethodId} {below : List Frame} {meth : Method} {c : Code} {b L : Nat} {xs : Nat → Int32} {X : XW} {xo mo : Nat} {σ0 : ST} {cells slots : Nat} {Q : State → Prop} {lb : Nat → Nat} (hcl : tb_Cls X lb xo mo) (hal : al_C X lb xo mo) (E : q_E p c cL_law s m #[Value.ref b] RL X) (hX : va_X b L xs s s.heap) (hbl : b < s.heap.size) (hbA : ¬ q_reg X b) (hml : c.maxLocals = 4) (hxo : q_kd X xo = 11) (hmo : q_kd X mo = 12) (hcs : cells ≤ room_1.cells ∧ slots ≤ room_1.slots) (hL : L ≤ 3072) {i : Nat} (hi : i + 6 ≤ L) {n : Int} (hn : 0 ≤ n ∧ n ≤ 199000) {σ : ST} {H : Heap} {locs : List Loc} {ls : Array Slot} (hI : q_I X 0 σ0 s.heap locs σ H) (hM : m_M (m_c X σ mo) (σ.1 mo 24).toInt n) (hl : lv_has ls 4 [(3, .int (nI i)), (2, .ref mo), (1, .ref xo), (0, .ref b)]) (hE : lw_E xo mo σ) (hB : lw_B X xo mo σ) (hA : al_R X xo mo σ σ)
    (kk : ∀ (σ : ST) (H : Heap) (locs : List Loc), q_I X 0 σ0 s.heap locs σ H → m_M (m_c X σ mo) (σ.1 mo 24).toInt (n + 301) → lw_E xo mo σ → lw_B X xo mo σ → al_R X xo mo σ σ → W p l e room_1 s m #[Value.ref b] below meth c H locs cells slots Q (F0 m 1796 ls [])) : W p l e room_1 s m #[Value.ref b] below meth c H locs cells slots Q (F0 m 346 ls []) := by
  have hx := E.1
  have hb := E.2.1
  have hI0 := hI
  have hE0 := hE
  have hB0 := hB
  have hA0 := hA
  have hM0 := hM
  refine lv_aload_n hx hb dL_law_346 rfl (lv_at hl 2 rfl) ?_
  refine lv_aload_n hx hb dL_law_347 rfl (lv_at hl 3 rfl) ?_
  refine lv_iload_n hx hb dL_law_348 rfl (lv_at hl 0 rfl) ?_
  refine lv_iconst (v := 1) hx hb dL_law_349 (by decide) ?_
  refine lv_iadd hx hb dL_law_350 ?_
  refine va_sld hx hb hX hbl hbA hI.S (lw_in (j := 1) (by decide) (by omega) hL) dL_law_351 ?_
  refine lv_aload_n hx hb dL_law_352 rfl (lv_at hl 3 rfl) ?_
  refine lv_iload_n hx hb dL_law_353 rfl (lv_at hl 0 rfl) ?_
  refine lv_iconst (v := 2) hx hb dL_law_354 (by decide) ?_
  refine lv_iadd hx hb dL_law_355 ?_
  refine va_sld hx hb hX hbl hbA hI.S (lw_in (j := 2) (by decide) (by omega) hL) dL_law_356 ?_
  refine lv_aload_n hx hb dL_law_357 rfl (lv_at hl 3 rfl) ?_
  refine lv_iload_n hx hb dL_law_358 rfl (lv_at hl 0 rfl) ?_
  refine lv_iconst (v := 3) hx hb dL_law_359 (by decide) ?_
  refine lv_iadd hx hb dL_law_360 ?_
  refine va_sld hx hb hX hbl hbA hI.S (lw_in (j := 3) (by decide) (by omega) hL) dL_law_361 ?_
  refine lv_i2l hx hb dL_law_362 rfl ?_
  refine lv_bipush (v := 32) hx hb dL_law_363 (by decide) ?_
  refine lv_lshl hx hb dL_law_365 rfl ?_
  refine lv_aload_n hx hb dL_law_366 rfl (lv_at hl 3 rfl) ?_
  refine lv_iload_n hx hb dL_law_367 rfl (lv_at hl 0 rfl) ?_
  refine lv_iconst (v := 4) hx hb dL_law_368 (by decide) ?_
  refine lv_iadd hx hb dL_law_369 ?_
  refine va_sld hx hb hX hbl hbA hI.S (lw_in (j := 4) (by decide) (by omega) hL) dL_law_370 ?_
  refine lv_i2l hx hb dL_law_371 rfl ?_
  refine lv_ldc2 (v := (4294967295 : Int64)) hx hb E.2.2.1 (E.2.2.2.1 _ (q_in_t9 (i := 204) (by first | rfl | decide +kernel) rfl)) dL_law_372 ?_
  refine lv_land hx hb dL_law_375 ?_
  refine lv_lor hx hb dL_law_376 ?_
  have h3 := (q_bd hI hmo (rfl : q_bn 12 24 = (0, 3))).2
  refine q_ci (q_runV (As := [.int (xs (nI i + 1).toNatClampNeg), .int (xs (nI i + 2).toNatClampNeg), .long ((((xs (nI i + 3).toNatClampNeg)).toInt64 <<< ((32 : Int32).toInt64 &&& 63)) ||| (((xs (nI i + 4).toNatClampNeg)).toInt64 &&& (4294967295 : Int64)))]) (rest := []) E (hml.trans hl.1.symm) hI (c_X11_write l X σ xo ((xs (nI i + 1).toNatClampNeg)) ((xs (nI i + 2).toNatClampNeg)) (((((xs (nI i + 3).toNatClampNeg)).toInt64 <<< ((32 : Int32).toInt64 &&& 63)) ||| (((xs (nI i + 4).toNatClampNeg)).toInt64 &&& (4294967295 : Int64)))) hxo) kl_34 hxo ⟨rfl, by decide⟩ (show vwCl[10]? = some (RX11, TX11, 17) from rfl) rfl ⟨Nat.le_of_ble_eq_true rfl, Nat.le_of_ble_eq_true rfl⟩ hcs rfl (Nat.le_of_ble_eq_true rfl) dL_law_377) hI (by decide) (fun r1 σ1 H locs hp hk hI => ?_)
  obtain ⟨pq0, pq1, hex1, how1⟩ := hp
  have hp := And.intro pq0 pq1
  have hB := lw_BK how1 hI.1 hxo hmo rfl rfl (how1.1 xo 5 (by rw [hxo]; rfl)) hB
  have hA1 := hA0.pre hal how1 rfl
  have hA := (hA.post hal how1 rfl).pre hal how1 rfl
  have hE := lw_EK hk (by decide) hxo hmo hE
  have hM := lw_kM hk hI.1 hmo (by decide) hM
  have hpp1 := hp
  have hMc := hM
  clear hp hk
  clear h3
  refine lv_pop hx hb dL_law_380 rfl ?_
  refine lv_aload_n hx hb dL_law_381 rfl (lv_at hl 1 rfl) ?_
  refine lv_aload_n hx hb dL_law_382 rfl (lv_at hl 3 rfl) ?_
  refine lv_iload_n hx hb dL_law_383 rfl (lv_at hl 0 rfl) ?_
  refine lv_iconst (v := 1) hx hb dL_law_384 (by decide) ?_
  refine lv_iadd hx hb dL_law_385 ?_
  refine va_sld hx hb hX hbl hbA hI.S (lw_in (j := 1) (by decide) (by omega) hL) dL_law_386 ?_
  refine lv_aload_n hx hb dL_law_387 rfl (lv_at hl 3 rfl) ?_
  refine lv_iload_n hx hb dL_law_388 rfl (lv_at hl 0 rfl) ?_
  refine lv_iconst (v := 2) hx hb dL_law_389 (by decide) ?_
  refine lv_iadd hx hb dL_law_390 ?_
  refine va_sld hx hb hX hbl hbA hI.S (lw_in (j := 2) (by decide) (by omega) hL) dL_law_391 ?_
  refine lv_aload_n hx hb dL_law_392 rfl (lv_at hl 3 rfl) ?_
  refine lv_iload_n hx hb dL_law_393 rfl (lv_at hl 0 rfl) ?_
  refine lv_iconst (v := 3) hx hb dL_law_394 (by decide) ?_
  refine lv_iadd hx hb dL_law_395 ?_
  refine va_sld hx hb hX hbl hbA hI.S (lw_in (j := 3) (by decide) (by omega) hL) dL_law_396 ?_
  refine lv_i2l hx hb dL_law_397 rfl ?_
  refine lv_bipush (v := 32) hx hb dL_law_398 (by decide) ?_
  refine lv_lshl hx hb dL_law_400 rfl ?_
  refine lv_aload_n hx hb dL_law_401 rfl (lv_at hl 3 rfl) ?_
  refine lv_iload_n hx hb dL_law_402 rfl (lv_at hl 0 rfl) ?_
  refine lv_iconst (v := 4) hx hb dL_law_403 (by decide) ?_
  refine lv_iadd hx hb dL_law_404 ?_
  refine va_sld hx hb hX hbl hbA hI.S (lw_in (j := 4) (by decide) (by omega) hL) dL_law_405 ?_
  refine lv_i2l hx hb dL_law_406 rfl ?_
  refine lv_ldc2 (v := (4294967295 : Int64)) hx hb E.2.2.1 (E.2.2.2.1 _ (q_in_t9 (i := 204) (by first | rfl | decide +kernel) rfl)) dL_law_407 ?_
  refine lv_land hx hb dL_law_410 ?_
  refine lv_lor hx hb dL_law_411 ?_
  have h3 := (q_bd hI hmo (rfl : q_bn 12 24 = (0, 3))).2
  refine q_ci (q_runV (As := [.int (xs (nI i + 1).toNatClampNeg), .int (xs (nI i + 2).toNatClampNeg), .long ((((xs (nI i + 3).toNatClampNeg)).toInt64 <<< ((32 : Int32).toInt64 &&& 63)) ||| (((xs (nI i + 4).toNatClampNeg)).toInt64 &&& (4294967295 : Int64)))]) (rest := []) E (hml.trans hl.1.symm) hI (c_X12_write l X σ1 mo ((xs (nI i + 1).toNatClampNeg)) ((xs (nI i + 2).toNatClampNeg)) (((((xs (nI i + 3).toNatClampNeg)).toInt64 <<< ((32 : Int32).toInt64 &&& 63)) ||| (((xs (nI i + 4).toNatClampNeg)).toInt64 &&& (4294967295 : Int64)))) hmo) kl_38 hmo ⟨rfl, by decide⟩ (show vwCl[11]? = some (RX12, TX12, 46) from rfl) rfl ⟨Nat.le_of_ble_eq_true rfl, Nat.le_of_ble_eq_true rfl⟩ hcs rfl (Nat.le_of_ble_eq_true rfl) dL_law_412) hI (by decide) (fun r2 σ2 H locs hp hk hI => ?_)
  obtain ⟨pq0, pq1, hex2, how2⟩ := hp
  have hp := And.intro pq0 pq1
  have hB := lw_BK how2 hI.1 hxo hmo rfl rfl (how2.1 xo 5 (by rw [hxo]; rfl)) hB
  have hA := (hA.post hal how2 rfl).pre hal how2 rfl
  have hE := lw_EK hk (by decide) hxo hmo hE
  have hM := lw_up (lw_kM hk hI.1 hmo (by decide) hM) (q_bd hI hmo (rfl : q_bn 12 24 = (0, 3))).2
  have hpp2 := hp
  clear hp hk
  clear h3
  refine lv_pop hx hb dL_law_415 rfl ?_
  refine lv_goto (tgt := 1796) hx hb dL_law_416 (by decide) ?_
  exact kk _ _ _ hI hM hE hB hA

set_option maxRecDepth 100000 in
set_option maxHeartbeats 4000000 in
theorem lw_c5 {p : Program} {l : Launch} {e : Env} {s : State} {m : MethodId} {below : List Frame} {meth : Method} {c : Code} {b L : Nat} {xs : Nat → Int32} {X : XW} {xo mo : Nat} {σ0 : ST} {cells slots : Nat} {Q : State → Prop} {lb : Nat → Nat} (hcl : tb_Cls X lb xo mo) (hal : al_C X lb xo mo) (E : q_E p c cL_law s m #[Value.ref b] RL X) (hX : va_X b L xs s s.heap) (hbl : b < s.heap.size) (hbA : ¬ q_reg X b) (hml : c.maxLocals = 4) (hxo : q_kd X xo = 11) (hmo : q_kd X mo = 12) (hcs : cells ≤ room_1.cells ∧ slots ≤ room_1.slots) (hL : L ≤ 3072) {i : Nat} (hi : i + 6 ≤ L) {n : Int} (hn : 0 ≤ n ∧ n ≤ 199000) {σ : ST} {H : Heap} {locs : List Loc} {ls : Array Slot} (hI : q_I X 0 σ0 s.heap locs σ H) (hM : m_M (m_c X σ mo) (σ.1 mo 24).toInt n) (hl : lv_has ls 4 [(3, .int (nI i)), (2, .ref mo), (1, .ref xo), (0, .ref b)]) (hE : lw_E xo mo σ) (hB : lw_B X xo mo σ) (hA : al_R X xo mo σ σ)
    (kk : ∀ (σ : ST) (H : Heap) (locs : List Loc), q_I X 0 σ0 s.heap locs σ H → m_M (m_c X σ mo) (σ.1 mo 24).toInt (n + 301) → lw_E xo mo σ → lw_B X xo mo σ → al_R X xo mo σ σ → W p l e room_1 s m #[Value.ref b] below meth c H locs cells slots Q (F0 m 1796 ls [])) : W p l e room_1 s m #[Value.ref b] below meth c H locs cells slots Q (F0 m 419 ls []) := by
  have hx := E.1
  have hb := E.2.1
  have hI0 := hI
  have hE0 := hE
  have hB0 := hB
  have hA0 := hA
  have hM0 := hM
  refine lv_aload_n hx hb dL_law_419 rfl (lv_at hl 2 rfl) ?_
  refine lv_aload_n hx hb dL_law_420 rfl (lv_at hl 3 rfl) ?_
  refine lv_iload_n hx hb dL_law_421 rfl (lv_at hl 0 rfl) ?_
  refine lv_iconst (v := 1) hx hb dL_law_422 (by decide) ?_
  refine lv_iadd hx hb dL_law_423 ?_
  refine va_sld hx hb hX hbl hbA hI.S (lw_in (j := 1) (by decide) (by omega) hL) dL_law_424 ?_
  refine lv_aload_n hx hb dL_law_425 rfl (lv_at hl 3 rfl) ?_
  refine lv_iload_n hx hb dL_law_426 rfl (lv_at hl 0 rfl) ?_
  refine lv_iconst (v := 2) hx hb dL_law_427 (by decide) ?_
  refine lv_iadd hx hb dL_law_428 ?_
  refine va_sld hx hb hX hbl hbA hI.S (lw_in (j := 2) (by decide) (by omega) hL) dL_law_429 ?_
  have h3 := (q_bd hI hmo (rfl : q_bn 12 24 = (0, 3))).2
  refine q_cl_ (q_runV (As := [.int (xs (nI i + 1).toNatClampNeg), .int (xs (nI i + 2).toNatClampNeg)]) (rest := []) E (hml.trans hl.1.symm) hI (c_X11_read l X σ xo ((xs (nI i + 1).toNatClampNeg)) ((xs (nI i + 2).toNatClampNeg)) hxo) kl_39 hxo ⟨rfl, by decide⟩ (show vwCl[10]? = some (RX11, TX11, 17) from rfl) rfl ⟨Nat.le_of_ble_eq_true rfl, Nat.le_of_ble_eq_true rfl⟩ hcs rfl (Nat.le_of_ble_eq_true rfl) dL_law_430) hI (by decide) (fun r1 σ1 H locs hp hk hI => ?_)
  obtain ⟨hex1, how1⟩ := hp
  have hp := True.intro
  have hB := lw_BK how1 hI.1 hxo hmo rfl rfl (how1.1 xo 5 (by rw [hxo]; rfl)) hB
  have hA1 := hA0.pre hal how1 rfl
  have hA := (hA.post hal how1 rfl).pre hal how1 rfl
  have hE := lw_EK hk (by decide) hxo hmo hE
  have hM := lw_kM hk hI.1 hmo (by decide) hM
  have hpp1 := hp
  have hMc := hM
  clear hp hk
  clear h3
  refine lv_pop2_2 hx hb dL_law_433 rfl ?_
  refine lv_aload_n hx hb dL_law_434 rfl (lv_at hl 1 rfl) ?_
  refine lv_aload_n hx hb dL_law_435 rfl (lv_at hl 3 rfl) ?_
  refine lv_iload_n hx hb dL_law_436 rfl (lv_at hl 0 rfl) ?_
  refine lv_iconst (v := 1) hx hb dL_law_437 (by decide) ?_
  refine lv_iadd hx hb dL_law_438 ?_
  refine va_sld hx hb hX hbl hbA hI.S (lw_in (j := 1) (by decide) (by omega) hL) dL_law_439 ?_
  refine lv_aload_n hx hb dL_law_440 rfl (lv_at hl 3 rfl) ?_
  refine lv_iload_n hx hb dL_law_441 rfl (lv_at hl 0 rfl) ?_
  refine lv_iconst (v := 2) hx hb dL_law_442 (by decide) ?_
  refine lv_iadd hx hb dL_law_443 ?_
  refine va_sld hx hb hX hbl hbA hI.S (lw_in (j := 2) (by decide) (by omega) hL) dL_law_444 ?_
  have h3 := (q_bd hI hmo (rfl : q_bn 12 24 = (0, 3))).2
  refine q_cl_ (q_runV (As := [.int (xs (nI i + 1).toNatClampNeg), .int (xs (nI i + 2).toNatClampNeg)]) (rest := []) E (hml.trans hl.1.symm) hI (c_X12_read l X σ1 mo ((xs (nI i + 1).toNatClampNeg)) ((xs (nI i + 2).toNatClampNeg)) hmo) kl_43 hmo ⟨rfl, by decide⟩ (show vwCl[11]? = some (RX12, TX12, 46) from rfl) rfl ⟨Nat.le_of_ble_eq_true rfl, Nat.le_of_ble_eq_true rfl⟩ hcs rfl (Nat.le_of_ble_eq_true rfl) dL_law_445) hI (by decide) (fun r2 σ2 H locs hp hk hI => ?_)
  obtain ⟨hex2, how2⟩ := hp
  have hp := True.intro
  have hB := lw_BK how2 hI.1 hxo hmo rfl rfl (how2.1 xo 5 (by rw [hxo]; rfl)) hB
  have hA := (hA.post hal how2 rfl).pre hal how2 rfl
  have hE := lw_EK hk (by decide) hxo hmo hE
  have hM := lw_up (lw_kM hk hI.1 hmo (by decide) hM) (q_bd hI hmo (rfl : q_bn 12 24 = (0, 3))).2
  have hpp2 := hp
  clear hp hk
  clear h3
  refine lv_pop2_2 hx hb dL_law_448 rfl ?_
  refine lv_goto (tgt := 1796) hx hb dL_law_449 (by decide) ?_
  exact kk _ _ _ hI hM hE hB hA

set_option maxRecDepth 100000 in
set_option maxHeartbeats 4000000 in
theorem lw_c6 {p : Program} {l : Launch} {e : Env} {s : State} {m : MethodId} {below : List Frame} {meth : Method} {c : Code} {b L : Nat} {xs : Nat → Int32} {X : XW} {xo mo : Nat} {σ0 : ST} {cells slots : Nat} {Q : State → Prop} {lb : Nat → Nat} (hcl : tb_Cls X lb xo mo) (hal : al_C X lb xo mo) (E : q_E p c cL_law s m #[Value.ref b] RL X) (hX : va_X b L xs s s.heap) (hbl : b < s.heap.size) (hbA : ¬ q_reg X b) (hml : c.maxLocals = 4) (hxo : q_kd X xo = 11) (hmo : q_kd X mo = 12) (hcs : cells ≤ room_1.cells ∧ slots ≤ room_1.slots) (hL : L ≤ 3072) {i : Nat} (hi : i + 6 ≤ L) {n : Int} (hn : 0 ≤ n ∧ n ≤ 199000) {σ : ST} {H : Heap} {locs : List Loc} {ls : Array Slot} (hI : q_I X 0 σ0 s.heap locs σ H) (hM : m_M (m_c X σ mo) (σ.1 mo 24).toInt n) (hl : lv_has ls 4 [(3, .int (nI i)), (2, .ref mo), (1, .ref xo), (0, .ref b)]) (hE : lw_E xo mo σ) (hB : lw_B X xo mo σ) (hA : al_R X xo mo σ σ)
    (kk : ∀ (σ : ST) (H : Heap) (locs : List Loc), q_I X 0 σ0 s.heap locs σ H → m_M (m_c X σ mo) (σ.1 mo 24).toInt (n + 301) → lw_E xo mo σ → lw_B X xo mo σ → al_R X xo mo σ σ → W p l e room_1 s m #[Value.ref b] below meth c H locs cells slots Q (F0 m 1796 ls [])) : W p l e room_1 s m #[Value.ref b] below meth c H locs cells slots Q (F0 m 452 ls []) := by
  have hx := E.1
  have hb := E.2.1
  have hI0 := hI
  have hE0 := hE
  have hB0 := hB
  have hA0 := hA
  have hM0 := hM
  refine lv_aload_n hx hb dL_law_452 rfl (lv_at hl 2 rfl) ?_
  refine lv_aload_n hx hb dL_law_453 rfl (lv_at hl 3 rfl) ?_
  refine lv_iload_n hx hb dL_law_454 rfl (lv_at hl 0 rfl) ?_
  refine lv_iconst (v := 1) hx hb dL_law_455 (by decide) ?_
  refine lv_iadd hx hb dL_law_456 ?_
  refine va_sld hx hb hX hbl hbA hI.S (lw_in (j := 1) (by decide) (by omega) hL) dL_law_457 ?_
  refine lv_aload_n hx hb dL_law_458 rfl (lv_at hl 3 rfl) ?_
  refine lv_iload_n hx hb dL_law_459 rfl (lv_at hl 0 rfl) ?_
  refine lv_iconst (v := 2) hx hb dL_law_460 (by decide) ?_
  refine lv_iadd hx hb dL_law_461 ?_
  refine va_sld hx hb hX hbl hbA hI.S (lw_in (j := 2) (by decide) (by omega) hL) dL_law_462 ?_
  refine lv_aload_n hx hb dL_law_463 rfl (lv_at hl 3 rfl) ?_
  refine lv_iload_n hx hb dL_law_464 rfl (lv_at hl 0 rfl) ?_
  refine lv_iconst (v := 3) hx hb dL_law_465 (by decide) ?_
  refine lv_iadd hx hb dL_law_466 ?_
  refine va_sld hx hb hX hbl hbA hI.S (lw_in (j := 3) (by decide) (by omega) hL) dL_law_467 ?_
  refine lv_aload_n hx hb dL_law_468 rfl (lv_at hl 3 rfl) ?_
  refine lv_iload_n hx hb dL_law_469 rfl (lv_at hl 0 rfl) ?_
  refine lv_iconst (v := 4) hx hb dL_law_470 (by decide) ?_
  refine lv_iadd hx hb dL_law_471 ?_
  refine va_sld hx hb hX hbl hbA hI.S (lw_in (j := 4) (by decide) (by omega) hL) dL_law_472 ?_
  refine lv_aload_n hx hb dL_law_473 rfl (lv_at hl 3 rfl) ?_
  refine lv_iload_n hx hb dL_law_474 rfl (lv_at hl 0 rfl) ?_
  refine lv_iconst (v := 5) hx hb dL_law_475 (by decide) ?_
  refine lv_iadd hx hb dL_law_476 ?_
  refine va_sld hx hb hX hbl hbA hI.S (lw_in (j := 5) (by decide) (by omega) hL) dL_law_477 ?_
  have h3 := (q_bd hI hmo (rfl : q_bn 12 24 = (0, 3))).2
  refine q_ci (q_runV (As := [.int (xs (nI i + 1).toNatClampNeg), .int (xs (nI i + 2).toNatClampNeg), .int (xs (nI i + 3).toNatClampNeg), .int (xs (nI i + 4).toNatClampNeg), .int (xs (nI i + 5).toNatClampNeg)]) (rest := []) E (hml.trans hl.1.symm) hI (c_X11_pour l X σ xo ((xs (nI i + 1).toNatClampNeg)) ((xs (nI i + 2).toNatClampNeg)) ((xs (nI i + 3).toNatClampNeg)) ((xs (nI i + 4).toNatClampNeg)) ((xs (nI i + 5).toNatClampNeg)) hxo) kl_44 hxo ⟨rfl, by decide⟩ (show vwCl[10]? = some (RX11, TX11, 17) from rfl) rfl ⟨Nat.le_of_ble_eq_true rfl, Nat.le_of_ble_eq_true rfl⟩ hcs rfl (Nat.le_of_ble_eq_true rfl) dL_law_478) hI (by decide) (fun r1 σ1 H locs hp hk hI => ?_)
  obtain ⟨pq0, pq1, hex1, how1⟩ := hp
  have hp := And.intro pq0 pq1
  have hB := lw_BK how1 hI.1 hxo hmo rfl rfl (how1.1 xo 5 (by rw [hxo]; rfl)) hB
  have hA1 := hA0.pre hal how1 rfl
  have hA := (hA.post hal how1 rfl).pre hal how1 rfl
  have hE := lw_EK hk (by decide) hxo hmo hE
  have hM := lw_kM hk hI.1 hmo (by decide) hM
  have hpp1 := hp
  have hMc := hM
  clear hp hk
  clear h3
  refine lv_pop hx hb dL_law_481 rfl ?_
  refine lv_aload_n hx hb dL_law_482 rfl (lv_at hl 1 rfl) ?_
  refine lv_aload_n hx hb dL_law_483 rfl (lv_at hl 3 rfl) ?_
  refine lv_iload_n hx hb dL_law_484 rfl (lv_at hl 0 rfl) ?_
  refine lv_iconst (v := 1) hx hb dL_law_485 (by decide) ?_
  refine lv_iadd hx hb dL_law_486 ?_
  refine va_sld hx hb hX hbl hbA hI.S (lw_in (j := 1) (by decide) (by omega) hL) dL_law_487 ?_
  refine lv_aload_n hx hb dL_law_488 rfl (lv_at hl 3 rfl) ?_
  refine lv_iload_n hx hb dL_law_489 rfl (lv_at hl 0 rfl) ?_
  refine lv_iconst (v := 2) hx hb dL_law_490 (by decide) ?_
  refine lv_iadd hx hb dL_law_491 ?_
  refine va_sld hx hb hX hbl hbA hI.S (lw_in (j := 2) (by decide) (by omega) hL) dL_law_492 ?_
  refine lv_aload_n hx hb dL_law_493 rfl (lv_at hl 3 rfl) ?_
  refine lv_iload_n hx hb dL_law_494 rfl (lv_at hl 0 rfl) ?_
  refine lv_iconst (v := 3) hx hb dL_law_495 (by decide) ?_
  refine lv_iadd hx hb dL_law_496 ?_
  refine va_sld hx hb hX hbl hbA hI.S (lw_in (j := 3) (by decide) (by omega) hL) dL_law_497 ?_
  refine lv_aload_n hx hb dL_law_498 rfl (lv_at hl 3 rfl) ?_
  refine lv_iload_n hx hb dL_law_499 rfl (lv_at hl 0 rfl) ?_
  refine lv_iconst (v := 4) hx hb dL_law_500 (by decide) ?_
  refine lv_iadd hx hb dL_law_501 ?_
  refine va_sld hx hb hX hbl hbA hI.S (lw_in (j := 4) (by decide) (by omega) hL) dL_law_502 ?_
  refine lv_aload_n hx hb dL_law_503 rfl (lv_at hl 3 rfl) ?_
  refine lv_iload_n hx hb dL_law_504 rfl (lv_at hl 0 rfl) ?_
  refine lv_iconst (v := 5) hx hb dL_law_505 (by decide) ?_
  refine lv_iadd hx hb dL_law_506 ?_
  refine va_sld hx hb hX hbl hbA hI.S (lw_in (j := 5) (by decide) (by omega) hL) dL_law_507 ?_
  have h3 := (q_bd hI hmo (rfl : q_bn 12 24 = (0, 3))).2
  refine q_ci (q_runV (As := [.int (xs (nI i + 1).toNatClampNeg), .int (xs (nI i + 2).toNatClampNeg), .int (xs (nI i + 3).toNatClampNeg), .int (xs (nI i + 4).toNatClampNeg), .int (xs (nI i + 5).toNatClampNeg)]) (rest := []) E (hml.trans hl.1.symm) hI (c_X12_pour l X σ1 mo ((xs (nI i + 1).toNatClampNeg)) ((xs (nI i + 2).toNatClampNeg)) ((xs (nI i + 3).toNatClampNeg)) ((xs (nI i + 4).toNatClampNeg)) ((xs (nI i + 5).toNatClampNeg)) hmo) kl_48 hmo ⟨rfl, by decide⟩ (show vwCl[11]? = some (RX12, TX12, 46) from rfl) rfl ⟨Nat.le_of_ble_eq_true rfl, Nat.le_of_ble_eq_true rfl⟩ hcs rfl (Nat.le_of_ble_eq_true rfl) dL_law_508) hI (by decide) (fun r2 σ2 H locs hp hk hI => ?_)
  obtain ⟨pq0, pq1, hex2, how2⟩ := hp
  have hp := And.intro pq0 pq1
  have hB := lw_BK how2 hI.1 hxo hmo rfl rfl (how2.1 xo 5 (by rw [hxo]; rfl)) hB
  have hA := (hA.post hal how2 rfl).pre hal how2 rfl
  have hE := lw_EK hk (by decide) hxo hmo hE
  have hM := lw_up (lw_kM hk hI.1 hmo (by decide) hM) (q_bd hI hmo (rfl : q_bn 12 24 = (0, 3))).2
  have hpp2 := hp
  clear hp hk
  clear h3
  refine lv_pop hx hb dL_law_511 rfl ?_
  refine lv_goto (tgt := 1796) hx hb dL_law_512 (by decide) ?_
  exact kk _ _ _ hI hM hE hB hA

set_option maxRecDepth 100000 in
set_option maxHeartbeats 4000000 in
theorem lw_c7 {p : Program} {l : Launch} {e : Env} {s : State} {m : MethodId} {below : List Frame} {meth : Method} {c : Code} {b L : Nat} {xs : Nat → Int32} {X : XW} {xo mo : Nat} {σ0 : ST} {cells slots : Nat} {Q : State → Prop} {lb : Nat → Nat} (hcl : tb_Cls X lb xo mo) (hal : al_C X lb xo mo) (E : q_E p c cL_law s m #[Value.ref b] RL X) (hX : va_X b L xs s s.heap) (hbl : b < s.heap.size) (hbA : ¬ q_reg X b) (hml : c.maxLocals = 4) (hxo : q_kd X xo = 11) (hmo : q_kd X mo = 12) (hcs : cells ≤ room_1.cells ∧ slots ≤ room_1.slots) (hL : L ≤ 3072) {i : Nat} (hi : i + 6 ≤ L) {n : Int} (hn : 0 ≤ n ∧ n ≤ 199000) {σ : ST} {H : Heap} {locs : List Loc} {ls : Array Slot} (hI : q_I X 0 σ0 s.heap locs σ H) (hM : m_M (m_c X σ mo) (σ.1 mo 24).toInt n) (hl : lv_has ls 4 [(3, .int (nI i)), (2, .ref mo), (1, .ref xo), (0, .ref b)]) (hE : lw_E xo mo σ) (hB : lw_B X xo mo σ) (hA : al_R X xo mo σ σ)
    (kk : ∀ (σ : ST) (H : Heap) (locs : List Loc), q_I X 0 σ0 s.heap locs σ H → m_M (m_c X σ mo) (σ.1 mo 24).toInt (n + 301) → lw_E xo mo σ → lw_B X xo mo σ → al_R X xo mo σ σ → W p l e room_1 s m #[Value.ref b] below meth c H locs cells slots Q (F0 m 1796 ls [])) : W p l e room_1 s m #[Value.ref b] below meth c H locs cells slots Q (F0 m 515 ls []) := by
  have hx := E.1
  have hb := E.2.1
  have hI0 := hI
  have hE0 := hE
  have hB0 := hB
  have hA0 := hA
  have hM0 := hM
  refine lv_aload_n hx hb dL_law_515 rfl (lv_at hl 2 rfl) ?_
  refine lv_aload_n hx hb dL_law_516 rfl (lv_at hl 3 rfl) ?_
  refine lv_iload_n hx hb dL_law_517 rfl (lv_at hl 0 rfl) ?_
  refine lv_iconst (v := 1) hx hb dL_law_518 (by decide) ?_
  refine lv_iadd hx hb dL_law_519 ?_
  refine va_sld hx hb hX hbl hbA hI.S (lw_in (j := 1) (by decide) (by omega) hL) dL_law_520 ?_
  refine lv_aload_n hx hb dL_law_521 rfl (lv_at hl 3 rfl) ?_
  refine lv_iload_n hx hb dL_law_522 rfl (lv_at hl 0 rfl) ?_
  refine lv_iconst (v := 2) hx hb dL_law_523 (by decide) ?_
  refine lv_iadd hx hb dL_law_524 ?_
  refine va_sld hx hb hX hbl hbA hI.S (lw_in (j := 2) (by decide) (by omega) hL) dL_law_525 ?_
  refine lv_aload_n hx hb dL_law_526 rfl (lv_at hl 3 rfl) ?_
  refine lv_iload_n hx hb dL_law_527 rfl (lv_at hl 0 rfl) ?_
  refine lv_iconst (v := 3) hx hb dL_law_528 (by decide) ?_
  refine lv_iadd hx hb dL_law_529 ?_
  refine va_sld hx hb hX hbl hbA hI.S (lw_in (j := 3) (by decide) (by omega) hL) dL_law_530 ?_
  refine lv_aload_n hx hb dL_law_531 rfl (lv_at hl 3 rfl) ?_
  refine lv_iload_n hx hb dL_law_532 rfl (lv_at hl 0 rfl) ?_
  refine lv_iconst (v := 4) hx hb dL_law_533 (by decide) ?_
  refine lv_iadd hx hb dL_law_534 ?_
  refine va_sld hx hb hX hbl hbA hI.S (lw_in (j := 4) (by decide) (by omega) hL) dL_law_535 ?_
  refine lv_aload_n hx hb dL_law_536 rfl (lv_at hl 3 rfl) ?_
  refine lv_iload_n hx hb dL_law_537 rfl (lv_at hl 0 rfl) ?_
  refine lv_iconst (v := 5) hx hb dL_law_538 (by decide) ?_
  refine lv_iadd hx hb dL_law_539 ?_
  refine va_sld hx hb hX hbl hbA hI.S (lw_in (j := 5) (by decide) (by omega) hL) dL_law_540 ?_
  have h3 := (q_bd hI hmo (rfl : q_bn 12 24 = (0, 3))).2
  refine q_ci (q_runV (As := [.int (xs (nI i + 1).toNatClampNeg), .int (xs (nI i + 2).toNatClampNeg), .int (xs (nI i + 3).toNatClampNeg), .int (xs (nI i + 4).toNatClampNeg), .int (xs (nI i + 5).toNatClampNeg)]) (rest := []) E (hml.trans hl.1.symm) hI (c_X11_feed l X σ xo ((xs (nI i + 1).toNatClampNeg)) ((xs (nI i + 2).toNatClampNeg)) ((xs (nI i + 3).toNatClampNeg)) ((xs (nI i + 4).toNatClampNeg)) ((xs (nI i + 5).toNatClampNeg)) hxo) kl_49 hxo ⟨rfl, by decide⟩ (show vwCl[10]? = some (RX11, TX11, 17) from rfl) rfl ⟨Nat.le_of_ble_eq_true rfl, Nat.le_of_ble_eq_true rfl⟩ hcs rfl (Nat.le_of_ble_eq_true rfl) dL_law_541) hI (by decide) (fun r1 σ1 H locs hp hk hI => ?_)
  obtain ⟨pq0, pq1, pq2, hex1, how1⟩ := hp
  have hp := And.intro pq0 (And.intro pq1 pq2)
  have hA1 := hA0.pre hal how1 rfl
  have hA := (hA.post hal how1 rfl).pre hal how1 rfl
  have hM := lw_kS hp.1 hI.1 hmo (fun j z => m_ne (q_c34 hI.1 hmo) hxo (by decide) z.1) (fun z => m_ne hmo hxo (by decide) z.1) hM
  have hpp1 := hp
  have hMc := hM
  clear hp hk
  clear h3
  refine lv_pop hx hb dL_law_544 rfl ?_
  refine lv_aload_n hx hb dL_law_545 rfl (lv_at hl 1 rfl) ?_
  refine lv_aload_n hx hb dL_law_546 rfl (lv_at hl 3 rfl) ?_
  refine lv_iload_n hx hb dL_law_547 rfl (lv_at hl 0 rfl) ?_
  refine lv_iconst (v := 1) hx hb dL_law_548 (by decide) ?_
  refine lv_iadd hx hb dL_law_549 ?_
  refine va_sld hx hb hX hbl hbA hI.S (lw_in (j := 1) (by decide) (by omega) hL) dL_law_550 ?_
  refine lv_aload_n hx hb dL_law_551 rfl (lv_at hl 3 rfl) ?_
  refine lv_iload_n hx hb dL_law_552 rfl (lv_at hl 0 rfl) ?_
  refine lv_iconst (v := 2) hx hb dL_law_553 (by decide) ?_
  refine lv_iadd hx hb dL_law_554 ?_
  refine va_sld hx hb hX hbl hbA hI.S (lw_in (j := 2) (by decide) (by omega) hL) dL_law_555 ?_
  refine lv_aload_n hx hb dL_law_556 rfl (lv_at hl 3 rfl) ?_
  refine lv_iload_n hx hb dL_law_557 rfl (lv_at hl 0 rfl) ?_
  refine lv_iconst (v := 3) hx hb dL_law_558 (by decide) ?_
  refine lv_iadd hx hb dL_law_559 ?_
  refine va_sld hx hb hX hbl hbA hI.S (lw_in (j := 3) (by decide) (by omega) hL) dL_law_560 ?_
  refine lv_aload_n hx hb dL_law_561 rfl (lv_at hl 3 rfl) ?_
  refine lv_iload_n hx hb dL_law_562 rfl (lv_at hl 0 rfl) ?_
  refine lv_iconst (v := 4) hx hb dL_law_563 (by decide) ?_
  refine lv_iadd hx hb dL_law_564 ?_
  refine va_sld hx hb hX hbl hbA hI.S (lw_in (j := 4) (by decide) (by omega) hL) dL_law_565 ?_
  refine lv_aload_n hx hb dL_law_566 rfl (lv_at hl 3 rfl) ?_
  refine lv_iload_n hx hb dL_law_567 rfl (lv_at hl 0 rfl) ?_
  refine lv_iconst (v := 5) hx hb dL_law_568 (by decide) ?_
  refine lv_iadd hx hb dL_law_569 ?_
  refine va_sld hx hb hX hbl hbA hI.S (lw_in (j := 5) (by decide) (by omega) hL) dL_law_570 ?_
  have h3 := (q_bd hI hmo (rfl : q_bn 12 24 = (0, 3))).2
  refine q_ci (q_runV (As := [.int (xs (nI i + 1).toNatClampNeg), .int (xs (nI i + 2).toNatClampNeg), .int (xs (nI i + 3).toNatClampNeg), .int (xs (nI i + 4).toNatClampNeg), .int (xs (nI i + 5).toNatClampNeg)]) (rest := []) E (hml.trans hl.1.symm) hI (c_X12_feed l X σ1 mo ((xs (nI i + 1).toNatClampNeg)) ((xs (nI i + 2).toNatClampNeg)) ((xs (nI i + 3).toNatClampNeg)) ((xs (nI i + 4).toNatClampNeg)) ((xs (nI i + 5).toNatClampNeg)) hmo) kl_53 hmo ⟨rfl, by decide⟩ (show vwCl[11]? = some (RX12, TX12, 46) from rfl) rfl ⟨Nat.le_of_ble_eq_true rfl, Nat.le_of_ble_eq_true rfl⟩ hcs rfl (Nat.le_of_ble_eq_true rfl) dL_law_571) hI (by decide) (fun r2 σ2 H locs hp hk hI => ?_)
  obtain ⟨pq0, pq1, pq2, hex2, how2⟩ := hp
  have hp := And.intro pq0 (And.intro pq1 pq2)
  have hBF := lw_Bfeed hex1 hex2 how1 how2 hI.1 hxo hmo rfl rfl rfl rfl hE0.2 (q_bd hI0 hxo (rfl : q_bn 11 5 = (0, 900))) hB0
  have hB := hBF.2
  have hA := (hA.post hal how2 rfl).pre hal how2 rfl
  have hF := lw_Efeed hxo hmo hE hpp1.1 hpp1.2.1 hpp1.2.2 hp.1 hp.2.1 hp.2.2
  have hE := hF.1
  have hM := lw_up (lw_kS hp.1 hI.1 hmo (fun j z => m_ne (q_c34 hI.1 hmo) hmo (by decide) z.1) (fun z => absurd z.2 (by decide)) hM) (q_bd hI hmo (rfl : q_bn 12 24 = (0, 3))).2
  have hpp2 := hp
  clear hp hk
  clear h3
  refine lv_pop hx hb dL_law_574 rfl ?_
  refine lv_goto (tgt := 1796) hx hb dL_law_575 (by decide) ?_
  exact kk _ _ _ hI hM hE hB hA

set_option maxRecDepth 100000 in
set_option maxHeartbeats 4000000 in
theorem lw_c8 {p : Program} {l : Launch} {e : Env} {s : State} {m : MethodId} {below : List Frame} {meth : Method} {c : Code} {b L : Nat} {xs : Nat → Int32} {X : XW} {xo mo : Nat} {σ0 : ST} {cells slots : Nat} {Q : State → Prop} {lb : Nat → Nat} (hcl : tb_Cls X lb xo mo) (hal : al_C X lb xo mo) (E : q_E p c cL_law s m #[Value.ref b] RL X) (hX : va_X b L xs s s.heap) (hbl : b < s.heap.size) (hbA : ¬ q_reg X b) (hml : c.maxLocals = 4) (hxo : q_kd X xo = 11) (hmo : q_kd X mo = 12) (hcs : cells ≤ room_1.cells ∧ slots ≤ room_1.slots) (hL : L ≤ 3072) {i : Nat} (hi : i + 6 ≤ L) {n : Int} (hn : 0 ≤ n ∧ n ≤ 199000) {σ : ST} {H : Heap} {locs : List Loc} {ls : Array Slot} (hI : q_I X 0 σ0 s.heap locs σ H) (hM : m_M (m_c X σ mo) (σ.1 mo 24).toInt n) (hl : lv_has ls 4 [(3, .int (nI i)), (2, .ref mo), (1, .ref xo), (0, .ref b)]) (hE : lw_E xo mo σ) (hB : lw_B X xo mo σ) (hA : al_R X xo mo σ σ)
    (kk : ∀ (σ : ST) (H : Heap) (locs : List Loc), q_I X 0 σ0 s.heap locs σ H → m_M (m_c X σ mo) (σ.1 mo 24).toInt (n + 301) → lw_E xo mo σ → lw_B X xo mo σ → al_R X xo mo σ σ → W p l e room_1 s m #[Value.ref b] below meth c H locs cells slots Q (F0 m 1796 ls [])) : W p l e room_1 s m #[Value.ref b] below meth c H locs cells slots Q (F0 m 578 ls []) := by
  have hx := E.1
  have hb := E.2.1
  have hI0 := hI
  have hE0 := hE
  have hB0 := hB
  have hA0 := hA
  have hM0 := hM
  refine lv_aload_n hx hb dL_law_578 rfl (lv_at hl 2 rfl) ?_
  refine lv_aload_n hx hb dL_law_579 rfl (lv_at hl 3 rfl) ?_
  refine lv_iload_n hx hb dL_law_580 rfl (lv_at hl 0 rfl) ?_
  refine lv_iconst (v := 1) hx hb dL_law_581 (by decide) ?_
  refine lv_iadd hx hb dL_law_582 ?_
  refine va_sld hx hb hX hbl hbA hI.S (lw_in (j := 1) (by decide) (by omega) hL) dL_law_583 ?_
  have h3 := (q_bd hI hmo (rfl : q_bn 12 24 = (0, 3))).2
  refine q_ci (q_runV (As := [.int (xs (nI i + 1).toNatClampNeg)]) (rest := []) E (hml.trans hl.1.symm) hI (c_X11_table l X σ xo ((xs (nI i + 1).toNatClampNeg)) hxo) kl_54 hxo ⟨rfl, by decide⟩ (show vwCl[10]? = some (RX11, TX11, 17) from rfl) rfl ⟨Nat.le_of_ble_eq_true rfl, Nat.le_of_ble_eq_true rfl⟩ hcs rfl (Nat.le_of_ble_eq_true rfl) dL_law_584) hI (by decide) (fun r1 σ1 H locs hp hk hI => ?_)
  obtain ⟨pq0, pq1, pq2, hex1, how1⟩ := hp
  have hp := And.intro pq0 (And.intro pq1 pq2)
  have hA1 := hA0.pre hal how1 rfl
  have hM := lw_kS hp.1 hI.1 hmo (fun j z => m_ne (q_c34 hI.1 hmo) hxo (by decide) z.1) (fun z => m_ne hmo hxo (by decide) z.1) hM
  have hpp1 := hp
  have hMc := hM
  clear hp hk
  clear h3
  refine lv_pop hx hb dL_law_587 rfl ?_
  refine lv_aload_n hx hb dL_law_588 rfl (lv_at hl 1 rfl) ?_
  refine lv_aload_n hx hb dL_law_589 rfl (lv_at hl 3 rfl) ?_
  refine lv_iload_n hx hb dL_law_590 rfl (lv_at hl 0 rfl) ?_
  refine lv_iconst (v := 1) hx hb dL_law_591 (by decide) ?_
  refine lv_iadd hx hb dL_law_592 ?_
  refine va_sld hx hb hX hbl hbA hI.S (lw_in (j := 1) (by decide) (by omega) hL) dL_law_593 ?_
  have h3 := (q_bd hI hmo (rfl : q_bn 12 24 = (0, 3))).2
  refine q_ci (q_runV (As := [.int (xs (nI i + 1).toNatClampNeg)]) (rest := []) E (hml.trans hl.1.symm) hI (c_X12_table l X σ1 mo ((xs (nI i + 1).toNatClampNeg)) n hmo hM.1.1 hM.1.2 hn.1) kl_58 hmo ⟨rfl, by decide⟩ (show vwCl[11]? = some (RX12, TX12, 46) from rfl) rfl ⟨Nat.le_of_ble_eq_true rfl, Nat.le_of_ble_eq_true rfl⟩ hcs rfl (Nat.le_of_ble_eq_true rfl) dL_law_594) hI (by decide) (fun r2 σ2 H locs hp hk hI => ?_)
  obtain ⟨pq0, pq1, pq2, pq3, pq4, pq5, hex2, how2⟩ := hp
  have hp := And.intro pq0 (And.intro pq1 (And.intro pq2 (And.intro pq3 (And.intro pq4 pq5))))
  have hB := lw_B2 how1 how2 hI.1 hxo hmo rfl rfl rfl rfl (lw_h5t hpp1.2.1 hpp1.2.2 (how2.1 xo 5 (by rw [hxo]; rfl))) hB
  have hO := lw_Atable hcl hal hA1 hMc hex1 hex2 how1 how2 hI.1 hxo hmo rfl rfl rfl hE0.2 (q_bd hI0 hxo (rfl : q_bn 11 5 = (0, 900))) hB0 (hp.2.1) rfl rfl rfl
  have hA := hO.2.1
  have hF := lw_Etable hxo hmo hE hpp1.1 hpp1.2.1 hpp1.2.2 hp.1 hp.2.2.2.2.1 hp.2.2.2.2.2
  have hE := hF.1
  have hM := lw_wr (hp.1 mo 24 (by rw [hmo]; decide) (fun z => by omega)) hp.2.1 (m_W.le hp.2.2.1 (show n ≤ n + 301 by omega)) hp.2.2.2.1 hM h3 (by omega)
  have hpp2 := hp
  clear hp hk
  clear h3
  refine lv_pop hx hb dL_law_597 rfl ?_
  refine lv_goto (tgt := 1796) hx hb dL_law_598 (by decide) ?_
  exact kk _ _ _ hI hM hE hB hA

set_option maxRecDepth 100000 in
set_option maxHeartbeats 4000000 in
theorem lw_c9 {p : Program} {l : Launch} {e : Env} {s : State} {m : MethodId} {below : List Frame} {meth : Method} {c : Code} {b L : Nat} {xs : Nat → Int32} {X : XW} {xo mo : Nat} {σ0 : ST} {cells slots : Nat} {Q : State → Prop} {lb : Nat → Nat} (hcl : tb_Cls X lb xo mo) (hal : al_C X lb xo mo) (E : q_E p c cL_law s m #[Value.ref b] RL X) (hX : va_X b L xs s s.heap) (hbl : b < s.heap.size) (hbA : ¬ q_reg X b) (hml : c.maxLocals = 4) (hxo : q_kd X xo = 11) (hmo : q_kd X mo = 12) (hcs : cells ≤ room_1.cells ∧ slots ≤ room_1.slots) (hL : L ≤ 3072) {i : Nat} (hi : i + 6 ≤ L) {n : Int} (hn : 0 ≤ n ∧ n ≤ 199000) {σ : ST} {H : Heap} {locs : List Loc} {ls : Array Slot} (hI : q_I X 0 σ0 s.heap locs σ H) (hM : m_M (m_c X σ mo) (σ.1 mo 24).toInt n) (hl : lv_has ls 4 [(3, .int (nI i)), (2, .ref mo), (1, .ref xo), (0, .ref b)]) (hE : lw_E xo mo σ) (hB : lw_B X xo mo σ) (hA : al_R X xo mo σ σ)
    (kk : ∀ (σ : ST) (H : Heap) (locs : List Loc), q_I X 0 σ0 s.heap locs σ H → m_M (m_c X σ mo) (σ.1 mo 24).toInt (n + 301) → lw_E xo mo σ → lw_B X xo mo σ → al_R X xo mo σ σ → W p l e room_1 s m #[Value.ref b] below meth c H locs cells slots Q (F0 m 1796 ls [])) : W p l e room_1 s m #[Value.ref b] below meth c H locs cells slots Q (F0 m 601 ls []) := by
  have hx := E.1
  have hb := E.2.1
  have hI0 := hI
  have hE0 := hE
  have hB0 := hB
  have hA0 := hA
  have hM0 := hM
  refine lv_aload_n hx hb dL_law_601 rfl (lv_at hl 2 rfl) ?_
  refine lv_aload_n hx hb dL_law_602 rfl (lv_at hl 3 rfl) ?_
  refine lv_iload_n hx hb dL_law_603 rfl (lv_at hl 0 rfl) ?_
  refine lv_iconst (v := 1) hx hb dL_law_604 (by decide) ?_
  refine lv_iadd hx hb dL_law_605 ?_
  refine va_sld hx hb hX hbl hbA hI.S (lw_in (j := 1) (by decide) (by omega) hL) dL_law_606 ?_
  have h3 := (q_bd hI hmo (rfl : q_bn 12 24 = (0, 3))).2
  refine q_ci (q_runV (As := [.int (xs (nI i + 1).toNatClampNeg)]) (rest := []) E (hml.trans hl.1.symm) hI (c_X11_round l X σ xo ((xs (nI i + 1).toNatClampNeg)) hxo) kl_59 hxo ⟨rfl, by decide⟩ (show vwCl[10]? = some (RX11, TX11, 17) from rfl) rfl ⟨Nat.le_of_ble_eq_true rfl, Nat.le_of_ble_eq_true rfl⟩ hcs rfl (Nat.le_of_ble_eq_true rfl) dL_law_607) hI (by decide) (fun r1 σ1 H locs hp hk hI => ?_)
  obtain ⟨pq0, pq1, pq2, hex1, how1⟩ := hp
  have hp := And.intro pq0 (And.intro pq1 pq2)
  have hA1 := hA0.pre hal how1 rfl
  have hM := lw_kS hp.1 hI.1 hmo (fun j z => m_ne (q_c34 hI.1 hmo) hxo (by decide) z.1) (fun z => m_ne hmo hxo (by decide) z.1) hM
  have hpp1 := hp
  have hMc := hM
  clear hp hk
  clear h3
  refine lv_pop hx hb dL_law_610 rfl ?_
  refine lv_aload_n hx hb dL_law_611 rfl (lv_at hl 1 rfl) ?_
  refine lv_aload_n hx hb dL_law_612 rfl (lv_at hl 3 rfl) ?_
  refine lv_iload_n hx hb dL_law_613 rfl (lv_at hl 0 rfl) ?_
  refine lv_iconst (v := 1) hx hb dL_law_614 (by decide) ?_
  refine lv_iadd hx hb dL_law_615 ?_
  refine va_sld hx hb hX hbl hbA hI.S (lw_in (j := 1) (by decide) (by omega) hL) dL_law_616 ?_
  have h3 := (q_bd hI hmo (rfl : q_bn 12 24 = (0, 3))).2
  refine q_ci (q_runV (As := [.int (xs (nI i + 1).toNatClampNeg)]) (rest := []) E (hml.trans hl.1.symm) hI (c_X12_round l X σ1 mo ((xs (nI i + 1).toNatClampNeg)) n hmo hM.1.1 hM.1.2 hn.1) kl_62 hmo ⟨rfl, by decide⟩ (show vwCl[11]? = some (RX12, TX12, 46) from rfl) rfl ⟨Nat.le_of_ble_eq_true rfl, Nat.le_of_ble_eq_true rfl⟩ hcs rfl (Nat.le_of_ble_eq_true rfl) dL_law_617) hI (by decide) (fun r2 σ2 H locs hp hk hI => ?_)
  obtain ⟨pq0, pq1, pq2, pq3, pq4, pq5, hex2, how2⟩ := hp
  have hp := And.intro pq0 (And.intro pq1 (And.intro pq2 (And.intro pq3 (And.intro pq4 pq5))))
  have hB := lw_B2 how1 how2 hI.1 hxo hmo rfl rfl rfl rfl (lw_h5r hpp1.2.1 hpp1.2.2 (how2.1 xo 5 (by rw [hxo]; rfl))) hB
  have hO := lw_Around hcl hal hA1 hMc hex1 hex2 how1 how2 hI.1 hxo hmo rfl rfl rfl hE0.2 (q_bd hI0 hxo (rfl : q_bn 11 5 = (0, 900))) hB0
  have hA := hO.2.1
  have hF := lw_Eround hxo hmo hE hpp1.1 hpp1.2.1 hpp1.2.2 hp.1 hp.2.2.2.2.1 hp.2.2.2.2.2
  have hE := hF.1
  have hM := lw_wr (hp.1 mo 24 (by rw [hmo]; decide) (fun z => by omega)) hp.2.1 (m_W.le hp.2.2.1 (show n ≤ n + 301 by omega)) hp.2.2.2.1 hM h3 (by omega)
  have hpp2 := hp
  clear hp hk
  clear h3
  refine lv_pop hx hb dL_law_620 rfl ?_
  refine lv_goto (tgt := 1796) hx hb dL_law_621 (by decide) ?_
  exact kk _ _ _ hI hM hE hB hA

set_option maxRecDepth 100000 in
set_option maxHeartbeats 4000000 in
theorem lw_c10 {p : Program} {l : Launch} {e : Env} {s : State} {m : MethodId} {below : List Frame} {meth : Method} {c : Code} {b L : Nat} {xs : Nat → Int32} {X : XW} {xo mo : Nat} {σ0 : ST} {cells slots : Nat} {Q : State → Prop} {lb : Nat → Nat} (hcl : tb_Cls X lb xo mo) (hal : al_C X lb xo mo) (E : q_E p c cL_law s m #[Value.ref b] RL X) (hX : va_X b L xs s s.heap) (hbl : b < s.heap.size) (hbA : ¬ q_reg X b) (hml : c.maxLocals = 4) (hxo : q_kd X xo = 11) (hmo : q_kd X mo = 12) (hcs : cells ≤ room_1.cells ∧ slots ≤ room_1.slots) (hL : L ≤ 3072) {i : Nat} (hi : i + 6 ≤ L) {n : Int} (hn : 0 ≤ n ∧ n ≤ 199000) {σ : ST} {H : Heap} {locs : List Loc} {ls : Array Slot} (hI : q_I X 0 σ0 s.heap locs σ H) (hM : m_M (m_c X σ mo) (σ.1 mo 24).toInt n) (hl : lv_has ls 4 [(3, .int (nI i)), (2, .ref mo), (1, .ref xo), (0, .ref b)]) (hE : lw_E xo mo σ) (hB : lw_B X xo mo σ) (hA : al_R X xo mo σ σ)
    (kk : ∀ (σ : ST) (H : Heap) (locs : List Loc), q_I X 0 σ0 s.heap locs σ H → m_M (m_c X σ mo) (σ.1 mo 24).toInt (n + 301) → lw_E xo mo σ → lw_B X xo mo σ → al_R X xo mo σ σ → W p l e room_1 s m #[Value.ref b] below meth c H locs cells slots Q (F0 m 1796 ls [])) : W p l e room_1 s m #[Value.ref b] below meth c H locs cells slots Q (F0 m 624 ls []) := by
  have hx := E.1
  have hb := E.2.1
  have hI0 := hI
  have hE0 := hE
  have hB0 := hB
  have hA0 := hA
  have hM0 := hM
  refine lv_aload_n hx hb dL_law_624 rfl (lv_at hl 2 rfl) ?_
  refine lv_aload_n hx hb dL_law_625 rfl (lv_at hl 3 rfl) ?_
  refine lv_iload_n hx hb dL_law_626 rfl (lv_at hl 0 rfl) ?_
  refine lv_iconst (v := 1) hx hb dL_law_627 (by decide) ?_
  refine lv_iadd hx hb dL_law_628 ?_
  refine va_sld hx hb hX hbl hbA hI.S (lw_in (j := 1) (by decide) (by omega) hL) dL_law_629 ?_
  have h3 := (q_bd hI hmo (rfl : q_bn 12 24 = (0, 3))).2
  refine q_ci (q_runV (As := [.int (xs (nI i + 1).toNatClampNeg)]) (rest := []) E (hml.trans hl.1.symm) hI (c_X11_fault l X σ xo ((xs (nI i + 1).toNatClampNeg)) hxo) kl_63 hxo ⟨rfl, by decide⟩ (show vwCl[10]? = some (RX11, TX11, 17) from rfl) rfl ⟨Nat.le_of_ble_eq_true rfl, Nat.le_of_ble_eq_true rfl⟩ hcs rfl (Nat.le_of_ble_eq_true rfl) dL_law_630) hI (by decide) (fun r1 σ1 H locs hp hk hI => ?_)
  obtain ⟨hs1, hex1⟩ := hp
  have how1 : q_ow [] [] X σ σ1 := by rw [hs1]; exact q_ow.rf
  have hp := True.intro
  have hB := lw_BK how1 hI.1 hxo hmo rfl rfl (how1.1 xo 5 (by rw [hxo]; rfl)) hB
  have hA1 := hA0.pre hal how1 rfl
  have hA := (hA.post hal how1 rfl).pre hal how1 rfl
  have hE := lw_EK hk (by decide) hxo hmo hE
  have hM := lw_kM hk hI.1 hmo (by decide) hM
  have hpp1 := hp
  have hMc := hM
  clear hp hk
  clear h3
  refine lv_pop hx hb dL_law_633 rfl ?_
  refine lv_aload_n hx hb dL_law_634 rfl (lv_at hl 1 rfl) ?_
  refine lv_aload_n hx hb dL_law_635 rfl (lv_at hl 3 rfl) ?_
  refine lv_iload_n hx hb dL_law_636 rfl (lv_at hl 0 rfl) ?_
  refine lv_iconst (v := 1) hx hb dL_law_637 (by decide) ?_
  refine lv_iadd hx hb dL_law_638 ?_
  refine va_sld hx hb hX hbl hbA hI.S (lw_in (j := 1) (by decide) (by omega) hL) dL_law_639 ?_
  have h3 := (q_bd hI hmo (rfl : q_bn 12 24 = (0, 3))).2
  refine q_ci (q_runV (As := [.int (xs (nI i + 1).toNatClampNeg)]) (rest := []) E (hml.trans hl.1.symm) hI (c_X12_fault l X σ1 mo ((xs (nI i + 1).toNatClampNeg)) hmo) kl_66 hmo ⟨rfl, by decide⟩ (show vwCl[11]? = some (RX12, TX12, 46) from rfl) rfl ⟨Nat.le_of_ble_eq_true rfl, Nat.le_of_ble_eq_true rfl⟩ hcs rfl (Nat.le_of_ble_eq_true rfl) dL_law_640) hI (by decide) (fun r2 σ2 H locs hp hk hI => ?_)
  obtain ⟨hex2, how2⟩ := hp
  have hp := True.intro
  have hB := lw_BK how2 hI.1 hxo hmo rfl rfl (how2.1 xo 5 (by rw [hxo]; rfl)) hB
  have hA := (hA.post hal how2 rfl).pre hal how2 rfl
  have hE := lw_EK hk (by decide) hxo hmo hE
  have hM := lw_up (lw_kM hk hI.1 hmo (by decide) hM) (q_bd hI hmo (rfl : q_bn 12 24 = (0, 3))).2
  have hpp2 := hp
  clear hp hk
  clear h3
  refine lv_pop hx hb dL_law_643 rfl ?_
  refine lv_goto (tgt := 1796) hx hb dL_law_644 (by decide) ?_
  exact kk _ _ _ hI hM hE hB hA

set_option maxRecDepth 100000 in
set_option maxHeartbeats 4000000 in
theorem lw_c11 {p : Program} {l : Launch} {e : Env} {s : State} {m : MethodId} {below : List Frame} {meth : Method} {c : Code} {b L : Nat} {xs : Nat → Int32} {X : XW} {xo mo : Nat} {σ0 : ST} {cells slots : Nat} {Q : State → Prop} {lb : Nat → Nat} (hcl : tb_Cls X lb xo mo) (hal : al_C X lb xo mo) (E : q_E p c cL_law s m #[Value.ref b] RL X) (hX : va_X b L xs s s.heap) (hbl : b < s.heap.size) (hbA : ¬ q_reg X b) (hml : c.maxLocals = 4) (hxo : q_kd X xo = 11) (hmo : q_kd X mo = 12) (hcs : cells ≤ room_1.cells ∧ slots ≤ room_1.slots) (hL : L ≤ 3072) {i : Nat} (hi : i + 6 ≤ L) {n : Int} (hn : 0 ≤ n ∧ n ≤ 199000) {σ : ST} {H : Heap} {locs : List Loc} {ls : Array Slot} (hI : q_I X 0 σ0 s.heap locs σ H) (hM : m_M (m_c X σ mo) (σ.1 mo 24).toInt n) (hl : lv_has ls 4 [(3, .int (nI i)), (2, .ref mo), (1, .ref xo), (0, .ref b)]) (hE : lw_E xo mo σ) (hB : lw_B X xo mo σ) (hA : al_R X xo mo σ σ)
    (kk : ∀ (σ : ST) (H : Heap) (locs : List Loc), q_I X 0 σ0 s.heap locs σ H → m_M (m_c X σ mo) (σ.1 mo 24).toInt (n + 301) → lw_E xo mo σ → lw_B X xo mo σ → al_R X xo mo σ σ → W p l e room_1 s m #[Value.ref b] below meth c H locs cells slots Q (F0 m 1796 ls [])) : W p l e room_1 s m #[Value.ref b] below meth c H locs cells slots Q (F0 m 647 ls []) := by
  have hx := E.1
  have hb := E.2.1
  have hI0 := hI
  have hE0 := hE
  have hB0 := hB
  have hA0 := hA
  have hM0 := hM
  refine lv_aload_n hx hb dL_law_647 rfl (lv_at hl 2 rfl) ?_
  refine lv_aload_n hx hb dL_law_648 rfl (lv_at hl 3 rfl) ?_
  refine lv_iload_n hx hb dL_law_649 rfl (lv_at hl 0 rfl) ?_
  refine lv_iconst (v := 1) hx hb dL_law_650 (by decide) ?_
  refine lv_iadd hx hb dL_law_651 ?_
  refine va_sld hx hb hX hbl hbA hI.S (lw_in (j := 1) (by decide) (by omega) hL) dL_law_652 ?_
  have h3 := (q_bd hI hmo (rfl : q_bn 12 24 = (0, 3))).2
  refine q_ci (q_runV (As := [.int (xs (nI i + 1).toNatClampNeg)]) (rest := []) E (hml.trans hl.1.symm) hI (c_X11_many l X σ xo ((xs (nI i + 1).toNatClampNeg)) hxo) kl_67 hxo ⟨rfl, by decide⟩ (show vwCl[10]? = some (RX11, TX11, 17) from rfl) rfl ⟨Nat.le_of_ble_eq_true rfl, Nat.le_of_ble_eq_true rfl⟩ hcs rfl (Nat.le_of_ble_eq_true rfl) dL_law_653) hI (by decide) (fun r1 σ1 H locs hp hk hI => ?_)
  obtain ⟨hex1, how1⟩ := hp
  have hp := True.intro
  have hB := lw_BK how1 hI.1 hxo hmo rfl rfl (how1.1 xo 5 (by rw [hxo]; rfl)) hB
  have hA1 := hA0.pre hal how1 rfl
  have hA := (hA.post hal how1 rfl).pre hal how1 rfl
  have hE := lw_EK hk (by decide) hxo hmo hE
  have hM := lw_kM hk hI.1 hmo (by decide) hM
  have hpp1 := hp
  have hMc := hM
  clear hp hk
  clear h3
  refine lv_pop hx hb dL_law_656 rfl ?_
  refine lv_aload_n hx hb dL_law_657 rfl (lv_at hl 1 rfl) ?_
  refine lv_aload_n hx hb dL_law_658 rfl (lv_at hl 3 rfl) ?_
  refine lv_iload_n hx hb dL_law_659 rfl (lv_at hl 0 rfl) ?_
  refine lv_iconst (v := 1) hx hb dL_law_660 (by decide) ?_
  refine lv_iadd hx hb dL_law_661 ?_
  refine va_sld hx hb hX hbl hbA hI.S (lw_in (j := 1) (by decide) (by omega) hL) dL_law_662 ?_
  have h3 := (q_bd hI hmo (rfl : q_bn 12 24 = (0, 3))).2
  refine q_ci (q_runV (As := [.int (xs (nI i + 1).toNatClampNeg)]) (rest := []) E (hml.trans hl.1.symm) hI (c_X12_many l X σ1 mo ((xs (nI i + 1).toNatClampNeg)) hmo hM.1.1) kl_70 hmo ⟨rfl, by decide⟩ (show vwCl[11]? = some (RX12, TX12, 46) from rfl) rfl ⟨Nat.le_of_ble_eq_true rfl, Nat.le_of_ble_eq_true rfl⟩ hcs rfl (Nat.le_of_ble_eq_true rfl) dL_law_663) hI (by decide) (fun r2 σ2 H locs hp hk hI => ?_)
  obtain ⟨hex2, how2⟩ := hp
  have hp := True.intro
  have hB := lw_BK how2 hI.1 hxo hmo rfl rfl (how2.1 xo 5 (by rw [hxo]; rfl)) hB
  have hA := (hA.post hal how2 rfl).pre hal how2 rfl
  have hE := lw_EK hk (by decide) hxo hmo hE
  have hM := lw_up (lw_kM hk hI.1 hmo (by decide) hM) (q_bd hI hmo (rfl : q_bn 12 24 = (0, 3))).2
  have hpp2 := hp
  clear hp hk
  clear h3
  refine lv_pop hx hb dL_law_666 rfl ?_
  refine lv_goto (tgt := 1796) hx hb dL_law_667 (by decide) ?_
  exact kk _ _ _ hI hM hE hB hA

set_option maxRecDepth 100000 in
set_option maxHeartbeats 4000000 in
theorem lw_c12 {p : Program} {l : Launch} {e : Env} {s : State} {m : MethodId} {below : List Frame} {meth : Method} {c : Code} {b L : Nat} {xs : Nat → Int32} {X : XW} {xo mo : Nat} {σ0 : ST} {cells slots : Nat} {Q : State → Prop} {lb : Nat → Nat} (hcl : tb_Cls X lb xo mo) (hal : al_C X lb xo mo) (E : q_E p c cL_law s m #[Value.ref b] RL X) (hX : va_X b L xs s s.heap) (hbl : b < s.heap.size) (hbA : ¬ q_reg X b) (hml : c.maxLocals = 4) (hxo : q_kd X xo = 11) (hmo : q_kd X mo = 12) (hcs : cells ≤ room_1.cells ∧ slots ≤ room_1.slots) (hL : L ≤ 3072) {i : Nat} (hi : i + 6 ≤ L) {n : Int} (hn : 0 ≤ n ∧ n ≤ 199000) {σ : ST} {H : Heap} {locs : List Loc} {ls : Array Slot} (hI : q_I X 0 σ0 s.heap locs σ H) (hM : m_M (m_c X σ mo) (σ.1 mo 24).toInt n) (hl : lv_has ls 4 [(3, .int (nI i)), (2, .ref mo), (1, .ref xo), (0, .ref b)]) (hE : lw_E xo mo σ) (hB : lw_B X xo mo σ) (hA : al_R X xo mo σ σ)
    (kk : ∀ (σ : ST) (H : Heap) (locs : List Loc), q_I X 0 σ0 s.heap locs σ H → m_M (m_c X σ mo) (σ.1 mo 24).toInt (n + 301) → lw_E xo mo σ → lw_B X xo mo σ → al_R X xo mo σ σ → W p l e room_1 s m #[Value.ref b] below meth c H locs cells slots Q (F0 m 1796 ls [])) : W p l e room_1 s m #[Value.ref b] below meth c H locs cells slots Q (F0 m 670 ls []) := by
  have hx := E.1
  have hb := E.2.1
  have hI0 := hI
  have hE0 := hE
  have hB0 := hB
  have hA0 := hA
  have hM0 := hM
  refine lv_aload_n hx hb dL_law_670 rfl (lv_at hl 2 rfl) ?_
  refine lv_aload_n hx hb dL_law_671 rfl (lv_at hl 3 rfl) ?_
  refine lv_iload_n hx hb dL_law_672 rfl (lv_at hl 0 rfl) ?_
  refine lv_iconst (v := 1) hx hb dL_law_673 (by decide) ?_
  refine lv_iadd hx hb dL_law_674 ?_
  refine va_sld hx hb hX hbl hbA hI.S (lw_in (j := 1) (by decide) (by omega) hL) dL_law_675 ?_
  refine lv_aload_n hx hb dL_law_676 rfl (lv_at hl 3 rfl) ?_
  refine lv_iload_n hx hb dL_law_677 rfl (lv_at hl 0 rfl) ?_
  refine lv_iconst (v := 2) hx hb dL_law_678 (by decide) ?_
  refine lv_iadd hx hb dL_law_679 ?_
  refine va_sld hx hb hX hbl hbA hI.S (lw_in (j := 2) (by decide) (by omega) hL) dL_law_680 ?_
  have h3 := (q_bd hI hmo (rfl : q_bn 12 24 = (0, 3))).2
  refine q_ci (q_runV (As := [.int (xs (nI i + 1).toNatClampNeg), .int (xs (nI i + 2).toNatClampNeg)]) (rest := []) E (hml.trans hl.1.symm) hI (c_X11_player l X σ xo ((xs (nI i + 1).toNatClampNeg)) ((xs (nI i + 2).toNatClampNeg)) hxo) kl_71 hxo ⟨rfl, by decide⟩ (show vwCl[10]? = some (RX11, TX11, 17) from rfl) rfl ⟨Nat.le_of_ble_eq_true rfl, Nat.le_of_ble_eq_true rfl⟩ hcs rfl (Nat.le_of_ble_eq_true rfl) dL_law_681) hI (by decide) (fun r1 σ1 H locs hp hk hI => ?_)
  obtain ⟨hex1, how1⟩ := hp
  have hp := True.intro
  have hB := lw_BK how1 hI.1 hxo hmo rfl rfl (how1.1 xo 5 (by rw [hxo]; rfl)) hB
  have hA1 := hA0.pre hal how1 rfl
  have hA := (hA.post hal how1 rfl).pre hal how1 rfl
  have hE := lw_EK hk (by decide) hxo hmo hE
  have hM := lw_kM hk hI.1 hmo (by decide) hM
  have hpp1 := hp
  have hMc := hM
  clear hp hk
  clear h3
  refine lv_pop hx hb dL_law_684 rfl ?_
  refine lv_aload_n hx hb dL_law_685 rfl (lv_at hl 1 rfl) ?_
  refine lv_aload_n hx hb dL_law_686 rfl (lv_at hl 3 rfl) ?_
  refine lv_iload_n hx hb dL_law_687 rfl (lv_at hl 0 rfl) ?_
  refine lv_iconst (v := 1) hx hb dL_law_688 (by decide) ?_
  refine lv_iadd hx hb dL_law_689 ?_
  refine va_sld hx hb hX hbl hbA hI.S (lw_in (j := 1) (by decide) (by omega) hL) dL_law_690 ?_
  refine lv_aload_n hx hb dL_law_691 rfl (lv_at hl 3 rfl) ?_
  refine lv_iload_n hx hb dL_law_692 rfl (lv_at hl 0 rfl) ?_
  refine lv_iconst (v := 2) hx hb dL_law_693 (by decide) ?_
  refine lv_iadd hx hb dL_law_694 ?_
  refine va_sld hx hb hX hbl hbA hI.S (lw_in (j := 2) (by decide) (by omega) hL) dL_law_695 ?_
  have h3 := (q_bd hI hmo (rfl : q_bn 12 24 = (0, 3))).2
  refine q_ci (q_runV (As := [.int (xs (nI i + 1).toNatClampNeg), .int (xs (nI i + 2).toNatClampNeg)]) (rest := []) E (hml.trans hl.1.symm) hI (c_X12_player l X σ1 mo ((xs (nI i + 1).toNatClampNeg)) ((xs (nI i + 2).toNatClampNeg)) hmo hM.1.1) kl_75 hmo ⟨rfl, by decide⟩ (show vwCl[11]? = some (RX12, TX12, 46) from rfl) rfl ⟨Nat.le_of_ble_eq_true rfl, Nat.le_of_ble_eq_true rfl⟩ hcs rfl (Nat.le_of_ble_eq_true rfl) dL_law_696) hI (by decide) (fun r2 σ2 H locs hp hk hI => ?_)
  obtain ⟨hex2, how2⟩ := hp
  have hp := True.intro
  have hB := lw_BK how2 hI.1 hxo hmo rfl rfl (how2.1 xo 5 (by rw [hxo]; rfl)) hB
  have hA := (hA.post hal how2 rfl).pre hal how2 rfl
  have hE := lw_EK hk (by decide) hxo hmo hE
  have hM := lw_up (lw_kM hk hI.1 hmo (by decide) hM) (q_bd hI hmo (rfl : q_bn 12 24 = (0, 3))).2
  have hpp2 := hp
  clear hp hk
  clear h3
  refine lv_pop hx hb dL_law_699 rfl ?_
  refine lv_goto (tgt := 1796) hx hb dL_law_700 (by decide) ?_
  exact kk _ _ _ hI hM hE hB hA

set_option maxRecDepth 100000 in
set_option maxHeartbeats 4000000 in
theorem lw_c13 {p : Program} {l : Launch} {e : Env} {s : State} {m : MethodId} {below : List Frame} {meth : Method} {c : Code} {b L : Nat} {xs : Nat → Int32} {X : XW} {xo mo : Nat} {σ0 : ST} {cells slots : Nat} {Q : State → Prop} {lb : Nat → Nat} (hcl : tb_Cls X lb xo mo) (hal : al_C X lb xo mo) (E : q_E p c cL_law s m #[Value.ref b] RL X) (hX : va_X b L xs s s.heap) (hbl : b < s.heap.size) (hbA : ¬ q_reg X b) (hml : c.maxLocals = 4) (hxo : q_kd X xo = 11) (hmo : q_kd X mo = 12) (hcs : cells ≤ room_1.cells ∧ slots ≤ room_1.slots) (hL : L ≤ 3072) {i : Nat} (hi : i + 6 ≤ L) {n : Int} (hn : 0 ≤ n ∧ n ≤ 199000) {σ : ST} {H : Heap} {locs : List Loc} {ls : Array Slot} (hI : q_I X 0 σ0 s.heap locs σ H) (hM : m_M (m_c X σ mo) (σ.1 mo 24).toInt n) (hl : lv_has ls 4 [(3, .int (nI i)), (2, .ref mo), (1, .ref xo), (0, .ref b)]) (hE : lw_E xo mo σ) (hB : lw_B X xo mo σ) (hA : al_R X xo mo σ σ)
    (kk : ∀ (σ : ST) (H : Heap) (locs : List Loc), q_I X 0 σ0 s.heap locs σ H → m_M (m_c X σ mo) (σ.1 mo 24).toInt (n + 301) → lw_E xo mo σ → lw_B X xo mo σ → al_R X xo mo σ σ → W p l e room_1 s m #[Value.ref b] below meth c H locs cells slots Q (F0 m 1796 ls [])) : W p l e room_1 s m #[Value.ref b] below meth c H locs cells slots Q (F0 m 703 ls []) := by
  have hx := E.1
  have hb := E.2.1
  have hI0 := hI
  have hE0 := hE
  have hB0 := hB
  have hA0 := hA
  have hM0 := hM
  refine lv_aload_n hx hb dL_law_703 rfl (lv_at hl 2 rfl) ?_
  refine lv_aload_n hx hb dL_law_704 rfl (lv_at hl 3 rfl) ?_
  refine lv_iload_n hx hb dL_law_705 rfl (lv_at hl 0 rfl) ?_
  refine lv_iconst (v := 1) hx hb dL_law_706 (by decide) ?_
  refine lv_iadd hx hb dL_law_707 ?_
  refine va_sld hx hb hX hbl hbA hI.S (lw_in (j := 1) (by decide) (by omega) hL) dL_law_708 ?_
  refine lv_aload_n hx hb dL_law_709 rfl (lv_at hl 3 rfl) ?_
  refine lv_iload_n hx hb dL_law_710 rfl (lv_at hl 0 rfl) ?_
  refine lv_iconst (v := 2) hx hb dL_law_711 (by decide) ?_
  refine lv_iadd hx hb dL_law_712 ?_
  refine va_sld hx hb hX hbl hbA hI.S (lw_in (j := 2) (by decide) (by omega) hL) dL_law_713 ?_
  have h3 := (q_bd hI hmo (rfl : q_bn 12 24 = (0, 3))).2
  refine q_ci (q_runV (As := [.int (xs (nI i + 1).toNatClampNeg), .int (xs (nI i + 2).toNatClampNeg)]) (rest := []) E (hml.trans hl.1.symm) hI (c_X11_hand l X σ xo ((xs (nI i + 1).toNatClampNeg)) ((xs (nI i + 2).toNatClampNeg)) hxo) kl_76 hxo ⟨rfl, by decide⟩ (show vwCl[10]? = some (RX11, TX11, 17) from rfl) rfl ⟨Nat.le_of_ble_eq_true rfl, Nat.le_of_ble_eq_true rfl⟩ hcs rfl (Nat.le_of_ble_eq_true rfl) dL_law_714) hI (by decide) (fun r1 σ1 H locs hp hk hI => ?_)
  obtain ⟨hex1, how1⟩ := hp
  have hp := True.intro
  have hB := lw_BK how1 hI.1 hxo hmo rfl rfl (how1.1 xo 5 (by rw [hxo]; rfl)) hB
  have hA1 := hA0.pre hal how1 rfl
  have hA := (hA.post hal how1 rfl).pre hal how1 rfl
  have hE := lw_EK hk (by decide) hxo hmo hE
  have hM := lw_kM hk hI.1 hmo (by decide) hM
  have hpp1 := hp
  have hMc := hM
  clear hp hk
  clear h3
  refine lv_pop hx hb dL_law_717 rfl ?_
  refine lv_aload_n hx hb dL_law_718 rfl (lv_at hl 1 rfl) ?_
  refine lv_aload_n hx hb dL_law_719 rfl (lv_at hl 3 rfl) ?_
  refine lv_iload_n hx hb dL_law_720 rfl (lv_at hl 0 rfl) ?_
  refine lv_iconst (v := 1) hx hb dL_law_721 (by decide) ?_
  refine lv_iadd hx hb dL_law_722 ?_
  refine va_sld hx hb hX hbl hbA hI.S (lw_in (j := 1) (by decide) (by omega) hL) dL_law_723 ?_
  refine lv_aload_n hx hb dL_law_724 rfl (lv_at hl 3 rfl) ?_
  refine lv_iload_n hx hb dL_law_725 rfl (lv_at hl 0 rfl) ?_
  refine lv_iconst (v := 2) hx hb dL_law_726 (by decide) ?_
  refine lv_iadd hx hb dL_law_727 ?_
  refine va_sld hx hb hX hbl hbA hI.S (lw_in (j := 2) (by decide) (by omega) hL) dL_law_728 ?_
  have h3 := (q_bd hI hmo (rfl : q_bn 12 24 = (0, 3))).2
  refine q_ci (q_runV (As := [.int (xs (nI i + 1).toNatClampNeg), .int (xs (nI i + 2).toNatClampNeg)]) (rest := []) E (hml.trans hl.1.symm) hI (c_X12_hand l X σ1 mo ((xs (nI i + 1).toNatClampNeg)) ((xs (nI i + 2).toNatClampNeg)) hmo hM.1.1) kl_79 hmo ⟨rfl, by decide⟩ (show vwCl[11]? = some (RX12, TX12, 46) from rfl) rfl ⟨Nat.le_of_ble_eq_true rfl, Nat.le_of_ble_eq_true rfl⟩ hcs rfl (Nat.le_of_ble_eq_true rfl) dL_law_729) hI (by decide) (fun r2 σ2 H locs hp hk hI => ?_)
  obtain ⟨hex2, how2⟩ := hp
  have hp := True.intro
  have hB := lw_BK how2 hI.1 hxo hmo rfl rfl (how2.1 xo 5 (by rw [hxo]; rfl)) hB
  have hA := (hA.post hal how2 rfl).pre hal how2 rfl
  have hE := lw_EK hk (by decide) hxo hmo hE
  have hM := lw_up (lw_kM hk hI.1 hmo (by decide) hM) (q_bd hI hmo (rfl : q_bn 12 24 = (0, 3))).2
  have hpp2 := hp
  clear hp hk
  clear h3
  refine lv_pop hx hb dL_law_732 rfl ?_
  refine lv_goto (tgt := 1796) hx hb dL_law_733 (by decide) ?_
  exact kk _ _ _ hI hM hE hB hA

set_option maxRecDepth 100000 in
set_option maxHeartbeats 4000000 in
theorem lw_c14 {p : Program} {l : Launch} {e : Env} {s : State} {m : MethodId} {below : List Frame} {meth : Method} {c : Code} {b L : Nat} {xs : Nat → Int32} {X : XW} {xo mo : Nat} {σ0 : ST} {cells slots : Nat} {Q : State → Prop} {lb : Nat → Nat} (hcl : tb_Cls X lb xo mo) (hal : al_C X lb xo mo) (E : q_E p c cL_law s m #[Value.ref b] RL X) (hX : va_X b L xs s s.heap) (hbl : b < s.heap.size) (hbA : ¬ q_reg X b) (hml : c.maxLocals = 4) (hxo : q_kd X xo = 11) (hmo : q_kd X mo = 12) (hcs : cells ≤ room_1.cells ∧ slots ≤ room_1.slots) (hL : L ≤ 3072) {i : Nat} (hi : i + 6 ≤ L) {n : Int} (hn : 0 ≤ n ∧ n ≤ 199000) {σ : ST} {H : Heap} {locs : List Loc} {ls : Array Slot} (hI : q_I X 0 σ0 s.heap locs σ H) (hM : m_M (m_c X σ mo) (σ.1 mo 24).toInt n) (hl : lv_has ls 4 [(3, .int (nI i)), (2, .ref mo), (1, .ref xo), (0, .ref b)]) (hE : lw_E xo mo σ) (hB : lw_B X xo mo σ) (hA : al_R X xo mo σ σ)
    (kk : ∀ (σ : ST) (H : Heap) (locs : List Loc), q_I X 0 σ0 s.heap locs σ H → m_M (m_c X σ mo) (σ.1 mo 24).toInt (n + 301) → lw_E xo mo σ → lw_B X xo mo σ → al_R X xo mo σ σ → W p l e room_1 s m #[Value.ref b] below meth c H locs cells slots Q (F0 m 1796 ls [])) : W p l e room_1 s m #[Value.ref b] below meth c H locs cells slots Q (F0 m 736 ls []) := by
  have hx := E.1
  have hb := E.2.1
  have hI0 := hI
  have hE0 := hE
  have hB0 := hB
  have hA0 := hA
  have hM0 := hM
  refine lv_aload_n hx hb dL_law_736 rfl (lv_at hl 2 rfl) ?_
  refine lv_aload_n hx hb dL_law_737 rfl (lv_at hl 3 rfl) ?_
  refine lv_iload_n hx hb dL_law_738 rfl (lv_at hl 0 rfl) ?_
  refine lv_iconst (v := 1) hx hb dL_law_739 (by decide) ?_
  refine lv_iadd hx hb dL_law_740 ?_
  refine va_sld hx hb hX hbl hbA hI.S (lw_in (j := 1) (by decide) (by omega) hL) dL_law_741 ?_
  have h3 := (q_bd hI hmo (rfl : q_bn 12 24 = (0, 3))).2
  refine q_ci (q_runV (As := [.int (xs (nI i + 1).toNatClampNeg)]) (rest := []) E (hml.trans hl.1.symm) hI (c_X11_inGame l X σ xo ((xs (nI i + 1).toNatClampNeg)) hxo) kl_80 hxo ⟨rfl, by decide⟩ (show vwCl[10]? = some (RX11, TX11, 17) from rfl) rfl ⟨Nat.le_of_ble_eq_true rfl, Nat.le_of_ble_eq_true rfl⟩ hcs rfl (Nat.le_of_ble_eq_true rfl) dL_law_742) hI (by decide) (fun r1 σ1 H locs hp hk hI => ?_)
  obtain ⟨hex1, how1⟩ := hp
  have hp := True.intro
  have hB := lw_BK how1 hI.1 hxo hmo rfl rfl (how1.1 xo 5 (by rw [hxo]; rfl)) hB
  have hA1 := hA0.pre hal how1 rfl
  have hA := (hA.post hal how1 rfl).pre hal how1 rfl
  have hE := lw_EK hk (by decide) hxo hmo hE
  have hM := lw_kM hk hI.1 hmo (by decide) hM
  have hpp1 := hp
  have hMc := hM
  clear hp hk
  clear h3
  refine lv_pop hx hb dL_law_745 rfl ?_
  refine lv_aload_n hx hb dL_law_746 rfl (lv_at hl 1 rfl) ?_
  refine lv_aload_n hx hb dL_law_747 rfl (lv_at hl 3 rfl) ?_
  refine lv_iload_n hx hb dL_law_748 rfl (lv_at hl 0 rfl) ?_
  refine lv_iconst (v := 1) hx hb dL_law_749 (by decide) ?_
  refine lv_iadd hx hb dL_law_750 ?_
  refine va_sld hx hb hX hbl hbA hI.S (lw_in (j := 1) (by decide) (by omega) hL) dL_law_751 ?_
  have h3 := (q_bd hI hmo (rfl : q_bn 12 24 = (0, 3))).2
  refine q_ci (q_runV (As := [.int (xs (nI i + 1).toNatClampNeg)]) (rest := []) E (hml.trans hl.1.symm) hI (c_X12_inGame l X σ1 mo ((xs (nI i + 1).toNatClampNeg)) hmo hM.1.1) kl_83 hmo ⟨rfl, by decide⟩ (show vwCl[11]? = some (RX12, TX12, 46) from rfl) rfl ⟨Nat.le_of_ble_eq_true rfl, Nat.le_of_ble_eq_true rfl⟩ hcs rfl (Nat.le_of_ble_eq_true rfl) dL_law_752) hI (by decide) (fun r2 σ2 H locs hp hk hI => ?_)
  obtain ⟨hex2, how2⟩ := hp
  have hp := True.intro
  have hB := lw_BK how2 hI.1 hxo hmo rfl rfl (how2.1 xo 5 (by rw [hxo]; rfl)) hB
  have hA := (hA.post hal how2 rfl).pre hal how2 rfl
  have hE := lw_EK hk (by decide) hxo hmo hE
  have hM := lw_up (lw_kM hk hI.1 hmo (by decide) hM) (q_bd hI hmo (rfl : q_bn 12 24 = (0, 3))).2
  have hpp2 := hp
  clear hp hk
  clear h3
  refine lv_pop hx hb dL_law_755 rfl ?_
  refine lv_goto (tgt := 1796) hx hb dL_law_756 (by decide) ?_
  exact kk _ _ _ hI hM hE hB hA

set_option maxRecDepth 100000 in
set_option maxHeartbeats 4000000 in
theorem lw_c15 {p : Program} {l : Launch} {e : Env} {s : State} {m : MethodId} {below : List Frame} {meth : Method} {c : Code} {b L : Nat} {xs : Nat → Int32} {X : XW} {xo mo : Nat} {σ0 : ST} {cells slots : Nat} {Q : State → Prop} {lb : Nat → Nat} (hcl : tb_Cls X lb xo mo) (hal : al_C X lb xo mo) (E : q_E p c cL_law s m #[Value.ref b] RL X) (hX : va_X b L xs s s.heap) (hbl : b < s.heap.size) (hbA : ¬ q_reg X b) (hml : c.maxLocals = 4) (hxo : q_kd X xo = 11) (hmo : q_kd X mo = 12) (hcs : cells ≤ room_1.cells ∧ slots ≤ room_1.slots) (hL : L ≤ 3072) {i : Nat} (hi : i + 6 ≤ L) {n : Int} (hn : 0 ≤ n ∧ n ≤ 199000) {σ : ST} {H : Heap} {locs : List Loc} {ls : Array Slot} (hI : q_I X 0 σ0 s.heap locs σ H) (hM : m_M (m_c X σ mo) (σ.1 mo 24).toInt n) (hl : lv_has ls 4 [(3, .int (nI i)), (2, .ref mo), (1, .ref xo), (0, .ref b)]) (hE : lw_E xo mo σ) (hB : lw_B X xo mo σ) (hA : al_R X xo mo σ σ)
    (kk : ∀ (σ : ST) (H : Heap) (locs : List Loc), q_I X 0 σ0 s.heap locs σ H → m_M (m_c X σ mo) (σ.1 mo 24).toInt (n + 301) → lw_E xo mo σ → lw_B X xo mo σ → al_R X xo mo σ σ → W p l e room_1 s m #[Value.ref b] below meth c H locs cells slots Q (F0 m 1796 ls [])) : W p l e room_1 s m #[Value.ref b] below meth c H locs cells slots Q (F0 m 759 ls []) := by
  have hx := E.1
  have hb := E.2.1
  have hI0 := hI
  have hE0 := hE
  have hB0 := hB
  have hA0 := hA
  have hM0 := hM
  refine lv_aload_n hx hb dL_law_759 rfl (lv_at hl 2 rfl) ?_
  refine lv_aload_n hx hb dL_law_760 rfl (lv_at hl 3 rfl) ?_
  refine lv_iload_n hx hb dL_law_761 rfl (lv_at hl 0 rfl) ?_
  refine lv_iconst (v := 1) hx hb dL_law_762 (by decide) ?_
  refine lv_iadd hx hb dL_law_763 ?_
  refine va_sld hx hb hX hbl hbA hI.S (lw_in (j := 1) (by decide) (by omega) hL) dL_law_764 ?_
  refine lv_aload_n hx hb dL_law_765 rfl (lv_at hl 3 rfl) ?_
  refine lv_iload_n hx hb dL_law_766 rfl (lv_at hl 0 rfl) ?_
  refine lv_iconst (v := 2) hx hb dL_law_767 (by decide) ?_
  refine lv_iadd hx hb dL_law_768 ?_
  refine va_sld hx hb hX hbl hbA hI.S (lw_in (j := 2) (by decide) (by omega) hL) dL_law_769 ?_
  have h3 := (q_bd hI hmo (rfl : q_bn 12 24 = (0, 3))).2
  refine q_ci (q_runV (As := [.int (xs (nI i + 1).toNatClampNeg), .int (xs (nI i + 2).toNatClampNeg)]) (rest := []) E (hml.trans hl.1.symm) hI (c_X11_laying l X σ xo ((xs (nI i + 1).toNatClampNeg)) ((xs (nI i + 2).toNatClampNeg)) hxo) kl_84 hxo ⟨rfl, by decide⟩ (show vwCl[10]? = some (RX11, TX11, 17) from rfl) rfl ⟨Nat.le_of_ble_eq_true rfl, Nat.le_of_ble_eq_true rfl⟩ hcs rfl (Nat.le_of_ble_eq_true rfl) dL_law_770) hI (by decide) (fun r1 σ1 H locs hp hk hI => ?_)
  obtain ⟨hex1, how1⟩ := hp
  have hp := True.intro
  have hB := lw_BK how1 hI.1 hxo hmo rfl rfl (how1.1 xo 5 (by rw [hxo]; rfl)) hB
  have hA1 := hA0.pre hal how1 rfl
  have hA := (hA.post hal how1 rfl).pre hal how1 rfl
  have hE := lw_EK hk (by decide) hxo hmo hE
  have hM := lw_kM hk hI.1 hmo (by decide) hM
  have hpp1 := hp
  have hMc := hM
  clear hp hk
  clear h3
  refine lv_pop hx hb dL_law_773 rfl ?_
  refine lv_aload_n hx hb dL_law_774 rfl (lv_at hl 1 rfl) ?_
  refine lv_aload_n hx hb dL_law_775 rfl (lv_at hl 3 rfl) ?_
  refine lv_iload_n hx hb dL_law_776 rfl (lv_at hl 0 rfl) ?_
  refine lv_iconst (v := 1) hx hb dL_law_777 (by decide) ?_
  refine lv_iadd hx hb dL_law_778 ?_
  refine va_sld hx hb hX hbl hbA hI.S (lw_in (j := 1) (by decide) (by omega) hL) dL_law_779 ?_
  refine lv_aload_n hx hb dL_law_780 rfl (lv_at hl 3 rfl) ?_
  refine lv_iload_n hx hb dL_law_781 rfl (lv_at hl 0 rfl) ?_
  refine lv_iconst (v := 2) hx hb dL_law_782 (by decide) ?_
  refine lv_iadd hx hb dL_law_783 ?_
  refine va_sld hx hb hX hbl hbA hI.S (lw_in (j := 2) (by decide) (by omega) hL) dL_law_784 ?_
  have h3 := (q_bd hI hmo (rfl : q_bn 12 24 = (0, 3))).2
  refine q_ci (q_runV (As := [.int (xs (nI i + 1).toNatClampNeg), .int (xs (nI i + 2).toNatClampNeg)]) (rest := []) E (hml.trans hl.1.symm) hI (c_X12_laying l X σ1 mo ((xs (nI i + 1).toNatClampNeg)) ((xs (nI i + 2).toNatClampNeg)) hmo hM.1.1) kl_87 hmo ⟨rfl, by decide⟩ (show vwCl[11]? = some (RX12, TX12, 46) from rfl) rfl ⟨Nat.le_of_ble_eq_true rfl, Nat.le_of_ble_eq_true rfl⟩ hcs rfl (Nat.le_of_ble_eq_true rfl) dL_law_785) hI (by decide) (fun r2 σ2 H locs hp hk hI => ?_)
  obtain ⟨hex2, how2⟩ := hp
  have hp := True.intro
  have hB := lw_BK how2 hI.1 hxo hmo rfl rfl (how2.1 xo 5 (by rw [hxo]; rfl)) hB
  have hA := (hA.post hal how2 rfl).pre hal how2 rfl
  have hE := lw_EK hk (by decide) hxo hmo hE
  have hM := lw_up (lw_kM hk hI.1 hmo (by decide) hM) (q_bd hI hmo (rfl : q_bn 12 24 = (0, 3))).2
  have hpp2 := hp
  clear hp hk
  clear h3
  refine lv_pop hx hb dL_law_788 rfl ?_
  refine lv_goto (tgt := 1796) hx hb dL_law_789 (by decide) ?_
  exact kk _ _ _ hI hM hE hB hA

set_option maxRecDepth 100000 in
set_option maxHeartbeats 4000000 in
theorem lw_c16 {p : Program} {l : Launch} {e : Env} {s : State} {m : MethodId} {below : List Frame} {meth : Method} {c : Code} {b L : Nat} {xs : Nat → Int32} {X : XW} {xo mo : Nat} {σ0 : ST} {cells slots : Nat} {Q : State → Prop} {lb : Nat → Nat} (hcl : tb_Cls X lb xo mo) (hal : al_C X lb xo mo) (E : q_E p c cL_law s m #[Value.ref b] RL X) (hX : va_X b L xs s s.heap) (hbl : b < s.heap.size) (hbA : ¬ q_reg X b) (hml : c.maxLocals = 4) (hxo : q_kd X xo = 11) (hmo : q_kd X mo = 12) (hcs : cells ≤ room_1.cells ∧ slots ≤ room_1.slots) (hL : L ≤ 3072) {i : Nat} (hi : i + 6 ≤ L) {n : Int} (hn : 0 ≤ n ∧ n ≤ 199000) {σ : ST} {H : Heap} {locs : List Loc} {ls : Array Slot} (hI : q_I X 0 σ0 s.heap locs σ H) (hM : m_M (m_c X σ mo) (σ.1 mo 24).toInt n) (hl : lv_has ls 4 [(3, .int (nI i)), (2, .ref mo), (1, .ref xo), (0, .ref b)]) (hE : lw_E xo mo σ) (hB : lw_B X xo mo σ) (hA : al_R X xo mo σ σ)
    (kk : ∀ (σ : ST) (H : Heap) (locs : List Loc), q_I X 0 σ0 s.heap locs σ H → m_M (m_c X σ mo) (σ.1 mo 24).toInt (n + 301) → lw_E xo mo σ → lw_B X xo mo σ → al_R X xo mo σ σ → W p l e room_1 s m #[Value.ref b] below meth c H locs cells slots Q (F0 m 1796 ls [])) : W p l e room_1 s m #[Value.ref b] below meth c H locs cells slots Q (F0 m 792 ls []) := by
  have hx := E.1
  have hb := E.2.1
  have hI0 := hI
  have hE0 := hE
  have hB0 := hB
  have hA0 := hA
  have hM0 := hM
  refine lv_aload_n hx hb dL_law_792 rfl (lv_at hl 2 rfl) ?_
  refine lv_aload_n hx hb dL_law_793 rfl (lv_at hl 3 rfl) ?_
  refine lv_iload_n hx hb dL_law_794 rfl (lv_at hl 0 rfl) ?_
  refine lv_iconst (v := 1) hx hb dL_law_795 (by decide) ?_
  refine lv_iadd hx hb dL_law_796 ?_
  refine va_sld hx hb hX hbl hbA hI.S (lw_in (j := 1) (by decide) (by omega) hL) dL_law_797 ?_
  refine lv_aload_n hx hb dL_law_798 rfl (lv_at hl 3 rfl) ?_
  refine lv_iload_n hx hb dL_law_799 rfl (lv_at hl 0 rfl) ?_
  refine lv_iconst (v := 2) hx hb dL_law_800 (by decide) ?_
  refine lv_iadd hx hb dL_law_801 ?_
  refine va_sld hx hb hX hbl hbA hI.S (lw_in (j := 2) (by decide) (by omega) hL) dL_law_802 ?_
  have h3 := (q_bd hI hmo (rfl : q_bn 12 24 = (0, 3))).2
  refine q_ci (q_runV (As := [.int (xs (nI i + 1).toNatClampNeg), .int (xs (nI i + 2).toNatClampNeg)]) (rest := []) E (hml.trans hl.1.symm) hI (c_X11_cardOf l X σ xo ((xs (nI i + 1).toNatClampNeg)) ((xs (nI i + 2).toNatClampNeg)) hxo) kl_88 hxo ⟨rfl, by decide⟩ (show vwCl[10]? = some (RX11, TX11, 17) from rfl) rfl ⟨Nat.le_of_ble_eq_true rfl, Nat.le_of_ble_eq_true rfl⟩ hcs rfl (Nat.le_of_ble_eq_true rfl) dL_law_803) hI (by decide) (fun r1 σ1 H locs hp hk hI => ?_)
  obtain ⟨hex1, how1⟩ := hp
  have hp := True.intro
  have hB := lw_BK how1 hI.1 hxo hmo rfl rfl (how1.1 xo 5 (by rw [hxo]; rfl)) hB
  have hA1 := hA0.pre hal how1 rfl
  have hA := (hA.post hal how1 rfl).pre hal how1 rfl
  have hE := lw_EK hk (by decide) hxo hmo hE
  have hM := lw_kM hk hI.1 hmo (by decide) hM
  have hpp1 := hp
  have hMc := hM
  clear hp hk
  clear h3
  refine lv_pop hx hb dL_law_806 rfl ?_
  refine lv_aload_n hx hb dL_law_807 rfl (lv_at hl 1 rfl) ?_
  refine lv_aload_n hx hb dL_law_808 rfl (lv_at hl 3 rfl) ?_
  refine lv_iload_n hx hb dL_law_809 rfl (lv_at hl 0 rfl) ?_
  refine lv_iconst (v := 1) hx hb dL_law_810 (by decide) ?_
  refine lv_iadd hx hb dL_law_811 ?_
  refine va_sld hx hb hX hbl hbA hI.S (lw_in (j := 1) (by decide) (by omega) hL) dL_law_812 ?_
  refine lv_aload_n hx hb dL_law_813 rfl (lv_at hl 3 rfl) ?_
  refine lv_iload_n hx hb dL_law_814 rfl (lv_at hl 0 rfl) ?_
  refine lv_iconst (v := 2) hx hb dL_law_815 (by decide) ?_
  refine lv_iadd hx hb dL_law_816 ?_
  refine va_sld hx hb hX hbl hbA hI.S (lw_in (j := 2) (by decide) (by omega) hL) dL_law_817 ?_
  have h3 := (q_bd hI hmo (rfl : q_bn 12 24 = (0, 3))).2
  refine q_ci (q_runV (As := [.int (xs (nI i + 1).toNatClampNeg), .int (xs (nI i + 2).toNatClampNeg)]) (rest := []) E (hml.trans hl.1.symm) hI (c_X12_cardOf l X σ1 mo ((xs (nI i + 1).toNatClampNeg)) ((xs (nI i + 2).toNatClampNeg)) hmo hM.1.1) kl_91 hmo ⟨rfl, by decide⟩ (show vwCl[11]? = some (RX12, TX12, 46) from rfl) rfl ⟨Nat.le_of_ble_eq_true rfl, Nat.le_of_ble_eq_true rfl⟩ hcs rfl (Nat.le_of_ble_eq_true rfl) dL_law_818) hI (by decide) (fun r2 σ2 H locs hp hk hI => ?_)
  obtain ⟨hex2, how2⟩ := hp
  have hp := True.intro
  have hB := lw_BK how2 hI.1 hxo hmo rfl rfl (how2.1 xo 5 (by rw [hxo]; rfl)) hB
  have hA := (hA.post hal how2 rfl).pre hal how2 rfl
  have hE := lw_EK hk (by decide) hxo hmo hE
  have hM := lw_up (lw_kM hk hI.1 hmo (by decide) hM) (q_bd hI hmo (rfl : q_bn 12 24 = (0, 3))).2
  have hpp2 := hp
  clear hp hk
  clear h3
  refine lv_pop hx hb dL_law_821 rfl ?_
  refine lv_goto (tgt := 1796) hx hb dL_law_822 (by decide) ?_
  exact kk _ _ _ hI hM hE hB hA

set_option maxRecDepth 100000 in
set_option maxHeartbeats 4000000 in
theorem lw_c17 {p : Program} {l : Launch} {e : Env} {s : State} {m : MethodId} {below : List Frame} {meth : Method} {c : Code} {b L : Nat} {xs : Nat → Int32} {X : XW} {xo mo : Nat} {σ0 : ST} {cells slots : Nat} {Q : State → Prop} {lb : Nat → Nat} (hcl : tb_Cls X lb xo mo) (hal : al_C X lb xo mo) (E : q_E p c cL_law s m #[Value.ref b] RL X) (hX : va_X b L xs s s.heap) (hbl : b < s.heap.size) (hbA : ¬ q_reg X b) (hml : c.maxLocals = 4) (hxo : q_kd X xo = 11) (hmo : q_kd X mo = 12) (hcs : cells ≤ room_1.cells ∧ slots ≤ room_1.slots) (hL : L ≤ 3072) {i : Nat} (hi : i + 6 ≤ L) {n : Int} (hn : 0 ≤ n ∧ n ≤ 199000) {σ : ST} {H : Heap} {locs : List Loc} {ls : Array Slot} (hI : q_I X 0 σ0 s.heap locs σ H) (hM : m_M (m_c X σ mo) (σ.1 mo 24).toInt n) (hl : lv_has ls 4 [(3, .int (nI i)), (2, .ref mo), (1, .ref xo), (0, .ref b)]) (hE : lw_E xo mo σ) (hB : lw_B X xo mo σ) (hA : al_R X xo mo σ σ)
    (kk : ∀ (σ : ST) (H : Heap) (locs : List Loc), q_I X 0 σ0 s.heap locs σ H → m_M (m_c X σ mo) (σ.1 mo 24).toInt (n + 301) → lw_E xo mo σ → lw_B X xo mo σ → al_R X xo mo σ σ → W p l e room_1 s m #[Value.ref b] below meth c H locs cells slots Q (F0 m 1796 ls [])) : W p l e room_1 s m #[Value.ref b] below meth c H locs cells slots Q (F0 m 825 ls []) := by
  have hx := E.1
  have hb := E.2.1
  have hI0 := hI
  have hE0 := hE
  have hB0 := hB
  have hA0 := hA
  have hM0 := hM
  refine lv_aload_n hx hb dL_law_825 rfl (lv_at hl 2 rfl) ?_
  refine lv_aload_n hx hb dL_law_826 rfl (lv_at hl 3 rfl) ?_
  refine lv_iload_n hx hb dL_law_827 rfl (lv_at hl 0 rfl) ?_
  refine lv_iconst (v := 1) hx hb dL_law_828 (by decide) ?_
  refine lv_iadd hx hb dL_law_829 ?_
  refine va_sld hx hb hX hbl hbA hI.S (lw_in (j := 1) (by decide) (by omega) hL) dL_law_830 ?_
  refine lv_aload_n hx hb dL_law_831 rfl (lv_at hl 3 rfl) ?_
  refine lv_iload_n hx hb dL_law_832 rfl (lv_at hl 0 rfl) ?_
  refine lv_iconst (v := 2) hx hb dL_law_833 (by decide) ?_
  refine lv_iadd hx hb dL_law_834 ?_
  refine va_sld hx hb hX hbl hbA hI.S (lw_in (j := 2) (by decide) (by omega) hL) dL_law_835 ?_
  have h3 := (q_bd hI hmo (rfl : q_bn 12 24 = (0, 3))).2
  refine q_ci (q_runV (As := [.int (xs (nI i + 1).toNatClampNeg), .int (xs (nI i + 2).toNatClampNeg)]) (rest := []) E (hml.trans hl.1.symm) hI (c_X11_copyHand l X σ xo ((xs (nI i + 1).toNatClampNeg)) ((xs (nI i + 2).toNatClampNeg)) hxo) kl_92 hxo ⟨rfl, by decide⟩ (show vwCl[10]? = some (RX11, TX11, 17) from rfl) rfl ⟨Nat.le_of_ble_eq_true rfl, Nat.le_of_ble_eq_true rfl⟩ hcs rfl (Nat.le_of_ble_eq_true rfl) dL_law_836) hI (by decide) (fun r1 σ1 H locs hp hk hI => ?_)
  obtain ⟨hex1, how1⟩ := hp
  have hp := True.intro
  have hB := lw_BK how1 hI.1 hxo hmo rfl rfl (how1.1 xo 5 (by rw [hxo]; rfl)) hB
  have hA1 := hA0.pre hal how1 rfl
  have hA := (hA.post hal how1 rfl).pre hal how1 rfl
  have hE := lw_EK hk (by decide) hxo hmo hE
  have hM := lw_kM hk hI.1 hmo (by decide) hM
  have hpp1 := hp
  have hMc := hM
  clear hp hk
  clear h3
  refine lv_pop hx hb dL_law_839 rfl ?_
  refine lv_aload_n hx hb dL_law_840 rfl (lv_at hl 1 rfl) ?_
  refine lv_aload_n hx hb dL_law_841 rfl (lv_at hl 3 rfl) ?_
  refine lv_iload_n hx hb dL_law_842 rfl (lv_at hl 0 rfl) ?_
  refine lv_iconst (v := 1) hx hb dL_law_843 (by decide) ?_
  refine lv_iadd hx hb dL_law_844 ?_
  refine va_sld hx hb hX hbl hbA hI.S (lw_in (j := 1) (by decide) (by omega) hL) dL_law_845 ?_
  refine lv_aload_n hx hb dL_law_846 rfl (lv_at hl 3 rfl) ?_
  refine lv_iload_n hx hb dL_law_847 rfl (lv_at hl 0 rfl) ?_
  refine lv_iconst (v := 2) hx hb dL_law_848 (by decide) ?_
  refine lv_iadd hx hb dL_law_849 ?_
  refine va_sld hx hb hX hbl hbA hI.S (lw_in (j := 2) (by decide) (by omega) hL) dL_law_850 ?_
  have h3 := (q_bd hI hmo (rfl : q_bn 12 24 = (0, 3))).2
  refine q_ci (q_runV (As := [.int (xs (nI i + 1).toNatClampNeg), .int (xs (nI i + 2).toNatClampNeg)]) (rest := []) E (hml.trans hl.1.symm) hI (c_X12_copyHand l X σ1 mo ((xs (nI i + 1).toNatClampNeg)) ((xs (nI i + 2).toNatClampNeg)) hmo hM.1.1) kl_95 hmo ⟨rfl, by decide⟩ (show vwCl[11]? = some (RX12, TX12, 46) from rfl) rfl ⟨Nat.le_of_ble_eq_true rfl, Nat.le_of_ble_eq_true rfl⟩ hcs rfl (Nat.le_of_ble_eq_true rfl) dL_law_851) hI (by decide) (fun r2 σ2 H locs hp hk hI => ?_)
  obtain ⟨hex2, how2⟩ := hp
  have hp := True.intro
  have hB := lw_BK how2 hI.1 hxo hmo rfl rfl (how2.1 xo 5 (by rw [hxo]; rfl)) hB
  have hA := (hA.post hal how2 rfl).pre hal how2 rfl
  have hE := lw_EK hk (by decide) hxo hmo hE
  have hM := lw_up (lw_kM hk hI.1 hmo (by decide) hM) (q_bd hI hmo (rfl : q_bn 12 24 = (0, 3))).2
  have hpp2 := hp
  clear hp hk
  clear h3
  refine lv_pop hx hb dL_law_854 rfl ?_
  refine lv_goto (tgt := 1796) hx hb dL_law_855 (by decide) ?_
  exact kk _ _ _ hI hM hE hB hA

set_option maxRecDepth 100000 in
set_option maxHeartbeats 4000000 in
theorem lw_c18 {p : Program} {l : Launch} {e : Env} {s : State} {m : MethodId} {below : List Frame} {meth : Method} {c : Code} {b L : Nat} {xs : Nat → Int32} {X : XW} {xo mo : Nat} {σ0 : ST} {cells slots : Nat} {Q : State → Prop} {lb : Nat → Nat} (hcl : tb_Cls X lb xo mo) (hal : al_C X lb xo mo) (E : q_E p c cL_law s m #[Value.ref b] RL X) (hX : va_X b L xs s s.heap) (hbl : b < s.heap.size) (hbA : ¬ q_reg X b) (hml : c.maxLocals = 4) (hxo : q_kd X xo = 11) (hmo : q_kd X mo = 12) (hcs : cells ≤ room_1.cells ∧ slots ≤ room_1.slots) (hL : L ≤ 3072) {i : Nat} (hi : i + 6 ≤ L) {n : Int} (hn : 0 ≤ n ∧ n ≤ 199000) {σ : ST} {H : Heap} {locs : List Loc} {ls : Array Slot} (hI : q_I X 0 σ0 s.heap locs σ H) (hM : m_M (m_c X σ mo) (σ.1 mo 24).toInt n) (hl : lv_has ls 4 [(3, .int (nI i)), (2, .ref mo), (1, .ref xo), (0, .ref b)]) (hE : lw_E xo mo σ) (hB : lw_B X xo mo σ) (hA : al_R X xo mo σ σ)
    (kk : ∀ (σ : ST) (H : Heap) (locs : List Loc), q_I X 0 σ0 s.heap locs σ H → m_M (m_c X σ mo) (σ.1 mo 24).toInt (n + 301) → lw_E xo mo σ → lw_B X xo mo σ → al_R X xo mo σ σ → W p l e room_1 s m #[Value.ref b] below meth c H locs cells slots Q (F0 m 1796 ls [])) : W p l e room_1 s m #[Value.ref b] below meth c H locs cells slots Q (F0 m 858 ls []) := by
  have hx := E.1
  have hb := E.2.1
  have hI0 := hI
  have hE0 := hE
  have hB0 := hB
  have hA0 := hA
  have hM0 := hM
  refine lv_aload_n hx hb dL_law_858 rfl (lv_at hl 2 rfl) ?_
  refine lv_aload_n hx hb dL_law_859 rfl (lv_at hl 3 rfl) ?_
  refine lv_iload_n hx hb dL_law_860 rfl (lv_at hl 0 rfl) ?_
  refine lv_iconst (v := 1) hx hb dL_law_861 (by decide) ?_
  refine lv_iadd hx hb dL_law_862 ?_
  refine va_sld hx hb hX hbl hbA hI.S (lw_in (j := 1) (by decide) (by omega) hL) dL_law_863 ?_
  refine lv_aload_n hx hb dL_law_864 rfl (lv_at hl 3 rfl) ?_
  refine lv_iload_n hx hb dL_law_865 rfl (lv_at hl 0 rfl) ?_
  refine lv_iconst (v := 2) hx hb dL_law_866 (by decide) ?_
  refine lv_iadd hx hb dL_law_867 ?_
  refine va_sld hx hb hX hbl hbA hI.S (lw_in (j := 2) (by decide) (by omega) hL) dL_law_868 ?_
  refine lv_aload_n hx hb dL_law_869 rfl (lv_at hl 3 rfl) ?_
  refine lv_iload_n hx hb dL_law_870 rfl (lv_at hl 0 rfl) ?_
  refine lv_iconst (v := 3) hx hb dL_law_871 (by decide) ?_
  refine lv_iadd hx hb dL_law_872 ?_
  refine va_sld hx hb hX hbl hbA hI.S (lw_in (j := 3) (by decide) (by omega) hL) dL_law_873 ?_
  refine lv_aload_n hx hb dL_law_874 rfl (lv_at hl 3 rfl) ?_
  refine lv_iload_n hx hb dL_law_875 rfl (lv_at hl 0 rfl) ?_
  refine lv_iconst (v := 4) hx hb dL_law_876 (by decide) ?_
  refine lv_iadd hx hb dL_law_877 ?_
  refine va_sld hx hb hX hbl hbA hI.S (lw_in (j := 4) (by decide) (by omega) hL) dL_law_878 ?_
  have h3 := (q_bd hI hmo (rfl : q_bn 12 24 = (0, 3))).2
  refine q_ci (q_runV (As := [.int (xs (nI i + 1).toNatClampNeg), .int (xs (nI i + 2).toNatClampNeg), .int (xs (nI i + 3).toNatClampNeg), .int (xs (nI i + 4).toNatClampNeg)]) (rest := []) E (hml.trans hl.1.symm) hI (c_X11_lay l X σ xo ((xs (nI i + 1).toNatClampNeg)) ((xs (nI i + 2).toNatClampNeg)) ((xs (nI i + 3).toNatClampNeg)) ((xs (nI i + 4).toNatClampNeg)) hxo) kl_96 hxo ⟨rfl, by decide⟩ (show vwCl[10]? = some (RX11, TX11, 17) from rfl) rfl ⟨Nat.le_of_ble_eq_true rfl, Nat.le_of_ble_eq_true rfl⟩ hcs rfl (Nat.le_of_ble_eq_true rfl) dL_law_879) hI (by decide) (fun r1 σ1 H locs hp hk hI => ?_)
  obtain ⟨hex1, how1⟩ := hp
  have hp := True.intro
  have hB := lw_BK how1 hI.1 hxo hmo rfl rfl (how1.1 xo 5 (by rw [hxo]; rfl)) hB
  have hA1 := hA0.pre hal how1 rfl
  have hE := lw_EK hk (by decide) hxo hmo hE
  have hM := lw_kM hk hI.1 hmo (by decide) hM
  have hpp1 := hp
  have hMc := hM
  clear hp hk
  clear h3
  refine lv_pop hx hb dL_law_882 rfl ?_
  refine lv_aload_n hx hb dL_law_883 rfl (lv_at hl 1 rfl) ?_
  refine lv_aload_n hx hb dL_law_884 rfl (lv_at hl 3 rfl) ?_
  refine lv_iload_n hx hb dL_law_885 rfl (lv_at hl 0 rfl) ?_
  refine lv_iconst (v := 1) hx hb dL_law_886 (by decide) ?_
  refine lv_iadd hx hb dL_law_887 ?_
  refine va_sld hx hb hX hbl hbA hI.S (lw_in (j := 1) (by decide) (by omega) hL) dL_law_888 ?_
  refine lv_aload_n hx hb dL_law_889 rfl (lv_at hl 3 rfl) ?_
  refine lv_iload_n hx hb dL_law_890 rfl (lv_at hl 0 rfl) ?_
  refine lv_iconst (v := 2) hx hb dL_law_891 (by decide) ?_
  refine lv_iadd hx hb dL_law_892 ?_
  refine va_sld hx hb hX hbl hbA hI.S (lw_in (j := 2) (by decide) (by omega) hL) dL_law_893 ?_
  refine lv_aload_n hx hb dL_law_894 rfl (lv_at hl 3 rfl) ?_
  refine lv_iload_n hx hb dL_law_895 rfl (lv_at hl 0 rfl) ?_
  refine lv_iconst (v := 3) hx hb dL_law_896 (by decide) ?_
  refine lv_iadd hx hb dL_law_897 ?_
  refine va_sld hx hb hX hbl hbA hI.S (lw_in (j := 3) (by decide) (by omega) hL) dL_law_898 ?_
  refine lv_aload_n hx hb dL_law_899 rfl (lv_at hl 3 rfl) ?_
  refine lv_iload_n hx hb dL_law_900 rfl (lv_at hl 0 rfl) ?_
  refine lv_iconst (v := 4) hx hb dL_law_901 (by decide) ?_
  refine lv_iadd hx hb dL_law_902 ?_
  refine va_sld hx hb hX hbl hbA hI.S (lw_in (j := 4) (by decide) (by omega) hL) dL_law_903 ?_
  have h3 := (q_bd hI hmo (rfl : q_bn 12 24 = (0, 3))).2
  refine q_ci (q_runV (As := [.int (xs (nI i + 1).toNatClampNeg), .int (xs (nI i + 2).toNatClampNeg), .int (xs (nI i + 3).toNatClampNeg), .int (xs (nI i + 4).toNatClampNeg)]) (rest := []) E (hml.trans hl.1.symm) hI (c_X12_lay l X σ1 mo ((xs (nI i + 1).toNatClampNeg)) ((xs (nI i + 2).toNatClampNeg)) ((xs (nI i + 3).toNatClampNeg)) ((xs (nI i + 4).toNatClampNeg)) n hmo hM.1.1 hM.1.2 (by omega)) kl_100 hmo ⟨rfl, by decide⟩ (show vwCl[11]? = some (RX12, TX12, 46) from rfl) rfl ⟨Nat.le_of_ble_eq_true rfl, Nat.le_of_ble_eq_true rfl⟩ hcs rfl (Nat.le_of_ble_eq_true rfl) dL_law_904) hI (by decide) (fun r2 σ2 H locs hp hk hI => ?_)
  obtain ⟨pq0, pq1, pq2, hex2, how2⟩ := hp
  have hp := And.intro pq0 (And.intro pq1 pq2)
  have hB := lw_BK how2 hI.1 hxo hmo rfl rfl (how2.1 xo 5 (by rw [hxo]; rfl)) hB
  have hO := lw_Aob hal (ob_lay hal hA1 hMc ((xs (nI i + 1).toNatClampNeg)) ((xs (nI i + 2).toNatClampNeg)) ((xs (nI i + 3).toNatClampNeg)) ((xs (nI i + 4).toNatClampNeg))) hex1 hex2 how2 rfl
  have hA := hO.2
  have hE := lw_EK hk (by decide) hxo hmo hE
  have hM := lw_wr (hk mo 24 (by rw [hmo]; decide)) hp.1 hp.2.1 hp.2.2 hM h3 (by omega)
  have hpp2 := hp
  clear hp hk
  clear h3
  refine lv_pop hx hb dL_law_907 rfl ?_
  refine lv_goto (tgt := 1796) hx hb dL_law_908 (by decide) ?_
  exact kk _ _ _ hI hM hE hB hA

set_option maxRecDepth 100000 in
set_option maxHeartbeats 4000000 in
theorem lw_c19 {p : Program} {l : Launch} {e : Env} {s : State} {m : MethodId} {below : List Frame} {meth : Method} {c : Code} {b L : Nat} {xs : Nat → Int32} {X : XW} {xo mo : Nat} {σ0 : ST} {cells slots : Nat} {Q : State → Prop} {lb : Nat → Nat} (hcl : tb_Cls X lb xo mo) (hal : al_C X lb xo mo) (E : q_E p c cL_law s m #[Value.ref b] RL X) (hX : va_X b L xs s s.heap) (hbl : b < s.heap.size) (hbA : ¬ q_reg X b) (hml : c.maxLocals = 4) (hxo : q_kd X xo = 11) (hmo : q_kd X mo = 12) (hcs : cells ≤ room_1.cells ∧ slots ≤ room_1.slots) (hL : L ≤ 3072) {i : Nat} (hi : i + 6 ≤ L) {n : Int} (hn : 0 ≤ n ∧ n ≤ 199000) {σ : ST} {H : Heap} {locs : List Loc} {ls : Array Slot} (hI : q_I X 0 σ0 s.heap locs σ H) (hM : m_M (m_c X σ mo) (σ.1 mo 24).toInt n) (hl : lv_has ls 4 [(3, .int (nI i)), (2, .ref mo), (1, .ref xo), (0, .ref b)]) (hE : lw_E xo mo σ) (hB : lw_B X xo mo σ) (hA : al_R X xo mo σ σ)
    (kk : ∀ (σ : ST) (H : Heap) (locs : List Loc), q_I X 0 σ0 s.heap locs σ H → m_M (m_c X σ mo) (σ.1 mo 24).toInt (n + 301) → lw_E xo mo σ → lw_B X xo mo σ → al_R X xo mo σ σ → W p l e room_1 s m #[Value.ref b] below meth c H locs cells slots Q (F0 m 1796 ls [])) : W p l e room_1 s m #[Value.ref b] below meth c H locs cells slots Q (F0 m 911 ls []) := by
  have hx := E.1
  have hb := E.2.1
  have hI0 := hI
  have hE0 := hE
  have hB0 := hB
  have hA0 := hA
  have hM0 := hM
  refine lv_aload_n hx hb dL_law_911 rfl (lv_at hl 2 rfl) ?_
  have h3 := (q_bd hI hmo (rfl : q_bn 12 24 = (0, 3))).2
  refine q_ci (q_runV (As := []) (rest := []) E (hml.trans hl.1.symm) hI (c_X11_leave l X σ xo hxo) kl_101 hxo ⟨rfl, by decide⟩ (show vwCl[10]? = some (RX11, TX11, 17) from rfl) rfl ⟨Nat.le_of_ble_eq_true rfl, Nat.le_of_ble_eq_true rfl⟩ hcs rfl (Nat.le_of_ble_eq_true rfl) dL_law_912) hI (by decide) (fun r1 σ1 H locs hp hk hI => ?_)
  obtain ⟨hex1, how1⟩ := hp
  have hp := True.intro
  have hB := lw_BK how1 hI.1 hxo hmo rfl rfl (how1.1 xo 5 (by rw [hxo]; rfl)) hB
  have hA1 := hA0.pre hal how1 rfl
  have hE := lw_EK hk (by decide) hxo hmo hE
  have hM := lw_kM hk hI.1 hmo (by decide) hM
  have hpp1 := hp
  have hMc := hM
  clear hp hk
  clear h3
  refine lv_pop hx hb dL_law_915 rfl ?_
  refine lv_aload_n hx hb dL_law_916 rfl (lv_at hl 1 rfl) ?_
  have h3 := (q_bd hI hmo (rfl : q_bn 12 24 = (0, 3))).2
  refine q_ci (q_runV (As := []) (rest := []) E (hml.trans hl.1.symm) hI (c_X12_leave l X σ1 mo n hmo hM.1.1 hM.1.2 (by omega)) kl_104 hmo ⟨rfl, by decide⟩ (show vwCl[11]? = some (RX12, TX12, 46) from rfl) rfl ⟨Nat.le_of_ble_eq_true rfl, Nat.le_of_ble_eq_true rfl⟩ hcs rfl (Nat.le_of_ble_eq_true rfl) dL_law_917) hI (by decide) (fun r2 σ2 H locs hp hk hI => ?_)
  obtain ⟨pq0, pq1, pq2, hex2, how2⟩ := hp
  have hp := And.intro pq0 (And.intro pq1 pq2)
  have hB := lw_BK how2 hI.1 hxo hmo rfl rfl (how2.1 xo 5 (by rw [hxo]; rfl)) hB
  have hO := lw_Aob hal (ob_leave hal hA1 hMc) hex1 hex2 how2 rfl
  have hA := hO.2
  have hE := lw_EK hk (by decide) hxo hmo hE
  have hM := lw_wr (hk mo 24 (by rw [hmo]; decide)) hp.1 hp.2.1 hp.2.2 hM h3 (by omega)
  have hpp2 := hp
  clear hp hk
  clear h3
  refine lv_pop hx hb dL_law_920 rfl ?_
  refine lv_goto (tgt := 1796) hx hb dL_law_921 (by decide) ?_
  exact kk _ _ _ hI hM hE hB hA

set_option maxRecDepth 100000 in
set_option maxHeartbeats 4000000 in
theorem lw_c20 {p : Program} {l : Launch} {e : Env} {s : State} {m : MethodId} {below : List Frame} {meth : Method} {c : Code} {b L : Nat} {xs : Nat → Int32} {X : XW} {xo mo : Nat} {σ0 : ST} {cells slots : Nat} {Q : State → Prop} {lb : Nat → Nat} (hcl : tb_Cls X lb xo mo) (hal : al_C X lb xo mo) (E : q_E p c cL_law s m #[Value.ref b] RL X) (hX : va_X b L xs s s.heap) (hbl : b < s.heap.size) (hbA : ¬ q_reg X b) (hml : c.maxLocals = 4) (hxo : q_kd X xo = 11) (hmo : q_kd X mo = 12) (hcs : cells ≤ room_1.cells ∧ slots ≤ room_1.slots) (hL : L ≤ 3072) {i : Nat} (hi : i + 6 ≤ L) {n : Int} (hn : 0 ≤ n ∧ n ≤ 199000) {σ : ST} {H : Heap} {locs : List Loc} {ls : Array Slot} (hI : q_I X 0 σ0 s.heap locs σ H) (hM : m_M (m_c X σ mo) (σ.1 mo 24).toInt n) (hl : lv_has ls 4 [(3, .int (nI i)), (2, .ref mo), (1, .ref xo), (0, .ref b)]) (hE : lw_E xo mo σ) (hB : lw_B X xo mo σ) (hA : al_R X xo mo σ σ)
    (kk : ∀ (σ : ST) (H : Heap) (locs : List Loc), q_I X 0 σ0 s.heap locs σ H → m_M (m_c X σ mo) (σ.1 mo 24).toInt (n + 301) → lw_E xo mo σ → lw_B X xo mo σ → al_R X xo mo σ σ → W p l e room_1 s m #[Value.ref b] below meth c H locs cells slots Q (F0 m 1796 ls [])) : W p l e room_1 s m #[Value.ref b] below meth c H locs cells slots Q (F0 m 924 ls []) := by
  have hx := E.1
  have hb := E.2.1
  have hI0 := hI
  have hE0 := hE
  have hB0 := hB
  have hA0 := hA
  have hM0 := hM
  refine lv_aload_n hx hb dL_law_924 rfl (lv_at hl 2 rfl) ?_
  refine lv_aload_n hx hb dL_law_925 rfl (lv_at hl 3 rfl) ?_
  refine lv_iload_n hx hb dL_law_926 rfl (lv_at hl 0 rfl) ?_
  refine lv_iconst (v := 1) hx hb dL_law_927 (by decide) ?_
  refine lv_iadd hx hb dL_law_928 ?_
  refine va_sld hx hb hX hbl hbA hI.S (lw_in (j := 1) (by decide) (by omega) hL) dL_law_929 ?_
  have h3 := (q_bd hI hmo (rfl : q_bn 12 24 = (0, 3))).2
  refine q_ci (q_runV (As := [.int (xs (nI i + 1).toNatClampNeg)]) (rest := []) E (hml.trans hl.1.symm) hI (c_X11_doubt l X σ xo ((xs (nI i + 1).toNatClampNeg)) hxo) kl_105 hxo ⟨rfl, by decide⟩ (show vwCl[10]? = some (RX11, TX11, 17) from rfl) rfl ⟨Nat.le_of_ble_eq_true rfl, Nat.le_of_ble_eq_true rfl⟩ hcs rfl (Nat.le_of_ble_eq_true rfl) dL_law_930) hI (by decide) (fun r1 σ1 H locs hp hk hI => ?_)
  obtain ⟨hex1, how1⟩ := hp
  have hp := True.intro
  have hB := lw_BK how1 hI.1 hxo hmo rfl rfl (how1.1 xo 5 (by rw [hxo]; rfl)) hB
  have hA1 := hA0.pre hal how1 rfl
  have hE := lw_EK hk (by decide) hxo hmo hE
  have hM := lw_kM hk hI.1 hmo (by decide) hM
  have hpp1 := hp
  have hMc := hM
  clear hp hk
  clear h3
  refine lv_aload_n hx hb dL_law_933 rfl (lv_at hl 1 rfl) ?_
  refine lv_aload_n hx hb dL_law_934 rfl (lv_at hl 3 rfl) ?_
  refine lv_iload_n hx hb dL_law_935 rfl (lv_at hl 0 rfl) ?_
  refine lv_iconst (v := 1) hx hb dL_law_936 (by decide) ?_
  refine lv_iadd hx hb dL_law_937 ?_
  refine va_sld hx hb hX hbl hbA hI.S (lw_in (j := 1) (by decide) (by omega) hL) dL_law_938 ?_
  have h3 := (q_bd hI hmo (rfl : q_bn 12 24 = (0, 3))).2
  refine q_ci (q_runV (As := [.int (xs (nI i + 1).toNatClampNeg)]) (rest := [.int r1]) E (hml.trans hl.1.symm) hI (c_X12_doubt l X σ1 mo ((xs (nI i + 1).toNatClampNeg)) n hmo hM.1.1 hM.1.2 (by omega)) kl_108 hmo ⟨rfl, by decide⟩ (show vwCl[11]? = some (RX12, TX12, 46) from rfl) rfl ⟨Nat.le_of_ble_eq_true rfl, Nat.le_of_ble_eq_true rfl⟩ hcs rfl (Nat.le_of_ble_eq_true rfl) dL_law_939) hI (by decide) (fun r2 σ2 H locs hp hk hI => ?_)
  obtain ⟨pq0, pq1, pq2, hex2, how2⟩ := hp
  have hp := And.intro pq0 (And.intro pq1 pq2)
  have hB := lw_BK how2 hI.1 hxo hmo rfl rfl (how2.1 xo 5 (by rw [hxo]; rfl)) hB
  have hO := lw_Aob hal (ob_doubt hal hA1 hMc (by omega) ((xs (nI i + 1).toNatClampNeg))) hex1 hex2 how2 rfl
  have hA := hO.2
  have hE := lw_EK hk (by decide) hxo hmo hE
  have hM := lw_wr (hk mo 24 (by rw [hmo]; decide)) hp.1 hp.2.1 hp.2.2 hM h3 (by omega)
  have hpp2 := hp
  clear hp hk
  clear h3
  exact lv_icmp_eq (tgt := 1796) hx hb dL_law_942 (by decide) (fun _ => kk _ _ _ hI hM hE hB hA) (fun q => absurd (hO.1) q)

set_option maxRecDepth 100000 in
set_option maxHeartbeats 4000000 in
theorem lw_c21 {p : Program} {l : Launch} {e : Env} {s : State} {m : MethodId} {below : List Frame} {meth : Method} {c : Code} {b L : Nat} {xs : Nat → Int32} {X : XW} {xo mo : Nat} {σ0 : ST} {cells slots : Nat} {Q : State → Prop} {lb : Nat → Nat} (hcl : tb_Cls X lb xo mo) (hal : al_C X lb xo mo) (E : q_E p c cL_law s m #[Value.ref b] RL X) (hX : va_X b L xs s s.heap) (hbl : b < s.heap.size) (hbA : ¬ q_reg X b) (hml : c.maxLocals = 4) (hxo : q_kd X xo = 11) (hmo : q_kd X mo = 12) (hcs : cells ≤ room_1.cells ∧ slots ≤ room_1.slots) (hL : L ≤ 3072) {i : Nat} (hi : i + 6 ≤ L) {n : Int} (hn : 0 ≤ n ∧ n ≤ 199000) {σ : ST} {H : Heap} {locs : List Loc} {ls : Array Slot} (hI : q_I X 0 σ0 s.heap locs σ H) (hM : m_M (m_c X σ mo) (σ.1 mo 24).toInt n) (hl : lv_has ls 4 [(3, .int (nI i)), (2, .ref mo), (1, .ref xo), (0, .ref b)]) (hE : lw_E xo mo σ) (hB : lw_B X xo mo σ) (hA : al_R X xo mo σ σ)
    (kk : ∀ (σ : ST) (H : Heap) (locs : List Loc), q_I X 0 σ0 s.heap locs σ H → m_M (m_c X σ mo) (σ.1 mo 24).toInt (n + 301) → lw_E xo mo σ → lw_B X xo mo σ → al_R X xo mo σ σ → W p l e room_1 s m #[Value.ref b] below meth c H locs cells slots Q (F0 m 1796 ls [])) : W p l e room_1 s m #[Value.ref b] below meth c H locs cells slots Q (F0 m 947 ls []) := by
  have hx := E.1
  have hb := E.2.1
  have hI0 := hI
  have hE0 := hE
  have hB0 := hB
  have hA0 := hA
  have hM0 := hM
  refine lv_aload_n hx hb dL_law_947 rfl (lv_at hl 2 rfl) ?_
  refine lv_aload_n hx hb dL_law_948 rfl (lv_at hl 3 rfl) ?_
  refine lv_iload_n hx hb dL_law_949 rfl (lv_at hl 0 rfl) ?_
  refine lv_iconst (v := 1) hx hb dL_law_950 (by decide) ?_
  refine lv_iadd hx hb dL_law_951 ?_
  refine va_sld hx hb hX hbl hbA hI.S (lw_in (j := 1) (by decide) (by omega) hL) dL_law_952 ?_
  refine lv_aload_n hx hb dL_law_953 rfl (lv_at hl 3 rfl) ?_
  refine lv_iload_n hx hb dL_law_954 rfl (lv_at hl 0 rfl) ?_
  refine lv_iconst (v := 2) hx hb dL_law_955 (by decide) ?_
  refine lv_iadd hx hb dL_law_956 ?_
  refine va_sld hx hb hX hbl hbA hI.S (lw_in (j := 2) (by decide) (by omega) hL) dL_law_957 ?_
  refine lv_aload_n hx hb dL_law_958 rfl (lv_at hl 3 rfl) ?_
  refine lv_iload_n hx hb dL_law_959 rfl (lv_at hl 0 rfl) ?_
  refine lv_iconst (v := 3) hx hb dL_law_960 (by decide) ?_
  refine lv_iadd hx hb dL_law_961 ?_
  refine va_sld hx hb hX hbl hbA hI.S (lw_in (j := 3) (by decide) (by omega) hL) dL_law_962 ?_
  have h3 := (q_bd hI hmo (rfl : q_bn 12 24 = (0, 3))).2
  refine q_ci (q_runV (As := [.int (xs (nI i + 1).toNatClampNeg), .int (xs (nI i + 2).toNatClampNeg), .int (xs (nI i + 3).toNatClampNeg)]) (rest := []) E (hml.trans hl.1.symm) hI (c_X11_bend l X σ xo ((xs (nI i + 1).toNatClampNeg)) ((xs (nI i + 2).toNatClampNeg)) ((xs (nI i + 3).toNatClampNeg)) hxo) kl_109 hxo ⟨rfl, by decide⟩ (show vwCl[10]? = some (RX11, TX11, 17) from rfl) rfl ⟨Nat.le_of_ble_eq_true rfl, Nat.le_of_ble_eq_true rfl⟩ hcs rfl (Nat.le_of_ble_eq_true rfl) dL_law_963) hI (by decide) (fun r1 σ1 H locs hp hk hI => ?_)
  obtain ⟨pq0, hex1, how1⟩ := hp
  have hp := pq0
  have hB := lw_BK how1 hI.1 hxo hmo rfl rfl (how1.1 xo 5 (by rw [hxo]; rfl)) hB
  have hA1 := hA0.pre hal how1 rfl
  have hE := lw_EK hk (by decide) hxo hmo hE
  have hM := lw_kM hk hI.1 hmo (by decide) hM
  have hpp1 := hp
  have hMc := hM
  clear hp hk
  clear h3
  refine lv_pop hx hb dL_law_966 rfl ?_
  refine lv_aload_n hx hb dL_law_967 rfl (lv_at hl 1 rfl) ?_
  refine lv_aload_n hx hb dL_law_968 rfl (lv_at hl 3 rfl) ?_
  refine lv_iload_n hx hb dL_law_969 rfl (lv_at hl 0 rfl) ?_
  refine lv_iconst (v := 1) hx hb dL_law_970 (by decide) ?_
  refine lv_iadd hx hb dL_law_971 ?_
  refine va_sld hx hb hX hbl hbA hI.S (lw_in (j := 1) (by decide) (by omega) hL) dL_law_972 ?_
  refine lv_aload_n hx hb dL_law_973 rfl (lv_at hl 3 rfl) ?_
  refine lv_iload_n hx hb dL_law_974 rfl (lv_at hl 0 rfl) ?_
  refine lv_iconst (v := 2) hx hb dL_law_975 (by decide) ?_
  refine lv_iadd hx hb dL_law_976 ?_
  refine va_sld hx hb hX hbl hbA hI.S (lw_in (j := 2) (by decide) (by omega) hL) dL_law_977 ?_
  refine lv_aload_n hx hb dL_law_978 rfl (lv_at hl 3 rfl) ?_
  refine lv_iload_n hx hb dL_law_979 rfl (lv_at hl 0 rfl) ?_
  refine lv_iconst (v := 3) hx hb dL_law_980 (by decide) ?_
  refine lv_iadd hx hb dL_law_981 ?_
  refine va_sld hx hb hX hbl hbA hI.S (lw_in (j := 3) (by decide) (by omega) hL) dL_law_982 ?_
  have h3 := (q_bd hI hmo (rfl : q_bn 12 24 = (0, 3))).2
  refine q_ci (q_runV (As := [.int (xs (nI i + 1).toNatClampNeg), .int (xs (nI i + 2).toNatClampNeg), .int (xs (nI i + 3).toNatClampNeg)]) (rest := []) E (hml.trans hl.1.symm) hI (c_X12_bend l X σ1 mo ((xs (nI i + 1).toNatClampNeg)) ((xs (nI i + 2).toNatClampNeg)) ((xs (nI i + 3).toNatClampNeg)) n hmo hM.1.1 hM.1.2 (by omega)) kl_112 hmo ⟨rfl, by decide⟩ (show vwCl[11]? = some (RX12, TX12, 46) from rfl) rfl ⟨Nat.le_of_ble_eq_true rfl, Nat.le_of_ble_eq_true rfl⟩ hcs rfl (Nat.le_of_ble_eq_true rfl) dL_law_983) hI (by decide) (fun r2 σ2 H locs hp hk hI => ?_)
  obtain ⟨pq0, pq1, pq2, pq3, hex2, how2⟩ := hp
  have hp := And.intro pq0 (And.intro pq1 (And.intro pq2 pq3))
  have hB := lw_BK how2 hI.1 hxo hmo rfl rfl (how2.1 xo 5 (by rw [hxo]; rfl)) hB
  have hO := lw_Aob hal (ob_bend hal hA1 hMc ((xs (nI i + 1).toNatClampNeg)) ((xs (nI i + 2).toNatClampNeg)) ((xs (nI i + 3).toNatClampNeg))) hex1 hex2 how2 rfl
  have hA := hO.2
  have hE := lw_EK hk (by decide) hxo hmo hE
  have hM := lw_wr (hk mo 24 (by rw [hmo]; decide)) hp.2.1 hp.2.2.1 hp.2.2.2 hM h3 (by omega)
  have hpp2 := hp
  clear hp hk
  clear h3
  refine lv_pop hx hb dL_law_986 rfl ?_
  refine lv_goto (tgt := 1796) hx hb dL_law_987 (by decide) ?_
  exact kk _ _ _ hI hM hE hB hA

set_option maxRecDepth 100000 in
set_option maxHeartbeats 4000000 in
theorem lw_c22 {p : Program} {l : Launch} {e : Env} {s : State} {m : MethodId} {below : List Frame} {meth : Method} {c : Code} {b L : Nat} {xs : Nat → Int32} {X : XW} {xo mo : Nat} {σ0 : ST} {cells slots : Nat} {Q : State → Prop} {lb : Nat → Nat} (hcl : tb_Cls X lb xo mo) (hal : al_C X lb xo mo) (E : q_E p c cL_law s m #[Value.ref b] RL X) (hX : va_X b L xs s s.heap) (hbl : b < s.heap.size) (hbA : ¬ q_reg X b) (hml : c.maxLocals = 4) (hxo : q_kd X xo = 11) (hmo : q_kd X mo = 12) (hcs : cells ≤ room_1.cells ∧ slots ≤ room_1.slots) (hL : L ≤ 3072) {i : Nat} (hi : i + 6 ≤ L) {n : Int} (hn : 0 ≤ n ∧ n ≤ 199000) {σ : ST} {H : Heap} {locs : List Loc} {ls : Array Slot} (hI : q_I X 0 σ0 s.heap locs σ H) (hM : m_M (m_c X σ mo) (σ.1 mo 24).toInt n) (hl : lv_has ls 4 [(3, .int (nI i)), (2, .ref mo), (1, .ref xo), (0, .ref b)]) (hE : lw_E xo mo σ) (hB : lw_B X xo mo σ) (hA : al_R X xo mo σ σ)
    (kk : ∀ (σ : ST) (H : Heap) (locs : List Loc), q_I X 0 σ0 s.heap locs σ H → m_M (m_c X σ mo) (σ.1 mo 24).toInt (n + 301) → lw_E xo mo σ → lw_B X xo mo σ → al_R X xo mo σ σ → W p l e room_1 s m #[Value.ref b] below meth c H locs cells slots Q (F0 m 1796 ls [])) : W p l e room_1 s m #[Value.ref b] below meth c H locs cells slots Q (F0 m 990 ls []) := by
  have hx := E.1
  have hb := E.2.1
  have hI0 := hI
  have hE0 := hE
  have hB0 := hB
  have hA0 := hA
  have hM0 := hM
  refine lv_aload_n hx hb dL_law_990 rfl (lv_at hl 2 rfl) ?_
  refine lv_aload_n hx hb dL_law_991 rfl (lv_at hl 3 rfl) ?_
  refine lv_iload_n hx hb dL_law_992 rfl (lv_at hl 0 rfl) ?_
  refine lv_iconst (v := 1) hx hb dL_law_993 (by decide) ?_
  refine lv_iadd hx hb dL_law_994 ?_
  refine va_sld hx hb hX hbl hbA hI.S (lw_in (j := 1) (by decide) (by omega) hL) dL_law_995 ?_
  refine lv_aload_n hx hb dL_law_996 rfl (lv_at hl 3 rfl) ?_
  refine lv_iload_n hx hb dL_law_997 rfl (lv_at hl 0 rfl) ?_
  refine lv_iconst (v := 2) hx hb dL_law_998 (by decide) ?_
  refine lv_iadd hx hb dL_law_999 ?_
  refine va_sld hx hb hX hbl hbA hI.S (lw_in (j := 2) (by decide) (by omega) hL) dL_law_1000 ?_
  have h3 := (q_bd hI hmo (rfl : q_bn 12 24 = (0, 3))).2
  refine q_ci (q_runV (As := [.int (xs (nI i + 1).toNatClampNeg), .int (xs (nI i + 2).toNatClampNeg)]) (rest := []) E (hml.trans hl.1.symm) hI (c_X11_known l X σ xo ((xs (nI i + 1).toNatClampNeg)) ((xs (nI i + 2).toNatClampNeg)) hxo) kl_113 hxo ⟨rfl, by decide⟩ (show vwCl[10]? = some (RX11, TX11, 17) from rfl) rfl ⟨Nat.le_of_ble_eq_true rfl, Nat.le_of_ble_eq_true rfl⟩ hcs rfl (Nat.le_of_ble_eq_true rfl) dL_law_1001) hI (by decide) (fun r1 σ1 H locs hp hk hI => ?_)
  obtain ⟨hex1, how1⟩ := hp
  have hp := True.intro
  have hB := lw_BK how1 hI.1 hxo hmo rfl rfl (how1.1 xo 5 (by rw [hxo]; rfl)) hB
  have hA1 := hA0.pre hal how1 rfl
  have hA := (hA.post hal how1 rfl).pre hal how1 rfl
  have hE := lw_EK hk (by decide) hxo hmo hE
  have hM := lw_kM hk hI.1 hmo (by decide) hM
  have hpp1 := hp
  have hMc := hM
  clear hp hk
  clear h3
  refine lv_pop hx hb dL_law_1004 rfl ?_
  refine lv_aload_n hx hb dL_law_1005 rfl (lv_at hl 1 rfl) ?_
  refine lv_aload_n hx hb dL_law_1006 rfl (lv_at hl 3 rfl) ?_
  refine lv_iload_n hx hb dL_law_1007 rfl (lv_at hl 0 rfl) ?_
  refine lv_iconst (v := 1) hx hb dL_law_1008 (by decide) ?_
  refine lv_iadd hx hb dL_law_1009 ?_
  refine va_sld hx hb hX hbl hbA hI.S (lw_in (j := 1) (by decide) (by omega) hL) dL_law_1010 ?_
  refine lv_aload_n hx hb dL_law_1011 rfl (lv_at hl 3 rfl) ?_
  refine lv_iload_n hx hb dL_law_1012 rfl (lv_at hl 0 rfl) ?_
  refine lv_iconst (v := 2) hx hb dL_law_1013 (by decide) ?_
  refine lv_iadd hx hb dL_law_1014 ?_
  refine va_sld hx hb hX hbl hbA hI.S (lw_in (j := 2) (by decide) (by omega) hL) dL_law_1015 ?_
  have h3 := (q_bd hI hmo (rfl : q_bn 12 24 = (0, 3))).2
  refine q_ci (q_runV (As := [.int (xs (nI i + 1).toNatClampNeg), .int (xs (nI i + 2).toNatClampNeg)]) (rest := []) E (hml.trans hl.1.symm) hI (c_X12_known l X σ1 mo ((xs (nI i + 1).toNatClampNeg)) ((xs (nI i + 2).toNatClampNeg)) hmo hM.1.1) kl_116 hmo ⟨rfl, by decide⟩ (show vwCl[11]? = some (RX12, TX12, 46) from rfl) rfl ⟨Nat.le_of_ble_eq_true rfl, Nat.le_of_ble_eq_true rfl⟩ hcs rfl (Nat.le_of_ble_eq_true rfl) dL_law_1016) hI (by decide) (fun r2 σ2 H locs hp hk hI => ?_)
  obtain ⟨hex2, how2⟩ := hp
  have hp := True.intro
  have hB := lw_BK how2 hI.1 hxo hmo rfl rfl (how2.1 xo 5 (by rw [hxo]; rfl)) hB
  have hA := (hA.post hal how2 rfl).pre hal how2 rfl
  have hE := lw_EK hk (by decide) hxo hmo hE
  have hM := lw_up (lw_kM hk hI.1 hmo (by decide) hM) (q_bd hI hmo (rfl : q_bn 12 24 = (0, 3))).2
  have hpp2 := hp
  clear hp hk
  clear h3
  refine lv_pop hx hb dL_law_1019 rfl ?_
  refine lv_goto (tgt := 1796) hx hb dL_law_1020 (by decide) ?_
  exact kk _ _ _ hI hM hE hB hA

set_option maxRecDepth 100000 in
set_option maxHeartbeats 4000000 in
theorem lw_c23 {p : Program} {l : Launch} {e : Env} {s : State} {m : MethodId} {below : List Frame} {meth : Method} {c : Code} {b L : Nat} {xs : Nat → Int32} {X : XW} {xo mo : Nat} {σ0 : ST} {cells slots : Nat} {Q : State → Prop} {lb : Nat → Nat} (hcl : tb_Cls X lb xo mo) (hal : al_C X lb xo mo) (E : q_E p c cL_law s m #[Value.ref b] RL X) (hX : va_X b L xs s s.heap) (hbl : b < s.heap.size) (hbA : ¬ q_reg X b) (hml : c.maxLocals = 4) (hxo : q_kd X xo = 11) (hmo : q_kd X mo = 12) (hcs : cells ≤ room_1.cells ∧ slots ≤ room_1.slots) (hL : L ≤ 3072) {i : Nat} (hi : i + 6 ≤ L) {n : Int} (hn : 0 ≤ n ∧ n ≤ 199000) {σ : ST} {H : Heap} {locs : List Loc} {ls : Array Slot} (hI : q_I X 0 σ0 s.heap locs σ H) (hM : m_M (m_c X σ mo) (σ.1 mo 24).toInt n) (hl : lv_has ls 4 [(3, .int (nI i)), (2, .ref mo), (1, .ref xo), (0, .ref b)]) (hE : lw_E xo mo σ) (hB : lw_B X xo mo σ) (hA : al_R X xo mo σ σ)
    (kk : ∀ (σ : ST) (H : Heap) (locs : List Loc), q_I X 0 σ0 s.heap locs σ H → m_M (m_c X σ mo) (σ.1 mo 24).toInt (n + 301) → lw_E xo mo σ → lw_B X xo mo σ → al_R X xo mo σ σ → W p l e room_1 s m #[Value.ref b] below meth c H locs cells slots Q (F0 m 1796 ls [])) : W p l e room_1 s m #[Value.ref b] below meth c H locs cells slots Q (F0 m 1023 ls []) := by
  have hx := E.1
  have hb := E.2.1
  have hI0 := hI
  have hE0 := hE
  have hB0 := hB
  have hA0 := hA
  have hM0 := hM
  refine lv_aload_n hx hb dL_law_1023 rfl (lv_at hl 2 rfl) ?_
  refine lv_aload_n hx hb dL_law_1024 rfl (lv_at hl 3 rfl) ?_
  refine lv_iload_n hx hb dL_law_1025 rfl (lv_at hl 0 rfl) ?_
  refine lv_iconst (v := 1) hx hb dL_law_1026 (by decide) ?_
  refine lv_iadd hx hb dL_law_1027 ?_
  refine va_sld hx hb hX hbl hbA hI.S (lw_in (j := 1) (by decide) (by omega) hL) dL_law_1028 ?_
  refine lv_aload_n hx hb dL_law_1029 rfl (lv_at hl 3 rfl) ?_
  refine lv_iload_n hx hb dL_law_1030 rfl (lv_at hl 0 rfl) ?_
  refine lv_iconst (v := 2) hx hb dL_law_1031 (by decide) ?_
  refine lv_iadd hx hb dL_law_1032 ?_
  refine va_sld hx hb hX hbl hbA hI.S (lw_in (j := 2) (by decide) (by omega) hL) dL_law_1033 ?_
  have h3 := (q_bd hI hmo (rfl : q_bn 12 24 = (0, 3))).2
  refine q_ci (q_runV (As := [.int (xs (nI i + 1).toNatClampNeg), .int (xs (nI i + 2).toNatClampNeg)]) (rest := []) E (hml.trans hl.1.symm) hI (c_X11_unknown l X σ xo ((xs (nI i + 1).toNatClampNeg)) ((xs (nI i + 2).toNatClampNeg)) hxo) kl_117 hxo ⟨rfl, by decide⟩ (show vwCl[10]? = some (RX11, TX11, 17) from rfl) rfl ⟨Nat.le_of_ble_eq_true rfl, Nat.le_of_ble_eq_true rfl⟩ hcs rfl (Nat.le_of_ble_eq_true rfl) dL_law_1034) hI (by decide) (fun r1 σ1 H locs hp hk hI => ?_)
  obtain ⟨hex1, how1⟩ := hp
  have hp := True.intro
  have hB := lw_BK how1 hI.1 hxo hmo rfl rfl (how1.1 xo 5 (by rw [hxo]; rfl)) hB
  have hA1 := hA0.pre hal how1 rfl
  have hA := (hA.post hal how1 rfl).pre hal how1 rfl
  have hE := lw_EK hk (by decide) hxo hmo hE
  have hM := lw_kM hk hI.1 hmo (by decide) hM
  have hpp1 := hp
  have hMc := hM
  clear hp hk
  clear h3
  refine lv_pop hx hb dL_law_1037 rfl ?_
  refine lv_aload_n hx hb dL_law_1038 rfl (lv_at hl 1 rfl) ?_
  refine lv_aload_n hx hb dL_law_1039 rfl (lv_at hl 3 rfl) ?_
  refine lv_iload_n hx hb dL_law_1040 rfl (lv_at hl 0 rfl) ?_
  refine lv_iconst (v := 1) hx hb dL_law_1041 (by decide) ?_
  refine lv_iadd hx hb dL_law_1042 ?_
  refine va_sld hx hb hX hbl hbA hI.S (lw_in (j := 1) (by decide) (by omega) hL) dL_law_1043 ?_
  refine lv_aload_n hx hb dL_law_1044 rfl (lv_at hl 3 rfl) ?_
  refine lv_iload_n hx hb dL_law_1045 rfl (lv_at hl 0 rfl) ?_
  refine lv_iconst (v := 2) hx hb dL_law_1046 (by decide) ?_
  refine lv_iadd hx hb dL_law_1047 ?_
  refine va_sld hx hb hX hbl hbA hI.S (lw_in (j := 2) (by decide) (by omega) hL) dL_law_1048 ?_
  have h3 := (q_bd hI hmo (rfl : q_bn 12 24 = (0, 3))).2
  refine q_ci (q_runV (As := [.int (xs (nI i + 1).toNatClampNeg), .int (xs (nI i + 2).toNatClampNeg)]) (rest := []) E (hml.trans hl.1.symm) hI (c_X12_unknown l X σ1 mo ((xs (nI i + 1).toNatClampNeg)) ((xs (nI i + 2).toNatClampNeg)) hmo hM.1.1) kl_120 hmo ⟨rfl, by decide⟩ (show vwCl[11]? = some (RX12, TX12, 46) from rfl) rfl ⟨Nat.le_of_ble_eq_true rfl, Nat.le_of_ble_eq_true rfl⟩ hcs rfl (Nat.le_of_ble_eq_true rfl) dL_law_1049) hI (by decide) (fun r2 σ2 H locs hp hk hI => ?_)
  obtain ⟨hex2, how2⟩ := hp
  have hp := True.intro
  have hB := lw_BK how2 hI.1 hxo hmo rfl rfl (how2.1 xo 5 (by rw [hxo]; rfl)) hB
  have hA := (hA.post hal how2 rfl).pre hal how2 rfl
  have hE := lw_EK hk (by decide) hxo hmo hE
  have hM := lw_up (lw_kM hk hI.1 hmo (by decide) hM) (q_bd hI hmo (rfl : q_bn 12 24 = (0, 3))).2
  have hpp2 := hp
  clear hp hk
  clear h3
  refine lv_pop hx hb dL_law_1052 rfl ?_
  refine lv_goto (tgt := 1796) hx hb dL_law_1053 (by decide) ?_
  exact kk _ _ _ hI hM hE hB hA

set_option maxRecDepth 100000 in
set_option maxHeartbeats 4000000 in
theorem lw_c24 {p : Program} {l : Launch} {e : Env} {s : State} {m : MethodId} {below : List Frame} {meth : Method} {c : Code} {b L : Nat} {xs : Nat → Int32} {X : XW} {xo mo : Nat} {σ0 : ST} {cells slots : Nat} {Q : State → Prop} {lb : Nat → Nat} (hcl : tb_Cls X lb xo mo) (hal : al_C X lb xo mo) (E : q_E p c cL_law s m #[Value.ref b] RL X) (hX : va_X b L xs s s.heap) (hbl : b < s.heap.size) (hbA : ¬ q_reg X b) (hml : c.maxLocals = 4) (hxo : q_kd X xo = 11) (hmo : q_kd X mo = 12) (hcs : cells ≤ room_1.cells ∧ slots ≤ room_1.slots) (hL : L ≤ 3072) {i : Nat} (hi : i + 6 ≤ L) {n : Int} (hn : 0 ≤ n ∧ n ≤ 199000) {σ : ST} {H : Heap} {locs : List Loc} {ls : Array Slot} (hI : q_I X 0 σ0 s.heap locs σ H) (hM : m_M (m_c X σ mo) (σ.1 mo 24).toInt n) (hl : lv_has ls 4 [(3, .int (nI i)), (2, .ref mo), (1, .ref xo), (0, .ref b)]) (hE : lw_E xo mo σ) (hB : lw_B X xo mo σ) (hA : al_R X xo mo σ σ)
    (kk : ∀ (σ : ST) (H : Heap) (locs : List Loc), q_I X 0 σ0 s.heap locs σ H → m_M (m_c X σ mo) (σ.1 mo 24).toInt (n + 301) → lw_E xo mo σ → lw_B X xo mo σ → al_R X xo mo σ σ → W p l e room_1 s m #[Value.ref b] below meth c H locs cells slots Q (F0 m 1796 ls [])) : W p l e room_1 s m #[Value.ref b] below meth c H locs cells slots Q (F0 m 1056 ls []) := by
  have hx := E.1
  have hb := E.2.1
  have hI0 := hI
  have hE0 := hE
  have hB0 := hB
  have hA0 := hA
  have hM0 := hM
  refine lv_aload_n hx hb dL_law_1056 rfl (lv_at hl 2 rfl) ?_
  refine lv_aload_n hx hb dL_law_1057 rfl (lv_at hl 3 rfl) ?_
  refine lv_iload_n hx hb dL_law_1058 rfl (lv_at hl 0 rfl) ?_
  refine lv_iconst (v := 1) hx hb dL_law_1059 (by decide) ?_
  refine lv_iadd hx hb dL_law_1060 ?_
  refine va_sld hx hb hX hbl hbA hI.S (lw_in (j := 1) (by decide) (by omega) hL) dL_law_1061 ?_
  have h3 := (q_bd hI hmo (rfl : q_bn 12 24 = (0, 3))).2
  refine q_ci (q_runV (As := [.int (xs (nI i + 1).toNatClampNeg)]) (rest := []) E (hml.trans hl.1.symm) hI (c_X11_impossible l X σ xo ((xs (nI i + 1).toNatClampNeg)) hxo) kl_121 hxo ⟨rfl, by decide⟩ (show vwCl[10]? = some (RX11, TX11, 17) from rfl) rfl ⟨Nat.le_of_ble_eq_true rfl, Nat.le_of_ble_eq_true rfl⟩ hcs rfl (Nat.le_of_ble_eq_true rfl) dL_law_1062) hI (by decide) (fun r1 σ1 H locs hp hk hI => ?_)
  obtain ⟨hex1, how1⟩ := hp
  have hp := True.intro
  have hB := lw_BK how1 hI.1 hxo hmo rfl rfl (how1.1 xo 5 (by rw [hxo]; rfl)) hB
  have hA1 := hA0.pre hal how1 rfl
  have hA := (hA.post hal how1 rfl).pre hal how1 rfl
  have hE := lw_EK hk (by decide) hxo hmo hE
  have hM := lw_kM hk hI.1 hmo (by decide) hM
  have hpp1 := hp
  have hMc := hM
  clear hp hk
  clear h3
  refine lv_pop hx hb dL_law_1065 rfl ?_
  refine lv_aload_n hx hb dL_law_1066 rfl (lv_at hl 1 rfl) ?_
  refine lv_aload_n hx hb dL_law_1067 rfl (lv_at hl 3 rfl) ?_
  refine lv_iload_n hx hb dL_law_1068 rfl (lv_at hl 0 rfl) ?_
  refine lv_iconst (v := 1) hx hb dL_law_1069 (by decide) ?_
  refine lv_iadd hx hb dL_law_1070 ?_
  refine va_sld hx hb hX hbl hbA hI.S (lw_in (j := 1) (by decide) (by omega) hL) dL_law_1071 ?_
  have h3 := (q_bd hI hmo (rfl : q_bn 12 24 = (0, 3))).2
  refine q_ci (q_runV (As := [.int (xs (nI i + 1).toNatClampNeg)]) (rest := []) E (hml.trans hl.1.symm) hI (c_X12_impossible l X σ1 mo ((xs (nI i + 1).toNatClampNeg)) hmo hM.1.1) kl_124 hmo ⟨rfl, by decide⟩ (show vwCl[11]? = some (RX12, TX12, 46) from rfl) rfl ⟨Nat.le_of_ble_eq_true rfl, Nat.le_of_ble_eq_true rfl⟩ hcs rfl (Nat.le_of_ble_eq_true rfl) dL_law_1072) hI (by decide) (fun r2 σ2 H locs hp hk hI => ?_)
  obtain ⟨hex2, how2⟩ := hp
  have hp := True.intro
  have hB := lw_BK how2 hI.1 hxo hmo rfl rfl (how2.1 xo 5 (by rw [hxo]; rfl)) hB
  have hA := (hA.post hal how2 rfl).pre hal how2 rfl
  have hE := lw_EK hk (by decide) hxo hmo hE
  have hM := lw_up (lw_kM hk hI.1 hmo (by decide) hM) (q_bd hI hmo (rfl : q_bn 12 24 = (0, 3))).2
  have hpp2 := hp
  clear hp hk
  clear h3
  refine lv_pop hx hb dL_law_1075 rfl ?_
  refine lv_goto (tgt := 1796) hx hb dL_law_1076 (by decide) ?_
  exact kk _ _ _ hI hM hE hB hA

set_option maxRecDepth 100000 in
set_option maxHeartbeats 4000000 in
theorem lw_c25 {p : Program} {l : Launch} {e : Env} {s : State} {m : MethodId} {below : List Frame} {meth : Method} {c : Code} {b L : Nat} {xs : Nat → Int32} {X : XW} {xo mo : Nat} {σ0 : ST} {cells slots : Nat} {Q : State → Prop} {lb : Nat → Nat} (hcl : tb_Cls X lb xo mo) (hal : al_C X lb xo mo) (E : q_E p c cL_law s m #[Value.ref b] RL X) (hX : va_X b L xs s s.heap) (hbl : b < s.heap.size) (hbA : ¬ q_reg X b) (hml : c.maxLocals = 4) (hxo : q_kd X xo = 11) (hmo : q_kd X mo = 12) (hcs : cells ≤ room_1.cells ∧ slots ≤ room_1.slots) (hL : L ≤ 3072) {i : Nat} (hi : i + 6 ≤ L) {n : Int} (hn : 0 ≤ n ∧ n ≤ 199000) {σ : ST} {H : Heap} {locs : List Loc} {ls : Array Slot} (hI : q_I X 0 σ0 s.heap locs σ H) (hM : m_M (m_c X σ mo) (σ.1 mo 24).toInt n) (hl : lv_has ls 4 [(3, .int (nI i)), (2, .ref mo), (1, .ref xo), (0, .ref b)]) (hE : lw_E xo mo σ) (hB : lw_B X xo mo σ) (hA : al_R X xo mo σ σ)
    (kk : ∀ (σ : ST) (H : Heap) (locs : List Loc), q_I X 0 σ0 s.heap locs σ H → m_M (m_c X σ mo) (σ.1 mo 24).toInt (n + 301) → lw_E xo mo σ → lw_B X xo mo σ → al_R X xo mo σ σ → W p l e room_1 s m #[Value.ref b] below meth c H locs cells slots Q (F0 m 1796 ls [])) : W p l e room_1 s m #[Value.ref b] below meth c H locs cells slots Q (F0 m 1079 ls []) := by
  have hx := E.1
  have hb := E.2.1
  have hI0 := hI
  have hE0 := hE
  have hB0 := hB
  have hA0 := hA
  have hM0 := hM
  refine lv_aload_n hx hb dL_law_1079 rfl (lv_at hl 2 rfl) ?_
  refine lv_aload_n hx hb dL_law_1080 rfl (lv_at hl 3 rfl) ?_
  refine lv_iload_n hx hb dL_law_1081 rfl (lv_at hl 0 rfl) ?_
  refine lv_iconst (v := 1) hx hb dL_law_1082 (by decide) ?_
  refine lv_iadd hx hb dL_law_1083 ?_
  refine va_sld hx hb hX hbl hbA hI.S (lw_in (j := 1) (by decide) (by omega) hL) dL_law_1084 ?_
  have h3 := (q_bd hI hmo (rfl : q_bn 12 24 = (0, 3))).2
  refine q_ci (q_runV (As := [.int (xs (nI i + 1).toNatClampNeg)]) (rest := []) E (hml.trans hl.1.symm) hI (c_X11_blind l X σ xo ((xs (nI i + 1).toNatClampNeg)) hxo) kl_125 hxo ⟨rfl, by decide⟩ (show vwCl[10]? = some (RX11, TX11, 17) from rfl) rfl ⟨Nat.le_of_ble_eq_true rfl, Nat.le_of_ble_eq_true rfl⟩ hcs rfl (Nat.le_of_ble_eq_true rfl) dL_law_1085) hI (by decide) (fun r1 σ1 H locs hp hk hI => ?_)
  obtain ⟨pq0, hex1, how1⟩ := hp
  have hp := pq0
  have hB := lw_BK how1 hI.1 hxo hmo rfl rfl (how1.1 xo 5 (by rw [hxo]; rfl)) hB
  have hA1 := hA0.pre hal how1 rfl
  have hA := (hA.post hal how1 rfl).pre hal how1 rfl
  have hE := lw_EK hk (by decide) hxo hmo hE
  have hM := lw_kM hk hI.1 hmo (by decide) hM
  have hpp1 := hp
  have hMc := hM
  clear hp hk
  clear h3
  refine lv_pop hx hb dL_law_1088 rfl ?_
  refine lv_aload_n hx hb dL_law_1089 rfl (lv_at hl 1 rfl) ?_
  refine lv_aload_n hx hb dL_law_1090 rfl (lv_at hl 3 rfl) ?_
  refine lv_iload_n hx hb dL_law_1091 rfl (lv_at hl 0 rfl) ?_
  refine lv_iconst (v := 1) hx hb dL_law_1092 (by decide) ?_
  refine lv_iadd hx hb dL_law_1093 ?_
  refine va_sld hx hb hX hbl hbA hI.S (lw_in (j := 1) (by decide) (by omega) hL) dL_law_1094 ?_
  have h3 := (q_bd hI hmo (rfl : q_bn 12 24 = (0, 3))).2
  refine q_ci (q_runV (As := [.int (xs (nI i + 1).toNatClampNeg)]) (rest := []) E (hml.trans hl.1.symm) hI (c_X12_blind l X σ1 mo ((xs (nI i + 1).toNatClampNeg)) hmo hM.1.1) kl_129 hmo ⟨rfl, by decide⟩ (show vwCl[11]? = some (RX12, TX12, 46) from rfl) rfl ⟨Nat.le_of_ble_eq_true rfl, Nat.le_of_ble_eq_true rfl⟩ hcs rfl (Nat.le_of_ble_eq_true rfl) dL_law_1095) hI (by decide) (fun r2 σ2 H locs hp hk hI => ?_)
  obtain ⟨pq0, hex2, how2⟩ := hp
  have hp := pq0
  have hB := lw_BK how2 hI.1 hxo hmo rfl rfl (how2.1 xo 5 (by rw [hxo]; rfl)) hB
  have hA := (hA.post hal how2 rfl).pre hal how2 rfl
  have hE := lw_EK hk (by decide) hxo hmo hE
  have hM := lw_up (lw_kM hk hI.1 hmo (by decide) hM) (q_bd hI hmo (rfl : q_bn 12 24 = (0, 3))).2
  have hpp2 := hp
  clear hp hk
  clear h3
  refine lv_pop hx hb dL_law_1098 rfl ?_
  refine lv_goto (tgt := 1796) hx hb dL_law_1099 (by decide) ?_
  exact kk _ _ _ hI hM hE hB hA

set_option maxRecDepth 100000 in
set_option maxHeartbeats 4000000 in
theorem lw_c26 {p : Program} {l : Launch} {e : Env} {s : State} {m : MethodId} {below : List Frame} {meth : Method} {c : Code} {b L : Nat} {xs : Nat → Int32} {X : XW} {xo mo : Nat} {σ0 : ST} {cells slots : Nat} {Q : State → Prop} {lb : Nat → Nat} (hcl : tb_Cls X lb xo mo) (hal : al_C X lb xo mo) (E : q_E p c cL_law s m #[Value.ref b] RL X) (hX : va_X b L xs s s.heap) (hbl : b < s.heap.size) (hbA : ¬ q_reg X b) (hml : c.maxLocals = 4) (hxo : q_kd X xo = 11) (hmo : q_kd X mo = 12) (hcs : cells ≤ room_1.cells ∧ slots ≤ room_1.slots) (hL : L ≤ 3072) {i : Nat} (hi : i + 6 ≤ L) {n : Int} (hn : 0 ≤ n ∧ n ≤ 199000) {σ : ST} {H : Heap} {locs : List Loc} {ls : Array Slot} (hI : q_I X 0 σ0 s.heap locs σ H) (hM : m_M (m_c X σ mo) (σ.1 mo 24).toInt n) (hl : lv_has ls 4 [(3, .int (nI i)), (2, .ref mo), (1, .ref xo), (0, .ref b)]) (hE : lw_E xo mo σ) (hB : lw_B X xo mo σ) (hA : al_R X xo mo σ σ)
    (kk : ∀ (σ : ST) (H : Heap) (locs : List Loc), q_I X 0 σ0 s.heap locs σ H → m_M (m_c X σ mo) (σ.1 mo 24).toInt (n + 301) → lw_E xo mo σ → lw_B X xo mo σ → al_R X xo mo σ σ → W p l e room_1 s m #[Value.ref b] below meth c H locs cells slots Q (F0 m 1796 ls [])) : W p l e room_1 s m #[Value.ref b] below meth c H locs cells slots Q (F0 m 1102 ls []) := by
  have hx := E.1
  have hb := E.2.1
  have hI0 := hI
  have hE0 := hE
  have hB0 := hB
  have hA0 := hA
  have hM0 := hM
  refine lv_aload_n hx hb dL_law_1102 rfl (lv_at hl 2 rfl) ?_
  refine lv_aload_n hx hb dL_law_1103 rfl (lv_at hl 3 rfl) ?_
  refine lv_iload_n hx hb dL_law_1104 rfl (lv_at hl 0 rfl) ?_
  refine lv_iconst (v := 1) hx hb dL_law_1105 (by decide) ?_
  refine lv_iadd hx hb dL_law_1106 ?_
  refine va_sld hx hb hX hbl hbA hI.S (lw_in (j := 1) (by decide) (by omega) hL) dL_law_1107 ?_
  have h3 := (q_bd hI hmo (rfl : q_bn 12 24 = (0, 3))).2
  refine q_ci (q_runV (As := [.int (xs (nI i + 1).toNatClampNeg)]) (rest := []) E (hml.trans hl.1.symm) hI (c_X11_honest l X σ xo ((xs (nI i + 1).toNatClampNeg)) hxo) kl_130 hxo ⟨rfl, by decide⟩ (show vwCl[10]? = some (RX11, TX11, 17) from rfl) rfl ⟨Nat.le_of_ble_eq_true rfl, Nat.le_of_ble_eq_true rfl⟩ hcs rfl (Nat.le_of_ble_eq_true rfl) dL_law_1108) hI (by decide) (fun r1 σ1 H locs hp hk hI => ?_)
  obtain ⟨pq0, hex1, how1⟩ := hp
  have hp := pq0
  have hB := lw_BK how1 hI.1 hxo hmo rfl rfl (how1.1 xo 5 (by rw [hxo]; rfl)) hB
  have hA1 := hA0.pre hal how1 rfl
  have hA := (hA.post hal how1 rfl).pre hal how1 rfl
  have hE := lw_EK hk (by decide) hxo hmo hE
  have hM := lw_kM hk hI.1 hmo (by decide) hM
  have hpp1 := hp
  have hMc := hM
  clear hp hk
  clear h3
  refine lv_pop hx hb dL_law_1111 rfl ?_
  refine lv_aload_n hx hb dL_law_1112 rfl (lv_at hl 1 rfl) ?_
  refine lv_aload_n hx hb dL_law_1113 rfl (lv_at hl 3 rfl) ?_
  refine lv_iload_n hx hb dL_law_1114 rfl (lv_at hl 0 rfl) ?_
  refine lv_iconst (v := 1) hx hb dL_law_1115 (by decide) ?_
  refine lv_iadd hx hb dL_law_1116 ?_
  refine va_sld hx hb hX hbl hbA hI.S (lw_in (j := 1) (by decide) (by omega) hL) dL_law_1117 ?_
  have h3 := (q_bd hI hmo (rfl : q_bn 12 24 = (0, 3))).2
  refine q_ci (q_runV (As := [.int (xs (nI i + 1).toNatClampNeg)]) (rest := []) E (hml.trans hl.1.symm) hI (c_X12_honest l X σ1 mo ((xs (nI i + 1).toNatClampNeg)) n hmo hM.1.1 hM.1.2 (by omega)) kl_133 hmo ⟨rfl, by decide⟩ (show vwCl[11]? = some (RX12, TX12, 46) from rfl) rfl ⟨Nat.le_of_ble_eq_true rfl, Nat.le_of_ble_eq_true rfl⟩ hcs rfl (Nat.le_of_ble_eq_true rfl) dL_law_1118) hI (by decide) (fun r2 σ2 H locs hp hk hI => ?_)
  obtain ⟨pq0, hex2, how2⟩ := hp
  have hp := pq0
  have hB := lw_BK how2 hI.1 hxo hmo rfl rfl (how2.1 xo 5 (by rw [hxo]; rfl)) hB
  have hA := (hA.post hal how2 rfl).pre hal how2 rfl
  have hE := lw_EK hk (by decide) hxo hmo hE
  have hM := lw_up (lw_kM hk hI.1 hmo (by decide) hM) (q_bd hI hmo (rfl : q_bn 12 24 = (0, 3))).2
  have hpp2 := hp
  clear hp hk
  clear h3
  refine lv_pop hx hb dL_law_1121 rfl ?_
  refine lv_goto (tgt := 1796) hx hb dL_law_1122 (by decide) ?_
  exact kk _ _ _ hI hM hE hB hA
end
/-! FROM 62.law.lean.txt -/
section
set_option maxRecDepth 100000 in
set_option maxHeartbeats 4000000 in
theorem lw_c27 {p : Program} {l : Launch} {e : Env} {s : State} {m : MethodId} {below : List Frame} {meth : Method} {c : Code} {b L : Nat} {xs : Nat → Int32} {X : XW} {xo mo : Nat} {σ0 : ST} {cells slots : Nat} {Q : State → Prop} {lb : Nat → Nat} (hcl : tb_Cls X lb xo mo) (hal : al_C X lb xo mo) (E : q_E p c cL_law s m #[Value.ref b] RL X) (hX : va_X b L xs s s.heap) (hbl : b < s.heap.size) (hbA : ¬ q_reg X b) (hml : c.maxLocals = 4) (hxo : q_kd X xo = 11) (hmo : q_kd X mo = 12) (hcs : cells ≤ room_1.cells ∧ slots ≤ room_1.slots) (hL : L ≤ 3072) {i : Nat} (hi : i + 6 ≤ L) {n : Int} (hn : 0 ≤ n ∧ n ≤ 199000) {σ : ST} {H : Heap} {locs : List Loc} {ls : Array Slot} (hI : q_I X 0 σ0 s.heap locs σ H) (hM : m_M (m_c X σ mo) (σ.1 mo 24).toInt n) (hl : lv_has ls 4 [(3, .int (nI i)), (2, .ref mo), (1, .ref xo), (0, .ref b)]) (hE : lw_E xo mo σ) (hB : lw_B X xo mo σ) (hA : al_R X xo mo σ σ)
    (kk : ∀ (σ : ST) (H : Heap) (locs : List Loc), q_I X 0 σ0 s.heap locs σ H → m_M (m_c X σ mo) (σ.1 mo 24).toInt (n + 301) → lw_E xo mo σ → lw_B X xo mo σ → al_R X xo mo σ σ → W p l e room_1 s m #[Value.ref b] below meth c H locs cells slots Q (F0 m 1796 ls [])) : W p l e room_1 s m #[Value.ref b] below meth c H locs cells slots Q (F0 m 1125 ls []) := by
  have hx := E.1
  have hb := E.2.1
  have hI0 := hI
  have hE0 := hE
  have hB0 := hB
  have hA0 := hA
  have hM0 := hM
  refine lv_aload_n hx hb dL_law_1125 rfl (lv_at hl 2 rfl) ?_
  refine lv_aload_n hx hb dL_law_1126 rfl (lv_at hl 3 rfl) ?_
  refine lv_iload_n hx hb dL_law_1127 rfl (lv_at hl 0 rfl) ?_
  refine lv_iconst (v := 1) hx hb dL_law_1128 (by decide) ?_
  refine lv_iadd hx hb dL_law_1129 ?_
  refine va_sld hx hb hX hbl hbA hI.S (lw_in (j := 1) (by decide) (by omega) hL) dL_law_1130 ?_
  have h3 := (q_bd hI hmo (rfl : q_bn 12 24 = (0, 3))).2
  refine q_ci (q_runV (As := [.int (xs (nI i + 1).toNatClampNeg)]) (rest := []) E (hml.trans hl.1.symm) hI (c_X11_belief l X σ xo ((xs (nI i + 1).toNatClampNeg)) hxo) kl_134 hxo ⟨rfl, by decide⟩ (show vwCl[10]? = some (RX11, TX11, 17) from rfl) rfl ⟨Nat.le_of_ble_eq_true rfl, Nat.le_of_ble_eq_true rfl⟩ hcs rfl (Nat.le_of_ble_eq_true rfl) dL_law_1131) hI (by decide) (fun r1 σ1 H locs hp hk hI => ?_)
  obtain ⟨pq0, hex1, how1⟩ := hp
  have hp := pq0
  have hB := lw_BK how1 hI.1 hxo hmo rfl rfl (how1.1 xo 5 (by rw [hxo]; rfl)) hB
  have hA1 := hA0.pre hal how1 rfl
  have hA := (hA.post hal how1 rfl).pre hal how1 rfl
  have hE := lw_EK hk (by decide) hxo hmo hE
  have hM := lw_kM hk hI.1 hmo (by decide) hM
  have hpp1 := hp
  have hMc := hM
  clear hp hk
  clear h3
  refine lv_pop hx hb dL_law_1134 rfl ?_
  refine lv_aload_n hx hb dL_law_1135 rfl (lv_at hl 1 rfl) ?_
  refine lv_aload_n hx hb dL_law_1136 rfl (lv_at hl 3 rfl) ?_
  refine lv_iload_n hx hb dL_law_1137 rfl (lv_at hl 0 rfl) ?_
  refine lv_iconst (v := 1) hx hb dL_law_1138 (by decide) ?_
  refine lv_iadd hx hb dL_law_1139 ?_
  refine va_sld hx hb hX hbl hbA hI.S (lw_in (j := 1) (by decide) (by omega) hL) dL_law_1140 ?_
  have h3 := (q_bd hI hmo (rfl : q_bn 12 24 = (0, 3))).2
  refine q_ci (q_runV (As := [.int (xs (nI i + 1).toNatClampNeg)]) (rest := []) E (hml.trans hl.1.symm) hI (c_X12_belief l X σ1 mo ((xs (nI i + 1).toNatClampNeg)) n hmo hM.1.1 hM.1.2 (by omega)) kl_137 hmo ⟨rfl, by decide⟩ (show vwCl[11]? = some (RX12, TX12, 46) from rfl) rfl ⟨Nat.le_of_ble_eq_true rfl, Nat.le_of_ble_eq_true rfl⟩ hcs rfl (Nat.le_of_ble_eq_true rfl) dL_law_1141) hI (by decide) (fun r2 σ2 H locs hp hk hI => ?_)
  obtain ⟨pq0, hex2, how2⟩ := hp
  have hp := pq0
  have hB := lw_BK how2 hI.1 hxo hmo rfl rfl (how2.1 xo 5 (by rw [hxo]; rfl)) hB
  have hA := (hA.post hal how2 rfl).pre hal how2 rfl
  have hE := lw_EK hk (by decide) hxo hmo hE
  have hM := lw_up (lw_kM hk hI.1 hmo (by decide) hM) (q_bd hI hmo (rfl : q_bn 12 24 = (0, 3))).2
  have hpp2 := hp
  clear hp hk
  clear h3
  refine lv_pop hx hb dL_law_1144 rfl ?_
  refine lv_goto (tgt := 1796) hx hb dL_law_1145 (by decide) ?_
  exact kk _ _ _ hI hM hE hB hA

set_option maxRecDepth 100000 in
set_option maxHeartbeats 4000000 in
theorem lw_c28 {p : Program} {l : Launch} {e : Env} {s : State} {m : MethodId} {below : List Frame} {meth : Method} {c : Code} {b L : Nat} {xs : Nat → Int32} {X : XW} {xo mo : Nat} {σ0 : ST} {cells slots : Nat} {Q : State → Prop} {lb : Nat → Nat} (hcl : tb_Cls X lb xo mo) (hal : al_C X lb xo mo) (E : q_E p c cL_law s m #[Value.ref b] RL X) (hX : va_X b L xs s s.heap) (hbl : b < s.heap.size) (hbA : ¬ q_reg X b) (hml : c.maxLocals = 4) (hxo : q_kd X xo = 11) (hmo : q_kd X mo = 12) (hcs : cells ≤ room_1.cells ∧ slots ≤ room_1.slots) (hL : L ≤ 3072) {i : Nat} (hi : i + 6 ≤ L) {n : Int} (hn : 0 ≤ n ∧ n ≤ 199000) {σ : ST} {H : Heap} {locs : List Loc} {ls : Array Slot} (hI : q_I X 0 σ0 s.heap locs σ H) (hM : m_M (m_c X σ mo) (σ.1 mo 24).toInt n) (hl : lv_has ls 4 [(3, .int (nI i)), (2, .ref mo), (1, .ref xo), (0, .ref b)]) (hE : lw_E xo mo σ) (hB : lw_B X xo mo σ) (hA : al_R X xo mo σ σ)
    (kk : ∀ (σ : ST) (H : Heap) (locs : List Loc), q_I X 0 σ0 s.heap locs σ H → m_M (m_c X σ mo) (σ.1 mo 24).toInt (n + 301) → lw_E xo mo σ → lw_B X xo mo σ → al_R X xo mo σ σ → W p l e room_1 s m #[Value.ref b] below meth c H locs cells slots Q (F0 m 1796 ls [])) : W p l e room_1 s m #[Value.ref b] below meth c H locs cells slots Q (F0 m 1148 ls []) := by
  have hx := E.1
  have hb := E.2.1
  have hI0 := hI
  have hE0 := hE
  have hB0 := hB
  have hA0 := hA
  have hM0 := hM
  refine lv_aload_n hx hb dL_law_1148 rfl (lv_at hl 2 rfl) ?_
  refine lv_aload_n hx hb dL_law_1149 rfl (lv_at hl 3 rfl) ?_
  refine lv_iload_n hx hb dL_law_1150 rfl (lv_at hl 0 rfl) ?_
  refine lv_iconst (v := 1) hx hb dL_law_1151 (by decide) ?_
  refine lv_iadd hx hb dL_law_1152 ?_
  refine va_sld hx hb hX hbl hbA hI.S (lw_in (j := 1) (by decide) (by omega) hL) dL_law_1153 ?_
  have h3 := (q_bd hI hmo (rfl : q_bn 12 24 = (0, 3))).2
  refine q_ci (q_runV (As := [.int (xs (nI i + 1).toNatClampNeg)]) (rest := []) E (hml.trans hl.1.symm) hI (c_X11_worth l X σ xo ((xs (nI i + 1).toNatClampNeg)) hxo) kl_138 hxo ⟨rfl, by decide⟩ (show vwCl[10]? = some (RX11, TX11, 17) from rfl) rfl ⟨Nat.le_of_ble_eq_true rfl, Nat.le_of_ble_eq_true rfl⟩ hcs rfl (Nat.le_of_ble_eq_true rfl) dL_law_1154) hI (by decide) (fun r1 σ1 H locs hp hk hI => ?_)
  obtain ⟨pq0, hex1, how1⟩ := hp
  have hp := pq0
  have hB := lw_BK how1 hI.1 hxo hmo rfl rfl (how1.1 xo 5 (by rw [hxo]; rfl)) hB
  have hA1 := hA0.pre hal how1 rfl
  have hA := (hA.post hal how1 rfl).pre hal how1 rfl
  have hE := lw_EK hk (by decide) hxo hmo hE
  have hM := lw_kM hk hI.1 hmo (by decide) hM
  have hpp1 := hp
  have hMc := hM
  clear hp hk
  clear h3
  refine lv_pop hx hb dL_law_1157 rfl ?_
  refine lv_aload_n hx hb dL_law_1158 rfl (lv_at hl 1 rfl) ?_
  refine lv_aload_n hx hb dL_law_1159 rfl (lv_at hl 3 rfl) ?_
  refine lv_iload_n hx hb dL_law_1160 rfl (lv_at hl 0 rfl) ?_
  refine lv_iconst (v := 1) hx hb dL_law_1161 (by decide) ?_
  refine lv_iadd hx hb dL_law_1162 ?_
  refine va_sld hx hb hX hbl hbA hI.S (lw_in (j := 1) (by decide) (by omega) hL) dL_law_1163 ?_
  have h3 := (q_bd hI hmo (rfl : q_bn 12 24 = (0, 3))).2
  refine q_ci (q_runV (As := [.int (xs (nI i + 1).toNatClampNeg)]) (rest := []) E (hml.trans hl.1.symm) hI (c_X12_worth l X σ1 mo ((xs (nI i + 1).toNatClampNeg)) hmo hM.1.1) kl_141 hmo ⟨rfl, by decide⟩ (show vwCl[11]? = some (RX12, TX12, 46) from rfl) rfl ⟨Nat.le_of_ble_eq_true rfl, Nat.le_of_ble_eq_true rfl⟩ hcs rfl (Nat.le_of_ble_eq_true rfl) dL_law_1164) hI (by decide) (fun r2 σ2 H locs hp hk hI => ?_)
  obtain ⟨pq0, hex2, how2⟩ := hp
  have hp := pq0
  have hB := lw_BK how2 hI.1 hxo hmo rfl rfl (how2.1 xo 5 (by rw [hxo]; rfl)) hB
  have hA := (hA.post hal how2 rfl).pre hal how2 rfl
  have hE := lw_EK hk (by decide) hxo hmo hE
  have hM := lw_up (lw_kM hk hI.1 hmo (by decide) hM) (q_bd hI hmo (rfl : q_bn 12 24 = (0, 3))).2
  have hpp2 := hp
  clear hp hk
  clear h3
  refine lv_pop hx hb dL_law_1167 rfl ?_
  refine lv_goto (tgt := 1796) hx hb dL_law_1168 (by decide) ?_
  exact kk _ _ _ hI hM hE hB hA

set_option maxRecDepth 100000 in
set_option maxHeartbeats 4000000 in
theorem lw_c29 {p : Program} {l : Launch} {e : Env} {s : State} {m : MethodId} {below : List Frame} {meth : Method} {c : Code} {b L : Nat} {xs : Nat → Int32} {X : XW} {xo mo : Nat} {σ0 : ST} {cells slots : Nat} {Q : State → Prop} {lb : Nat → Nat} (hcl : tb_Cls X lb xo mo) (hal : al_C X lb xo mo) (E : q_E p c cL_law s m #[Value.ref b] RL X) (hX : va_X b L xs s s.heap) (hbl : b < s.heap.size) (hbA : ¬ q_reg X b) (hml : c.maxLocals = 4) (hxo : q_kd X xo = 11) (hmo : q_kd X mo = 12) (hcs : cells ≤ room_1.cells ∧ slots ≤ room_1.slots) (hL : L ≤ 3072) {i : Nat} (hi : i + 6 ≤ L) {n : Int} (hn : 0 ≤ n ∧ n ≤ 199000) {σ : ST} {H : Heap} {locs : List Loc} {ls : Array Slot} (hI : q_I X 0 σ0 s.heap locs σ H) (hM : m_M (m_c X σ mo) (σ.1 mo 24).toInt n) (hl : lv_has ls 4 [(3, .int (nI i)), (2, .ref mo), (1, .ref xo), (0, .ref b)]) (hE : lw_E xo mo σ) (hB : lw_B X xo mo σ) (hA : al_R X xo mo σ σ)
    (kk : ∀ (σ : ST) (H : Heap) (locs : List Loc), q_I X 0 σ0 s.heap locs σ H → m_M (m_c X σ mo) (σ.1 mo 24).toInt (n + 301) → lw_E xo mo σ → lw_B X xo mo σ → al_R X xo mo σ σ → W p l e room_1 s m #[Value.ref b] below meth c H locs cells slots Q (F0 m 1796 ls [])) : W p l e room_1 s m #[Value.ref b] below meth c H locs cells slots Q (F0 m 1171 ls []) := by
  have hx := E.1
  have hb := E.2.1
  have hI0 := hI
  have hE0 := hE
  have hB0 := hB
  have hA0 := hA
  have hM0 := hM
  refine lv_aload_n hx hb dL_law_1171 rfl (lv_at hl 2 rfl) ?_
  have h3 := (q_bd hI hmo (rfl : q_bn 12 24 = (0, 3))).2
  refine q_ci (q_runV (As := []) (rest := []) E (hml.trans hl.1.symm) hI (c_X11_ready l X σ xo hxo) kl_142 hxo ⟨rfl, by decide⟩ (show vwCl[10]? = some (RX11, TX11, 17) from rfl) rfl ⟨Nat.le_of_ble_eq_true rfl, Nat.le_of_ble_eq_true rfl⟩ hcs rfl (Nat.le_of_ble_eq_true rfl) dL_law_1172) hI (by decide) (fun r1 σ1 H locs hp hk hI => ?_)
  obtain ⟨hex1, how1⟩ := hp
  have hp := True.intro
  have hB := lw_BK how1 hI.1 hxo hmo rfl rfl (how1.1 xo 5 (by rw [hxo]; rfl)) hB
  have hA1 := hA0.pre hal how1 rfl
  have hA := (hA.post hal how1 rfl).pre hal how1 rfl
  have hE := lw_EK hk (by decide) hxo hmo hE
  have hM := lw_kM hk hI.1 hmo (by decide) hM
  have hpp1 := hp
  have hMc := hM
  clear hp hk
  clear h3
  refine lv_pop hx hb dL_law_1175 rfl ?_
  refine lv_aload_n hx hb dL_law_1176 rfl (lv_at hl 1 rfl) ?_
  have h3 := (q_bd hI hmo (rfl : q_bn 12 24 = (0, 3))).2
  refine q_ci (q_runV (As := []) (rest := []) E (hml.trans hl.1.symm) hI (c_X12_ready l X σ1 mo hmo hM.1.1) kl_145 hmo ⟨rfl, by decide⟩ (show vwCl[11]? = some (RX12, TX12, 46) from rfl) rfl ⟨Nat.le_of_ble_eq_true rfl, Nat.le_of_ble_eq_true rfl⟩ hcs rfl (Nat.le_of_ble_eq_true rfl) dL_law_1177) hI (by decide) (fun r2 σ2 H locs hp hk hI => ?_)
  obtain ⟨hex2, how2⟩ := hp
  have hp := True.intro
  have hB := lw_BK how2 hI.1 hxo hmo rfl rfl (how2.1 xo 5 (by rw [hxo]; rfl)) hB
  have hA := (hA.post hal how2 rfl).pre hal how2 rfl
  have hE := lw_EK hk (by decide) hxo hmo hE
  have hM := lw_up (lw_kM hk hI.1 hmo (by decide) hM) (q_bd hI hmo (rfl : q_bn 12 24 = (0, 3))).2
  have hpp2 := hp
  clear hp hk
  clear h3
  refine lv_pop hx hb dL_law_1180 rfl ?_
  refine lv_goto (tgt := 1796) hx hb dL_law_1181 (by decide) ?_
  exact kk _ _ _ hI hM hE hB hA

set_option maxRecDepth 100000 in
set_option maxHeartbeats 4000000 in
theorem lw_c30 {p : Program} {l : Launch} {e : Env} {s : State} {m : MethodId} {below : List Frame} {meth : Method} {c : Code} {b L : Nat} {xs : Nat → Int32} {X : XW} {xo mo : Nat} {σ0 : ST} {cells slots : Nat} {Q : State → Prop} {lb : Nat → Nat} (hcl : tb_Cls X lb xo mo) (hal : al_C X lb xo mo) (E : q_E p c cL_law s m #[Value.ref b] RL X) (hX : va_X b L xs s s.heap) (hbl : b < s.heap.size) (hbA : ¬ q_reg X b) (hml : c.maxLocals = 4) (hxo : q_kd X xo = 11) (hmo : q_kd X mo = 12) (hcs : cells ≤ room_1.cells ∧ slots ≤ room_1.slots) (hL : L ≤ 3072) {i : Nat} (hi : i + 6 ≤ L) {n : Int} (hn : 0 ≤ n ∧ n ≤ 199000) {σ : ST} {H : Heap} {locs : List Loc} {ls : Array Slot} (hI : q_I X 0 σ0 s.heap locs σ H) (hM : m_M (m_c X σ mo) (σ.1 mo 24).toInt n) (hl : lv_has ls 4 [(3, .int (nI i)), (2, .ref mo), (1, .ref xo), (0, .ref b)]) (hE : lw_E xo mo σ) (hB : lw_B X xo mo σ) (hA : al_R X xo mo σ σ)
    (kk : ∀ (σ : ST) (H : Heap) (locs : List Loc), q_I X 0 σ0 s.heap locs σ H → m_M (m_c X σ mo) (σ.1 mo 24).toInt (n + 301) → lw_E xo mo σ → lw_B X xo mo σ → al_R X xo mo σ σ → W p l e room_1 s m #[Value.ref b] below meth c H locs cells slots Q (F0 m 1796 ls [])) : W p l e room_1 s m #[Value.ref b] below meth c H locs cells slots Q (F0 m 1184 ls []) := by
  have hx := E.1
  have hb := E.2.1
  have hI0 := hI
  have hE0 := hE
  have hB0 := hB
  have hA0 := hA
  have hM0 := hM
  refine lv_aload_n hx hb dL_law_1184 rfl (lv_at hl 2 rfl) ?_
  refine lv_aload_n hx hb dL_law_1185 rfl (lv_at hl 3 rfl) ?_
  refine lv_iload_n hx hb dL_law_1186 rfl (lv_at hl 0 rfl) ?_
  refine lv_iconst (v := 1) hx hb dL_law_1187 (by decide) ?_
  refine lv_iadd hx hb dL_law_1188 ?_
  refine va_sld hx hb hX hbl hbA hI.S (lw_in (j := 1) (by decide) (by omega) hL) dL_law_1189 ?_
  refine lv_aload_n hx hb dL_law_1190 rfl (lv_at hl 3 rfl) ?_
  refine lv_iload_n hx hb dL_law_1191 rfl (lv_at hl 0 rfl) ?_
  refine lv_iconst (v := 2) hx hb dL_law_1192 (by decide) ?_
  refine lv_iadd hx hb dL_law_1193 ?_
  refine va_sld hx hb hX hbl hbA hI.S (lw_in (j := 2) (by decide) (by omega) hL) dL_law_1194 ?_
  have h3 := (q_bd hI hmo (rfl : q_bn 12 24 = (0, 3))).2
  refine q_ci (q_runV (As := [.int (xs (nI i + 1).toNatClampNeg), .int (xs (nI i + 2).toNatClampNeg)]) (rest := []) E (hml.trans hl.1.symm) hI (c_X11_heap l X σ xo ((xs (nI i + 1).toNatClampNeg)) ((xs (nI i + 2).toNatClampNeg)) hxo) kl_146 hxo ⟨rfl, by decide⟩ (show vwCl[10]? = some (RX11, TX11, 17) from rfl) rfl ⟨Nat.le_of_ble_eq_true rfl, Nat.le_of_ble_eq_true rfl⟩ hcs rfl (Nat.le_of_ble_eq_true rfl) dL_law_1195) hI (by decide) (fun r1 σ1 H locs hp hk hI => ?_)
  obtain ⟨pq0, hex1, how1⟩ := hp
  have hp := pq0
  have hB := lw_BK how1 hI.1 hxo hmo rfl rfl (how1.1 xo 5 (by rw [hxo]; rfl)) hB
  have hA1 := hA0.pre hal how1 rfl
  have hA := (hA.post hal how1 rfl).pre hal how1 rfl
  have hE := lw_EK hk (by decide) hxo hmo hE
  have hM := lw_kM hk hI.1 hmo (by decide) hM
  have hpp1 := hp
  have hMc := hM
  clear hp hk
  clear h3
  refine lv_pop hx hb dL_law_1198 rfl ?_
  refine lv_aload_n hx hb dL_law_1199 rfl (lv_at hl 1 rfl) ?_
  refine lv_aload_n hx hb dL_law_1200 rfl (lv_at hl 3 rfl) ?_
  refine lv_iload_n hx hb dL_law_1201 rfl (lv_at hl 0 rfl) ?_
  refine lv_iconst (v := 1) hx hb dL_law_1202 (by decide) ?_
  refine lv_iadd hx hb dL_law_1203 ?_
  refine va_sld hx hb hX hbl hbA hI.S (lw_in (j := 1) (by decide) (by omega) hL) dL_law_1204 ?_
  refine lv_aload_n hx hb dL_law_1205 rfl (lv_at hl 3 rfl) ?_
  refine lv_iload_n hx hb dL_law_1206 rfl (lv_at hl 0 rfl) ?_
  refine lv_iconst (v := 2) hx hb dL_law_1207 (by decide) ?_
  refine lv_iadd hx hb dL_law_1208 ?_
  refine va_sld hx hb hX hbl hbA hI.S (lw_in (j := 2) (by decide) (by omega) hL) dL_law_1209 ?_
  have h3 := (q_bd hI hmo (rfl : q_bn 12 24 = (0, 3))).2
  refine q_ci (q_runV (As := [.int (xs (nI i + 1).toNatClampNeg), .int (xs (nI i + 2).toNatClampNeg)]) (rest := []) E (hml.trans hl.1.symm) hI (c_X12_heap l X σ1 mo ((xs (nI i + 1).toNatClampNeg)) ((xs (nI i + 2).toNatClampNeg)) hmo hM.1.1) kl_150 hmo ⟨rfl, by decide⟩ (show vwCl[11]? = some (RX12, TX12, 46) from rfl) rfl ⟨Nat.le_of_ble_eq_true rfl, Nat.le_of_ble_eq_true rfl⟩ hcs rfl (Nat.le_of_ble_eq_true rfl) dL_law_1210) hI (by decide) (fun r2 σ2 H locs hp hk hI => ?_)
  obtain ⟨pq0, hex2, how2⟩ := hp
  have hp := pq0
  have hB := lw_BK how2 hI.1 hxo hmo rfl rfl (how2.1 xo 5 (by rw [hxo]; rfl)) hB
  have hA := (hA.post hal how2 rfl).pre hal how2 rfl
  have hE := lw_EK hk (by decide) hxo hmo hE
  have hM := lw_up (lw_kM hk hI.1 hmo (by decide) hM) (q_bd hI hmo (rfl : q_bn 12 24 = (0, 3))).2
  have hpp2 := hp
  clear hp hk
  clear h3
  refine lv_pop hx hb dL_law_1213 rfl ?_
  refine lv_goto (tgt := 1796) hx hb dL_law_1214 (by decide) ?_
  exact kk _ _ _ hI hM hE hB hA

set_option maxRecDepth 100000 in
set_option maxHeartbeats 4000000 in
theorem lw_c31 {p : Program} {l : Launch} {e : Env} {s : State} {m : MethodId} {below : List Frame} {meth : Method} {c : Code} {b L : Nat} {xs : Nat → Int32} {X : XW} {xo mo : Nat} {σ0 : ST} {cells slots : Nat} {Q : State → Prop} {lb : Nat → Nat} (hcl : tb_Cls X lb xo mo) (hal : al_C X lb xo mo) (E : q_E p c cL_law s m #[Value.ref b] RL X) (hX : va_X b L xs s s.heap) (hbl : b < s.heap.size) (hbA : ¬ q_reg X b) (hml : c.maxLocals = 4) (hxo : q_kd X xo = 11) (hmo : q_kd X mo = 12) (hcs : cells ≤ room_1.cells ∧ slots ≤ room_1.slots) (hL : L ≤ 3072) {i : Nat} (hi : i + 6 ≤ L) {n : Int} (hn : 0 ≤ n ∧ n ≤ 199000) {σ : ST} {H : Heap} {locs : List Loc} {ls : Array Slot} (hI : q_I X 0 σ0 s.heap locs σ H) (hM : m_M (m_c X σ mo) (σ.1 mo 24).toInt n) (hl : lv_has ls 4 [(3, .int (nI i)), (2, .ref mo), (1, .ref xo), (0, .ref b)]) (hE : lw_E xo mo σ) (hB : lw_B X xo mo σ) (hA : al_R X xo mo σ σ)
    (kk : ∀ (σ : ST) (H : Heap) (locs : List Loc), q_I X 0 σ0 s.heap locs σ H → m_M (m_c X σ mo) (σ.1 mo 24).toInt (n + 301) → lw_E xo mo σ → lw_B X xo mo σ → al_R X xo mo σ σ → W p l e room_1 s m #[Value.ref b] below meth c H locs cells slots Q (F0 m 1796 ls [])) : W p l e room_1 s m #[Value.ref b] below meth c H locs cells slots Q (F0 m 1217 ls []) := by
  have hx := E.1
  have hb := E.2.1
  have hI0 := hI
  have hE0 := hE
  have hB0 := hB
  have hA0 := hA
  have hM0 := hM
  refine lv_aload_n hx hb dL_law_1217 rfl (lv_at hl 2 rfl) ?_
  refine lv_aload_n hx hb dL_law_1218 rfl (lv_at hl 3 rfl) ?_
  refine lv_iload_n hx hb dL_law_1219 rfl (lv_at hl 0 rfl) ?_
  refine lv_iconst (v := 1) hx hb dL_law_1220 (by decide) ?_
  refine lv_iadd hx hb dL_law_1221 ?_
  refine va_sld hx hb hX hbl hbA hI.S (lw_in (j := 1) (by decide) (by omega) hL) dL_law_1222 ?_
  refine lv_aload_n hx hb dL_law_1223 rfl (lv_at hl 3 rfl) ?_
  refine lv_iload_n hx hb dL_law_1224 rfl (lv_at hl 0 rfl) ?_
  refine lv_iconst (v := 2) hx hb dL_law_1225 (by decide) ?_
  refine lv_iadd hx hb dL_law_1226 ?_
  refine va_sld hx hb hX hbl hbA hI.S (lw_in (j := 2) (by decide) (by omega) hL) dL_law_1227 ?_
  have h3 := (q_bd hI hmo (rfl : q_bn 12 24 = (0, 3))).2
  refine q_ci (q_runV (As := [.int (xs (nI i + 1).toNatClampNeg), .int (xs (nI i + 2).toNatClampNeg)]) (rest := []) E (hml.trans hl.1.symm) hI (c_X11_said l X σ xo ((xs (nI i + 1).toNatClampNeg)) ((xs (nI i + 2).toNatClampNeg)) hxo) kl_151 hxo ⟨rfl, by decide⟩ (show vwCl[10]? = some (RX11, TX11, 17) from rfl) rfl ⟨Nat.le_of_ble_eq_true rfl, Nat.le_of_ble_eq_true rfl⟩ hcs rfl (Nat.le_of_ble_eq_true rfl) dL_law_1228) hI (by decide) (fun r1 σ1 H locs hp hk hI => ?_)
  obtain ⟨hex1, how1⟩ := hp
  have hp := True.intro
  have hB := lw_BK how1 hI.1 hxo hmo rfl rfl (how1.1 xo 5 (by rw [hxo]; rfl)) hB
  have hA1 := hA0.pre hal how1 rfl
  have hA := (hA.post hal how1 rfl).pre hal how1 rfl
  have hE := lw_EK hk (by decide) hxo hmo hE
  have hM := lw_kM hk hI.1 hmo (by decide) hM
  have hpp1 := hp
  have hMc := hM
  clear hp hk
  clear h3
  refine lv_pop hx hb dL_law_1231 rfl ?_
  refine lv_aload_n hx hb dL_law_1232 rfl (lv_at hl 1 rfl) ?_
  refine lv_aload_n hx hb dL_law_1233 rfl (lv_at hl 3 rfl) ?_
  refine lv_iload_n hx hb dL_law_1234 rfl (lv_at hl 0 rfl) ?_
  refine lv_iconst (v := 1) hx hb dL_law_1235 (by decide) ?_
  refine lv_iadd hx hb dL_law_1236 ?_
  refine va_sld hx hb hX hbl hbA hI.S (lw_in (j := 1) (by decide) (by omega) hL) dL_law_1237 ?_
  refine lv_aload_n hx hb dL_law_1238 rfl (lv_at hl 3 rfl) ?_
  refine lv_iload_n hx hb dL_law_1239 rfl (lv_at hl 0 rfl) ?_
  refine lv_iconst (v := 2) hx hb dL_law_1240 (by decide) ?_
  refine lv_iadd hx hb dL_law_1241 ?_
  refine va_sld hx hb hX hbl hbA hI.S (lw_in (j := 2) (by decide) (by omega) hL) dL_law_1242 ?_
  have h3 := (q_bd hI hmo (rfl : q_bn 12 24 = (0, 3))).2
  refine q_ci (q_runV (As := [.int (xs (nI i + 1).toNatClampNeg), .int (xs (nI i + 2).toNatClampNeg)]) (rest := []) E (hml.trans hl.1.symm) hI (c_X12_said l X σ1 mo ((xs (nI i + 1).toNatClampNeg)) ((xs (nI i + 2).toNatClampNeg)) hmo hM.1.1) kl_154 hmo ⟨rfl, by decide⟩ (show vwCl[11]? = some (RX12, TX12, 46) from rfl) rfl ⟨Nat.le_of_ble_eq_true rfl, Nat.le_of_ble_eq_true rfl⟩ hcs rfl (Nat.le_of_ble_eq_true rfl) dL_law_1243) hI (by decide) (fun r2 σ2 H locs hp hk hI => ?_)
  obtain ⟨hex2, how2⟩ := hp
  have hp := True.intro
  have hB := lw_BK how2 hI.1 hxo hmo rfl rfl (how2.1 xo 5 (by rw [hxo]; rfl)) hB
  have hA := (hA.post hal how2 rfl).pre hal how2 rfl
  have hE := lw_EK hk (by decide) hxo hmo hE
  have hM := lw_up (lw_kM hk hI.1 hmo (by decide) hM) (q_bd hI hmo (rfl : q_bn 12 24 = (0, 3))).2
  have hpp2 := hp
  clear hp hk
  clear h3
  refine lv_pop hx hb dL_law_1246 rfl ?_
  refine lv_goto (tgt := 1796) hx hb dL_law_1247 (by decide) ?_
  exact kk _ _ _ hI hM hE hB hA

set_option maxRecDepth 100000 in
set_option maxHeartbeats 4000000 in
theorem lw_c32 {p : Program} {l : Launch} {e : Env} {s : State} {m : MethodId} {below : List Frame} {meth : Method} {c : Code} {b L : Nat} {xs : Nat → Int32} {X : XW} {xo mo : Nat} {σ0 : ST} {cells slots : Nat} {Q : State → Prop} {lb : Nat → Nat} (hcl : tb_Cls X lb xo mo) (hal : al_C X lb xo mo) (E : q_E p c cL_law s m #[Value.ref b] RL X) (hX : va_X b L xs s s.heap) (hbl : b < s.heap.size) (hbA : ¬ q_reg X b) (hml : c.maxLocals = 4) (hxo : q_kd X xo = 11) (hmo : q_kd X mo = 12) (hcs : cells ≤ room_1.cells ∧ slots ≤ room_1.slots) (hL : L ≤ 3072) {i : Nat} (hi : i + 6 ≤ L) {n : Int} (hn : 0 ≤ n ∧ n ≤ 199000) {σ : ST} {H : Heap} {locs : List Loc} {ls : Array Slot} (hI : q_I X 0 σ0 s.heap locs σ H) (hM : m_M (m_c X σ mo) (σ.1 mo 24).toInt n) (hl : lv_has ls 4 [(3, .int (nI i)), (2, .ref mo), (1, .ref xo), (0, .ref b)]) (hE : lw_E xo mo σ) (hB : lw_B X xo mo σ) (hA : al_R X xo mo σ σ)
    (kk : ∀ (σ : ST) (H : Heap) (locs : List Loc), q_I X 0 σ0 s.heap locs σ H → m_M (m_c X σ mo) (σ.1 mo 24).toInt (n + 301) → lw_E xo mo σ → lw_B X xo mo σ → al_R X xo mo σ σ → W p l e room_1 s m #[Value.ref b] below meth c H locs cells slots Q (F0 m 1796 ls [])) : W p l e room_1 s m #[Value.ref b] below meth c H locs cells slots Q (F0 m 1250 ls []) := by
  have hx := E.1
  have hb := E.2.1
  have hI0 := hI
  have hE0 := hE
  have hB0 := hB
  have hA0 := hA
  have hM0 := hM
  refine lv_aload_n hx hb dL_law_1250 rfl (lv_at hl 2 rfl) ?_
  refine lv_aload_n hx hb dL_law_1251 rfl (lv_at hl 3 rfl) ?_
  refine lv_iload_n hx hb dL_law_1252 rfl (lv_at hl 0 rfl) ?_
  refine lv_iconst (v := 1) hx hb dL_law_1253 (by decide) ?_
  refine lv_iadd hx hb dL_law_1254 ?_
  refine va_sld hx hb hX hbl hbA hI.S (lw_in (j := 1) (by decide) (by omega) hL) dL_law_1255 ?_
  have h3 := (q_bd hI hmo (rfl : q_bn 12 24 = (0, 3))).2
  refine q_ci (q_runV (As := [.int (xs (nI i + 1).toNatClampNeg)]) (rest := []) E (hml.trans hl.1.symm) hI (c_X11_waits l X σ xo ((xs (nI i + 1).toNatClampNeg)) hxo) kl_155 hxo ⟨rfl, by decide⟩ (show vwCl[10]? = some (RX11, TX11, 17) from rfl) rfl ⟨Nat.le_of_ble_eq_true rfl, Nat.le_of_ble_eq_true rfl⟩ hcs rfl (Nat.le_of_ble_eq_true rfl) dL_law_1256) hI (by decide) (fun r1 σ1 H locs hp hk hI => ?_)
  obtain ⟨hex1, how1⟩ := hp
  have hp := True.intro
  have hB := lw_BK how1 hI.1 hxo hmo rfl rfl (how1.1 xo 5 (by rw [hxo]; rfl)) hB
  have hA1 := hA0.pre hal how1 rfl
  have hA := (hA.post hal how1 rfl).pre hal how1 rfl
  have hE := lw_EK hk (by decide) hxo hmo hE
  have hM := lw_kM hk hI.1 hmo (by decide) hM
  have hpp1 := hp
  have hMc := hM
  clear hp hk
  clear h3
  refine lv_pop hx hb dL_law_1259 rfl ?_
  refine lv_aload_n hx hb dL_law_1260 rfl (lv_at hl 1 rfl) ?_
  refine lv_aload_n hx hb dL_law_1261 rfl (lv_at hl 3 rfl) ?_
  refine lv_iload_n hx hb dL_law_1262 rfl (lv_at hl 0 rfl) ?_
  refine lv_iconst (v := 1) hx hb dL_law_1263 (by decide) ?_
  refine lv_iadd hx hb dL_law_1264 ?_
  refine va_sld hx hb hX hbl hbA hI.S (lw_in (j := 1) (by decide) (by omega) hL) dL_law_1265 ?_
  have h3 := (q_bd hI hmo (rfl : q_bn 12 24 = (0, 3))).2
  refine q_ci (q_runV (As := [.int (xs (nI i + 1).toNatClampNeg)]) (rest := []) E (hml.trans hl.1.symm) hI (c_X12_waits l X σ1 mo ((xs (nI i + 1).toNatClampNeg)) hmo hM.1.1) kl_158 hmo ⟨rfl, by decide⟩ (show vwCl[11]? = some (RX12, TX12, 46) from rfl) rfl ⟨Nat.le_of_ble_eq_true rfl, Nat.le_of_ble_eq_true rfl⟩ hcs rfl (Nat.le_of_ble_eq_true rfl) dL_law_1266) hI (by decide) (fun r2 σ2 H locs hp hk hI => ?_)
  obtain ⟨hex2, how2⟩ := hp
  have hp := True.intro
  have hB := lw_BK how2 hI.1 hxo hmo rfl rfl (how2.1 xo 5 (by rw [hxo]; rfl)) hB
  have hA := (hA.post hal how2 rfl).pre hal how2 rfl
  have hE := lw_EK hk (by decide) hxo hmo hE
  have hM := lw_up (lw_kM hk hI.1 hmo (by decide) hM) (q_bd hI hmo (rfl : q_bn 12 24 = (0, 3))).2
  have hpp2 := hp
  clear hp hk
  clear h3
  refine lv_pop hx hb dL_law_1269 rfl ?_
  refine lv_goto (tgt := 1796) hx hb dL_law_1270 (by decide) ?_
  exact kk _ _ _ hI hM hE hB hA

set_option maxRecDepth 100000 in
set_option maxHeartbeats 4000000 in
theorem lw_c33 {p : Program} {l : Launch} {e : Env} {s : State} {m : MethodId} {below : List Frame} {meth : Method} {c : Code} {b L : Nat} {xs : Nat → Int32} {X : XW} {xo mo : Nat} {σ0 : ST} {cells slots : Nat} {Q : State → Prop} {lb : Nat → Nat} (hcl : tb_Cls X lb xo mo) (hal : al_C X lb xo mo) (E : q_E p c cL_law s m #[Value.ref b] RL X) (hX : va_X b L xs s s.heap) (hbl : b < s.heap.size) (hbA : ¬ q_reg X b) (hml : c.maxLocals = 4) (hxo : q_kd X xo = 11) (hmo : q_kd X mo = 12) (hcs : cells ≤ room_1.cells ∧ slots ≤ room_1.slots) (hL : L ≤ 3072) {i : Nat} (hi : i + 6 ≤ L) {n : Int} (hn : 0 ≤ n ∧ n ≤ 199000) {σ : ST} {H : Heap} {locs : List Loc} {ls : Array Slot} (hI : q_I X 0 σ0 s.heap locs σ H) (hM : m_M (m_c X σ mo) (σ.1 mo 24).toInt n) (hl : lv_has ls 4 [(3, .int (nI i)), (2, .ref mo), (1, .ref xo), (0, .ref b)]) (hE : lw_E xo mo σ) (hB : lw_B X xo mo σ) (hA : al_R X xo mo σ σ)
    (kk : ∀ (σ : ST) (H : Heap) (locs : List Loc), q_I X 0 σ0 s.heap locs σ H → m_M (m_c X σ mo) (σ.1 mo 24).toInt (n + 301) → lw_E xo mo σ → lw_B X xo mo σ → al_R X xo mo σ σ → W p l e room_1 s m #[Value.ref b] below meth c H locs cells slots Q (F0 m 1796 ls [])) : W p l e room_1 s m #[Value.ref b] below meth c H locs cells slots Q (F0 m 1273 ls []) := by
  have hx := E.1
  have hb := E.2.1
  have hI0 := hI
  have hE0 := hE
  have hB0 := hB
  have hA0 := hA
  have hM0 := hM
  refine lv_aload_n hx hb dL_law_1273 rfl (lv_at hl 2 rfl) ?_
  refine lv_aload_n hx hb dL_law_1274 rfl (lv_at hl 3 rfl) ?_
  refine lv_iload_n hx hb dL_law_1275 rfl (lv_at hl 0 rfl) ?_
  refine lv_iconst (v := 1) hx hb dL_law_1276 (by decide) ?_
  refine lv_iadd hx hb dL_law_1277 ?_
  refine va_sld hx hb hX hbl hbA hI.S (lw_in (j := 1) (by decide) (by omega) hL) dL_law_1278 ?_
  refine lv_aload_n hx hb dL_law_1279 rfl (lv_at hl 3 rfl) ?_
  refine lv_iload_n hx hb dL_law_1280 rfl (lv_at hl 0 rfl) ?_
  refine lv_iconst (v := 2) hx hb dL_law_1281 (by decide) ?_
  refine lv_iadd hx hb dL_law_1282 ?_
  refine va_sld hx hb hX hbl hbA hI.S (lw_in (j := 2) (by decide) (by omega) hL) dL_law_1283 ?_
  have h3 := (q_bd hI hmo (rfl : q_bn 12 24 = (0, 3))).2
  refine q_ci (q_runV (As := [.int (xs (nI i + 1).toNatClampNeg), .int (xs (nI i + 2).toNatClampNeg)]) (rest := []) E (hml.trans hl.1.symm) hI (c_X11_falls l X σ xo ((xs (nI i + 1).toNatClampNeg)) ((xs (nI i + 2).toNatClampNeg)) hxo) kl_159 hxo ⟨rfl, by decide⟩ (show vwCl[10]? = some (RX11, TX11, 17) from rfl) rfl ⟨Nat.le_of_ble_eq_true rfl, Nat.le_of_ble_eq_true rfl⟩ hcs rfl (Nat.le_of_ble_eq_true rfl) dL_law_1284) hI (by decide) (fun r1 σ1 H locs hp hk hI => ?_)
  obtain ⟨hex1, how1⟩ := hp
  have hp := True.intro
  have hB := lw_BK how1 hI.1 hxo hmo rfl rfl (how1.1 xo 5 (by rw [hxo]; rfl)) hB
  have hA1 := hA0.pre hal how1 rfl
  have hA := (hA.post hal how1 rfl).pre hal how1 rfl
  have hE := lw_EK hk (by decide) hxo hmo hE
  have hM := lw_kM hk hI.1 hmo (by decide) hM
  have hpp1 := hp
  have hMc := hM
  clear hp hk
  clear h3
  refine lv_pop hx hb dL_law_1287 rfl ?_
  refine lv_aload_n hx hb dL_law_1288 rfl (lv_at hl 1 rfl) ?_
  refine lv_aload_n hx hb dL_law_1289 rfl (lv_at hl 3 rfl) ?_
  refine lv_iload_n hx hb dL_law_1290 rfl (lv_at hl 0 rfl) ?_
  refine lv_iconst (v := 1) hx hb dL_law_1291 (by decide) ?_
  refine lv_iadd hx hb dL_law_1292 ?_
  refine va_sld hx hb hX hbl hbA hI.S (lw_in (j := 1) (by decide) (by omega) hL) dL_law_1293 ?_
  refine lv_aload_n hx hb dL_law_1294 rfl (lv_at hl 3 rfl) ?_
  refine lv_iload_n hx hb dL_law_1295 rfl (lv_at hl 0 rfl) ?_
  refine lv_iconst (v := 2) hx hb dL_law_1296 (by decide) ?_
  refine lv_iadd hx hb dL_law_1297 ?_
  refine va_sld hx hb hX hbl hbA hI.S (lw_in (j := 2) (by decide) (by omega) hL) dL_law_1298 ?_
  have h3 := (q_bd hI hmo (rfl : q_bn 12 24 = (0, 3))).2
  refine q_ci (q_runV (As := [.int (xs (nI i + 1).toNatClampNeg), .int (xs (nI i + 2).toNatClampNeg)]) (rest := []) E (hml.trans hl.1.symm) hI (c_X12_falls l X σ1 mo ((xs (nI i + 1).toNatClampNeg)) ((xs (nI i + 2).toNatClampNeg)) hmo hM.1.1) kl_162 hmo ⟨rfl, by decide⟩ (show vwCl[11]? = some (RX12, TX12, 46) from rfl) rfl ⟨Nat.le_of_ble_eq_true rfl, Nat.le_of_ble_eq_true rfl⟩ hcs rfl (Nat.le_of_ble_eq_true rfl) dL_law_1299) hI (by decide) (fun r2 σ2 H locs hp hk hI => ?_)
  obtain ⟨hex2, how2⟩ := hp
  have hp := True.intro
  have hB := lw_BK how2 hI.1 hxo hmo rfl rfl (how2.1 xo 5 (by rw [hxo]; rfl)) hB
  have hA := (hA.post hal how2 rfl).pre hal how2 rfl
  have hE := lw_EK hk (by decide) hxo hmo hE
  have hM := lw_up (lw_kM hk hI.1 hmo (by decide) hM) (q_bd hI hmo (rfl : q_bn 12 24 = (0, 3))).2
  have hpp2 := hp
  clear hp hk
  clear h3
  refine lv_pop hx hb dL_law_1302 rfl ?_
  refine lv_goto (tgt := 1796) hx hb dL_law_1303 (by decide) ?_
  exact kk _ _ _ hI hM hE hB hA

set_option maxRecDepth 100000 in
set_option maxHeartbeats 4000000 in
theorem lw_c34 {p : Program} {l : Launch} {e : Env} {s : State} {m : MethodId} {below : List Frame} {meth : Method} {c : Code} {b L : Nat} {xs : Nat → Int32} {X : XW} {xo mo : Nat} {σ0 : ST} {cells slots : Nat} {Q : State → Prop} {lb : Nat → Nat} (hcl : tb_Cls X lb xo mo) (hal : al_C X lb xo mo) (E : q_E p c cL_law s m #[Value.ref b] RL X) (hX : va_X b L xs s s.heap) (hbl : b < s.heap.size) (hbA : ¬ q_reg X b) (hml : c.maxLocals = 4) (hxo : q_kd X xo = 11) (hmo : q_kd X mo = 12) (hcs : cells ≤ room_1.cells ∧ slots ≤ room_1.slots) (hL : L ≤ 3072) {i : Nat} (hi : i + 6 ≤ L) {n : Int} (hn : 0 ≤ n ∧ n ≤ 199000) {σ : ST} {H : Heap} {locs : List Loc} {ls : Array Slot} (hI : q_I X 0 σ0 s.heap locs σ H) (hM : m_M (m_c X σ mo) (σ.1 mo 24).toInt n) (hl : lv_has ls 4 [(3, .int (nI i)), (2, .ref mo), (1, .ref xo), (0, .ref b)]) (hE : lw_E xo mo σ) (hB : lw_B X xo mo σ) (hA : al_R X xo mo σ σ)
    (kk : ∀ (σ : ST) (H : Heap) (locs : List Loc), q_I X 0 σ0 s.heap locs σ H → m_M (m_c X σ mo) (σ.1 mo 24).toInt (n + 301) → lw_E xo mo σ → lw_B X xo mo σ → al_R X xo mo σ σ → W p l e room_1 s m #[Value.ref b] below meth c H locs cells slots Q (F0 m 1796 ls [])) : W p l e room_1 s m #[Value.ref b] below meth c H locs cells slots Q (F0 m 1306 ls []) := by
  have hx := E.1
  have hb := E.2.1
  have hI0 := hI
  have hE0 := hE
  have hB0 := hB
  have hA0 := hA
  have hM0 := hM
  refine lv_aload_n hx hb dL_law_1306 rfl (lv_at hl 2 rfl) ?_
  refine lv_aload_n hx hb dL_law_1307 rfl (lv_at hl 3 rfl) ?_
  refine lv_iload_n hx hb dL_law_1308 rfl (lv_at hl 0 rfl) ?_
  refine lv_iconst (v := 1) hx hb dL_law_1309 (by decide) ?_
  refine lv_iadd hx hb dL_law_1310 ?_
  refine va_sld hx hb hX hbl hbA hI.S (lw_in (j := 1) (by decide) (by omega) hL) dL_law_1311 ?_
  refine lv_aload_n hx hb dL_law_1312 rfl (lv_at hl 3 rfl) ?_
  refine lv_iload_n hx hb dL_law_1313 rfl (lv_at hl 0 rfl) ?_
  refine lv_iconst (v := 2) hx hb dL_law_1314 (by decide) ?_
  refine lv_iadd hx hb dL_law_1315 ?_
  refine va_sld hx hb hX hbl hbA hI.S (lw_in (j := 2) (by decide) (by omega) hL) dL_law_1316 ?_
  have h3 := (q_bd hI hmo (rfl : q_bn 12 24 = (0, 3))).2
  refine q_ci (q_runV (As := [.int (xs (nI i + 1).toNatClampNeg), .int (xs (nI i + 2).toNatClampNeg)]) (rest := []) E (hml.trans hl.1.symm) hI (c_X11_honestly l X σ xo ((xs (nI i + 1).toNatClampNeg)) ((xs (nI i + 2).toNatClampNeg)) hxo) kl_163 hxo ⟨rfl, by decide⟩ (show vwCl[10]? = some (RX11, TX11, 17) from rfl) rfl ⟨Nat.le_of_ble_eq_true rfl, Nat.le_of_ble_eq_true rfl⟩ hcs rfl (Nat.le_of_ble_eq_true rfl) dL_law_1317) hI (by decide) (fun r1 σ1 H locs hp hk hI => ?_)
  obtain ⟨hex1, how1⟩ := hp
  have hp := True.intro
  have hB := lw_BK how1 hI.1 hxo hmo rfl rfl (how1.1 xo 5 (by rw [hxo]; rfl)) hB
  have hA1 := hA0.pre hal how1 rfl
  have hA := (hA.fs hal hM0 (lw_fs hex1 (fs_honestly ((xs (nI i + 1).toNatClampNeg)) ((xs (nI i + 2).toNatClampNeg))))).pre hal how1 rfl
  have hE := lw_EK hk (by decide) hxo hmo hE
  have hM := lw_kM hk hI.1 hmo (by decide) hM
  have hpp1 := hp
  have hMc := hM
  clear hp hk
  clear h3
  refine lv_pop hx hb dL_law_1320 rfl ?_
  refine lv_aload_n hx hb dL_law_1321 rfl (lv_at hl 1 rfl) ?_
  refine lv_aload_n hx hb dL_law_1322 rfl (lv_at hl 3 rfl) ?_
  refine lv_iload_n hx hb dL_law_1323 rfl (lv_at hl 0 rfl) ?_
  refine lv_iconst (v := 1) hx hb dL_law_1324 (by decide) ?_
  refine lv_iadd hx hb dL_law_1325 ?_
  refine va_sld hx hb hX hbl hbA hI.S (lw_in (j := 1) (by decide) (by omega) hL) dL_law_1326 ?_
  refine lv_aload_n hx hb dL_law_1327 rfl (lv_at hl 3 rfl) ?_
  refine lv_iload_n hx hb dL_law_1328 rfl (lv_at hl 0 rfl) ?_
  refine lv_iconst (v := 2) hx hb dL_law_1329 (by decide) ?_
  refine lv_iadd hx hb dL_law_1330 ?_
  refine va_sld hx hb hX hbl hbA hI.S (lw_in (j := 2) (by decide) (by omega) hL) dL_law_1331 ?_
  have h3 := (q_bd hI hmo (rfl : q_bn 12 24 = (0, 3))).2
  refine q_ci (q_runV (As := [.int (xs (nI i + 1).toNatClampNeg), .int (xs (nI i + 2).toNatClampNeg)]) (rest := []) E (hml.trans hl.1.symm) hI (c_X12_honestly l X σ1 mo ((xs (nI i + 1).toNatClampNeg)) ((xs (nI i + 2).toNatClampNeg)) hmo hM.1.1) kl_166 hmo ⟨rfl, by decide⟩ (show vwCl[11]? = some (RX12, TX12, 46) from rfl) rfl ⟨Nat.le_of_ble_eq_true rfl, Nat.le_of_ble_eq_true rfl⟩ hcs rfl (Nat.le_of_ble_eq_true rfl) dL_law_1332) hI (by decide) (fun r2 σ2 H locs hp hk hI => ?_)
  obtain ⟨hex2, how2⟩ := hp
  have hp := True.intro
  have hB := lw_BK how2 hI.1 hxo hmo rfl rfl (how2.1 xo 5 (by rw [hxo]; rfl)) hB
  have hA := (hA.post hal how2 rfl).pre hal how2 rfl
  have hE := lw_EK hk (by decide) hxo hmo hE
  have hM := lw_up (lw_kM hk hI.1 hmo (by decide) hM) (q_bd hI hmo (rfl : q_bn 12 24 = (0, 3))).2
  have hpp2 := hp
  clear hp hk
  clear h3
  refine lv_pop hx hb dL_law_1335 rfl ?_
  refine lv_goto (tgt := 1796) hx hb dL_law_1336 (by decide) ?_
  exact kk _ _ _ hI hM hE hB hA

set_option maxRecDepth 100000 in
set_option maxHeartbeats 4000000 in
theorem lw_c35 {p : Program} {l : Launch} {e : Env} {s : State} {m : MethodId} {below : List Frame} {meth : Method} {c : Code} {b L : Nat} {xs : Nat → Int32} {X : XW} {xo mo : Nat} {σ0 : ST} {cells slots : Nat} {Q : State → Prop} {lb : Nat → Nat} (hcl : tb_Cls X lb xo mo) (hal : al_C X lb xo mo) (E : q_E p c cL_law s m #[Value.ref b] RL X) (hX : va_X b L xs s s.heap) (hbl : b < s.heap.size) (hbA : ¬ q_reg X b) (hml : c.maxLocals = 4) (hxo : q_kd X xo = 11) (hmo : q_kd X mo = 12) (hcs : cells ≤ room_1.cells ∧ slots ≤ room_1.slots) (hL : L ≤ 3072) {i : Nat} (hi : i + 6 ≤ L) {n : Int} (hn : 0 ≤ n ∧ n ≤ 199000) {σ : ST} {H : Heap} {locs : List Loc} {ls : Array Slot} (hI : q_I X 0 σ0 s.heap locs σ H) (hM : m_M (m_c X σ mo) (σ.1 mo 24).toInt n) (hl : lv_has ls 4 [(3, .int (nI i)), (2, .ref mo), (1, .ref xo), (0, .ref b)]) (hE : lw_E xo mo σ) (hB : lw_B X xo mo σ) (hA : al_R X xo mo σ σ)
    (kk : ∀ (σ : ST) (H : Heap) (locs : List Loc), q_I X 0 σ0 s.heap locs σ H → m_M (m_c X σ mo) (σ.1 mo 24).toInt (n + 301) → lw_E xo mo σ → lw_B X xo mo σ → al_R X xo mo σ σ → W p l e room_1 s m #[Value.ref b] below meth c H locs cells slots Q (F0 m 1796 ls [])) : W p l e room_1 s m #[Value.ref b] below meth c H locs cells slots Q (F0 m 1339 ls []) := by
  have hx := E.1
  have hb := E.2.1
  have hI0 := hI
  have hE0 := hE
  have hB0 := hB
  have hA0 := hA
  have hM0 := hM
  refine lv_aload_n hx hb dL_law_1339 rfl (lv_at hl 2 rfl) ?_
  refine lv_aload_n hx hb dL_law_1340 rfl (lv_at hl 3 rfl) ?_
  refine lv_iload_n hx hb dL_law_1341 rfl (lv_at hl 0 rfl) ?_
  refine lv_iconst (v := 1) hx hb dL_law_1342 (by decide) ?_
  refine lv_iadd hx hb dL_law_1343 ?_
  refine va_sld hx hb hX hbl hbA hI.S (lw_in (j := 1) (by decide) (by omega) hL) dL_law_1344 ?_
  have h3 := (q_bd hI hmo (rfl : q_bn 12 24 = (0, 3))).2
  refine q_ci (q_runV (As := [.int (xs (nI i + 1).toNatClampNeg)]) (rest := []) E (hml.trans hl.1.symm) hI (c_X11_rid l X σ xo ((xs (nI i + 1).toNatClampNeg)) hxo) kl_167 hxo ⟨rfl, by decide⟩ (show vwCl[10]? = some (RX11, TX11, 17) from rfl) rfl ⟨Nat.le_of_ble_eq_true rfl, Nat.le_of_ble_eq_true rfl⟩ hcs rfl (Nat.le_of_ble_eq_true rfl) dL_law_1345) hI (by decide) (fun r1 σ1 H locs hp hk hI => ?_)
  obtain ⟨hex1, how1⟩ := hp
  have hp := True.intro
  have hB := lw_BK how1 hI.1 hxo hmo rfl rfl (how1.1 xo 5 (by rw [hxo]; rfl)) hB
  have hA1 := hA0.pre hal how1 rfl
  have hA := (hA.fs hal hM0 (lw_fs hex1 (fs_rid ((xs (nI i + 1).toNatClampNeg))))).pre hal how1 rfl
  have hE := lw_EK hk (by decide) hxo hmo hE
  have hM := lw_kM hk hI.1 hmo (by decide) hM
  have hpp1 := hp
  have hMc := hM
  clear hp hk
  clear h3
  refine lv_pop hx hb dL_law_1348 rfl ?_
  refine lv_aload_n hx hb dL_law_1349 rfl (lv_at hl 1 rfl) ?_
  refine lv_aload_n hx hb dL_law_1350 rfl (lv_at hl 3 rfl) ?_
  refine lv_iload_n hx hb dL_law_1351 rfl (lv_at hl 0 rfl) ?_
  refine lv_iconst (v := 1) hx hb dL_law_1352 (by decide) ?_
  refine lv_iadd hx hb dL_law_1353 ?_
  refine va_sld hx hb hX hbl hbA hI.S (lw_in (j := 1) (by decide) (by omega) hL) dL_law_1354 ?_
  have h3 := (q_bd hI hmo (rfl : q_bn 12 24 = (0, 3))).2
  refine q_ci (q_runV (As := [.int (xs (nI i + 1).toNatClampNeg)]) (rest := []) E (hml.trans hl.1.symm) hI (c_X12_rid l X σ1 mo ((xs (nI i + 1).toNatClampNeg)) hmo hM.1.1) kl_170 hmo ⟨rfl, by decide⟩ (show vwCl[11]? = some (RX12, TX12, 46) from rfl) rfl ⟨Nat.le_of_ble_eq_true rfl, Nat.le_of_ble_eq_true rfl⟩ hcs rfl (Nat.le_of_ble_eq_true rfl) dL_law_1355) hI (by decide) (fun r2 σ2 H locs hp hk hI => ?_)
  obtain ⟨hex2, how2⟩ := hp
  have hp := True.intro
  have hB := lw_BK how2 hI.1 hxo hmo rfl rfl (how2.1 xo 5 (by rw [hxo]; rfl)) hB
  have hA := (hA.post hal how2 rfl).pre hal how2 rfl
  have hE := lw_EK hk (by decide) hxo hmo hE
  have hM := lw_up (lw_kM hk hI.1 hmo (by decide) hM) (q_bd hI hmo (rfl : q_bn 12 24 = (0, 3))).2
  have hpp2 := hp
  clear hp hk
  clear h3
  refine lv_pop hx hb dL_law_1358 rfl ?_
  refine lv_goto (tgt := 1796) hx hb dL_law_1359 (by decide) ?_
  exact kk _ _ _ hI hM hE hB hA

set_option maxRecDepth 100000 in
set_option maxHeartbeats 4000000 in
theorem lw_c36 {p : Program} {l : Launch} {e : Env} {s : State} {m : MethodId} {below : List Frame} {meth : Method} {c : Code} {b L : Nat} {xs : Nat → Int32} {X : XW} {xo mo : Nat} {σ0 : ST} {cells slots : Nat} {Q : State → Prop} {lb : Nat → Nat} (hcl : tb_Cls X lb xo mo) (hal : al_C X lb xo mo) (E : q_E p c cL_law s m #[Value.ref b] RL X) (hX : va_X b L xs s s.heap) (hbl : b < s.heap.size) (hbA : ¬ q_reg X b) (hml : c.maxLocals = 4) (hxo : q_kd X xo = 11) (hmo : q_kd X mo = 12) (hcs : cells ≤ room_1.cells ∧ slots ≤ room_1.slots) (hL : L ≤ 3072) {i : Nat} (hi : i + 6 ≤ L) {n : Int} (hn : 0 ≤ n ∧ n ≤ 199000) {σ : ST} {H : Heap} {locs : List Loc} {ls : Array Slot} (hI : q_I X 0 σ0 s.heap locs σ H) (hM : m_M (m_c X σ mo) (σ.1 mo 24).toInt n) (hl : lv_has ls 4 [(3, .int (nI i)), (2, .ref mo), (1, .ref xo), (0, .ref b)]) (hE : lw_E xo mo σ) (hB : lw_B X xo mo σ) (hA : al_R X xo mo σ σ)
    (kk : ∀ (σ : ST) (H : Heap) (locs : List Loc), q_I X 0 σ0 s.heap locs σ H → m_M (m_c X σ mo) (σ.1 mo 24).toInt (n + 301) → lw_E xo mo σ → lw_B X xo mo σ → al_R X xo mo σ σ → W p l e room_1 s m #[Value.ref b] below meth c H locs cells slots Q (F0 m 1796 ls [])) : W p l e room_1 s m #[Value.ref b] below meth c H locs cells slots Q (F0 m 1362 ls []) := by
  have hx := E.1
  have hb := E.2.1
  have hI0 := hI
  have hE0 := hE
  have hB0 := hB
  have hA0 := hA
  have hM0 := hM
  refine lv_aload_n hx hb dL_law_1362 rfl (lv_at hl 2 rfl) ?_
  refine lv_aload_n hx hb dL_law_1363 rfl (lv_at hl 3 rfl) ?_
  refine lv_iload_n hx hb dL_law_1364 rfl (lv_at hl 0 rfl) ?_
  refine lv_iconst (v := 1) hx hb dL_law_1365 (by decide) ?_
  refine lv_iadd hx hb dL_law_1366 ?_
  refine va_sld hx hb hX hbl hbA hI.S (lw_in (j := 1) (by decide) (by omega) hL) dL_law_1367 ?_
  have h3 := (q_bd hI hmo (rfl : q_bn 12 24 = (0, 3))).2
  refine q_ci (q_runV (As := [.int (xs (nI i + 1).toNatClampNeg)]) (rest := []) E (hml.trans hl.1.symm) hI (c_X11_lastKind l X σ xo ((xs (nI i + 1).toNatClampNeg)) hxo) kl_171 hxo ⟨rfl, by decide⟩ (show vwCl[10]? = some (RX11, TX11, 17) from rfl) rfl ⟨Nat.le_of_ble_eq_true rfl, Nat.le_of_ble_eq_true rfl⟩ hcs rfl (Nat.le_of_ble_eq_true rfl) dL_law_1368) hI (by decide) (fun r1 σ1 H locs hp hk hI => ?_)
  obtain ⟨hex1, how1⟩ := hp
  have hp := True.intro
  have hB := lw_BK how1 hI.1 hxo hmo rfl rfl (how1.1 xo 5 (by rw [hxo]; rfl)) hB
  have hA1 := hA0.pre hal how1 rfl
  have hA := (hA.fs hal hM0 (lw_fs hex1 (fs_lastKind ((xs (nI i + 1).toNatClampNeg))))).pre hal how1 rfl
  have hE := lw_EK hk (by decide) hxo hmo hE
  have hM := lw_kM hk hI.1 hmo (by decide) hM
  have hpp1 := hp
  have hMc := hM
  clear hp hk
  clear h3
  refine lv_pop hx hb dL_law_1371 rfl ?_
  refine lv_aload_n hx hb dL_law_1372 rfl (lv_at hl 1 rfl) ?_
  refine lv_aload_n hx hb dL_law_1373 rfl (lv_at hl 3 rfl) ?_
  refine lv_iload_n hx hb dL_law_1374 rfl (lv_at hl 0 rfl) ?_
  refine lv_iconst (v := 1) hx hb dL_law_1375 (by decide) ?_
  refine lv_iadd hx hb dL_law_1376 ?_
  refine va_sld hx hb hX hbl hbA hI.S (lw_in (j := 1) (by decide) (by omega) hL) dL_law_1377 ?_
  have h3 := (q_bd hI hmo (rfl : q_bn 12 24 = (0, 3))).2
  refine q_ci (q_runV (As := [.int (xs (nI i + 1).toNatClampNeg)]) (rest := []) E (hml.trans hl.1.symm) hI (c_X12_lastKind l X σ1 mo ((xs (nI i + 1).toNatClampNeg)) hmo hM.1.1) kl_174 hmo ⟨rfl, by decide⟩ (show vwCl[11]? = some (RX12, TX12, 46) from rfl) rfl ⟨Nat.le_of_ble_eq_true rfl, Nat.le_of_ble_eq_true rfl⟩ hcs rfl (Nat.le_of_ble_eq_true rfl) dL_law_1378) hI (by decide) (fun r2 σ2 H locs hp hk hI => ?_)
  obtain ⟨hex2, how2⟩ := hp
  have hp := True.intro
  have hB := lw_BK how2 hI.1 hxo hmo rfl rfl (how2.1 xo 5 (by rw [hxo]; rfl)) hB
  have hA := (hA.post hal how2 rfl).pre hal how2 rfl
  have hE := lw_EK hk (by decide) hxo hmo hE
  have hM := lw_up (lw_kM hk hI.1 hmo (by decide) hM) (q_bd hI hmo (rfl : q_bn 12 24 = (0, 3))).2
  have hpp2 := hp
  clear hp hk
  clear h3
  refine lv_pop hx hb dL_law_1381 rfl ?_
  refine lv_goto (tgt := 1796) hx hb dL_law_1382 (by decide) ?_
  exact kk _ _ _ hI hM hE hB hA

set_option maxRecDepth 100000 in
set_option maxHeartbeats 4000000 in
theorem lw_c37 {p : Program} {l : Launch} {e : Env} {s : State} {m : MethodId} {below : List Frame} {meth : Method} {c : Code} {b L : Nat} {xs : Nat → Int32} {X : XW} {xo mo : Nat} {σ0 : ST} {cells slots : Nat} {Q : State → Prop} {lb : Nat → Nat} (hcl : tb_Cls X lb xo mo) (hal : al_C X lb xo mo) (E : q_E p c cL_law s m #[Value.ref b] RL X) (hX : va_X b L xs s s.heap) (hbl : b < s.heap.size) (hbA : ¬ q_reg X b) (hml : c.maxLocals = 4) (hxo : q_kd X xo = 11) (hmo : q_kd X mo = 12) (hcs : cells ≤ room_1.cells ∧ slots ≤ room_1.slots) (hL : L ≤ 3072) {i : Nat} (hi : i + 6 ≤ L) {n : Int} (hn : 0 ≤ n ∧ n ≤ 199000) {σ : ST} {H : Heap} {locs : List Loc} {ls : Array Slot} (hI : q_I X 0 σ0 s.heap locs σ H) (hM : m_M (m_c X σ mo) (σ.1 mo 24).toInt n) (hl : lv_has ls 4 [(3, .int (nI i)), (2, .ref mo), (1, .ref xo), (0, .ref b)]) (hE : lw_E xo mo σ) (hB : lw_B X xo mo σ) (hA : al_R X xo mo σ σ)
    (kk : ∀ (σ : ST) (H : Heap) (locs : List Loc), q_I X 0 σ0 s.heap locs σ H → m_M (m_c X σ mo) (σ.1 mo 24).toInt (n + 301) → lw_E xo mo σ → lw_B X xo mo σ → al_R X xo mo σ σ → W p l e room_1 s m #[Value.ref b] below meth c H locs cells slots Q (F0 m 1796 ls [])) : W p l e room_1 s m #[Value.ref b] below meth c H locs cells slots Q (F0 m 1385 ls []) := by
  have hx := E.1
  have hb := E.2.1
  have hI0 := hI
  have hE0 := hE
  have hB0 := hB
  have hA0 := hA
  have hM0 := hM
  refine lv_aload_n hx hb dL_law_1385 rfl (lv_at hl 2 rfl) ?_
  refine lv_aload_n hx hb dL_law_1386 rfl (lv_at hl 3 rfl) ?_
  refine lv_iload_n hx hb dL_law_1387 rfl (lv_at hl 0 rfl) ?_
  refine lv_iconst (v := 1) hx hb dL_law_1388 (by decide) ?_
  refine lv_iadd hx hb dL_law_1389 ?_
  refine va_sld hx hb hX hbl hbA hI.S (lw_in (j := 1) (by decide) (by omega) hL) dL_law_1390 ?_
  have h3 := (q_bd hI hmo (rfl : q_bn 12 24 = (0, 3))).2
  refine q_ci (q_runV (As := [.int (xs (nI i + 1).toNatClampNeg)]) (rest := []) E (hml.trans hl.1.symm) hI (c_X11_mustLie l X σ xo ((xs (nI i + 1).toNatClampNeg)) hxo) kl_175 hxo ⟨rfl, by decide⟩ (show vwCl[10]? = some (RX11, TX11, 17) from rfl) rfl ⟨Nat.le_of_ble_eq_true rfl, Nat.le_of_ble_eq_true rfl⟩ hcs rfl (Nat.le_of_ble_eq_true rfl) dL_law_1391) hI (by decide) (fun r1 σ1 H locs hp hk hI => ?_)
  obtain ⟨hex1, how1⟩ := hp
  have hp := True.intro
  have hB := lw_BK how1 hI.1 hxo hmo rfl rfl (how1.1 xo 5 (by rw [hxo]; rfl)) hB
  have hA1 := hA0.pre hal how1 rfl
  have hA := (hA.fs hal hM0 (lw_fs hex1 (fs_mustLie ((xs (nI i + 1).toNatClampNeg))))).pre hal how1 rfl
  have hE := lw_EK hk (by decide) hxo hmo hE
  have hM := lw_kM hk hI.1 hmo (by decide) hM
  have hpp1 := hp
  have hMc := hM
  clear hp hk
  clear h3
  refine lv_pop hx hb dL_law_1394 rfl ?_
  refine lv_aload_n hx hb dL_law_1395 rfl (lv_at hl 1 rfl) ?_
  refine lv_aload_n hx hb dL_law_1396 rfl (lv_at hl 3 rfl) ?_
  refine lv_iload_n hx hb dL_law_1397 rfl (lv_at hl 0 rfl) ?_
  refine lv_iconst (v := 1) hx hb dL_law_1398 (by decide) ?_
  refine lv_iadd hx hb dL_law_1399 ?_
  refine va_sld hx hb hX hbl hbA hI.S (lw_in (j := 1) (by decide) (by omega) hL) dL_law_1400 ?_
  have h3 := (q_bd hI hmo (rfl : q_bn 12 24 = (0, 3))).2
  refine q_ci (q_runV (As := [.int (xs (nI i + 1).toNatClampNeg)]) (rest := []) E (hml.trans hl.1.symm) hI (c_X12_mustLie l X σ1 mo ((xs (nI i + 1).toNatClampNeg)) hmo hM.1.1) kl_178 hmo ⟨rfl, by decide⟩ (show vwCl[11]? = some (RX12, TX12, 46) from rfl) rfl ⟨Nat.le_of_ble_eq_true rfl, Nat.le_of_ble_eq_true rfl⟩ hcs rfl (Nat.le_of_ble_eq_true rfl) dL_law_1401) hI (by decide) (fun r2 σ2 H locs hp hk hI => ?_)
  obtain ⟨hex2, how2⟩ := hp
  have hp := True.intro
  have hB := lw_BK how2 hI.1 hxo hmo rfl rfl (how2.1 xo 5 (by rw [hxo]; rfl)) hB
  have hA := (hA.post hal how2 rfl).pre hal how2 rfl
  have hE := lw_EK hk (by decide) hxo hmo hE
  have hM := lw_up (lw_kM hk hI.1 hmo (by decide) hM) (q_bd hI hmo (rfl : q_bn 12 24 = (0, 3))).2
  have hpp2 := hp
  clear hp hk
  clear h3
  refine lv_pop hx hb dL_law_1404 rfl ?_
  refine lv_goto (tgt := 1796) hx hb dL_law_1405 (by decide) ?_
  exact kk _ _ _ hI hM hE hB hA

set_option maxRecDepth 100000 in
set_option maxHeartbeats 4000000 in
theorem lw_c38 {p : Program} {l : Launch} {e : Env} {s : State} {m : MethodId} {below : List Frame} {meth : Method} {c : Code} {b L : Nat} {xs : Nat → Int32} {X : XW} {xo mo : Nat} {σ0 : ST} {cells slots : Nat} {Q : State → Prop} {lb : Nat → Nat} (hcl : tb_Cls X lb xo mo) (hal : al_C X lb xo mo) (E : q_E p c cL_law s m #[Value.ref b] RL X) (hX : va_X b L xs s s.heap) (hbl : b < s.heap.size) (hbA : ¬ q_reg X b) (hml : c.maxLocals = 4) (hxo : q_kd X xo = 11) (hmo : q_kd X mo = 12) (hcs : cells ≤ room_1.cells ∧ slots ≤ room_1.slots) (hL : L ≤ 3072) {i : Nat} (hi : i + 6 ≤ L) {n : Int} (hn : 0 ≤ n ∧ n ≤ 199000) {σ : ST} {H : Heap} {locs : List Loc} {ls : Array Slot} (hI : q_I X 0 σ0 s.heap locs σ H) (hM : m_M (m_c X σ mo) (σ.1 mo 24).toInt n) (hl : lv_has ls 4 [(3, .int (nI i)), (2, .ref mo), (1, .ref xo), (0, .ref b)]) (hE : lw_E xo mo σ) (hB : lw_B X xo mo σ) (hA : al_R X xo mo σ σ)
    (kk : ∀ (σ : ST) (H : Heap) (locs : List Loc), q_I X 0 σ0 s.heap locs σ H → m_M (m_c X σ mo) (σ.1 mo 24).toInt (n + 301) → lw_E xo mo σ → lw_B X xo mo σ → al_R X xo mo σ σ → W p l e room_1 s m #[Value.ref b] below meth c H locs cells slots Q (F0 m 1796 ls [])) : W p l e room_1 s m #[Value.ref b] below meth c H locs cells slots Q (F0 m 1408 ls []) := by
  have hx := E.1
  have hb := E.2.1
  have hI0 := hI
  have hE0 := hE
  have hB0 := hB
  have hA0 := hA
  have hM0 := hM
  refine lv_aload_n hx hb dL_law_1408 rfl (lv_at hl 2 rfl) ?_
  have h3 := (q_bd hI hmo (rfl : q_bn 12 24 = (0, 3))).2
  refine q_ci (q_runV (As := []) (rest := []) E (hml.trans hl.1.symm) hI (c_X11_soonest l X σ xo hxo) kl_179 hxo ⟨rfl, by decide⟩ (show vwCl[10]? = some (RX11, TX11, 17) from rfl) rfl ⟨Nat.le_of_ble_eq_true rfl, Nat.le_of_ble_eq_true rfl⟩ hcs rfl (Nat.le_of_ble_eq_true rfl) dL_law_1409) hI (by decide) (fun r1 σ1 H locs hp hk hI => ?_)
  obtain ⟨hex1, how1⟩ := hp
  have hp := True.intro
  have hB := lw_BK how1 hI.1 hxo hmo rfl rfl (how1.1 xo 5 (by rw [hxo]; rfl)) hB
  have hA1 := hA0.pre hal how1 rfl
  have hA := (hA.fs hal hM0 (lw_fs hex1 (fs_soonest))).pre hal how1 rfl
  have hE := lw_EK hk (by decide) hxo hmo hE
  have hM := lw_kM hk hI.1 hmo (by decide) hM
  have hpp1 := hp
  have hMc := hM
  clear hp hk
  clear h3
  refine lv_pop hx hb dL_law_1412 rfl ?_
  refine lv_aload_n hx hb dL_law_1413 rfl (lv_at hl 1 rfl) ?_
  have h3 := (q_bd hI hmo (rfl : q_bn 12 24 = (0, 3))).2
  refine q_ci (q_runV (As := []) (rest := []) E (hml.trans hl.1.symm) hI (c_X12_soonest l X σ1 mo hmo hM.1.1) kl_182 hmo ⟨rfl, by decide⟩ (show vwCl[11]? = some (RX12, TX12, 46) from rfl) rfl ⟨Nat.le_of_ble_eq_true rfl, Nat.le_of_ble_eq_true rfl⟩ hcs rfl (Nat.le_of_ble_eq_true rfl) dL_law_1414) hI (by decide) (fun r2 σ2 H locs hp hk hI => ?_)
  obtain ⟨hex2, how2⟩ := hp
  have hp := True.intro
  have hB := lw_BK how2 hI.1 hxo hmo rfl rfl (how2.1 xo 5 (by rw [hxo]; rfl)) hB
  have hA := (hA.post hal how2 rfl).pre hal how2 rfl
  have hE := lw_EK hk (by decide) hxo hmo hE
  have hM := lw_up (lw_kM hk hI.1 hmo (by decide) hM) (q_bd hI hmo (rfl : q_bn 12 24 = (0, 3))).2
  have hpp2 := hp
  clear hp hk
  clear h3
  refine lv_pop hx hb dL_law_1417 rfl ?_
  refine lv_goto (tgt := 1796) hx hb dL_law_1418 (by decide) ?_
  exact kk _ _ _ hI hM hE hB hA

set_option maxRecDepth 100000 in
set_option maxHeartbeats 4000000 in
theorem lw_c39 {p : Program} {l : Launch} {e : Env} {s : State} {m : MethodId} {below : List Frame} {meth : Method} {c : Code} {b L : Nat} {xs : Nat → Int32} {X : XW} {xo mo : Nat} {σ0 : ST} {cells slots : Nat} {Q : State → Prop} {lb : Nat → Nat} (hcl : tb_Cls X lb xo mo) (hal : al_C X lb xo mo) (E : q_E p c cL_law s m #[Value.ref b] RL X) (hX : va_X b L xs s s.heap) (hbl : b < s.heap.size) (hbA : ¬ q_reg X b) (hml : c.maxLocals = 4) (hxo : q_kd X xo = 11) (hmo : q_kd X mo = 12) (hcs : cells ≤ room_1.cells ∧ slots ≤ room_1.slots) (hL : L ≤ 3072) {i : Nat} (hi : i + 6 ≤ L) {n : Int} (hn : 0 ≤ n ∧ n ≤ 199000) {σ : ST} {H : Heap} {locs : List Loc} {ls : Array Slot} (hI : q_I X 0 σ0 s.heap locs σ H) (hM : m_M (m_c X σ mo) (σ.1 mo 24).toInt n) (hl : lv_has ls 4 [(3, .int (nI i)), (2, .ref mo), (1, .ref xo), (0, .ref b)]) (hE : lw_E xo mo σ) (hB : lw_B X xo mo σ) (hA : al_R X xo mo σ σ)
    (kk : ∀ (σ : ST) (H : Heap) (locs : List Loc), q_I X 0 σ0 s.heap locs σ H → m_M (m_c X σ mo) (σ.1 mo 24).toInt (n + 301) → lw_E xo mo σ → lw_B X xo mo σ → al_R X xo mo σ σ → W p l e room_1 s m #[Value.ref b] below meth c H locs cells slots Q (F0 m 1796 ls [])) : W p l e room_1 s m #[Value.ref b] below meth c H locs cells slots Q (F0 m 1421 ls []) := by
  have hx := E.1
  have hb := E.2.1
  have hI0 := hI
  have hE0 := hE
  have hB0 := hB
  have hA0 := hA
  have hM0 := hM
  refine lv_aload_n hx hb dL_law_1421 rfl (lv_at hl 2 rfl) ?_
  refine lv_aload_n hx hb dL_law_1422 rfl (lv_at hl 3 rfl) ?_
  refine lv_iload_n hx hb dL_law_1423 rfl (lv_at hl 0 rfl) ?_
  refine lv_iconst (v := 1) hx hb dL_law_1424 (by decide) ?_
  refine lv_iadd hx hb dL_law_1425 ?_
  refine va_sld hx hb hX hbl hbA hI.S (lw_in (j := 1) (by decide) (by omega) hL) dL_law_1426 ?_
  refine lv_aload_n hx hb dL_law_1427 rfl (lv_at hl 3 rfl) ?_
  refine lv_iload_n hx hb dL_law_1428 rfl (lv_at hl 0 rfl) ?_
  refine lv_iconst (v := 2) hx hb dL_law_1429 (by decide) ?_
  refine lv_iadd hx hb dL_law_1430 ?_
  refine va_sld hx hb hX hbl hbA hI.S (lw_in (j := 2) (by decide) (by omega) hL) dL_law_1431 ?_
  have h3 := (q_bd hI hmo (rfl : q_bn 12 24 = (0, 3))).2
  refine q_ci (q_runV (As := [.int (xs (nI i + 1).toNatClampNeg), .int (xs (nI i + 2).toNatClampNeg)]) (rest := []) E (hml.trans hl.1.symm) hI (c_X11_best l X σ xo ((xs (nI i + 1).toNatClampNeg)) ((xs (nI i + 2).toNatClampNeg)) hxo) kl_183 hxo ⟨rfl, by decide⟩ (show vwCl[10]? = some (RX11, TX11, 17) from rfl) rfl ⟨Nat.le_of_ble_eq_true rfl, Nat.le_of_ble_eq_true rfl⟩ hcs rfl (Nat.le_of_ble_eq_true rfl) dL_law_1432) hI (by decide) (fun r1 σ1 H locs hp hk hI => ?_)
  obtain ⟨hex1, how1⟩ := hp
  have hp := True.intro
  have hB := lw_BK how1 hI.1 hxo hmo rfl rfl (how1.1 xo 5 (by rw [hxo]; rfl)) hB
  have hA1 := hA0.pre hal how1 rfl
  have hA := (hA.post hal how1 rfl).pre hal how1 rfl
  have hE := lw_EK hk (by decide) hxo hmo hE
  have hM := lw_kM hk hI.1 hmo (by decide) hM
  have hpp1 := hp
  have hMc := hM
  clear hp hk
  clear h3
  refine lv_pop hx hb dL_law_1435 rfl ?_
  refine lv_aload_n hx hb dL_law_1436 rfl (lv_at hl 1 rfl) ?_
  refine lv_aload_n hx hb dL_law_1437 rfl (lv_at hl 3 rfl) ?_
  refine lv_iload_n hx hb dL_law_1438 rfl (lv_at hl 0 rfl) ?_
  refine lv_iconst (v := 1) hx hb dL_law_1439 (by decide) ?_
  refine lv_iadd hx hb dL_law_1440 ?_
  refine va_sld hx hb hX hbl hbA hI.S (lw_in (j := 1) (by decide) (by omega) hL) dL_law_1441 ?_
  refine lv_aload_n hx hb dL_law_1442 rfl (lv_at hl 3 rfl) ?_
  refine lv_iload_n hx hb dL_law_1443 rfl (lv_at hl 0 rfl) ?_
  refine lv_iconst (v := 2) hx hb dL_law_1444 (by decide) ?_
  refine lv_iadd hx hb dL_law_1445 ?_
  refine va_sld hx hb hX hbl hbA hI.S (lw_in (j := 2) (by decide) (by omega) hL) dL_law_1446 ?_
  have h3 := (q_bd hI hmo (rfl : q_bn 12 24 = (0, 3))).2
  refine q_ci (q_runV (As := [.int (xs (nI i + 1).toNatClampNeg), .int (xs (nI i + 2).toNatClampNeg)]) (rest := []) E (hml.trans hl.1.symm) hI (c_X12_best l X σ1 mo ((xs (nI i + 1).toNatClampNeg)) ((xs (nI i + 2).toNatClampNeg)) hmo hM.1.1) kl_186 hmo ⟨rfl, by decide⟩ (show vwCl[11]? = some (RX12, TX12, 46) from rfl) rfl ⟨Nat.le_of_ble_eq_true rfl, Nat.le_of_ble_eq_true rfl⟩ hcs rfl (Nat.le_of_ble_eq_true rfl) dL_law_1447) hI (by decide) (fun r2 σ2 H locs hp hk hI => ?_)
  obtain ⟨hex2, how2⟩ := hp
  have hp := True.intro
  have hB := lw_BK how2 hI.1 hxo hmo rfl rfl (how2.1 xo 5 (by rw [hxo]; rfl)) hB
  have hA := (hA.post hal how2 rfl).pre hal how2 rfl
  have hE := lw_EK hk (by decide) hxo hmo hE
  have hM := lw_up (lw_kM hk hI.1 hmo (by decide) hM) (q_bd hI hmo (rfl : q_bn 12 24 = (0, 3))).2
  have hpp2 := hp
  clear hp hk
  clear h3
  refine lv_pop hx hb dL_law_1450 rfl ?_
  refine lv_goto (tgt := 1796) hx hb dL_law_1451 (by decide) ?_
  exact kk _ _ _ hI hM hE hB hA

set_option maxRecDepth 100000 in
set_option maxHeartbeats 4000000 in
theorem lw_c40 {p : Program} {l : Launch} {e : Env} {s : State} {m : MethodId} {below : List Frame} {meth : Method} {c : Code} {b L : Nat} {xs : Nat → Int32} {X : XW} {xo mo : Nat} {σ0 : ST} {cells slots : Nat} {Q : State → Prop} {lb : Nat → Nat} (hcl : tb_Cls X lb xo mo) (hal : al_C X lb xo mo) (E : q_E p c cL_law s m #[Value.ref b] RL X) (hX : va_X b L xs s s.heap) (hbl : b < s.heap.size) (hbA : ¬ q_reg X b) (hml : c.maxLocals = 4) (hxo : q_kd X xo = 11) (hmo : q_kd X mo = 12) (hcs : cells ≤ room_1.cells ∧ slots ≤ room_1.slots) (hL : L ≤ 3072) {i : Nat} (hi : i + 6 ≤ L) {n : Int} (hn : 0 ≤ n ∧ n ≤ 199000) {σ : ST} {H : Heap} {locs : List Loc} {ls : Array Slot} (hI : q_I X 0 σ0 s.heap locs σ H) (hM : m_M (m_c X σ mo) (σ.1 mo 24).toInt n) (hl : lv_has ls 4 [(3, .int (nI i)), (2, .ref mo), (1, .ref xo), (0, .ref b)]) (hE : lw_E xo mo σ) (hB : lw_B X xo mo σ) (hA : al_R X xo mo σ σ)
    (kk : ∀ (σ : ST) (H : Heap) (locs : List Loc), q_I X 0 σ0 s.heap locs σ H → m_M (m_c X σ mo) (σ.1 mo 24).toInt (n + 301) → lw_E xo mo σ → lw_B X xo mo σ → al_R X xo mo σ σ → W p l e room_1 s m #[Value.ref b] below meth c H locs cells slots Q (F0 m 1796 ls [])) : W p l e room_1 s m #[Value.ref b] below meth c H locs cells slots Q (F0 m 1454 ls []) := by
  have hx := E.1
  have hb := E.2.1
  have hI0 := hI
  have hE0 := hE
  have hB0 := hB
  have hA0 := hA
  have hM0 := hM
  refine lv_aload_n hx hb dL_law_1454 rfl (lv_at hl 2 rfl) ?_
  refine lv_aload_n hx hb dL_law_1455 rfl (lv_at hl 3 rfl) ?_
  refine lv_iload_n hx hb dL_law_1456 rfl (lv_at hl 0 rfl) ?_
  refine lv_iconst (v := 1) hx hb dL_law_1457 (by decide) ?_
  refine lv_iadd hx hb dL_law_1458 ?_
  refine va_sld hx hb hX hbl hbA hI.S (lw_in (j := 1) (by decide) (by omega) hL) dL_law_1459 ?_
  have h3 := (q_bd hI hmo (rfl : q_bn 12 24 = (0, 3))).2
  refine q_ci (q_runV (As := [.int (xs (nI i + 1).toNatClampNeg)]) (rest := []) E (hml.trans hl.1.symm) hI (c_X11_sayer l X σ xo ((xs (nI i + 1).toNatClampNeg)) hxo) kl_187 hxo ⟨rfl, by decide⟩ (show vwCl[10]? = some (RX11, TX11, 17) from rfl) rfl ⟨Nat.le_of_ble_eq_true rfl, Nat.le_of_ble_eq_true rfl⟩ hcs rfl (Nat.le_of_ble_eq_true rfl) dL_law_1460) hI (by decide) (fun r1 σ1 H locs hp hk hI => ?_)
  obtain ⟨hex1, how1⟩ := hp
  have hp := True.intro
  have hB := lw_BK how1 hI.1 hxo hmo rfl rfl (how1.1 xo 5 (by rw [hxo]; rfl)) hB
  have hA1 := hA0.pre hal how1 rfl
  have hA := (hA.post hal how1 rfl).pre hal how1 rfl
  have hE := lw_EK hk (by decide) hxo hmo hE
  have hM := lw_kM hk hI.1 hmo (by decide) hM
  have hpp1 := hp
  have hMc := hM
  clear hp hk
  clear h3
  refine lv_pop hx hb dL_law_1463 rfl ?_
  refine lv_aload_n hx hb dL_law_1464 rfl (lv_at hl 1 rfl) ?_
  refine lv_aload_n hx hb dL_law_1465 rfl (lv_at hl 3 rfl) ?_
  refine lv_iload_n hx hb dL_law_1466 rfl (lv_at hl 0 rfl) ?_
  refine lv_iconst (v := 1) hx hb dL_law_1467 (by decide) ?_
  refine lv_iadd hx hb dL_law_1468 ?_
  refine va_sld hx hb hX hbl hbA hI.S (lw_in (j := 1) (by decide) (by omega) hL) dL_law_1469 ?_
  have h3 := (q_bd hI hmo (rfl : q_bn 12 24 = (0, 3))).2
  refine q_ci (q_runV (As := [.int (xs (nI i + 1).toNatClampNeg)]) (rest := []) E (hml.trans hl.1.symm) hI (c_X12_sayer l X σ1 mo ((xs (nI i + 1).toNatClampNeg)) hmo hM.1.1) kl_190 hmo ⟨rfl, by decide⟩ (show vwCl[11]? = some (RX12, TX12, 46) from rfl) rfl ⟨Nat.le_of_ble_eq_true rfl, Nat.le_of_ble_eq_true rfl⟩ hcs rfl (Nat.le_of_ble_eq_true rfl) dL_law_1470) hI (by decide) (fun r2 σ2 H locs hp hk hI => ?_)
  obtain ⟨hex2, how2⟩ := hp
  have hp := True.intro
  have hB := lw_BK how2 hI.1 hxo hmo rfl rfl (how2.1 xo 5 (by rw [hxo]; rfl)) hB
  have hA := (hA.post hal how2 rfl).pre hal how2 rfl
  have hE := lw_EK hk (by decide) hxo hmo hE
  have hM := lw_up (lw_kM hk hI.1 hmo (by decide) hM) (q_bd hI hmo (rfl : q_bn 12 24 = (0, 3))).2
  have hpp2 := hp
  clear hp hk
  clear h3
  refine lv_pop hx hb dL_law_1473 rfl ?_
  refine lv_goto (tgt := 1796) hx hb dL_law_1474 (by decide) ?_
  exact kk _ _ _ hI hM hE hB hA

set_option maxRecDepth 100000 in
set_option maxHeartbeats 4000000 in
theorem lw_c41 {p : Program} {l : Launch} {e : Env} {s : State} {m : MethodId} {below : List Frame} {meth : Method} {c : Code} {b L : Nat} {xs : Nat → Int32} {X : XW} {xo mo : Nat} {σ0 : ST} {cells slots : Nat} {Q : State → Prop} {lb : Nat → Nat} (hcl : tb_Cls X lb xo mo) (hal : al_C X lb xo mo) (E : q_E p c cL_law s m #[Value.ref b] RL X) (hX : va_X b L xs s s.heap) (hbl : b < s.heap.size) (hbA : ¬ q_reg X b) (hml : c.maxLocals = 4) (hxo : q_kd X xo = 11) (hmo : q_kd X mo = 12) (hcs : cells ≤ room_1.cells ∧ slots ≤ room_1.slots) (hL : L ≤ 3072) {i : Nat} (hi : i + 6 ≤ L) {n : Int} (hn : 0 ≤ n ∧ n ≤ 199000) {σ : ST} {H : Heap} {locs : List Loc} {ls : Array Slot} (hI : q_I X 0 σ0 s.heap locs σ H) (hM : m_M (m_c X σ mo) (σ.1 mo 24).toInt n) (hl : lv_has ls 4 [(3, .int (nI i)), (2, .ref mo), (1, .ref xo), (0, .ref b)]) (hE : lw_E xo mo σ) (hB : lw_B X xo mo σ) (hA : al_R X xo mo σ σ)
    (kk : ∀ (σ : ST) (H : Heap) (locs : List Loc), q_I X 0 σ0 s.heap locs σ H → m_M (m_c X σ mo) (σ.1 mo 24).toInt (n + 301) → lw_E xo mo σ → lw_B X xo mo σ → al_R X xo mo σ σ → W p l e room_1 s m #[Value.ref b] below meth c H locs cells slots Q (F0 m 1796 ls [])) : W p l e room_1 s m #[Value.ref b] below meth c H locs cells slots Q (F0 m 1477 ls []) := by
  have hx := E.1
  have hb := E.2.1
  have hI0 := hI
  have hE0 := hE
  have hB0 := hB
  have hA0 := hA
  have hM0 := hM
  refine lv_aload_n hx hb dL_law_1477 rfl (lv_at hl 2 rfl) ?_
  refine lv_aload_n hx hb dL_law_1478 rfl (lv_at hl 3 rfl) ?_
  refine lv_iload_n hx hb dL_law_1479 rfl (lv_at hl 0 rfl) ?_
  refine lv_iconst (v := 1) hx hb dL_law_1480 (by decide) ?_
  refine lv_iadd hx hb dL_law_1481 ?_
  refine va_sld hx hb hX hbl hbA hI.S (lw_in (j := 1) (by decide) (by omega) hL) dL_law_1482 ?_
  have h3 := (q_bd hI hmo (rfl : q_bn 12 24 = (0, 3))).2
  refine q_ci (q_runV (As := [.int (xs (nI i + 1).toNatClampNeg)]) (rest := []) E (hml.trans hl.1.symm) hI (c_X11_has l X σ xo ((xs (nI i + 1).toNatClampNeg)) hxo) kl_191 hxo ⟨rfl, by decide⟩ (show vwCl[10]? = some (RX11, TX11, 17) from rfl) rfl ⟨Nat.le_of_ble_eq_true rfl, Nat.le_of_ble_eq_true rfl⟩ hcs rfl (Nat.le_of_ble_eq_true rfl) dL_law_1483) hI (by decide) (fun r1 σ1 H locs hp hk hI => ?_)
  obtain ⟨hex1, how1⟩ := hp
  have hp := True.intro
  have hB := lw_BK how1 hI.1 hxo hmo rfl rfl (how1.1 xo 5 (by rw [hxo]; rfl)) hB
  have hA1 := hA0.pre hal how1 rfl
  have hA := (hA.post hal how1 rfl).pre hal how1 rfl
  have hE := lw_EK hk (by decide) hxo hmo hE
  have hM := lw_kM hk hI.1 hmo (by decide) hM
  have hpp1 := hp
  have hMc := hM
  clear hp hk
  clear h3
  refine lv_pop hx hb dL_law_1486 rfl ?_
  refine lv_aload_n hx hb dL_law_1487 rfl (lv_at hl 1 rfl) ?_
  refine lv_aload_n hx hb dL_law_1488 rfl (lv_at hl 3 rfl) ?_
  refine lv_iload_n hx hb dL_law_1489 rfl (lv_at hl 0 rfl) ?_
  refine lv_iconst (v := 1) hx hb dL_law_1490 (by decide) ?_
  refine lv_iadd hx hb dL_law_1491 ?_
  refine va_sld hx hb hX hbl hbA hI.S (lw_in (j := 1) (by decide) (by omega) hL) dL_law_1492 ?_
  have h3 := (q_bd hI hmo (rfl : q_bn 12 24 = (0, 3))).2
  refine q_ci (q_runV (As := [.int (xs (nI i + 1).toNatClampNeg)]) (rest := []) E (hml.trans hl.1.symm) hI (c_X12_has l X σ1 mo ((xs (nI i + 1).toNatClampNeg)) hmo hM.1.1) kl_194 hmo ⟨rfl, by decide⟩ (show vwCl[11]? = some (RX12, TX12, 46) from rfl) rfl ⟨Nat.le_of_ble_eq_true rfl, Nat.le_of_ble_eq_true rfl⟩ hcs rfl (Nat.le_of_ble_eq_true rfl) dL_law_1493) hI (by decide) (fun r2 σ2 H locs hp hk hI => ?_)
  obtain ⟨hex2, how2⟩ := hp
  have hp := True.intro
  have hB := lw_BK how2 hI.1 hxo hmo rfl rfl (how2.1 xo 5 (by rw [hxo]; rfl)) hB
  have hA := (hA.post hal how2 rfl).pre hal how2 rfl
  have hE := lw_EK hk (by decide) hxo hmo hE
  have hM := lw_up (lw_kM hk hI.1 hmo (by decide) hM) (q_bd hI hmo (rfl : q_bn 12 24 = (0, 3))).2
  have hpp2 := hp
  clear hp hk
  clear h3
  refine lv_pop hx hb dL_law_1496 rfl ?_
  refine lv_goto (tgt := 1796) hx hb dL_law_1497 (by decide) ?_
  exact kk _ _ _ hI hM hE hB hA

set_option maxRecDepth 100000 in
set_option maxHeartbeats 4000000 in
theorem lw_c42 {p : Program} {l : Launch} {e : Env} {s : State} {m : MethodId} {below : List Frame} {meth : Method} {c : Code} {b L : Nat} {xs : Nat → Int32} {X : XW} {xo mo : Nat} {σ0 : ST} {cells slots : Nat} {Q : State → Prop} {lb : Nat → Nat} (hcl : tb_Cls X lb xo mo) (hal : al_C X lb xo mo) (E : q_E p c cL_law s m #[Value.ref b] RL X) (hX : va_X b L xs s s.heap) (hbl : b < s.heap.size) (hbA : ¬ q_reg X b) (hml : c.maxLocals = 4) (hxo : q_kd X xo = 11) (hmo : q_kd X mo = 12) (hcs : cells ≤ room_1.cells ∧ slots ≤ room_1.slots) (hL : L ≤ 3072) {i : Nat} (hi : i + 6 ≤ L) {n : Int} (hn : 0 ≤ n ∧ n ≤ 199000) {σ : ST} {H : Heap} {locs : List Loc} {ls : Array Slot} (hI : q_I X 0 σ0 s.heap locs σ H) (hM : m_M (m_c X σ mo) (σ.1 mo 24).toInt n) (hl : lv_has ls 4 [(3, .int (nI i)), (2, .ref mo), (1, .ref xo), (0, .ref b)]) (hE : lw_E xo mo σ) (hB : lw_B X xo mo σ) (hA : al_R X xo mo σ σ)
    (kk : ∀ (σ : ST) (H : Heap) (locs : List Loc), q_I X 0 σ0 s.heap locs σ H → m_M (m_c X σ mo) (σ.1 mo 24).toInt (n + 301) → lw_E xo mo σ → lw_B X xo mo σ → al_R X xo mo σ σ → W p l e room_1 s m #[Value.ref b] below meth c H locs cells slots Q (F0 m 1796 ls [])) : W p l e room_1 s m #[Value.ref b] below meth c H locs cells slots Q (F0 m 1500 ls []) := by
  have hx := E.1
  have hb := E.2.1
  have hI0 := hI
  have hE0 := hE
  have hB0 := hB
  have hA0 := hA
  have hM0 := hM
  refine lv_aload_n hx hb dL_law_1500 rfl (lv_at hl 2 rfl) ?_
  refine lv_aload_n hx hb dL_law_1501 rfl (lv_at hl 3 rfl) ?_
  refine lv_iload_n hx hb dL_law_1502 rfl (lv_at hl 0 rfl) ?_
  refine lv_iconst (v := 1) hx hb dL_law_1503 (by decide) ?_
  refine lv_iadd hx hb dL_law_1504 ?_
  refine va_sld hx hb hX hbl hbA hI.S (lw_in (j := 1) (by decide) (by omega) hL) dL_law_1505 ?_
  have h3 := (q_bd hI hmo (rfl : q_bn 12 24 = (0, 3))).2
  refine q_ci (q_runV (As := [.int (xs (nI i + 1).toNatClampNeg)]) (rest := []) E (hml.trans hl.1.symm) hI (c_X11_lies l X σ xo ((xs (nI i + 1).toNatClampNeg)) hxo) kl_195 hxo ⟨rfl, by decide⟩ (show vwCl[10]? = some (RX11, TX11, 17) from rfl) rfl ⟨Nat.le_of_ble_eq_true rfl, Nat.le_of_ble_eq_true rfl⟩ hcs rfl (Nat.le_of_ble_eq_true rfl) dL_law_1506) hI (by decide) (fun r1 σ1 H locs hp hk hI => ?_)
  obtain ⟨hex1, how1⟩ := hp
  have hp := True.intro
  have hB := lw_BK how1 hI.1 hxo hmo rfl rfl (how1.1 xo 5 (by rw [hxo]; rfl)) hB
  have hA1 := hA0.pre hal how1 rfl
  have hA := (hA.post hal how1 rfl).pre hal how1 rfl
  have hE := lw_EK hk (by decide) hxo hmo hE
  have hM := lw_kM hk hI.1 hmo (by decide) hM
  have hpp1 := hp
  have hMc := hM
  clear hp hk
  clear h3
  refine lv_pop hx hb dL_law_1509 rfl ?_
  refine lv_aload_n hx hb dL_law_1510 rfl (lv_at hl 1 rfl) ?_
  refine lv_aload_n hx hb dL_law_1511 rfl (lv_at hl 3 rfl) ?_
  refine lv_iload_n hx hb dL_law_1512 rfl (lv_at hl 0 rfl) ?_
  refine lv_iconst (v := 1) hx hb dL_law_1513 (by decide) ?_
  refine lv_iadd hx hb dL_law_1514 ?_
  refine va_sld hx hb hX hbl hbA hI.S (lw_in (j := 1) (by decide) (by omega) hL) dL_law_1515 ?_
  have h3 := (q_bd hI hmo (rfl : q_bn 12 24 = (0, 3))).2
  refine q_ci (q_runV (As := [.int (xs (nI i + 1).toNatClampNeg)]) (rest := []) E (hml.trans hl.1.symm) hI (c_X12_lies l X σ1 mo ((xs (nI i + 1).toNatClampNeg)) hmo hM.1.1) kl_198 hmo ⟨rfl, by decide⟩ (show vwCl[11]? = some (RX12, TX12, 46) from rfl) rfl ⟨Nat.le_of_ble_eq_true rfl, Nat.le_of_ble_eq_true rfl⟩ hcs rfl (Nat.le_of_ble_eq_true rfl) dL_law_1516) hI (by decide) (fun r2 σ2 H locs hp hk hI => ?_)
  obtain ⟨hex2, how2⟩ := hp
  have hp := True.intro
  have hB := lw_BK how2 hI.1 hxo hmo rfl rfl (how2.1 xo 5 (by rw [hxo]; rfl)) hB
  have hA := (hA.post hal how2 rfl).pre hal how2 rfl
  have hE := lw_EK hk (by decide) hxo hmo hE
  have hM := lw_up (lw_kM hk hI.1 hmo (by decide) hM) (q_bd hI hmo (rfl : q_bn 12 24 = (0, 3))).2
  have hpp2 := hp
  clear hp hk
  clear h3
  refine lv_pop hx hb dL_law_1519 rfl ?_
  refine lv_goto (tgt := 1796) hx hb dL_law_1520 (by decide) ?_
  exact kk _ _ _ hI hM hE hB hA

set_option maxRecDepth 100000 in
set_option maxHeartbeats 4000000 in
theorem lw_c43 {p : Program} {l : Launch} {e : Env} {s : State} {m : MethodId} {below : List Frame} {meth : Method} {c : Code} {b L : Nat} {xs : Nat → Int32} {X : XW} {xo mo : Nat} {σ0 : ST} {cells slots : Nat} {Q : State → Prop} {lb : Nat → Nat} (hcl : tb_Cls X lb xo mo) (hal : al_C X lb xo mo) (E : q_E p c cL_law s m #[Value.ref b] RL X) (hX : va_X b L xs s s.heap) (hbl : b < s.heap.size) (hbA : ¬ q_reg X b) (hml : c.maxLocals = 4) (hxo : q_kd X xo = 11) (hmo : q_kd X mo = 12) (hcs : cells ≤ room_1.cells ∧ slots ≤ room_1.slots) (hL : L ≤ 3072) {i : Nat} (hi : i + 6 ≤ L) {n : Int} (hn : 0 ≤ n ∧ n ≤ 199000) {σ : ST} {H : Heap} {locs : List Loc} {ls : Array Slot} (hI : q_I X 0 σ0 s.heap locs σ H) (hM : m_M (m_c X σ mo) (σ.1 mo 24).toInt n) (hl : lv_has ls 4 [(3, .int (nI i)), (2, .ref mo), (1, .ref xo), (0, .ref b)]) (hE : lw_E xo mo σ) (hB : lw_B X xo mo σ) (hA : al_R X xo mo σ σ)
    (kk : ∀ (σ : ST) (H : Heap) (locs : List Loc), q_I X 0 σ0 s.heap locs σ H → m_M (m_c X σ mo) (σ.1 mo 24).toInt (n + 301) → lw_E xo mo σ → lw_B X xo mo σ → al_R X xo mo σ σ → W p l e room_1 s m #[Value.ref b] below meth c H locs cells slots Q (F0 m 1796 ls [])) : W p l e room_1 s m #[Value.ref b] below meth c H locs cells slots Q (F0 m 1523 ls []) := by
  have hx := E.1
  have hb := E.2.1
  have hI0 := hI
  have hE0 := hE
  have hB0 := hB
  have hA0 := hA
  have hM0 := hM
  refine lv_aload_n hx hb dL_law_1523 rfl (lv_at hl 2 rfl) ?_
  refine lv_aload_n hx hb dL_law_1524 rfl (lv_at hl 3 rfl) ?_
  refine lv_iload_n hx hb dL_law_1525 rfl (lv_at hl 0 rfl) ?_
  refine lv_iconst (v := 1) hx hb dL_law_1526 (by decide) ?_
  refine lv_iadd hx hb dL_law_1527 ?_
  refine va_sld hx hb hX hbl hbA hI.S (lw_in (j := 1) (by decide) (by omega) hL) dL_law_1528 ?_
  refine lv_aload_n hx hb dL_law_1529 rfl (lv_at hl 3 rfl) ?_
  refine lv_iload_n hx hb dL_law_1530 rfl (lv_at hl 0 rfl) ?_
  refine lv_iconst (v := 2) hx hb dL_law_1531 (by decide) ?_
  refine lv_iadd hx hb dL_law_1532 ?_
  refine va_sld hx hb hX hbl hbA hI.S (lw_in (j := 2) (by decide) (by omega) hL) dL_law_1533 ?_
  refine lv_aload_n hx hb dL_law_1534 rfl (lv_at hl 3 rfl) ?_
  refine lv_iload_n hx hb dL_law_1535 rfl (lv_at hl 0 rfl) ?_
  refine lv_iconst (v := 3) hx hb dL_law_1536 (by decide) ?_
  refine lv_iadd hx hb dL_law_1537 ?_
  refine va_sld hx hb hX hbl hbA hI.S (lw_in (j := 3) (by decide) (by omega) hL) dL_law_1538 ?_
  have h3 := (q_bd hI hmo (rfl : q_bn 12 24 = (0, 3))).2
  refine q_ci (q_runV (As := [.int (xs (nI i + 1).toNatClampNeg), .int (xs (nI i + 2).toNatClampNeg), .int (xs (nI i + 3).toNatClampNeg)]) (rest := []) E (hml.trans hl.1.symm) hI (c_X11_guess l X σ xo ((xs (nI i + 1).toNatClampNeg)) ((xs (nI i + 2).toNatClampNeg)) ((xs (nI i + 3).toNatClampNeg)) hxo) kl_199 hxo ⟨rfl, by decide⟩ (show vwCl[10]? = some (RX11, TX11, 17) from rfl) rfl ⟨Nat.le_of_ble_eq_true rfl, Nat.le_of_ble_eq_true rfl⟩ hcs rfl (Nat.le_of_ble_eq_true rfl) dL_law_1539) hI (by decide) (fun r1 σ1 H locs hp hk hI => ?_)
  obtain ⟨pq0, hex1, how1⟩ := hp
  have hp := pq0
  have hB := lw_BK how1 hI.1 hxo hmo rfl rfl (how1.1 xo 5 (by rw [hxo]; rfl)) hB
  have hA1 := hA0.pre hal how1 rfl
  have hA := (hA.post hal how1 rfl).pre hal how1 rfl
  have hE := lw_EK hk (by decide) hxo hmo hE
  have hM := lw_kM hk hI.1 hmo (by decide) hM
  have hpp1 := hp
  have hMc := hM
  clear hp hk
  clear h3
  refine lv_pop hx hb dL_law_1542 rfl ?_
  refine lv_aload_n hx hb dL_law_1543 rfl (lv_at hl 1 rfl) ?_
  refine lv_aload_n hx hb dL_law_1544 rfl (lv_at hl 3 rfl) ?_
  refine lv_iload_n hx hb dL_law_1545 rfl (lv_at hl 0 rfl) ?_
  refine lv_iconst (v := 1) hx hb dL_law_1546 (by decide) ?_
  refine lv_iadd hx hb dL_law_1547 ?_
  refine va_sld hx hb hX hbl hbA hI.S (lw_in (j := 1) (by decide) (by omega) hL) dL_law_1548 ?_
  refine lv_aload_n hx hb dL_law_1549 rfl (lv_at hl 3 rfl) ?_
  refine lv_iload_n hx hb dL_law_1550 rfl (lv_at hl 0 rfl) ?_
  refine lv_iconst (v := 2) hx hb dL_law_1551 (by decide) ?_
  refine lv_iadd hx hb dL_law_1552 ?_
  refine va_sld hx hb hX hbl hbA hI.S (lw_in (j := 2) (by decide) (by omega) hL) dL_law_1553 ?_
  refine lv_aload_n hx hb dL_law_1554 rfl (lv_at hl 3 rfl) ?_
  refine lv_iload_n hx hb dL_law_1555 rfl (lv_at hl 0 rfl) ?_
  refine lv_iconst (v := 3) hx hb dL_law_1556 (by decide) ?_
  refine lv_iadd hx hb dL_law_1557 ?_
  refine va_sld hx hb hX hbl hbA hI.S (lw_in (j := 3) (by decide) (by omega) hL) dL_law_1558 ?_
  have h3 := (q_bd hI hmo (rfl : q_bn 12 24 = (0, 3))).2
  refine q_ci (q_runV (As := [.int (xs (nI i + 1).toNatClampNeg), .int (xs (nI i + 2).toNatClampNeg), .int (xs (nI i + 3).toNatClampNeg)]) (rest := []) E (hml.trans hl.1.symm) hI (c_X12_guess l X σ1 mo ((xs (nI i + 1).toNatClampNeg)) ((xs (nI i + 2).toNatClampNeg)) ((xs (nI i + 3).toNatClampNeg)) hmo hM.1.1) kl_202 hmo ⟨rfl, by decide⟩ (show vwCl[11]? = some (RX12, TX12, 46) from rfl) rfl ⟨Nat.le_of_ble_eq_true rfl, Nat.le_of_ble_eq_true rfl⟩ hcs rfl (Nat.le_of_ble_eq_true rfl) dL_law_1559) hI (by decide) (fun r2 σ2 H locs hp hk hI => ?_)
  obtain ⟨pq0, hex2, how2⟩ := hp
  have hp := pq0
  have hB := lw_BK how2 hI.1 hxo hmo rfl rfl (how2.1 xo 5 (by rw [hxo]; rfl)) hB
  have hA := (hA.post hal how2 rfl).pre hal how2 rfl
  have hE := lw_EK hk (by decide) hxo hmo hE
  have hM := lw_up (lw_kM hk hI.1 hmo (by decide) hM) (q_bd hI hmo (rfl : q_bn 12 24 = (0, 3))).2
  have hpp2 := hp
  clear hp hk
  clear h3
  refine lv_pop hx hb dL_law_1562 rfl ?_
  refine lv_goto (tgt := 1796) hx hb dL_law_1563 (by decide) ?_
  exact kk _ _ _ hI hM hE hB hA

set_option maxRecDepth 100000 in
set_option maxHeartbeats 4000000 in
theorem lw_c44 {p : Program} {l : Launch} {e : Env} {s : State} {m : MethodId} {below : List Frame} {meth : Method} {c : Code} {b L : Nat} {xs : Nat → Int32} {X : XW} {xo mo : Nat} {σ0 : ST} {cells slots : Nat} {Q : State → Prop} {lb : Nat → Nat} (hcl : tb_Cls X lb xo mo) (hal : al_C X lb xo mo) (E : q_E p c cL_law s m #[Value.ref b] RL X) (hX : va_X b L xs s s.heap) (hbl : b < s.heap.size) (hbA : ¬ q_reg X b) (hml : c.maxLocals = 4) (hxo : q_kd X xo = 11) (hmo : q_kd X mo = 12) (hcs : cells ≤ room_1.cells ∧ slots ≤ room_1.slots) (hL : L ≤ 3072) {i : Nat} (hi : i + 6 ≤ L) {n : Int} (hn : 0 ≤ n ∧ n ≤ 199000) {σ : ST} {H : Heap} {locs : List Loc} {ls : Array Slot} (hI : q_I X 0 σ0 s.heap locs σ H) (hM : m_M (m_c X σ mo) (σ.1 mo 24).toInt n) (hl : lv_has ls 4 [(3, .int (nI i)), (2, .ref mo), (1, .ref xo), (0, .ref b)]) (hE : lw_E xo mo σ) (hB : lw_B X xo mo σ) (hA : al_R X xo mo σ σ)
    (kk : ∀ (σ : ST) (H : Heap) (locs : List Loc), q_I X 0 σ0 s.heap locs σ H → m_M (m_c X σ mo) (σ.1 mo 24).toInt (n + 301) → lw_E xo mo σ → lw_B X xo mo σ → al_R X xo mo σ σ → W p l e room_1 s m #[Value.ref b] below meth c H locs cells slots Q (F0 m 1796 ls [])) : W p l e room_1 s m #[Value.ref b] below meth c H locs cells slots Q (F0 m 1566 ls []) := by
  have hx := E.1
  have hb := E.2.1
  have hI0 := hI
  have hE0 := hE
  have hB0 := hB
  have hA0 := hA
  have hM0 := hM
  refine lv_aload_n hx hb dL_law_1566 rfl (lv_at hl 2 rfl) ?_
  have h3 := (q_bd hI hmo (rfl : q_bn 12 24 = (0, 3))).2
  refine q_ci (q_runV (As := []) (rest := []) E (hml.trans hl.1.symm) hI (c_X11_fullest l X σ xo hxo) kl_203 hxo ⟨rfl, by decide⟩ (show vwCl[10]? = some (RX11, TX11, 17) from rfl) rfl ⟨Nat.le_of_ble_eq_true rfl, Nat.le_of_ble_eq_true rfl⟩ hcs rfl (Nat.le_of_ble_eq_true rfl) dL_law_1567) hI (by decide) (fun r1 σ1 H locs hp hk hI => ?_)
  obtain ⟨hex1, how1⟩ := hp
  have hp := True.intro
  have hB := lw_BK how1 hI.1 hxo hmo rfl rfl (how1.1 xo 5 (by rw [hxo]; rfl)) hB
  have hA1 := hA0.pre hal how1 rfl
  have hA := (hA.post hal how1 rfl).pre hal how1 rfl
  have hE := lw_EK hk (by decide) hxo hmo hE
  have hM := lw_kM hk hI.1 hmo (by decide) hM
  have hpp1 := hp
  have hMc := hM
  clear hp hk
  clear h3
  refine lv_pop hx hb dL_law_1570 rfl ?_
  refine lv_aload_n hx hb dL_law_1571 rfl (lv_at hl 1 rfl) ?_
  have h3 := (q_bd hI hmo (rfl : q_bn 12 24 = (0, 3))).2
  refine q_ci (q_runV (As := []) (rest := []) E (hml.trans hl.1.symm) hI (c_X12_fullest l X σ1 mo hmo hM.1.1) kl_206 hmo ⟨rfl, by decide⟩ (show vwCl[11]? = some (RX12, TX12, 46) from rfl) rfl ⟨Nat.le_of_ble_eq_true rfl, Nat.le_of_ble_eq_true rfl⟩ hcs rfl (Nat.le_of_ble_eq_true rfl) dL_law_1572) hI (by decide) (fun r2 σ2 H locs hp hk hI => ?_)
  obtain ⟨hex2, how2⟩ := hp
  have hp := True.intro
  have hB := lw_BK how2 hI.1 hxo hmo rfl rfl (how2.1 xo 5 (by rw [hxo]; rfl)) hB
  have hA := (hA.post hal how2 rfl).pre hal how2 rfl
  have hE := lw_EK hk (by decide) hxo hmo hE
  have hM := lw_up (lw_kM hk hI.1 hmo (by decide) hM) (q_bd hI hmo (rfl : q_bn 12 24 = (0, 3))).2
  have hpp2 := hp
  clear hp hk
  clear h3
  refine lv_pop hx hb dL_law_1575 rfl ?_
  refine lv_goto (tgt := 1796) hx hb dL_law_1576 (by decide) ?_
  exact kk _ _ _ hI hM hE hB hA

set_option maxRecDepth 100000 in
set_option maxHeartbeats 4000000 in
theorem lw_c45 {p : Program} {l : Launch} {e : Env} {s : State} {m : MethodId} {below : List Frame} {meth : Method} {c : Code} {b L : Nat} {xs : Nat → Int32} {X : XW} {xo mo : Nat} {σ0 : ST} {cells slots : Nat} {Q : State → Prop} {lb : Nat → Nat} (hcl : tb_Cls X lb xo mo) (hal : al_C X lb xo mo) (E : q_E p c cL_law s m #[Value.ref b] RL X) (hX : va_X b L xs s s.heap) (hbl : b < s.heap.size) (hbA : ¬ q_reg X b) (hml : c.maxLocals = 4) (hxo : q_kd X xo = 11) (hmo : q_kd X mo = 12) (hcs : cells ≤ room_1.cells ∧ slots ≤ room_1.slots) (hL : L ≤ 3072) {i : Nat} (hi : i + 6 ≤ L) {n : Int} (hn : 0 ≤ n ∧ n ≤ 199000) {σ : ST} {H : Heap} {locs : List Loc} {ls : Array Slot} (hI : q_I X 0 σ0 s.heap locs σ H) (hM : m_M (m_c X σ mo) (σ.1 mo 24).toInt n) (hl : lv_has ls 4 [(3, .int (nI i)), (2, .ref mo), (1, .ref xo), (0, .ref b)]) (hE : lw_E xo mo σ) (hB : lw_B X xo mo σ) (hA : al_R X xo mo σ σ)
    (kk : ∀ (σ : ST) (H : Heap) (locs : List Loc), q_I X 0 σ0 s.heap locs σ H → m_M (m_c X σ mo) (σ.1 mo 24).toInt (n + 301) → lw_E xo mo σ → lw_B X xo mo σ → al_R X xo mo σ σ → W p l e room_1 s m #[Value.ref b] below meth c H locs cells slots Q (F0 m 1796 ls [])) : W p l e room_1 s m #[Value.ref b] below meth c H locs cells slots Q (F0 m 1579 ls []) := by
  have hx := E.1
  have hb := E.2.1
  have hI0 := hI
  have hE0 := hE
  have hB0 := hB
  have hA0 := hA
  have hM0 := hM
  refine lv_aload_n hx hb dL_law_1579 rfl (lv_at hl 2 rfl) ?_
  refine lv_aload_n hx hb dL_law_1580 rfl (lv_at hl 3 rfl) ?_
  refine lv_iload_n hx hb dL_law_1581 rfl (lv_at hl 0 rfl) ?_
  refine lv_iconst (v := 1) hx hb dL_law_1582 (by decide) ?_
  refine lv_iadd hx hb dL_law_1583 ?_
  refine va_sld hx hb hX hbl hbA hI.S (lw_in (j := 1) (by decide) (by omega) hL) dL_law_1584 ?_
  have h3 := (q_bd hI hmo (rfl : q_bn 12 24 = (0, 3))).2
  refine q_ci (q_runV (As := [.int (xs (nI i + 1).toNatClampNeg)]) (rest := []) E (hml.trans hl.1.symm) hI (c_X11_quartet l X σ xo ((xs (nI i + 1).toNatClampNeg)) hxo) kl_207 hxo ⟨rfl, by decide⟩ (show vwCl[10]? = some (RX11, TX11, 17) from rfl) rfl ⟨Nat.le_of_ble_eq_true rfl, Nat.le_of_ble_eq_true rfl⟩ hcs rfl (Nat.le_of_ble_eq_true rfl) dL_law_1585) hI (by decide) (fun r1 σ1 H locs hp hk hI => ?_)
  obtain ⟨hex1, how1⟩ := hp
  have hp := True.intro
  have hB := lw_BK how1 hI.1 hxo hmo rfl rfl (how1.1 xo 5 (by rw [hxo]; rfl)) hB
  have hA1 := hA0.pre hal how1 rfl
  have hA := (hA.post hal how1 rfl).pre hal how1 rfl
  have hE := lw_EK hk (by decide) hxo hmo hE
  have hM := lw_kM hk hI.1 hmo (by decide) hM
  have hpp1 := hp
  have hMc := hM
  clear hp hk
  clear h3
  refine lv_pop hx hb dL_law_1588 rfl ?_
  refine lv_aload_n hx hb dL_law_1589 rfl (lv_at hl 1 rfl) ?_
  refine lv_aload_n hx hb dL_law_1590 rfl (lv_at hl 3 rfl) ?_
  refine lv_iload_n hx hb dL_law_1591 rfl (lv_at hl 0 rfl) ?_
  refine lv_iconst (v := 1) hx hb dL_law_1592 (by decide) ?_
  refine lv_iadd hx hb dL_law_1593 ?_
  refine va_sld hx hb hX hbl hbA hI.S (lw_in (j := 1) (by decide) (by omega) hL) dL_law_1594 ?_
  have h3 := (q_bd hI hmo (rfl : q_bn 12 24 = (0, 3))).2
  refine q_ci (q_runV (As := [.int (xs (nI i + 1).toNatClampNeg)]) (rest := []) E (hml.trans hl.1.symm) hI (c_X12_quartet l X σ1 mo ((xs (nI i + 1).toNatClampNeg)) hmo hM.1.1) kl_210 hmo ⟨rfl, by decide⟩ (show vwCl[11]? = some (RX12, TX12, 46) from rfl) rfl ⟨Nat.le_of_ble_eq_true rfl, Nat.le_of_ble_eq_true rfl⟩ hcs rfl (Nat.le_of_ble_eq_true rfl) dL_law_1595) hI (by decide) (fun r2 σ2 H locs hp hk hI => ?_)
  obtain ⟨hex2, how2⟩ := hp
  have hp := True.intro
  have hB := lw_BK how2 hI.1 hxo hmo rfl rfl (how2.1 xo 5 (by rw [hxo]; rfl)) hB
  have hA := (hA.post hal how2 rfl).pre hal how2 rfl
  have hE := lw_EK hk (by decide) hxo hmo hE
  have hM := lw_up (lw_kM hk hI.1 hmo (by decide) hM) (q_bd hI hmo (rfl : q_bn 12 24 = (0, 3))).2
  have hpp2 := hp
  clear hp hk
  clear h3
  refine lv_pop hx hb dL_law_1598 rfl ?_
  refine lv_goto (tgt := 1796) hx hb dL_law_1599 (by decide) ?_
  exact kk _ _ _ hI hM hE hB hA

set_option maxRecDepth 100000 in
set_option maxHeartbeats 4000000 in
theorem lw_c46 {p : Program} {l : Launch} {e : Env} {s : State} {m : MethodId} {below : List Frame} {meth : Method} {c : Code} {b L : Nat} {xs : Nat → Int32} {X : XW} {xo mo : Nat} {σ0 : ST} {cells slots : Nat} {Q : State → Prop} {lb : Nat → Nat} (hcl : tb_Cls X lb xo mo) (hal : al_C X lb xo mo) (E : q_E p c cL_law s m #[Value.ref b] RL X) (hX : va_X b L xs s s.heap) (hbl : b < s.heap.size) (hbA : ¬ q_reg X b) (hml : c.maxLocals = 4) (hxo : q_kd X xo = 11) (hmo : q_kd X mo = 12) (hcs : cells ≤ room_1.cells ∧ slots ≤ room_1.slots) (hL : L ≤ 3072) {i : Nat} (hi : i + 6 ≤ L) {n : Int} (hn : 0 ≤ n ∧ n ≤ 199000) {σ : ST} {H : Heap} {locs : List Loc} {ls : Array Slot} (hI : q_I X 0 σ0 s.heap locs σ H) (hM : m_M (m_c X σ mo) (σ.1 mo 24).toInt n) (hl : lv_has ls 4 [(3, .int (nI i)), (2, .ref mo), (1, .ref xo), (0, .ref b)]) (hE : lw_E xo mo σ) (hB : lw_B X xo mo σ) (hA : al_R X xo mo σ σ)
    (kk : ∀ (σ : ST) (H : Heap) (locs : List Loc), q_I X 0 σ0 s.heap locs σ H → m_M (m_c X σ mo) (σ.1 mo 24).toInt (n + 301) → lw_E xo mo σ → lw_B X xo mo σ → al_R X xo mo σ σ → W p l e room_1 s m #[Value.ref b] below meth c H locs cells slots Q (F0 m 1796 ls [])) : W p l e room_1 s m #[Value.ref b] below meth c H locs cells slots Q (F0 m 1602 ls []) := by
  have hx := E.1
  have hb := E.2.1
  have hI0 := hI
  have hE0 := hE
  have hB0 := hB
  have hA0 := hA
  have hM0 := hM
  refine lv_aload_n hx hb dL_law_1602 rfl (lv_at hl 2 rfl) ?_
  refine lv_aload_n hx hb dL_law_1603 rfl (lv_at hl 3 rfl) ?_
  refine lv_iload_n hx hb dL_law_1604 rfl (lv_at hl 0 rfl) ?_
  refine lv_iconst (v := 1) hx hb dL_law_1605 (by decide) ?_
  refine lv_iadd hx hb dL_law_1606 ?_
  refine va_sld hx hb hX hbl hbA hI.S (lw_in (j := 1) (by decide) (by omega) hL) dL_law_1607 ?_
  have h3 := (q_bd hI hmo (rfl : q_bn 12 24 = (0, 3))).2
  refine q_ci (q_runV (As := [.int (xs (nI i + 1).toNatClampNeg)]) (rest := []) E (hml.trans hl.1.symm) hI (c_X11_sorts l X σ xo ((xs (nI i + 1).toNatClampNeg)) hxo) kl_211 hxo ⟨rfl, by decide⟩ (show vwCl[10]? = some (RX11, TX11, 17) from rfl) rfl ⟨Nat.le_of_ble_eq_true rfl, Nat.le_of_ble_eq_true rfl⟩ hcs rfl (Nat.le_of_ble_eq_true rfl) dL_law_1608) hI (by decide) (fun r1 σ1 H locs hp hk hI => ?_)
  obtain ⟨hex1, how1⟩ := hp
  have hp := True.intro
  have hB := lw_BK how1 hI.1 hxo hmo rfl rfl (how1.1 xo 5 (by rw [hxo]; rfl)) hB
  have hA1 := hA0.pre hal how1 rfl
  have hA := (hA.post hal how1 rfl).pre hal how1 rfl
  have hE := lw_EK hk (by decide) hxo hmo hE
  have hM := lw_kM hk hI.1 hmo (by decide) hM
  have hpp1 := hp
  have hMc := hM
  clear hp hk
  clear h3
  refine lv_pop hx hb dL_law_1611 rfl ?_
  refine lv_aload_n hx hb dL_law_1612 rfl (lv_at hl 1 rfl) ?_
  refine lv_aload_n hx hb dL_law_1613 rfl (lv_at hl 3 rfl) ?_
  refine lv_iload_n hx hb dL_law_1614 rfl (lv_at hl 0 rfl) ?_
  refine lv_iconst (v := 1) hx hb dL_law_1615 (by decide) ?_
  refine lv_iadd hx hb dL_law_1616 ?_
  refine va_sld hx hb hX hbl hbA hI.S (lw_in (j := 1) (by decide) (by omega) hL) dL_law_1617 ?_
  have h3 := (q_bd hI hmo (rfl : q_bn 12 24 = (0, 3))).2
  refine q_ci (q_runV (As := [.int (xs (nI i + 1).toNatClampNeg)]) (rest := []) E (hml.trans hl.1.symm) hI (c_X12_sorts l X σ1 mo ((xs (nI i + 1).toNatClampNeg)) hmo hM.1.1) kl_214 hmo ⟨rfl, by decide⟩ (show vwCl[11]? = some (RX12, TX12, 46) from rfl) rfl ⟨Nat.le_of_ble_eq_true rfl, Nat.le_of_ble_eq_true rfl⟩ hcs rfl (Nat.le_of_ble_eq_true rfl) dL_law_1618) hI (by decide) (fun r2 σ2 H locs hp hk hI => ?_)
  obtain ⟨hex2, how2⟩ := hp
  have hp := True.intro
  have hB := lw_BK how2 hI.1 hxo hmo rfl rfl (how2.1 xo 5 (by rw [hxo]; rfl)) hB
  have hA := (hA.post hal how2 rfl).pre hal how2 rfl
  have hE := lw_EK hk (by decide) hxo hmo hE
  have hM := lw_up (lw_kM hk hI.1 hmo (by decide) hM) (q_bd hI hmo (rfl : q_bn 12 24 = (0, 3))).2
  have hpp2 := hp
  clear hp hk
  clear h3
  refine lv_pop hx hb dL_law_1621 rfl ?_
  refine lv_goto (tgt := 1796) hx hb dL_law_1622 (by decide) ?_
  exact kk _ _ _ hI hM hE hB hA

set_option maxRecDepth 100000 in
set_option maxHeartbeats 4000000 in
theorem lw_c47 {p : Program} {l : Launch} {e : Env} {s : State} {m : MethodId} {below : List Frame} {meth : Method} {c : Code} {b L : Nat} {xs : Nat → Int32} {X : XW} {xo mo : Nat} {σ0 : ST} {cells slots : Nat} {Q : State → Prop} {lb : Nat → Nat} (hcl : tb_Cls X lb xo mo) (hal : al_C X lb xo mo) (E : q_E p c cL_law s m #[Value.ref b] RL X) (hX : va_X b L xs s s.heap) (hbl : b < s.heap.size) (hbA : ¬ q_reg X b) (hml : c.maxLocals = 4) (hxo : q_kd X xo = 11) (hmo : q_kd X mo = 12) (hcs : cells ≤ room_1.cells ∧ slots ≤ room_1.slots) (hL : L ≤ 3072) {i : Nat} (hi : i + 6 ≤ L) {n : Int} (hn : 0 ≤ n ∧ n ≤ 199000) {σ : ST} {H : Heap} {locs : List Loc} {ls : Array Slot} (hI : q_I X 0 σ0 s.heap locs σ H) (hM : m_M (m_c X σ mo) (σ.1 mo 24).toInt n) (hl : lv_has ls 4 [(3, .int (nI i)), (2, .ref mo), (1, .ref xo), (0, .ref b)]) (hE : lw_E xo mo σ) (hB : lw_B X xo mo σ) (hA : al_R X xo mo σ σ)
    (kk : ∀ (σ : ST) (H : Heap) (locs : List Loc), q_I X 0 σ0 s.heap locs σ H → m_M (m_c X σ mo) (σ.1 mo 24).toInt (n + 301) → lw_E xo mo σ → lw_B X xo mo σ → al_R X xo mo σ σ → W p l e room_1 s m #[Value.ref b] below meth c H locs cells slots Q (F0 m 1796 ls [])) : W p l e room_1 s m #[Value.ref b] below meth c H locs cells slots Q (F0 m 1625 ls []) := by
  have hx := E.1
  have hb := E.2.1
  have hI0 := hI
  have hE0 := hE
  have hB0 := hB
  have hA0 := hA
  have hM0 := hM
  refine lv_aload_n hx hb dL_law_1625 rfl (lv_at hl 2 rfl) ?_
  have h3 := (q_bd hI hmo (rfl : q_bn 12 24 = (0, 3))).2
  refine q_ci (q_runV (As := []) (rest := []) E (hml.trans hl.1.symm) hI (c_X11_liar l X σ xo hxo) kl_215 hxo ⟨rfl, by decide⟩ (show vwCl[10]? = some (RX11, TX11, 17) from rfl) rfl ⟨Nat.le_of_ble_eq_true rfl, Nat.le_of_ble_eq_true rfl⟩ hcs rfl (Nat.le_of_ble_eq_true rfl) dL_law_1626) hI (by decide) (fun r1 σ1 H locs hp hk hI => ?_)
  obtain ⟨hex1, how1⟩ := hp
  have hp := True.intro
  have hB := lw_BK how1 hI.1 hxo hmo rfl rfl (how1.1 xo 5 (by rw [hxo]; rfl)) hB
  have hA1 := hA0.pre hal how1 rfl
  have hA := (hA.post hal how1 rfl).pre hal how1 rfl
  have hE := lw_EK hk (by decide) hxo hmo hE
  have hM := lw_kM hk hI.1 hmo (by decide) hM
  have hpp1 := hp
  have hMc := hM
  clear hp hk
  clear h3
  refine lv_pop hx hb dL_law_1629 rfl ?_
  refine lv_aload_n hx hb dL_law_1630 rfl (lv_at hl 1 rfl) ?_
  have h3 := (q_bd hI hmo (rfl : q_bn 12 24 = (0, 3))).2
  refine q_ci (q_runV (As := []) (rest := []) E (hml.trans hl.1.symm) hI (c_X12_liar l X σ1 mo hmo hM.1.1) kl_218 hmo ⟨rfl, by decide⟩ (show vwCl[11]? = some (RX12, TX12, 46) from rfl) rfl ⟨Nat.le_of_ble_eq_true rfl, Nat.le_of_ble_eq_true rfl⟩ hcs rfl (Nat.le_of_ble_eq_true rfl) dL_law_1631) hI (by decide) (fun r2 σ2 H locs hp hk hI => ?_)
  obtain ⟨hex2, how2⟩ := hp
  have hp := True.intro
  have hB := lw_BK how2 hI.1 hxo hmo rfl rfl (how2.1 xo 5 (by rw [hxo]; rfl)) hB
  have hA := (hA.post hal how2 rfl).pre hal how2 rfl
  have hE := lw_EK hk (by decide) hxo hmo hE
  have hM := lw_up (lw_kM hk hI.1 hmo (by decide) hM) (q_bd hI hmo (rfl : q_bn 12 24 = (0, 3))).2
  have hpp2 := hp
  clear hp hk
  clear h3
  refine lv_pop hx hb dL_law_1634 rfl ?_
  refine lv_goto (tgt := 1796) hx hb dL_law_1635 (by decide) ?_
  exact kk _ _ _ hI hM hE hB hA

set_option maxRecDepth 100000 in
set_option maxHeartbeats 4000000 in
theorem lw_c48 {p : Program} {l : Launch} {e : Env} {s : State} {m : MethodId} {below : List Frame} {meth : Method} {c : Code} {b L : Nat} {xs : Nat → Int32} {X : XW} {xo mo : Nat} {σ0 : ST} {cells slots : Nat} {Q : State → Prop} {lb : Nat → Nat} (hcl : tb_Cls X lb xo mo) (hal : al_C X lb xo mo) (E : q_E p c cL_law s m #[Value.ref b] RL X) (hX : va_X b L xs s s.heap) (hbl : b < s.heap.size) (hbA : ¬ q_reg X b) (hml : c.maxLocals = 4) (hxo : q_kd X xo = 11) (hmo : q_kd X mo = 12) (hcs : cells ≤ room_1.cells ∧ slots ≤ room_1.slots) (hL : L ≤ 3072) {i : Nat} (hi : i + 6 ≤ L) {n : Int} (hn : 0 ≤ n ∧ n ≤ 199000) {σ : ST} {H : Heap} {locs : List Loc} {ls : Array Slot} (hI : q_I X 0 σ0 s.heap locs σ H) (hM : m_M (m_c X σ mo) (σ.1 mo 24).toInt n) (hl : lv_has ls 4 [(3, .int (nI i)), (2, .ref mo), (1, .ref xo), (0, .ref b)]) (hE : lw_E xo mo σ) (hB : lw_B X xo mo σ) (hA : al_R X xo mo σ σ)
    (kk : ∀ (σ : ST) (H : Heap) (locs : List Loc), q_I X 0 σ0 s.heap locs σ H → m_M (m_c X σ mo) (σ.1 mo 24).toInt (n + 301) → lw_E xo mo σ → lw_B X xo mo σ → al_R X xo mo σ σ → W p l e room_1 s m #[Value.ref b] below meth c H locs cells slots Q (F0 m 1796 ls [])) : W p l e room_1 s m #[Value.ref b] below meth c H locs cells slots Q (F0 m 1638 ls []) := by
  have hx := E.1
  have hb := E.2.1
  have hI0 := hI
  have hE0 := hE
  have hB0 := hB
  have hA0 := hA
  have hM0 := hM
  refine lv_aload_n hx hb dL_law_1638 rfl (lv_at hl 2 rfl) ?_
  refine lv_aload_n hx hb dL_law_1639 rfl (lv_at hl 3 rfl) ?_
  refine lv_iload_n hx hb dL_law_1640 rfl (lv_at hl 0 rfl) ?_
  refine lv_iconst (v := 1) hx hb dL_law_1641 (by decide) ?_
  refine lv_iadd hx hb dL_law_1642 ?_
  refine va_sld hx hb hX hbl hbA hI.S (lw_in (j := 1) (by decide) (by omega) hL) dL_law_1643 ?_
  have h3 := (q_bd hI hmo (rfl : q_bn 12 24 = (0, 3))).2
  refine q_ci (q_runV (As := [.int (xs (nI i + 1).toNatClampNeg)]) (rest := []) E (hml.trans hl.1.symm) hI (c_X11_play l X σ xo ((xs (nI i + 1).toNatClampNeg)) hxo) kl_219 hxo ⟨rfl, by decide⟩ (show vwCl[10]? = some (RX11, TX11, 17) from rfl) rfl ⟨Nat.le_of_ble_eq_true rfl, Nat.le_of_ble_eq_true rfl⟩ hcs rfl (Nat.le_of_ble_eq_true rfl) dL_law_1644) hI (by decide) (fun r1 σ1 H locs hp hk hI => ?_)
  obtain ⟨hex1, how1⟩ := hp
  have hp := True.intro
  have hB := lw_BK how1 hI.1 hxo hmo rfl rfl (how1.1 xo 5 (by rw [hxo]; rfl)) hB
  have hA1 := hA0.pre hal how1 rfl
  have hE := lw_EK hk (by decide) hxo hmo hE
  have hM := lw_kM hk hI.1 hmo (by decide) hM
  have hpp1 := hp
  have hMc := hM
  clear hp hk
  clear h3
  refine lv_pop hx hb dL_law_1647 rfl ?_
  refine lv_aload_n hx hb dL_law_1648 rfl (lv_at hl 1 rfl) ?_
  refine lv_aload_n hx hb dL_law_1649 rfl (lv_at hl 3 rfl) ?_
  refine lv_iload_n hx hb dL_law_1650 rfl (lv_at hl 0 rfl) ?_
  refine lv_iconst (v := 1) hx hb dL_law_1651 (by decide) ?_
  refine lv_iadd hx hb dL_law_1652 ?_
  refine va_sld hx hb hX hbl hbA hI.S (lw_in (j := 1) (by decide) (by omega) hL) dL_law_1653 ?_
  have h3 := (q_bd hI hmo (rfl : q_bn 12 24 = (0, 3))).2
  refine q_ci (q_runV (As := [.int (xs (nI i + 1).toNatClampNeg)]) (rest := []) E (hml.trans hl.1.symm) hI (c_X12_play l X σ1 mo ((xs (nI i + 1).toNatClampNeg)) n hmo hM.1.1 hM.1.2 hn) kl_222 hmo ⟨rfl, by decide⟩ (show vwCl[11]? = some (RX12, TX12, 46) from rfl) rfl ⟨Nat.le_of_ble_eq_true rfl, Nat.le_of_ble_eq_true rfl⟩ hcs rfl (Nat.le_of_ble_eq_true rfl) dL_law_1654) hI (by decide) (fun r2 σ2 H locs hp hk hI => ?_)
  obtain ⟨pq0, pq1, pq2, hex2, how2⟩ := hp
  have hp := And.intro pq0 (And.intro pq1 pq2)
  have hB := lw_BK how2 hI.1 hxo hmo rfl rfl (how2.1 xo 5 (by rw [hxo]; rfl)) hB
  have hO := lw_Aob hal (al_play hal hA1 hMc (by omega) ((xs (nI i + 1).toNatClampNeg))).1 hex1 hex2 how2 rfl
  have hA := hO.2
  have hE := lw_EK hk (by decide) hxo hmo hE
  have hM := lw_wr (hk mo 24 (by rw [hmo]; decide)) hp.1 hp.2.1 hp.2.2 hM h3 (by omega)
  have hpp2 := hp
  clear hp hk
  clear h3
  refine lv_pop hx hb dL_law_1657 rfl ?_
  refine lv_goto (tgt := 1796) hx hb dL_law_1658 (by decide) ?_
  exact kk _ _ _ hI hM hE hB hA

set_option maxRecDepth 100000 in
set_option maxHeartbeats 4000000 in
theorem lw_c49 {p : Program} {l : Launch} {e : Env} {s : State} {m : MethodId} {below : List Frame} {meth : Method} {c : Code} {b L : Nat} {xs : Nat → Int32} {X : XW} {xo mo : Nat} {σ0 : ST} {cells slots : Nat} {Q : State → Prop} {lb : Nat → Nat} (hcl : tb_Cls X lb xo mo) (hal : al_C X lb xo mo) (E : q_E p c cL_law s m #[Value.ref b] RL X) (hX : va_X b L xs s s.heap) (hbl : b < s.heap.size) (hbA : ¬ q_reg X b) (hml : c.maxLocals = 4) (hxo : q_kd X xo = 11) (hmo : q_kd X mo = 12) (hcs : cells ≤ room_1.cells ∧ slots ≤ room_1.slots) (hL : L ≤ 3072) {i : Nat} (hi : i + 6 ≤ L) {n : Int} (hn : 0 ≤ n ∧ n ≤ 199000) {σ : ST} {H : Heap} {locs : List Loc} {ls : Array Slot} (hI : q_I X 0 σ0 s.heap locs σ H) (hM : m_M (m_c X σ mo) (σ.1 mo 24).toInt n) (hl : lv_has ls 4 [(3, .int (nI i)), (2, .ref mo), (1, .ref xo), (0, .ref b)]) (hE : lw_E xo mo σ) (hB : lw_B X xo mo σ) (hA : al_R X xo mo σ σ)
    (kk : ∀ (σ : ST) (H : Heap) (locs : List Loc), q_I X 0 σ0 s.heap locs σ H → m_M (m_c X σ mo) (σ.1 mo 24).toInt (n + 301) → lw_E xo mo σ → lw_B X xo mo σ → al_R X xo mo σ σ → W p l e room_1 s m #[Value.ref b] below meth c H locs cells slots Q (F0 m 1796 ls [])) : W p l e room_1 s m #[Value.ref b] below meth c H locs cells slots Q (F0 m 1661 ls []) := by
  have hx := E.1
  have hb := E.2.1
  have hI0 := hI
  have hE0 := hE
  have hB0 := hB
  have hA0 := hA
  have hM0 := hM
  refine lv_aload_n hx hb dL_law_1661 rfl (lv_at hl 2 rfl) ?_
  refine lv_aload_n hx hb dL_law_1662 rfl (lv_at hl 3 rfl) ?_
  refine lv_iload_n hx hb dL_law_1663 rfl (lv_at hl 0 rfl) ?_
  refine lv_iconst (v := 1) hx hb dL_law_1664 (by decide) ?_
  refine lv_iadd hx hb dL_law_1665 ?_
  refine va_sld hx hb hX hbl hbA hI.S (lw_in (j := 1) (by decide) (by omega) hL) dL_law_1666 ?_
  have h3 := (q_bd hI hmo (rfl : q_bn 12 24 = (0, 3))).2
  refine q_ci (q_runV (As := [.int (xs (nI i + 1).toNatClampNeg)]) (rest := []) E (hml.trans hl.1.symm) hI (c_X11_played l X σ xo ((xs (nI i + 1).toNatClampNeg)) hxo) kl_223 hxo ⟨rfl, by decide⟩ (show vwCl[10]? = some (RX11, TX11, 17) from rfl) rfl ⟨Nat.le_of_ble_eq_true rfl, Nat.le_of_ble_eq_true rfl⟩ hcs rfl (Nat.le_of_ble_eq_true rfl) dL_law_1667) hI (by decide) (fun r1 σ1 H locs hp hk hI => ?_)
  obtain ⟨hex1, how1⟩ := hp
  have hp := True.intro
  have hB := lw_BK how1 hI.1 hxo hmo rfl rfl (how1.1 xo 5 (by rw [hxo]; rfl)) hB
  have hA1 := hA0.pre hal how1 rfl
  have hA := (hA.post hal how1 rfl).pre hal how1 rfl
  have hE := lw_EK hk (by decide) hxo hmo hE
  have hM := lw_kM hk hI.1 hmo (by decide) hM
  have hpp1 := hp
  have hMc := hM
  clear hp hk
  clear h3
  refine lv_pop hx hb dL_law_1670 rfl ?_
  refine lv_aload_n hx hb dL_law_1671 rfl (lv_at hl 1 rfl) ?_
  refine lv_aload_n hx hb dL_law_1672 rfl (lv_at hl 3 rfl) ?_
  refine lv_iload_n hx hb dL_law_1673 rfl (lv_at hl 0 rfl) ?_
  refine lv_iconst (v := 1) hx hb dL_law_1674 (by decide) ?_
  refine lv_iadd hx hb dL_law_1675 ?_
  refine va_sld hx hb hX hbl hbA hI.S (lw_in (j := 1) (by decide) (by omega) hL) dL_law_1676 ?_
  have h3 := (q_bd hI hmo (rfl : q_bn 12 24 = (0, 3))).2
  refine q_ci (q_runV (As := [.int (xs (nI i + 1).toNatClampNeg)]) (rest := []) E (hml.trans hl.1.symm) hI (c_X12_played l X σ1 mo ((xs (nI i + 1).toNatClampNeg)) hmo hM.1.1) kl_226 hmo ⟨rfl, by decide⟩ (show vwCl[11]? = some (RX12, TX12, 46) from rfl) rfl ⟨Nat.le_of_ble_eq_true rfl, Nat.le_of_ble_eq_true rfl⟩ hcs rfl (Nat.le_of_ble_eq_true rfl) dL_law_1677) hI (by decide) (fun r2 σ2 H locs hp hk hI => ?_)
  obtain ⟨hex2, how2⟩ := hp
  have hp := True.intro
  have hB := lw_BK how2 hI.1 hxo hmo rfl rfl (how2.1 xo 5 (by rw [hxo]; rfl)) hB
  have hA := (hA.post hal how2 rfl).pre hal how2 rfl
  have hE := lw_EK hk (by decide) hxo hmo hE
  have hM := lw_up (lw_kM hk hI.1 hmo (by decide) hM) (q_bd hI hmo (rfl : q_bn 12 24 = (0, 3))).2
  have hpp2 := hp
  clear hp hk
  clear h3
  refine lv_pop hx hb dL_law_1680 rfl ?_
  refine lv_goto (tgt := 1796) hx hb dL_law_1681 (by decide) ?_
  exact kk _ _ _ hI hM hE hB hA

set_option maxRecDepth 100000 in
set_option maxHeartbeats 4000000 in
theorem lw_c50 {p : Program} {l : Launch} {e : Env} {s : State} {m : MethodId} {below : List Frame} {meth : Method} {c : Code} {b L : Nat} {xs : Nat → Int32} {X : XW} {xo mo : Nat} {σ0 : ST} {cells slots : Nat} {Q : State → Prop} {lb : Nat → Nat} (hcl : tb_Cls X lb xo mo) (hal : al_C X lb xo mo) (E : q_E p c cL_law s m #[Value.ref b] RL X) (hX : va_X b L xs s s.heap) (hbl : b < s.heap.size) (hbA : ¬ q_reg X b) (hml : c.maxLocals = 4) (hxo : q_kd X xo = 11) (hmo : q_kd X mo = 12) (hcs : cells ≤ room_1.cells ∧ slots ≤ room_1.slots) (hL : L ≤ 3072) {i : Nat} (hi : i + 6 ≤ L) {n : Int} (hn : 0 ≤ n ∧ n ≤ 199000) {σ : ST} {H : Heap} {locs : List Loc} {ls : Array Slot} (hI : q_I X 0 σ0 s.heap locs σ H) (hM : m_M (m_c X σ mo) (σ.1 mo 24).toInt n) (hl : lv_has ls 4 [(3, .int (nI i)), (2, .ref mo), (1, .ref xo), (0, .ref b)]) (hE : lw_E xo mo σ) (hB : lw_B X xo mo σ) (hA : al_R X xo mo σ σ)
    (kk : ∀ (σ : ST) (H : Heap) (locs : List Loc), q_I X 0 σ0 s.heap locs σ H → m_M (m_c X σ mo) (σ.1 mo 24).toInt (n + 301) → lw_E xo mo σ → lw_B X xo mo σ → al_R X xo mo σ σ → W p l e room_1 s m #[Value.ref b] below meth c H locs cells slots Q (F0 m 1796 ls [])) : W p l e room_1 s m #[Value.ref b] below meth c H locs cells slots Q (F0 m 1684 ls []) := by
  have hx := E.1
  have hb := E.2.1
  have hI0 := hI
  have hE0 := hE
  have hB0 := hB
  have hA0 := hA
  have hM0 := hM
  refine lv_aload_n hx hb dL_law_1684 rfl (lv_at hl 2 rfl) ?_
  refine lv_aload_n hx hb dL_law_1685 rfl (lv_at hl 3 rfl) ?_
  refine lv_iload_n hx hb dL_law_1686 rfl (lv_at hl 0 rfl) ?_
  refine lv_iconst (v := 1) hx hb dL_law_1687 (by decide) ?_
  refine lv_iadd hx hb dL_law_1688 ?_
  refine va_sld hx hb hX hbl hbA hI.S (lw_in (j := 1) (by decide) (by omega) hL) dL_law_1689 ?_
  refine lv_aload_n hx hb dL_law_1690 rfl (lv_at hl 3 rfl) ?_
  refine lv_iload_n hx hb dL_law_1691 rfl (lv_at hl 0 rfl) ?_
  refine lv_iconst (v := 2) hx hb dL_law_1692 (by decide) ?_
  refine lv_iadd hx hb dL_law_1693 ?_
  refine va_sld hx hb hX hbl hbA hI.S (lw_in (j := 2) (by decide) (by omega) hL) dL_law_1694 ?_
  refine lv_aload_n hx hb dL_law_1695 rfl (lv_at hl 3 rfl) ?_
  refine lv_iload_n hx hb dL_law_1696 rfl (lv_at hl 0 rfl) ?_
  refine lv_iconst (v := 3) hx hb dL_law_1697 (by decide) ?_
  refine lv_iadd hx hb dL_law_1698 ?_
  refine va_sld hx hb hX hbl hbA hI.S (lw_in (j := 3) (by decide) (by omega) hL) dL_law_1699 ?_
  have h3 := (q_bd hI hmo (rfl : q_bn 12 24 = (0, 3))).2
  refine q_ci (q_runV (As := [.int (xs (nI i + 1).toNatClampNeg), .int (xs (nI i + 2).toNatClampNeg), .int (xs (nI i + 3).toNatClampNeg)]) (rest := []) E (hml.trans hl.1.symm) hI (c_X11_wins l X σ xo ((xs (nI i + 1).toNatClampNeg)) ((xs (nI i + 2).toNatClampNeg)) ((xs (nI i + 3).toNatClampNeg)) hxo) kl_227 hxo ⟨rfl, by decide⟩ (show vwCl[10]? = some (RX11, TX11, 17) from rfl) rfl ⟨Nat.le_of_ble_eq_true rfl, Nat.le_of_ble_eq_true rfl⟩ hcs rfl (Nat.le_of_ble_eq_true rfl) dL_law_1700) hI (by decide) (fun r1 σ1 H locs hp hk hI => ?_)
  obtain ⟨pq0, hex1, how1⟩ := hp
  have hp := pq0
  have hB := lw_BK how1 hI.1 hxo hmo rfl rfl (how1.1 xo 5 (by rw [hxo]; rfl)) hB
  have hA1 := hA0.pre hal how1 rfl
  have hE := lw_EK hk (by decide) hxo hmo hE
  have hM := lw_kM hk hI.1 hmo (by decide) hM
  have hpp1 := hp
  have hMc := hM
  clear hp hk
  clear h3
  refine lv_pop hx hb dL_law_1703 rfl ?_
  refine lv_aload_n hx hb dL_law_1704 rfl (lv_at hl 1 rfl) ?_
  refine lv_aload_n hx hb dL_law_1705 rfl (lv_at hl 3 rfl) ?_
  refine lv_iload_n hx hb dL_law_1706 rfl (lv_at hl 0 rfl) ?_
  refine lv_iconst (v := 1) hx hb dL_law_1707 (by decide) ?_
  refine lv_iadd hx hb dL_law_1708 ?_
  refine va_sld hx hb hX hbl hbA hI.S (lw_in (j := 1) (by decide) (by omega) hL) dL_law_1709 ?_
  refine lv_aload_n hx hb dL_law_1710 rfl (lv_at hl 3 rfl) ?_
  refine lv_iload_n hx hb dL_law_1711 rfl (lv_at hl 0 rfl) ?_
  refine lv_iconst (v := 2) hx hb dL_law_1712 (by decide) ?_
  refine lv_iadd hx hb dL_law_1713 ?_
  refine va_sld hx hb hX hbl hbA hI.S (lw_in (j := 2) (by decide) (by omega) hL) dL_law_1714 ?_
  refine lv_aload_n hx hb dL_law_1715 rfl (lv_at hl 3 rfl) ?_
  refine lv_iload_n hx hb dL_law_1716 rfl (lv_at hl 0 rfl) ?_
  refine lv_iconst (v := 3) hx hb dL_law_1717 (by decide) ?_
  refine lv_iadd hx hb dL_law_1718 ?_
  refine va_sld hx hb hX hbl hbA hI.S (lw_in (j := 3) (by decide) (by omega) hL) dL_law_1719 ?_
  have h3 := (q_bd hI hmo (rfl : q_bn 12 24 = (0, 3))).2
  refine q_ci (q_runV (As := [.int (xs (nI i + 1).toNatClampNeg), .int (xs (nI i + 2).toNatClampNeg), .int (xs (nI i + 3).toNatClampNeg)]) (rest := []) E (hml.trans hl.1.symm) hI (c_X12_wins l X σ1 mo ((xs (nI i + 1).toNatClampNeg)) ((xs (nI i + 2).toNatClampNeg)) ((xs (nI i + 3).toNatClampNeg)) n hmo hM.1.1 hM.1.2 hn) kl_230 hmo ⟨rfl, by decide⟩ (show vwCl[11]? = some (RX12, TX12, 46) from rfl) rfl ⟨Nat.le_of_ble_eq_true rfl, Nat.le_of_ble_eq_true rfl⟩ hcs rfl (Nat.le_of_ble_eq_true rfl) dL_law_1720) hI (by decide) (fun r2 σ2 H locs hp hk hI => ?_)
  obtain ⟨pq0, pq1, hex2, how2⟩ := hp
  have hp := And.intro pq0 pq1
  have hB := lw_BK how2 hI.1 hxo hmo rfl rfl (how2.1 xo 5 (by rw [hxo]; rfl)) hB
  have hO := lw_Aob hal (al_tries hal hA1 hMc (by omega) ((xs (nI i + 1).toNatClampNeg)) ((xs (nI i + 2).toNatClampNeg)) ((xs (nI i + 3).toNatClampNeg))).1 hex1 hex2 how2 rfl
  have hA := hO.2
  have hE := lw_EK hk (by decide) hxo hmo hE
  have hM := lw_up (lw_kC (hk mo 24 (by rw [hmo]; decide)) hp.2 hM) (q_bd hI hmo (rfl : q_bn 12 24 = (0, 3))).2
  have hpp2 := hp
  clear hp hk
  clear h3
  refine lv_pop hx hb dL_law_1723 rfl ?_
  refine lv_goto (tgt := 1796) hx hb dL_law_1724 (by decide) ?_
  exact kk _ _ _ hI hM hE hB hA

set_option maxRecDepth 100000 in
set_option maxHeartbeats 4000000 in
theorem lw_c51 {p : Program} {l : Launch} {e : Env} {s : State} {m : MethodId} {below : List Frame} {meth : Method} {c : Code} {b L : Nat} {xs : Nat → Int32} {X : XW} {xo mo : Nat} {σ0 : ST} {cells slots : Nat} {Q : State → Prop} {lb : Nat → Nat} (hcl : tb_Cls X lb xo mo) (hal : al_C X lb xo mo) (E : q_E p c cL_law s m #[Value.ref b] RL X) (hX : va_X b L xs s s.heap) (hbl : b < s.heap.size) (hbA : ¬ q_reg X b) (hml : c.maxLocals = 4) (hxo : q_kd X xo = 11) (hmo : q_kd X mo = 12) (hcs : cells ≤ room_1.cells ∧ slots ≤ room_1.slots) (hL : L ≤ 3072) {i : Nat} (hi : i + 6 ≤ L) {n : Int} (hn : 0 ≤ n ∧ n ≤ 199000) {σ : ST} {H : Heap} {locs : List Loc} {ls : Array Slot} (hI : q_I X 0 σ0 s.heap locs σ H) (hM : m_M (m_c X σ mo) (σ.1 mo 24).toInt n) (hl : lv_has ls 4 [(3, .int (nI i)), (2, .ref mo), (1, .ref xo), (0, .ref b)]) (hE : lw_E xo mo σ) (hB : lw_B X xo mo σ) (hA : al_R X xo mo σ σ)
    (kk : ∀ (σ : ST) (H : Heap) (locs : List Loc), q_I X 0 σ0 s.heap locs σ H → m_M (m_c X σ mo) (σ.1 mo 24).toInt (n + 301) → lw_E xo mo σ → lw_B X xo mo σ → al_R X xo mo σ σ → W p l e room_1 s m #[Value.ref b] below meth c H locs cells slots Q (F0 m 1796 ls [])) : W p l e room_1 s m #[Value.ref b] below meth c H locs cells slots Q (F0 m 1727 ls []) := by
  have hx := E.1
  have hb := E.2.1
  have hI0 := hI
  have hE0 := hE
  have hB0 := hB
  have hA0 := hA
  have hM0 := hM
  refine lv_aload_n hx hb dL_law_1727 rfl (lv_at hl 2 rfl) ?_
  refine lv_aload_n hx hb dL_law_1728 rfl (lv_at hl 3 rfl) ?_
  refine lv_iload_n hx hb dL_law_1729 rfl (lv_at hl 0 rfl) ?_
  refine lv_iconst (v := 1) hx hb dL_law_1730 (by decide) ?_
  refine lv_iadd hx hb dL_law_1731 ?_
  refine va_sld hx hb hX hbl hbA hI.S (lw_in (j := 1) (by decide) (by omega) hL) dL_law_1732 ?_
  refine lv_aload_n hx hb dL_law_1733 rfl (lv_at hl 3 rfl) ?_
  refine lv_iload_n hx hb dL_law_1734 rfl (lv_at hl 0 rfl) ?_
  refine lv_iconst (v := 2) hx hb dL_law_1735 (by decide) ?_
  refine lv_iadd hx hb dL_law_1736 ?_
  refine va_sld hx hb hX hbl hbA hI.S (lw_in (j := 2) (by decide) (by omega) hL) dL_law_1737 ?_
  refine lv_aload_n hx hb dL_law_1738 rfl (lv_at hl 3 rfl) ?_
  refine lv_iload_n hx hb dL_law_1739 rfl (lv_at hl 0 rfl) ?_
  refine lv_iconst (v := 3) hx hb dL_law_1740 (by decide) ?_
  refine lv_iadd hx hb dL_law_1741 ?_
  refine va_sld hx hb hX hbl hbA hI.S (lw_in (j := 3) (by decide) (by omega) hL) dL_law_1742 ?_
  have h3 := (q_bd hI hmo (rfl : q_bn 12 24 = (0, 3))).2
  refine q_ci (q_runV (As := [.int (xs (nI i + 1).toNatClampNeg), .int (xs (nI i + 2).toNatClampNeg), .int (xs (nI i + 3).toNatClampNeg)]) (rest := []) E (hml.trans hl.1.symm) hI (c_X11_left l X σ xo ((xs (nI i + 1).toNatClampNeg)) ((xs (nI i + 2).toNatClampNeg)) ((xs (nI i + 3).toNatClampNeg)) hxo) kl_231 hxo ⟨rfl, by decide⟩ (show vwCl[10]? = some (RX11, TX11, 17) from rfl) rfl ⟨Nat.le_of_ble_eq_true rfl, Nat.le_of_ble_eq_true rfl⟩ hcs rfl (Nat.le_of_ble_eq_true rfl) dL_law_1743) hI (by decide) (fun r1 σ1 H locs hp hk hI => ?_)
  obtain ⟨pq0, hex1, how1⟩ := hp
  have hp := pq0
  have hB := lw_BK how1 hI.1 hxo hmo rfl rfl (how1.1 xo 5 (by rw [hxo]; rfl)) hB
  have hA1 := hA0.pre hal how1 rfl
  have hE := lw_EK hk (by decide) hxo hmo hE
  have hM := lw_kM hk hI.1 hmo (by decide) hM
  have hpp1 := hp
  have hMc := hM
  clear hp hk
  clear h3
  refine lv_pop hx hb dL_law_1746 rfl ?_
  refine lv_aload_n hx hb dL_law_1747 rfl (lv_at hl 1 rfl) ?_
  refine lv_aload_n hx hb dL_law_1748 rfl (lv_at hl 3 rfl) ?_
  refine lv_iload_n hx hb dL_law_1749 rfl (lv_at hl 0 rfl) ?_
  refine lv_iconst (v := 1) hx hb dL_law_1750 (by decide) ?_
  refine lv_iadd hx hb dL_law_1751 ?_
  refine va_sld hx hb hX hbl hbA hI.S (lw_in (j := 1) (by decide) (by omega) hL) dL_law_1752 ?_
  refine lv_aload_n hx hb dL_law_1753 rfl (lv_at hl 3 rfl) ?_
  refine lv_iload_n hx hb dL_law_1754 rfl (lv_at hl 0 rfl) ?_
  refine lv_iconst (v := 2) hx hb dL_law_1755 (by decide) ?_
  refine lv_iadd hx hb dL_law_1756 ?_
  refine va_sld hx hb hX hbl hbA hI.S (lw_in (j := 2) (by decide) (by omega) hL) dL_law_1757 ?_
  refine lv_aload_n hx hb dL_law_1758 rfl (lv_at hl 3 rfl) ?_
  refine lv_iload_n hx hb dL_law_1759 rfl (lv_at hl 0 rfl) ?_
  refine lv_iconst (v := 3) hx hb dL_law_1760 (by decide) ?_
  refine lv_iadd hx hb dL_law_1761 ?_
  refine va_sld hx hb hX hbl hbA hI.S (lw_in (j := 3) (by decide) (by omega) hL) dL_law_1762 ?_
  have h3 := (q_bd hI hmo (rfl : q_bn 12 24 = (0, 3))).2
  refine q_ci (q_runV (As := [.int (xs (nI i + 1).toNatClampNeg), .int (xs (nI i + 2).toNatClampNeg), .int (xs (nI i + 3).toNatClampNeg)]) (rest := []) E (hml.trans hl.1.symm) hI (c_X12_left l X σ1 mo ((xs (nI i + 1).toNatClampNeg)) ((xs (nI i + 2).toNatClampNeg)) ((xs (nI i + 3).toNatClampNeg)) n hmo hM.1.1 hM.1.2 hn) kl_234 hmo ⟨rfl, by decide⟩ (show vwCl[11]? = some (RX12, TX12, 46) from rfl) rfl ⟨Nat.le_of_ble_eq_true rfl, Nat.le_of_ble_eq_true rfl⟩ hcs rfl (Nat.le_of_ble_eq_true rfl) dL_law_1763) hI (by decide) (fun r2 σ2 H locs hp hk hI => ?_)
  obtain ⟨pq0, pq1, hex2, how2⟩ := hp
  have hp := And.intro pq0 pq1
  have hB := lw_BK how2 hI.1 hxo hmo rfl rfl (how2.1 xo 5 (by rw [hxo]; rfl)) hB
  have hO := lw_Aob hal (al_tries hal hA1 hMc (by omega) ((xs (nI i + 1).toNatClampNeg)) ((xs (nI i + 2).toNatClampNeg)) ((xs (nI i + 3).toNatClampNeg))).2 hex1 hex2 how2 rfl
  have hA := hO.2
  have hE := lw_EK hk (by decide) hxo hmo hE
  have hM := lw_up (lw_kC (hk mo 24 (by rw [hmo]; decide)) hp.2 hM) (q_bd hI hmo (rfl : q_bn 12 24 = (0, 3))).2
  have hpp2 := hp
  clear hp hk
  clear h3
  refine lv_pop hx hb dL_law_1766 rfl ?_
  refine lv_goto (tgt := 1796) hx hb dL_law_1767 (by decide) ?_
  exact kk _ _ _ hI hM hE hB hA

set_option maxRecDepth 100000 in
set_option maxHeartbeats 4000000 in
theorem lw_c52 {p : Program} {l : Launch} {e : Env} {s : State} {m : MethodId} {below : List Frame} {meth : Method} {c : Code} {b L : Nat} {xs : Nat → Int32} {X : XW} {xo mo : Nat} {σ0 : ST} {cells slots : Nat} {Q : State → Prop} {lb : Nat → Nat} (hcl : tb_Cls X lb xo mo) (hal : al_C X lb xo mo) (E : q_E p c cL_law s m #[Value.ref b] RL X) (hX : va_X b L xs s s.heap) (hbl : b < s.heap.size) (hbA : ¬ q_reg X b) (hml : c.maxLocals = 4) (hxo : q_kd X xo = 11) (hmo : q_kd X mo = 12) (hcs : cells ≤ room_1.cells ∧ slots ≤ room_1.slots) (hL : L ≤ 3072) {i : Nat} (hi : i + 6 ≤ L) {n : Int} (hn : 0 ≤ n ∧ n ≤ 199000) {σ : ST} {H : Heap} {locs : List Loc} {ls : Array Slot} (hI : q_I X 0 σ0 s.heap locs σ H) (hM : m_M (m_c X σ mo) (σ.1 mo 24).toInt n) (hl : lv_has ls 4 [(3, .int (nI i)), (2, .ref mo), (1, .ref xo), (0, .ref b)]) (hE : lw_E xo mo σ) (hB : lw_B X xo mo σ) (hA : al_R X xo mo σ σ)
    (kk : ∀ (σ : ST) (H : Heap) (locs : List Loc), q_I X 0 σ0 s.heap locs σ H → m_M (m_c X σ mo) (σ.1 mo 24).toInt (n + 301) → lw_E xo mo σ → lw_B X xo mo σ → al_R X xo mo σ σ → W p l e room_1 s m #[Value.ref b] below meth c H locs cells slots Q (F0 m 1796 ls [])) : W p l e room_1 s m #[Value.ref b] below meth c H locs cells slots Q (F0 m 1770 ls []) := by
  have hx := E.1
  have hb := E.2.1
  have hI0 := hI
  have hE0 := hE
  have hB0 := hB
  have hA0 := hA
  have hM0 := hM
  refine lv_aload_n hx hb dL_law_1770 rfl (lv_at hl 2 rfl) ?_
  have h3 := (q_bd hI hmo (rfl : q_bn 12 24 = (0, 3))).2
  refine q_ci (q_runV (As := []) (rest := []) E (hml.trans hl.1.symm) hI (c_X11_mark l X σ xo hxo) kl_235 hxo ⟨rfl, by decide⟩ (show vwCl[10]? = some (RX11, TX11, 17) from rfl) rfl ⟨Nat.le_of_ble_eq_true rfl, Nat.le_of_ble_eq_true rfl⟩ hcs rfl (Nat.le_of_ble_eq_true rfl) dL_law_1771) hI (by decide) (fun r1 σ1 H locs hp hk hI => ?_)
  obtain ⟨pq0, pq1, pq2, hex1, how1⟩ := hp
  have hp := And.intro pq0 (And.intro pq1 pq2)
  have hB := lw_BK how1 hI.1 hxo hmo rfl rfl (how1.1 xo 5 (by rw [hxo]; rfl)) hB
  have hA1 := hA0.pre hal how1 rfl
  have hM := lw_kS hp.1 hI.1 hmo (fun j z => m_ne (q_c34 hI.1 hmo) hxo (by decide) z.1) (fun z => m_ne hmo hxo (by decide) z.1) hM
  have hpp1 := hp
  have hMc := hM
  clear hp hk
  clear h3
  refine lv_pop hx hb dL_law_1774 rfl ?_
  refine lv_aload_n hx hb dL_law_1775 rfl (lv_at hl 1 rfl) ?_
  have h3 := (q_bd hI hmo (rfl : q_bn 12 24 = (0, 3))).2
  refine q_ci (q_runV (As := []) (rest := []) E (hml.trans hl.1.symm) hI (c_X12_mark l X σ1 mo n hmo hM) kl_238 hmo ⟨rfl, by decide⟩ (show vwCl[11]? = some (RX12, TX12, 46) from rfl) rfl ⟨Nat.le_of_ble_eq_true rfl, Nat.le_of_ble_eq_true rfl⟩ hcs rfl (Nat.le_of_ble_eq_true rfl) dL_law_1776) hI (by decide) (fun r2 σ2 H locs hp hk hI => ?_)
  obtain ⟨pq0, pq1, pq2, pq3, hex2, how2⟩ := hp
  have hp := And.intro pq0 (And.intro pq1 (And.intro pq2 pq3))
  have hB := lw_BK how2 hI.1 hxo hmo rfl rfl (how2.1 xo 5 (by rw [hxo]; rfl)) hB
  have hO := lw_Aob hal (ob_mark hal hA1 hMc) hex1 hex2 how2 rfl
  have hA := hO.2
  have hF := lw_Emark hxo hmo (q_bd hI0 hxo (rfl : q_bn 11 11 = (0, 3))) hE hpp1.1 hpp1.2.1 hpp1.2.2 hp.1 hp.2.2.1 hp.2.2.2
  have hE := hF.1
  have hM := m_M.up hp.2.1 hp.2.1.1.1 (m_W.le hp.2.1.1.2 (show n ≤ n + 301 by omega)) (fun _ _ _ => rfl) (q_bd hI hmo (rfl : q_bn 12 24 = (0, 3))).2 (Int.le_refl _) (show n ≤ n + 301 by omega)
  have hpp2 := hp
  clear hp hk
  clear h3
  refine lv_pop hx hb dL_law_1779 rfl ?_
  refine lv_goto (tgt := 1796) hx hb dL_law_1780 (by decide) ?_
  exact kk _ _ _ hI hM hE hB hA

set_option maxRecDepth 100000 in
set_option maxHeartbeats 4000000 in
theorem lw_c53 {p : Program} {l : Launch} {e : Env} {s : State} {m : MethodId} {below : List Frame} {meth : Method} {c : Code} {b L : Nat} {xs : Nat → Int32} {X : XW} {xo mo : Nat} {σ0 : ST} {cells slots : Nat} {Q : State → Prop} {lb : Nat → Nat} (hcl : tb_Cls X lb xo mo) (hal : al_C X lb xo mo) (E : q_E p c cL_law s m #[Value.ref b] RL X) (hX : va_X b L xs s s.heap) (hbl : b < s.heap.size) (hbA : ¬ q_reg X b) (hml : c.maxLocals = 4) (hxo : q_kd X xo = 11) (hmo : q_kd X mo = 12) (hcs : cells ≤ room_1.cells ∧ slots ≤ room_1.slots) (hL : L ≤ 3072) {i : Nat} (hi : i + 6 ≤ L) {n : Int} (hn : 0 ≤ n ∧ n ≤ 199000) {σ : ST} {H : Heap} {locs : List Loc} {ls : Array Slot} (hI : q_I X 0 σ0 s.heap locs σ H) (hM : m_M (m_c X σ mo) (σ.1 mo 24).toInt n) (hl : lv_has ls 4 [(3, .int (nI i)), (2, .ref mo), (1, .ref xo), (0, .ref b)]) (hE : lw_E xo mo σ) (hB : lw_B X xo mo σ) (hA : al_R X xo mo σ σ)
    (kk : ∀ (σ : ST) (H : Heap) (locs : List Loc), q_I X 0 σ0 s.heap locs σ H → m_M (m_c X σ mo) (σ.1 mo 24).toInt (n + 301) → lw_E xo mo σ → lw_B X xo mo σ → al_R X xo mo σ σ → W p l e room_1 s m #[Value.ref b] below meth c H locs cells slots Q (F0 m 1796 ls [])) : W p l e room_1 s m #[Value.ref b] below meth c H locs cells slots Q (F0 m 1783 ls []) := by
  have hx := E.1
  have hb := E.2.1
  have hI0 := hI
  have hE0 := hE
  have hB0 := hB
  have hA0 := hA
  have hM0 := hM
  refine lv_aload_n hx hb dL_law_1783 rfl (lv_at hl 2 rfl) ?_
  have h3 := (q_bd hI hmo (rfl : q_bn 12 24 = (0, 3))).2
  refine q_ci (q_runV (As := []) (rest := []) E (hml.trans hl.1.symm) hI (c_X11_back l X σ xo hxo) kl_239 hxo ⟨rfl, by decide⟩ (show vwCl[10]? = some (RX11, TX11, 17) from rfl) rfl ⟨Nat.le_of_ble_eq_true rfl, Nat.le_of_ble_eq_true rfl⟩ hcs rfl (Nat.le_of_ble_eq_true rfl) dL_law_1784) hI (by decide) (fun r1 σ1 H locs hp hk hI => ?_)
  obtain ⟨pq0, pq1, pq2, hex1, how1⟩ := hp
  have hp := And.intro pq0 (And.intro pq1 pq2)
  have hB := lw_BK how1 hI.1 hxo hmo rfl rfl (how1.1 xo 5 (by rw [hxo]; rfl)) hB
  have hA1 := hA0.pre hal how1 rfl
  have hM := lw_kS hp.1 hI.1 hmo (fun j z => m_ne (q_c34 hI.1 hmo) hxo (by decide) z.1) (fun z => m_ne hmo hxo (by decide) z.1) hM
  have hpp1 := hp
  have hMc := hM
  clear hp hk
  clear h3
  refine lv_pop hx hb dL_law_1787 rfl ?_
  refine lv_aload_n hx hb dL_law_1788 rfl (lv_at hl 1 rfl) ?_
  have h3 := (q_bd hI hmo (rfl : q_bn 12 24 = (0, 3))).2
  refine q_ci (q_runV (As := []) (rest := []) E (hml.trans hl.1.symm) hI (c_X12_back l X σ1 mo n hmo hM) kl_242 hmo ⟨rfl, by decide⟩ (show vwCl[11]? = some (RX12, TX12, 46) from rfl) rfl ⟨Nat.le_of_ble_eq_true rfl, Nat.le_of_ble_eq_true rfl⟩ hcs rfl (Nat.le_of_ble_eq_true rfl) dL_law_1789) hI (by decide) (fun r2 σ2 H locs hp hk hI => ?_)
  obtain ⟨pq0, pq1, pq2, pq3, hex2, how2⟩ := hp
  have hp := And.intro pq0 (And.intro pq1 (And.intro pq2 pq3))
  have hB := lw_BK how2 hI.1 hxo hmo rfl rfl (how2.1 xo 5 (by rw [hxo]; rfl)) hB
  have hO := lw_Aob hal (ob_back hal hA1 hMc) hex1 hex2 how2 rfl
  have hA := hO.2
  have hF := lw_Eback hxo hmo (q_bd hI0 hxo (rfl : q_bn 11 11 = (0, 3))) hE hpp1.1 hpp1.2.1 hpp1.2.2 hp.1 hp.2.2.1 hp.2.2.2
  have hE := hF.1
  have hM := m_M.up hp.2.1 hp.2.1.1.1 (m_W.le hp.2.1.1.2 (show n ≤ n + 301 by omega)) (fun _ _ _ => rfl) (q_bd hI hmo (rfl : q_bn 12 24 = (0, 3))).2 (Int.le_refl _) (show n ≤ n + 301 by omega)
  have hpp2 := hp
  clear hp hk
  clear h3
  refine lv_pop hx hb dL_law_1792 rfl ?_
  refine lv_goto (tgt := 1796) hx hb dL_law_1793 (by decide) ?_
  exact kk _ _ _ hI hM hE hB hA
end
/-! FROM 62z.law.lean.txt -/
section
/-! THE CLAIM OUT OF ONE WALK OF THE LAW'S BODY. Your part is whole_start (and what it stands on); all else here is the same for every law, but numbers. -/
def R_law : String := "CheatHeapLaw"
def lw_P (b : Addr) (xs : List Int32) (args : Array Value) (s : State) : Prop := args = #[.ref b] ∧ s.IntsAt b xs ∧ xs.length ≤ 3072 ∧ (Jvm.Cond.and given_1 narrow_1).before args s = true
def lw_Q (_ : Array Value) (s : State) (o : Outcome) (t : State) : Prop := o = .returned (some (.int 1)) ∧ Framed s o t [] 600000 7302250
def lw_Z (below : List Frame) (a : Array Value) (s : State) : State → Prop := fun t => ∃ o, t.status = .running ∧ Ended t below o ∧ lw_Q a s o t
/-- the law's own end, with 1 on the stack, nothing written that was there before, its room as the claim has it -/
theorem lw_ret {p : Program} {l : Launch} {e : Env} {s : State} {m : MethodId} {below : List Frame} {meth : Method} {c : Code} {b : Nat} (hx : p.tables.exec = Jvm.exec) (hb : c.code = code) (hr : meth.sig.returnType = ret) (hlocks : meth.locks = false) {pc : Nat} {H : Heap} {ls : Array Slot} (hdg : decode code pc = .ok (.ireturn, 1)) : W p l e room_1 s m #[Value.ref b] below meth c H [] 600000 7302250 (lw_Z below #[Value.ref b] s) (F0 m pc ls [.int 1]) := by
  intro T hT X
  obtain ⟨fs, hret, hrun, hended, hW, hframe⟩ := X.leave (v := some (.int 1)) (hlocks := hlocks) (fun h => by rw [hr] at h; cases h)
  have hmeth' : T.vm.method? m = some meth := X.method'
  refine ⟨T.setFrames fs, ?_, .returned (some (.int 1)), hrun, hended, rfl, ⟨_, rfl⟩, hW, hframe⟩
  jvm_step X.here [X.here.top, hx, hb, hdg, hmeth', hr, ret, narrow_b1]
  (try refine ⟨rfl, ?_⟩); (try refine ⟨rfl, ?_⟩)
  first | (intro acts; rw [hret _ acts rfl rfl rfl]) | rw [hret _ _ rfl rfl rfl]
  exact Steps.refl _
/-- what holds at the law's entry: the machine, the code, the tables' words (any of lw_tbl by 'hts w (by decide +kernel)'), the script of L ints xs at the cell b, what the Statement gives of the start (any of its parts by flat_of_before) -/
def lw_At (p : Program) (s : State) (m : MethodId) (meth : Method) (c : Code) (b L : Nat) (xs : Nat → Int32) : Prop :=
  p.tables.exec = Jvm.exec ∧ c.code = code ∧ meth.sig.returnType = ret ∧ c.maxLocals = 4 ∧ s.vm.findClass R_law = some m.cls ∧ (∀ w ∈ lw_tbl, w.before #[Value.ref b] s = true) ∧ va_X b L xs s s.heap ∧ b < s.heap.size ∧ meth.locks = false ∧ (Jvm.Cond.and given_1 narrow_1).before #[Value.ref b] s = true
end
/-! FROM 63.law.lean.txt -/
section
/-! THE LAW: what holds at its start -/
theorem lw_t {i : Nat} {w : Cond} (h : tables_1[i]? = some w) : w ∈ lw_tbl := List.mem_append_right _ (List.mem_of_getElem? h)
theorem lw_t1 {i : Nat} {w : Cond} (h : tables_1_1[i]? = some w) : w ∈ lw_tbl := List.mem_append_right _ (List.mem_append_left _ (List.mem_of_getElem? h))
theorem lw_t2 {i : Nat} {w : Cond} (h : tables_1_2[i]? = some w) : w ∈ lw_tbl := List.mem_append_right _ (List.mem_append_right _ (List.mem_append_left _ (List.mem_of_getElem? h)))
theorem lw_t3 {i : Nat} {w : Cond} (h : tables_1_3[i]? = some w) : w ∈ lw_tbl := List.mem_append_right _ (List.mem_append_right _ (List.mem_append_right _ (List.mem_append_left _ (List.mem_of_getElem? h))))
theorem lw_t4 {i : Nat} {w : Cond} (h : tables_1_4[i]? = some w) : w ∈ lw_tbl := List.mem_append_right _ (List.mem_append_right _ (List.mem_append_right _ (List.mem_append_right _ (List.mem_append_left _ (List.mem_of_getElem? h)))))
theorem lw_t5 {i : Nat} {w : Cond} (h : tables_1_5[i]? = some w) : w ∈ lw_tbl := List.mem_append_right _ (List.mem_append_right _ (List.mem_append_right _ (List.mem_append_right _ (List.mem_append_right _ (List.mem_append_left _ (List.mem_of_getElem? h))))))
theorem lw_t6 {i : Nat} {w : Cond} (h : tables_1_6[i]? = some w) : w ∈ lw_tbl := List.mem_append_right _ (List.mem_append_right _ (List.mem_append_right _ (List.mem_append_right _ (List.mem_append_right _ (List.mem_append_right _ (List.mem_append_left _ (List.mem_of_getElem? h)))))))
theorem lw_t7 {i : Nat} {w : Cond} (h : tables_1_7[i]? = some w) : w ∈ lw_tbl := List.mem_append_right _ (List.mem_append_right _ (List.mem_append_right _ (List.mem_append_right _ (List.mem_append_right _ (List.mem_append_right _ (List.mem_append_right _ (List.mem_append_left _ (List.mem_of_getElem? h))))))))
theorem lw_t8 {i : Nat} {w : Cond} (h : tables_1_8[i]? = some w) : w ∈ lw_tbl := List.mem_append_right _ (List.mem_append_right _ (List.mem_append_right _ (List.mem_append_right _ (List.mem_append_right _ (List.mem_append_right _ (List.mem_append_right _ (List.mem_append_right _ (List.mem_append_left _ (List.mem_of_getElem? h)))))))))
theorem lw_t9 {i : Nat} {w : Cond} (h : tables_1_9[i]? = some w) : w ∈ lw_tbl := List.mem_append_right _ (List.mem_append_right _ (List.mem_append_right _ (List.mem_append_right _ (List.mem_append_right _ (List.mem_append_right _ (List.mem_append_right _ (List.mem_append_right _ (List.mem_append_right _ (List.mem_of_getElem? h)))))))))
def lw_nar : List Cond := flatC (Jvm.Cond.and given_1 narrow_1)
def lw_ts : List (String × Nat) := [("CheatHeap$TableReader", 55), ("CheatHeap$TableReader", 65), ("CheatHeap$TableReader", 80), ("CheatHeap$TableReader", 110), ("CheatHeap$TableReader", 114), ("CheatHeap$TableReader", 116), ("CheatHeap$TableReader", 88), ("CheatHeap$TableReader", 93), ("CheatHeap$Reader", 68), ("CheatHeap$TableReader", 134), ("CheatHeap$TableReader", 149), ("CheatHeap$TableReader", 98), ("CheatHeap$TableReader", 162), ("CheatHeap$RoundReader", 41), ("CheatHeap$RoundReader", 100), ("CheatHeap$RoundReader", 106), ("CheatHeap$RoundReader", 108), ("CheatHeap$RoundReader", 110), ("CheatHeap$RoundReader", 112), ("CheatHeap$RoundReader", 117), ("CheatHeap$RoundReader", 119), ("CheatHeap$RoundReader", 121)]
def lw_tm (i : Nat) : Term := Term.string (lw_ts.getD i ("", 0)).1 (lw_ts.getD i ("", 0)).2
def lw_bs : List Nat := [33, 42, 51, 60, 69, 81, 94, 108, 125, 242, 259, 279, 298, 316, 336, 407, 432, 458, 485, 514, 543, 574]
def lw_ps : List (List Nat) := [[0, 50, 58, 66, 77, 89, 102, 118, 234, 250, 269, 287, 304, 323, 344, 415, 440, 466, 494, 522, 552, 581], [50, 0, 59, 67, 78, 90, 103, 119, 235, 251, 270, 288, 305, 324, 345, 416, 441, 467, 495, 523, 553, 582], [58, 59, 0, 68, 79, 91, 104, 120, 236, 252, 271, 289, 306, 325, 346, 417, 442, 468, 496, 524, 554, 583], [66, 67, 68, 0, 80, 92, 105, 121, 237, 253, 272, 290, 307, 326, 347, 418, 443, 469, 497, 525, 555, 584], [77, 78, 79, 80, 0, 93, 106, 122, 238, 254, 273, 291, 308, 327, 348, 419, 444, 470, 498, 526, 556, 585], [89, 90, 91, 92, 93, 0, 107, 123, 239, 255, 274, 292, 309, 328, 349, 420, 445, 471, 499, 527, 557, 586], [102, 103, 104, 105, 106, 107, 0, 124, 240, 256, 275, 293, 310, 329, 350, 421, 446, 472, 500, 528, 558, 587], [118, 119, 120, 121, 122, 123, 124, 0, 241, 257, 276, 294, 311, 330, 351, 422, 447, 473, 501, 529, 559, 588], [234, 235, 236, 237, 238, 239, 240, 241, 0, 258, 277, 295, 312, 331, 352, 423, 448, 474, 502, 530, 560, 589], [250, 251, 252, 253, 254, 255, 256, 257, 258, 0, 278, 296, 313, 332, 353, 424, 449, 475, 503, 531, 561, 590], [269, 270, 271, 272, 273, 274, 275, 276, 277, 278, 0, 297, 314, 333, 354, 425, 450, 476, 504, 532, 562, 591], [287, 288, 289, 290, 291, 292, 293, 294, 295, 296, 297, 0, 315, 334, 355, 426, 451, 477, 505, 533, 563, 592], [304, 305, 306, 307, 308, 309, 310, 311, 312, 313, 314, 315, 0, 335, 356, 427, 452, 478, 506, 534, 564, 593], [323, 324, 325, 326, 327, 328, 329, 330, 331, 332, 333, 334, 335, 0, 357, 428, 453, 479, 507, 535, 565, 594], [344, 345, 346, 347, 348, 349, 350, 351, 352, 353, 354, 355, 356, 357, 0, 429, 454, 480, 508, 536, 566, 595], [415, 416, 417, 418, 419, 420, 421, 422, 423, 424, 425, 426, 427, 428, 429, 0, 457, 483, 511, 539, 569, 598], [440, 441, 442, 443, 444, 445, 446, 447, 448, 449, 450, 451, 452, 453, 454, 457, 0, 484, 512, 540, 570, 599], [466, 467, 468, 469, 470, 471, 472, 473, 474, 475, 476, 477, 478, 479, 480, 483, 484, 0, 513, 541, 571, 600], [494, 495, 496, 497, 498, 499, 500, 501, 502, 503, 504, 505, 506, 507, 508, 511, 512, 513, 0, 542, 572, 601], [522, 523, 524, 525, 526, 527, 528, 529, 530, 531, 532, 533, 534, 535, 536, 539, 540, 541, 542, 0, 573, 602], [552, 553, 554, 555, 556, 557, 558, 559, 560, 561, 562, 563, 564, 565, 566, 569, 570, 571, 572, 573, 0, 603], [581, 582, 583, 584, 585, 586, 587, 588, 589, 590, 591, 592, 593, 594, 595, 598, 599, 600, 601, 602, 603, 0]]
theorem lw_s0 : ∀ i, i < 22 → lw_nar[lw_bs.getD i 0]? = some (Cond.exactly (lw_tm i) "java/lang/String") := by decide +kernel
theorem lw_s1 : ∀ i, i < 22 → lw_nar[lw_bs.getD i 0 + 1]? = some (Cond.eq (.field (lw_tm i) "java/lang/String" "coder" "B") (.int 0)) := by decide +kernel
theorem lw_s2 : ∀ i, i < 22 → lw_nar[lw_bs.getD i 0 + 2]? = some (Cond.arrayOf (.field (lw_tm i) "java/lang/String" "value" "[B") .byte) := by decide +kernel
theorem lw_s3 : ∀ i, i < 22 → lw_nar[lw_bs.getD i 0 + 3]? = some (Cond.eq (.length (.field (lw_tm i) "java/lang/String" "value" "[B")) (.int (Int32.ofNat (q_slen.getD i 0)))) := by decide +kernel
theorem lw_s4 : ∀ i, i < 22 → ∀ j, j < q_slen.getD i 0 → lw_nar[lw_bs.getD i 0 + 4 + j]? = some (Cond.eq (.elem (.field (lw_tm i) "java/lang/String" "value" "[B") (.int (Int32.ofNat j))) (.int ((q_sbyt.getD i []).getD j 0))) := by decide +kernel
theorem lw_s5 : ∀ i, i < 22 → ∀ j, j < 22 → i < j → lw_nar[(lw_ps.getD i []).getD j 0]? = some (Cond.not (Cond.eq (lw_tm i) (lw_tm j))) := by decide +kernel
theorem lw_s6 : lw_nar[375]? = some (Cond.eq (lw_tm 9) (Term.string "CheatHeap$RoundReader" 102)) := by decide +kernel
theorem lw_s7 : lw_nar[401]? = some (Cond.eq (lw_tm 10) (Term.string "CheatHeap$RoundReader" 104)) := by decide +kernel
theorem lw_s8 : lw_nar[4]? = some (Cond.eq (.static "java/lang/String" "COMPACT_STRINGS" "Z") (.int 1)) := by decide +kernel
theorem lw_s9 : lw_nar[5]? = some (Cond.isRef (.static "jdk/internal/util/Preconditions" "SIOOBE_FORMATTER" "Ljava/util/function/BiFunction;")) := by decide +kernel
theorem lw_hs {args : Array Value} {s : State} (h : (Jvm.Cond.and given_1 narrow_1).before args s = true) {k : Nat} {w : Cond} (hk : lw_nar[k]? = some w) : w.before args s = true := flat_of_before _ h _ (List.mem_of_getElem? hk)
theorem lw_strs {args : Array Value} {s : State} {A : Nat → Prop} (hts : ∀ w ∈ lw_tbl, w.before args s = true) (hgv : (Jvm.Cond.and given_1 narrow_1).before args s = true) (hA : ∀ a : Nat, a < s.heap.size → ¬ A a) : ∃ adK adV : Nat → Nat, vk_S 22 q_slen q_sbyt adK adV A s s.heap ∧ ∀ r ∈ q_str, vk_R r.1 r.2.1 r.2.2.1 (adK r.2.2.2) s := by
  obtain ⟨adK, adV, hS, hev⟩ := vk_Sof (args := args) (s := s) (N := 22) (tm := lw_tm) (len := q_slen) (byt := q_sbyt) (A := A) (by decide) (fun i hi => lw_hs hgv (lw_s0 i hi)) (fun i hi => lw_hs hgv (lw_s1 i hi)) (fun i hi => lw_hs hgv (lw_s2 i hi)) (fun i hi => lw_hs hgv (lw_s3 i hi)) (fun i hi j hj => lw_hs hgv (lw_s4 i hi j hj)) (fun i j hi hj hij => by
    rcases Nat.lt_or_gt_of_ne hij with q | q
    · exact Or.inl (lw_hs hgv (lw_s5 i hi j hj q))
    · exact Or.inr (lw_hs hgv (lw_s5 j hj i hi q))) hA
  refine ⟨adK, adV, hS, ?_⟩
  intro r hr
  simp only [q_str, List.mem_cons, List.not_mem_nil, or_false] at hr
  rcases hr with rfl | rfl | rfl | rfl | rfl | rfl | rfl | rfl | rfl | rfl | rfl | rfl | rfl | rfl | rfl | rfl | rfl | rfl | rfl | rfl | rfl | rfl | rfl | rfl
  · exact vk_R.of (hts _ (lw_t3 (i := 173) (by first | rfl | decide +kernel))) (hev 0 (by decide))
  · exact vk_R.of (hts _ (lw_t4 (i := 12) (by first | rfl | decide +kernel))) (hev 1 (by decide))
  · exact vk_R.of (hts _ (lw_t4 (i := 23) (by first | rfl | decide +kernel))) (hev 2 (by decide))
  · exact vk_R.of (hts _ (lw_t4 (i := 40) (by first | rfl | decide +kernel))) (hev 3 (by decide))
  · exact vk_R.of (hts _ (lw_t4 (i := 41) (by first | rfl | decide +kernel))) (hev 4 (by decide))
  · exact vk_R.of (hts _ (lw_t4 (i := 42) (by first | rfl | decide +kernel))) (hev 5 (by decide))
  · exact vk_R.of (hts _ (lw_t4 (i := 43) (by first | rfl | decide +kernel))) (hev 6 (by decide))
  · exact vk_R.of (hts _ (lw_t4 (i := 48) (by first | rfl | decide +kernel))) (hev 7 (by decide))
  · exact vk_R.of (hts _ (lw_t4 (i := 63) (by first | rfl | decide +kernel))) (hev 8 (by decide))
  · exact vk_R.of (hts _ (lw_t4 (i := 86) (by first | rfl | decide +kernel))) (hev 9 (by decide))
  · exact vk_R.of (hts _ (lw_t4 (i := 92) (by first | rfl | decide +kernel))) (hev 10 (by decide))
  · exact vk_R.of (hts _ (lw_t4 (i := 93) (by first | rfl | decide +kernel))) (hev 11 (by decide))
  · exact vk_R.of (hts _ (lw_t4 (i := 106) (by first | rfl | decide +kernel))) (hev 12 (by decide))
  · exact vk_R.of (hts _ (lw_t4 (i := 168) (by first | rfl | decide +kernel))) (hev 13 (by decide))
  · exact vk_R.of (hts _ (lw_t4 (i := 200) (by first | rfl | decide +kernel))) (hev 14 (by decide))
  · exact vk_R.of (hts _ (lw_t4 (i := 201) (by first | rfl | decide +kernel))) (va_eqR (lw_hs hgv lw_s6) (hev 9 (by decide)))
  · exact vk_R.of (hts _ (lw_t4 (i := 202) (by first | rfl | decide +kernel))) (va_eqR (lw_hs hgv lw_s7) (hev 10 (by decide)))
  · exact vk_R.of (hts _ (lw_t4 (i := 203) (by first | rfl | decide +kernel))) (hev 15 (by decide))
  · exact vk_R.of (hts _ (lw_t4 (i := 204) (by first | rfl | decide +kernel))) (hev 16 (by decide))
  · exact vk_R.of (hts _ (lw_t4 (i := 205) (by first | rfl | decide +kernel))) (hev 17 (by decide))
  · exact vk_R.of (hts _ (lw_t4 (i := 213) (by first | rfl | decide +kernel))) (hev 18 (by decide))
  · exact vk_R.of (hts _ (lw_t4 (i := 214) (by first | rfl | decide +kernel))) (hev 19 (by decide))
  · exact vk_R.of (hts _ (lw_t4 (i := 215) (by first | rfl | decide +kernel))) (hev 20 (by decide))
  · exact vk_R.of (hts _ (lw_t4 (i := 216) (by first | rfl | decide +kernel))) (hev 21 (by decide))
theorem lw_tabs {args : Array Value} {s : State} (hts : ∀ w ∈ lw_tbl, w.before args s = true) : ∀ w ∈ q_tbl, w.before args s = true := by
  intro w hw
  rcases List.mem_append.mp hw with h | h
  · simp only [q_extra, List.mem_cons, List.not_mem_nil, or_false] at h
    rcases h with rfl | rfl | rfl | rfl
    · exact q_selpriv (x2 := yX3_advance) (hts _ (lw_t3 (i := 150) (by first | rfl | decide +kernel))) rfl ⟨by decide, by decide⟩ (hts _ (lw_t3 (i := 160) (by first | rfl | decide +kernel))) (hts _ (lw_t3 (i := 161) (by first | rfl | decide +kernel)))
    · exact q_selpriv (x2 := yX3_advance) (hts _ (lw_t3 (i := 151) (by first | rfl | decide +kernel))) rfl ⟨by decide, by decide⟩ (hts _ (lw_t3 (i := 160) (by first | rfl | decide +kernel))) (hts _ (lw_t3 (i := 161) (by first | rfl | decide +kernel)))
    · exact q_selpriv (x2 := yX3_advance) (hts _ (lw_t3 (i := 150) (by first | rfl | decide +kernel))) rfl ⟨by decide, by decide⟩ (hts _ (lw_t4 (i := 60) (by first | rfl | decide +kernel))) (hts _ (lw_t4 (i := 61) (by first | rfl | decide +kernel)))
    · exact q_selpriv (x2 := yX3_advance) (hts _ (lw_t3 (i := 151) (by first | rfl | decide +kernel))) rfl ⟨by decide, by decide⟩ (hts _ (lw_t4 (i := 60) (by first | rfl | decide +kernel))) (hts _ (lw_t4 (i := 61) (by first | rfl | decide +kernel)))
  · exact hts w (List.mem_filter.mp h).1
theorem lw_arrK {args : Array Value} {s : State} {t : FieldType} (ht : t = .byte ∨ t = .int ∨ t = .long) (h : (Cond.arrayClass t).before args s = true) : ∃ cA, ArrOfT s cA t ∧ va_RA s cA t := by
  obtain ⟨cA, kA, comp, h1, h2, h3⟩ := Cond.arrayClass_spec h
  refine ⟨cA, fun n z => ⟨fun k h => (by cases h), kA, h2, comp, h3⟩, ?_⟩
  rcases ht with rfl | rfl | rfl <;> exact h1
theorem lw_arrQ {args : Array Value} {s : State} {C : String} (h : (Cond.arrayOver (.object C)).before args s = true) : ∃ cA, ArrOfT s cA (.object C) ∧ va_RA s cA (.object C) := by
  obtain ⟨comp, c, k, h1, -, h3, h4, h5⟩ := Cond.arrayOver_spec h
  exact ⟨c, fun n z => ⟨fun k h => (by cases h), k, h3, comp, h4⟩, k, comp, h3, h4, h1, h5⟩
theorem lw_K0 {args : Array Value} {s : State} (hts : ∀ w ∈ lw_tbl, w.before args s = true) : ∃ D : DW, q_K0 D s := by
  obtain ⟨c0, i0, h0⟩ := u_known (C := RX0) (T := TX0) (N := 15) (n := 15) (lw_tabs hts) q_inX0 (hts _ (lw_t1 (i := 31) (by first | rfl | decide +kernel)))
  obtain ⟨c1, i1, h1⟩ := u_known (C := RX1) (T := TX1) (N := 7) (n := 7) (lw_tabs hts) q_inX1 (hts _ (lw_t1 (i := 102) (by first | rfl | decide +kernel)))
  obtain ⟨c2, i2, h2⟩ := u_known (C := RX2) (T := TX2) (N := 6) (n := 6) (lw_tabs hts) q_inX2 (hts _ (lw_t1 (i := 146) (by first | rfl | decide +kernel)))
  obtain ⟨c3, i3, h3⟩ := u_known (C := RX4) (T := TX4) (N := 11) (n := 11) (lw_tabs hts) q_inX4 (hts _ (lw_t2 (i := 118) (by first | rfl | decide +kernel)))
  obtain ⟨c4, i4, h4⟩ := u_known (C := RX5) (T := TX5) (N := 1) (n := 1) (lw_tabs hts) q_inX5 (hts _ (lw_t1 (i := 43) (by first | rfl | decide +kernel)))
  obtain ⟨c5, i5, h5⟩ := u_known (C := RX6) (T := TX6) (N := 8) (n := 8) (lw_tabs hts) q_inX6 (hts _ (lw_t1 (i := 37) (by first | rfl | decide +kernel)))
  obtain ⟨c6, i6, h6⟩ := u_known (C := RX7) (T := TX7) (N := 8) (n := 8) (lw_tabs hts) q_inX7 (hts _ (lw_t2 (i := 147) (by first | rfl | decide +kernel)))
  obtain ⟨c7, i7, h7⟩ := u_known (C := RX8) (T := TX8) (N := 8) (n := 8) (lw_tabs hts) q_inX8 (hts _ (lw_t1 (i := 180) (by first | rfl | decide +kernel)))
  obtain ⟨c8, i8, h8⟩ := u_known (C := RX9) (T := TX9) (N := 12) (n := 12) (lw_tabs hts) q_inX9 (hts _ (lw_t2 (i := 59) (by first | rfl | decide +kernel)))
  obtain ⟨c9, i9, h9⟩ := u_known (C := RX10) (T := TX10) (N := 3) (n := 3) (lw_tabs hts) q_inX10 (hts _ (lw_t2 (i := 185) (by first | rfl | decide +kernel)))
  obtain ⟨c10, i10, h10⟩ := u_known (C := RX11) (T := TX11) (N := 17) (n := 17) (lw_tabs hts) q_inX11 (hts _ (lw_t1 (i := 21) (by first | rfl | decide +kernel)))
  obtain ⟨c11, i11, h11⟩ := u_known (C := RX12) (T := TX12) (N := 46) (n := 46) (lw_tabs hts) q_inX12 (hts _ (lw_t6 (i := 220) (by first | rfl | decide +kernel)))
  obtain ⟨a0, g0⟩ := lw_arrK (t := .byte) (Or.inl rfl) (hts _ (lw_t1 (i := 55) (by first | rfl | decide +kernel)))
  obtain ⟨a1, g1⟩ := lw_arrK (t := .int) (Or.inr (Or.inl rfl)) (hts _ (lw_t1 (i := 56) (by first | rfl | decide +kernel)))
  obtain ⟨a2, g2⟩ := lw_arrK (t := .long) (Or.inr (Or.inr rfl)) (hts _ (lw_t2 (i := 201) (by first | rfl | decide +kernel)))
  obtain ⟨a3, g3⟩ := lw_arrQ (C := "CheatHeap$Tray") (hts _ (lw_t1 (i := 29) (by first | rfl | decide +kernel)))
  obtain ⟨a4, g4⟩ := lw_arrQ (C := "CheatHeap$Game") (hts _ (lw_t2 (i := 57) (by first | rfl | decide +kernel)))
  refine ⟨(((fun k => [c0, c1, c2, c3, c4, c5, c6, c7, c8, c9, c10, c11].getD k c0), (fun k => [i0, i1, i2, i3, i4, i5, i6, i7, i8, i9, i10, i11].getD k i0)), fun t => [a0, a1, a2, a3, a4].getD t a0), ⟨?_, ?_⟩, ?_, va_AO.of (hts _ (lw_t1 (i := 29) (by first | rfl | decide +kernel))), va_AO.of (hts _ (lw_t2 (i := 57) (by first | rfl | decide +kernel)))⟩
  · intro k q hq
    match k, hq with
    | 0, hq => obtain rfl := Option.some.inj hq; exact h0
    | 1, hq => obtain rfl := Option.some.inj hq; exact h1
    | 2, hq => obtain rfl := Option.some.inj hq; exact h2
    | 3, hq => obtain rfl := Option.some.inj hq; exact h3
    | 4, hq => obtain rfl := Option.some.inj hq; exact h4
    | 5, hq => obtain rfl := Option.some.inj hq; exact h5
    | 6, hq => obtain rfl := Option.some.inj hq; exact h6
    | 7, hq => obtain rfl := Option.some.inj hq; exact h7
    | 8, hq => obtain rfl := Option.some.inj hq; exact h8
    | 9, hq => obtain rfl := Option.some.inj hq; exact h9
    | 10, hq => obtain rfl := Option.some.inj hq; exact h10
    | 11, hq => obtain rfl := Option.some.inj hq; exact h11
    | k + 12, hq => exact absurd hq (by simp [vwCl])
  · intro k q hq
    match k, hq with
    | 0, hq => obtain rfl := Option.some.inj hq; exact g0
    | 1, hq => obtain rfl := Option.some.inj hq; exact g1
    | 2, hq => obtain rfl := Option.some.inj hq; exact g2
    | 3, hq => obtain rfl := Option.some.inj hq; exact g3
    | 4, hq => obtain rfl := Option.some.inj hq; exact g4
    | k + 5, hq => exact absurd hq (by simp [q_tyD])
  · intro r hr
    simp only [q_nest, List.mem_cons, List.not_mem_nil, or_false] at hr
    rcases hr with rfl | rfl | rfl | rfl | rfl | rfl | rfl | rfl | rfl | rfl | rfl | rfl | rfl | rfl
    · exact va_Nw.of rfl (hts _ (lw_t1 (i := 32) (by first | rfl | decide +kernel)))
    · exact va_Nw.of rfl (hts _ (lw_t1 (i := 38) (by first | rfl | decide +kernel)))
    · exact va_Nw.of rfl (hts _ (lw_t1 (i := 103) (by first | rfl | decide +kernel)))
    · exact va_Nw.of rfl (hts _ (lw_t1 (i := 147) (by first | rfl | decide +kernel)))
    · exact va_Nw.of rfl (hts _ (lw_t1 (i := 181) (by first | rfl | decide +kernel)))
    · exact va_Nw.of rfl (hts _ (lw_t2 (i := 60) (by first | rfl | decide +kernel)))
    · exact va_Nw.of rfl (hts _ (lw_t2 (i := 63) (by first | rfl | decide +kernel)))
    · exact va_Nw.of rfl (hts _ (lw_t2 (i := 68) (by first | rfl | decide +kernel)))
    · exact va_Nw.of rfl (hts _ (lw_t2 (i := 119) (by first | rfl | decide +kernel)))
    · exact va_Nw.of rfl (hts _ (lw_t2 (i := 122) (by first | rfl | decide +kernel)))
    · exact va_Nw.of rfl (hts _ (lw_t2 (i := 124) (by first | rfl | decide +kernel)))
    · exact va_Nw.of rfl (hts _ (lw_t2 (i := 148) (by first | rfl | decide +kernel)))
    · exact va_Nw.of rfl (hts _ (lw_t2 (i := 186) (by first | rfl | decide +kernel)))
    · exact va_Nw.of rfl (hts _ (lw_t5 (i := 211) (by first | rfl | decide +kernel)))
def lw_X0 (D : DW) (sk sv : Nat → Nat) : XW := (D, (fun _ => 0), (fun _ _ => 0), (fun _ => 0), sk, sv)
def lw_σ0 : ST := ((fun _ _ => 0), (fun _ _ => 0), fun _ => 0)
theorem lw_w0 {D : DW} {sk sv : Nat → Nat} {H : Heap} : q_w (lw_X0 D sk sv) lw_σ0 H :=
  ⟨⟨fun a f hf => absurd rfl hf, fun a ha => absurd rfl ha, fun a => (by show (0 : Nat) < 1000000; decide), fun a ha => absurd (show (0 : Nat) = 11 from ha) (by decide)⟩, fun a ha => absurd rfl ha, fun a f => q_inU (k := 0) (f := f) rfl, fun a ha => absurd (show (0 : Nat) = 4 ∨ (0 : Nat) = 9 from ha) (by decide), ⟨fun a f hf => absurd rfl hf, fun a f _ _ hf => absurd rfl hf, fun a f hf => absurd (show (0 : Nat) = 5 from hf) (by decide)⟩, fun a ha => absurd (show y_ik 0 = true from ha) (by decide)⟩
theorem m_S0 {c : Int → Int} {b : Int} {n : Nat} (h : ∀ j : Int, b ≤ j → j < b + (n : Int) → c j = 0) : m_S c b n = 0 := by
  induction n with
  | zero => rfl
  | succ n ih =>
    show m_S c b n + c (b + (n : Int)) = 0
    rw [ih (fun j h0 h1 => h j h0 (by omega)), h _ (by omega) (by omega)]
    rfl
theorem lw_init0 {c : Int → Int} (h : ∀ j : Int, 0 ≤ j → c j = if j = 6 then -1 else if j = 8 then -1 else if j = 4 then 4 else if j = 1 then 1 else if j = 0 then 2 else 0) : m_G c ∧ m_W c 0 := by
  have z : ∀ j : Int, 9 ≤ j → c j = 0 := fun j hj => by rw [h j (by omega), if_neg (by omega), if_neg (by omega), if_neg (by omega), if_neg (by omega), if_neg (by omega)]
  have e0 : c 0 = 2 := h 0 (by decide)
  have e2 : c 2 = 0 := h 2 (by decide)
  have e4 : c 4 = 4 := h 4 (by decide)
  have e5 : c 5 = 0 := h 5 (by decide)
  have e6 : c 6 = -1 := h 6 (by decide)
  have e7 : c 7 = 0 := h 7 (by decide)
  have e9 := z 9 (by decide)
  have e655 := z 655 (by decide)
  refine ⟨⟨?_, ?_, ?_, ?_, ?_, ?_⟩, ?_⟩
  · unfold m_H
    rw [e0, e2, e4, e5, e6, e7, e9]
    decide
  · intro p k h0 h1 h2 h3
    rw [z _ (by omega)]
    exact ⟨Int.le_refl 0, fun _ => rfl⟩
  · intro i h0 h1
    rw [e9] at h1
    omega
  · unfold m_T
    rw [m_S0 (fun j a b => z j (by omega)), e9]
    exact (by decide : (0 : Int) + 0 ≤ 80)
  · intro q
    rw [e7] at q
    exact absurd q (by decide)
  · refine ⟨by rw [e655]; decide, fun i h0 h1 => ?_⟩
    rw [e655] at h1
    omega
  · intro q h0 h1
    rw [z (28 + q) (by omega), z (22 + q) (by omega)]
    decide
theorem lw_m0 {X : XW} {σ : ST} {a : Nat} (h24 : σ.1 a 24 = 0) (h : ∀ j : Nat, σ.1 (q_rf X a 20) j = if j = 6 then -1 else if j = 8 then -1 else if j = 4 then 4 else if j = 1 then 1 else if j = 0 then 2 else 0) : m_M (m_c X σ a) (σ.1 a 24).toInt 0 := by
  have e : ∀ j : Int, 0 ≤ j → m_c X σ a j = if j = 6 then -1 else if j = 8 then -1 else if j = 4 then 4 else if j = 1 then 1 else if j = 0 then 2 else 0 := by
    intro j hj
    show (σ.1 (q_rf X a 20) j.toNat).toInt = _
    rw [h]
    by_cases q6 : j = 6
    · subst q6; rfl
    rw [if_neg (show ¬ j.toNat = 6 by omega), if_neg q6]
    by_cases q8 : j = 8
    · subst q8; rfl
    rw [if_neg (show ¬ j.toNat = 8 by omega), if_neg q8]
    by_cases q4 : j = 4
    · subst q4; rfl
    rw [if_neg (show ¬ j.toNat = 4 by omega), if_neg q4]
    by_cases q1 : j = 1
    · subst q1; rfl
    rw [if_neg (show ¬ j.toNat = 1 by omega), if_neg q1]
    by_cases q0 : j = 0
    · subst q0; rfl
    rw [if_neg (show ¬ j.toNat = 0 by omega), if_neg q0]
    rfl
  rw [h24]
  exact ⟨lw_init0 e, fun b h1 h2 => absurd (show b ≤ 0 from h2) (by omega)⟩
end
/-! FROM 64.law.lean.txt -/
section
set_option maxRecDepth 100000 in
set_option maxHeartbeats 4000000 in
theorem lw_loop {p : Program} {l : Launch} {e : Env} {s : State} {m : MethodId} {below : List Frame} {meth : Method} {c : Code} {b L : Nat} {xs : Nat → Int32} {X : XW} {xo mo : Nat} {σ0 : ST} {cells slots : Nat} {Q : State → Prop} {lb : Nat → Nat} (hcl : tb_Cls X lb xo mo) (hal : al_C X lb xo mo) (E : q_E p c cL_law s m #[Value.ref b] RL X) (hX : va_X b L xs s s.heap) (hbl : b < s.heap.size) (hbA : ¬ q_reg X b) (hml : c.maxLocals = 4) (hxo : q_kd X xo = 11) (hmo : q_kd X mo = 12) (hcs : cells ≤ room_1.cells ∧ slots ≤ room_1.slots) (hL : L ≤ 3072)
    (kend : ∀ (σ : ST) (H : Heap) (locs : List Loc) (ls : Array Slot), q_I X 0 σ0 s.heap locs σ H → W p l e room_1 s m #[Value.ref b] below meth c H locs cells slots Q (F0 m 1802 ls [])) :
    ∀ (N i : Nat), L + 1 ≤ i + N → i ≤ L → ∀ (n : Int), 0 ≤ n → 6 * n ≤ 301 * i → ∀ (σ : ST) (H : Heap) (locs : List Loc) (ls : Array Slot), q_I X 0 σ0 s.heap locs σ H → m_M (m_c X σ mo) (σ.1 mo 24).toInt n → lw_E xo mo σ → lw_B X xo mo σ → al_R X xo mo σ σ → lv_has ls 4 [(3, .int (nI i)), (2, .ref mo), (1, .ref xo), (0, .ref b)] → W p l e room_1 s m #[Value.ref b] below meth c H locs cells slots Q (F0 m 18 ls []) := by
  have hx := E.1
  have hb := E.2.1
  intro N
  induction N with
  | zero =>
    intro i h1 h2
    exact absurd h1 (by omega)
  | succ N ih =>
    intro i h1 h2 n n0 n1 σ H locs ls hI hM hE hB hA hl
    have ei : (nI i).toInt = i := nI_toInt (by omega)
    have eL : (nI L).toInt = L := nI_toInt (by omega)
    refine lv_iload_n hx hb dL_law_18 rfl (lv_at hl 0 rfl) ?_
    refine lv_aload_n hx hb dL_law_19 rfl (lv_at hl 3 rfl) ?_
    refine va_slen hx hb hX hbl hbA hI.S dL_law_20 ?_
    refine lv_bipush (v := 6) hx hb dL_law_21 (by decide) ?_
    refine lv_isub hx hb dL_law_23 ?_
    have e6 : (nI L - 6).toInt = L - 6 := by
      have s6 : (6 : Int32).toInt = 6 := rfl
      rw [Int32.toInt_sub, eL, s6, Int.bmod_eq_of_le (by omega) (by omega)]
    refine lv_icmp_gt (tgt := 1802) hx hb dL_law_24 (by decide) (fun _ => kend σ H locs ls hI) (fun q => ?_)
    have q' : ¬ nI L - 6 < nI i := q
    rw [Int32.lt_iff_toInt_lt, e6, ei] at q'
    have hi6 : i + 6 ≤ L := by omega
    refine lv_aload_n hx hb dL_law_27 rfl (lv_at hl 3 rfl) ?_
    refine lv_iload_n hx hb dL_law_28 rfl (lv_at hl 0 rfl) ?_
    refine va_sld hx hb hX hbl hbA hI.S (vp_in_iff.mpr (by rw [ei]; omega)) dL_law_29 ?_
    refine lv_bipush (v := 63) hx hb dL_law_30 (by decide) ?_
    refine lv_iand hx hb dL_law_32 ?_
    have hr := m_and63 (xs (nI i).toNatClampNeg)
    generalize xs (nI i).toNatClampNeg &&& 63 = z at hr ⊢
    have hn : 0 ≤ n ∧ n ≤ 199000 := by omega
    have JN : ∀ (σ : ST) (H : Heap) (locs : List Loc), q_I X 0 σ0 s.heap locs σ H → m_M (m_c X σ mo) (σ.1 mo 24).toInt (n + 301) → lw_E xo mo σ → lw_B X xo mo σ → al_R X xo mo σ σ → W p l e room_1 s m #[Value.ref b] below meth c H locs cells slots Q (F0 m 1796 ls []) := by
      intro σ H locs hI hM hE hB hA
      refine lv_iinc (v := nI (i + 6)) (lv' := [(3, .int (nI (i + 6))), (2, .ref mo), (1, .ref xo), (0, .ref b)]) hx hb dL_law_1796 hl (k := 0) rfl (by first | exact nI_add i 6 | exact (nI_add i 6).symm) (by decide) rfl (fun ls hl => ?_)
      refine lv_goto (tgt := 18) hx hb dL_law_1799 (by decide) ?_
      exact ih (i + 6) (by omega) hi6 (n + 301) (by omega) (by omega) σ H locs ls hI hM hE hB hA hl
    by_cases h53 : 53 < z.toInt
    · exact lv_tableOut (tgt := 1796) hx hb dL_law_33 (Or.inr h53) (by decide) (JN σ H locs hI (lw_up hM (q_bd hI hmo (rfl : q_bn 12 24 = (0, 3))).2) hE hB hA)
    · obtain ⟨k, hk⟩ : ∃ k : Nat, z.toInt = (k : Int) := ⟨z.toInt.toNat, by omega⟩
      match k, hk with
      | 0, hk => exact lv_tableIn (tgt := 264) hx hb dL_law_33 (by omega) (by omega) (by rw [hk]; rfl) (by decide) (lw_c0 hcl hal E hX hbl hbA hml hxo hmo hcs hL hi6 hn hI hM hl hE hB hA JN)
      | 1, hk => exact lv_tableIn (tgt := 277) hx hb dL_law_33 (by omega) (by omega) (by rw [hk]; rfl) (by decide) (lw_c1 hcl hal E hX hbl hbA hml hxo hmo hcs hL hi6 hn hI hM hl hE hB hA JN)
      | 2, hk => exact lv_tableIn (tgt := 290) hx hb dL_law_33 (by omega) (by omega) (by rw [hk]; rfl) (by decide) (lw_c2 hcl hal E hX hbl hbA hml hxo hmo hcs hL hi6 hn hI hM hl hE hB hA JN)
      | 3, hk => exact lv_tableIn (tgt := 303) hx hb dL_law_33 (by omega) (by omega) (by rw [hk]; rfl) (by decide) (lw_c3 hcl hal E hX hbl hbA hml hxo hmo hcs hL hi6 hn hI hM hl hE hB hA JN)
      | 4, hk => exact lv_tableIn (tgt := 346) hx hb dL_law_33 (by omega) (by omega) (by rw [hk]; rfl) (by decide) (lw_c4 hcl hal E hX hbl hbA hml hxo hmo hcs hL hi6 hn hI hM hl hE hB hA JN)
      | 5, hk => exact lv_tableIn (tgt := 419) hx hb dL_law_33 (by omega) (by omega) (by rw [hk]; rfl) (by decide) (lw_c5 hcl hal E hX hbl hbA hml hxo hmo hcs hL hi6 hn hI hM hl hE hB hA JN)
      | 6, hk => exact lv_tableIn (tgt := 452) hx hb dL_law_33 (by omega) (by omega) (by rw [hk]; rfl) (by decide) (lw_c6 hcl hal E hX hbl hbA hml hxo hmo hcs hL hi6 hn hI hM hl hE hB hA JN)
      | 7, hk => exact lv_tableIn (tgt := 515) hx hb dL_law_33 (by omega) (by omega) (by rw [hk]; rfl) (by decide) (lw_c7 hcl hal E hX hbl hbA hml hxo hmo hcs hL hi6 hn hI hM hl hE hB hA JN)
      | 8, hk => exact lv_tableIn (tgt := 578) hx hb dL_law_33 (by omega) (by omega) (by rw [hk]; rfl) (by decide) (lw_c8 hcl hal E hX hbl hbA hml hxo hmo hcs hL hi6 hn hI hM hl hE hB hA JN)
      | 9, hk => exact lv_tableIn (tgt := 601) hx hb dL_law_33 (by omega) (by omega) (by rw [hk]; rfl) (by decide) (lw_c9 hcl hal E hX hbl hbA hml hxo hmo hcs hL hi6 hn hI hM hl hE hB hA JN)
      | 10, hk => exact lv_tableIn (tgt := 624) hx hb dL_law_33 (by omega) (by omega) (by rw [hk]; rfl) (by decide) (lw_c10 hcl hal E hX hbl hbA hml hxo hmo hcs hL hi6 hn hI hM hl hE hB hA JN)
      | 11, hk => exact lv_tableIn (tgt := 647) hx hb dL_law_33 (by omega) (by omega) (by rw [hk]; rfl) (by decide) (lw_c11 hcl hal E hX hbl hbA hml hxo hmo hcs hL hi6 hn hI hM hl hE hB hA JN)
      | 12, hk => exact lv_tableIn (tgt := 670) hx hb dL_law_33 (by omega) (by omega) (by rw [hk]; rfl) (by decide) (lw_c12 hcl hal E hX hbl hbA hml hxo hmo hcs hL hi6 hn hI hM hl hE hB hA JN)
      | 13, hk => exact lv_tableIn (tgt := 703) hx hb dL_law_33 (by omega) (by omega) (by rw [hk]; rfl) (by decide) (lw_c13 hcl hal E hX hbl hbA hml hxo hmo hcs hL hi6 hn hI hM hl hE hB hA JN)
      | 14, hk => exact lv_tableIn (tgt := 736) hx hb dL_law_33 (by omega) (by omega) (by rw [hk]; rfl) (by decide) (lw_c14 hcl hal E hX hbl hbA hml hxo hmo hcs hL hi6 hn hI hM hl hE hB hA JN)
      | 15, hk => exact lv_tableIn (tgt := 759) hx hb dL_law_33 (by omega) (by omega) (by rw [hk]; rfl) (by decide) (lw_c15 hcl hal E hX hbl hbA hml hxo hmo hcs hL hi6 hn hI hM hl hE hB hA JN)
      | 16, hk => exact lv_tableIn (tgt := 792) hx hb dL_law_33 (by omega) (by omega) (by rw [hk]; rfl) (by decide) (lw_c16 hcl hal E hX hbl hbA hml hxo hmo hcs hL hi6 hn hI hM hl hE hB hA JN)
      | 17, hk => exact lv_tableIn (tgt := 825) hx hb dL_law_33 (by omega) (by omega) (by rw [hk]; rfl) (by decide) (lw_c17 hcl hal E hX hbl hbA hml hxo hmo hcs hL hi6 hn hI hM hl hE hB hA JN)
      | 18, hk => exact lv_tableIn (tgt := 858) hx hb dL_law_33 (by omega) (by omega) (by rw [hk]; rfl) (by decide) (lw_c18 hcl hal E hX hbl hbA hml hxo hmo hcs hL hi6 hn hI hM hl hE hB hA JN)
      | 19, hk => exact lv_tableIn (tgt := 911) hx hb dL_law_33 (by omega) (by omega) (by rw [hk]; rfl) (by decide) (lw_c19 hcl hal E hX hbl hbA hml hxo hmo hcs hL hi6 hn hI hM hl hE hB hA JN)
      | 20, hk => exact lv_tableIn (tgt := 924) hx hb dL_law_33 (by omega) (by omega) (by rw [hk]; rfl) (by decide) (lw_c20 hcl hal E hX hbl hbA hml hxo hmo hcs hL hi6 hn hI hM hl hE hB hA JN)
      | 21, hk => exact lv_tableIn (tgt := 947) hx hb dL_law_33 (by omega) (by omega) (by rw [hk]; rfl) (by decide) (lw_c21 hcl hal E hX hbl hbA hml hxo hmo hcs hL hi6 hn hI hM hl hE hB hA JN)
      | 22, hk => exact lv_tableIn (tgt := 990) hx hb dL_law_33 (by omega) (by omega) (by rw [hk]; rfl) (by decide) (lw_c22 hcl hal E hX hbl hbA hml hxo hmo hcs hL hi6 hn hI hM hl hE hB hA JN)
      | 23, hk => exact lv_tableIn (tgt := 1023) hx hb dL_law_33 (by omega) (by omega) (by rw [hk]; rfl) (by decide) (lw_c23 hcl hal E hX hbl hbA hml hxo hmo hcs hL hi6 hn hI hM hl hE hB hA JN)
      | 24, hk => exact lv_tableIn (tgt := 1056) hx hb dL_law_33 (by omega) (by omega) (by rw [hk]; rfl) (by decide) (lw_c24 hcl hal E hX hbl hbA hml hxo hmo hcs hL hi6 hn hI hM hl hE hB hA JN)
      | 25, hk => exact lv_tableIn (tgt := 1079) hx hb dL_law_33 (by omega) (by omega) (by rw [hk]; rfl) (by decide) (lw_c25 hcl hal E hX hbl hbA hml hxo hmo hcs hL hi6 hn hI hM hl hE hB hA JN)
      | 26, hk => exact lv_tableIn (tgt := 1102) hx hb dL_law_33 (by omega) (by omega) (by rw [hk]; rfl) (by decide) (lw_c26 hcl hal E hX hbl hbA hml hxo hmo hcs hL hi6 hn hI hM hl hE hB hA JN)
      | 27, hk => exact lv_tableIn (tgt := 1125) hx hb dL_law_33 (by omega) (by omega) (by rw [hk]; rfl) (by decide) (lw_c27 hcl hal E hX hbl hbA hml hxo hmo hcs hL hi6 hn hI hM hl hE hB hA JN)
      | 28, hk => exact lv_tableIn (tgt := 1148) hx hb dL_law_33 (by omega) (by omega) (by rw [hk]; rfl) (by decide) (lw_c28 hcl hal E hX hbl hbA hml hxo hmo hcs hL hi6 hn hI hM hl hE hB hA JN)
      | 29, hk => exact lv_tableIn (tgt := 1171) hx hb dL_law_33 (by omega) (by omega) (by rw [hk]; rfl) (by decide) (lw_c29 hcl hal E hX hbl hbA hml hxo hmo hcs hL hi6 hn hI hM hl hE hB hA JN)
      | 30, hk => exact lv_tableIn (tgt := 1184) hx hb dL_law_33 (by omega) (by omega) (by rw [hk]; rfl) (by decide) (lw_c30 hcl hal E hX hbl hbA hml hxo hmo hcs hL hi6 hn hI hM hl hE hB hA JN)
      | 31, hk => exact lv_tableIn (tgt := 1217) hx hb dL_law_33 (by omega) (by omega) (by rw [hk]; rfl) (by decide) (lw_c31 hcl hal E hX hbl hbA hml hxo hmo hcs hL hi6 hn hI hM hl hE hB hA JN)
      | 32, hk => exact lv_tableIn (tgt := 1250) hx hb dL_law_33 (by omega) (by omega) (by rw [hk]; rfl) (by decide) (lw_c32 hcl hal E hX hbl hbA hml hxo hmo hcs hL hi6 hn hI hM hl hE hB hA JN)
      | 33, hk => exact lv_tableIn (tgt := 1273) hx hb dL_law_33 (by omega) (by omega) (by rw [hk]; rfl) (by decide) (lw_c33 hcl hal E hX hbl hbA hml hxo hmo hcs hL hi6 hn hI hM hl hE hB hA JN)
      | 34, hk => exact lv_tableIn (tgt := 1306) hx hb dL_law_33 (by omega) (by omega) (by rw [hk]; rfl) (by decide) (lw_c34 hcl hal E hX hbl hbA hml hxo hmo hcs hL hi6 hn hI hM hl hE hB hA JN)
      | 35, hk => exact lv_tableIn (tgt := 1339) hx hb dL_law_33 (by omega) (by omega) (by rw [hk]; rfl) (by decide) (lw_c35 hcl hal E hX hbl hbA hml hxo hmo hcs hL hi6 hn hI hM hl hE hB hA JN)
      | 36, hk => exact lv_tableIn (tgt := 1362) hx hb dL_law_33 (by omega) (by omega) (by rw [hk]; rfl) (by decide) (lw_c36 hcl hal E hX hbl hbA hml hxo hmo hcs hL hi6 hn hI hM hl hE hB hA JN)
      | 37, hk => exact lv_tableIn (tgt := 1385) hx hb dL_law_33 (by omega) (by omega) (by rw [hk]; rfl) (by decide) (lw_c37 hcl hal E hX hbl hbA hml hxo hmo hcs hL hi6 hn hI hM hl hE hB hA JN)
      | 38, hk => exact lv_tableIn (tgt := 1408) hx hb dL_law_33 (by omega) (by omega) (by rw [hk]; rfl) (by decide) (lw_c38 hcl hal E hX hbl hbA hml hxo hmo hcs hL hi6 hn hI hM hl hE hB hA JN)
      | 39, hk => exact lv_tableIn (tgt := 1421) hx hb dL_law_33 (by omega) (by omega) (by rw [hk]; rfl) (by decide) (lw_c39 hcl hal E hX hbl hbA hml hxo hmo hcs hL hi6 hn hI hM hl hE hB hA JN)
      | 40, hk => exact lv_tableIn (tgt := 1454) hx hb dL_law_33 (by omega) (by omega) (by rw [hk]; rfl) (by decide) (lw_c40 hcl hal E hX hbl hbA hml hxo hmo hcs hL hi6 hn hI hM hl hE hB hA JN)
      | 41, hk => exact lv_tableIn (tgt := 1477) hx hb dL_law_33 (by omega) (by omega) (by rw [hk]; rfl) (by decide) (lw_c41 hcl hal E hX hbl hbA hml hxo hmo hcs hL hi6 hn hI hM hl hE hB hA JN)
      | 42, hk => exact lv_tableIn (tgt := 1500) hx hb dL_law_33 (by omega) (by omega) (by rw [hk]; rfl) (by decide) (lw_c42 hcl hal E hX hbl hbA hml hxo hmo hcs hL hi6 hn hI hM hl hE hB hA JN)
      | 43, hk => exact lv_tableIn (tgt := 1523) hx hb dL_law_33 (by omega) (by omega) (by rw [hk]; rfl) (by decide) (lw_c43 hcl hal E hX hbl hbA hml hxo hmo hcs hL hi6 hn hI hM hl hE hB hA JN)
      | 44, hk => exact lv_tableIn (tgt := 1566) hx hb dL_law_33 (by omega) (by omega) (by rw [hk]; rfl) (by decide) (lw_c44 hcl hal E hX hbl hbA hml hxo hmo hcs hL hi6 hn hI hM hl hE hB hA JN)
      | 45, hk => exact lv_tableIn (tgt := 1579) hx hb dL_law_33 (by omega) (by omega) (by rw [hk]; rfl) (by decide) (lw_c45 hcl hal E hX hbl hbA hml hxo hmo hcs hL hi6 hn hI hM hl hE hB hA JN)
      | 46, hk => exact lv_tableIn (tgt := 1602) hx hb dL_law_33 (by omega) (by omega) (by rw [hk]; rfl) (by decide) (lw_c46 hcl hal E hX hbl hbA hml hxo hmo hcs hL hi6 hn hI hM hl hE hB hA JN)
      | 47, hk => exact lv_tableIn (tgt := 1625) hx hb dL_law_33 (by omega) (by omega) (by rw [hk]; rfl) (by decide) (lw_c47 hcl hal E hX hbl hbA hml hxo hmo hcs hL hi6 hn hI hM hl hE hB hA JN)
      | 48, hk => exact lv_tableIn (tgt := 1638) hx hb dL_law_33 (by omega) (by omega) (by rw [hk]; rfl) (by decide) (lw_c48 hcl hal E hX hbl hbA hml hxo hmo hcs hL hi6 hn hI hM hl hE hB hA JN)
      | 49, hk => exact lv_tableIn (tgt := 1661) hx hb dL_law_33 (by omega) (by omega) (by rw [hk]; rfl) (by decide) (lw_c49 hcl hal E hX hbl hbA hml hxo hmo hcs hL hi6 hn hI hM hl hE hB hA JN)
      | 50, hk => exact lv_tableIn (tgt := 1684) hx hb dL_law_33 (by omega) (by omega) (by rw [hk]; rfl) (by decide) (lw_c50 hcl hal E hX hbl hbA hml hxo hmo hcs hL hi6 hn hI hM hl hE hB hA JN)
      | 51, hk => exact lv_tableIn (tgt := 1727) hx hb dL_law_33 (by omega) (by omega) (by rw [hk]; rfl) (by decide) (lw_c51 hcl hal E hX hbl hbA hml hxo hmo hcs hL hi6 hn hI hM hl hE hB hA JN)
      | 52, hk => exact lv_tableIn (tgt := 1770) hx hb dL_law_33 (by omega) (by omega) (by rw [hk]; rfl) (by decide) (lw_c52 hcl hal E hX hbl hbA hml hxo hmo hcs hL hi6 hn hI hM hl hE hB hA JN)
      | 53, hk => exact lv_tableIn (tgt := 1783) hx hb dL_law_33 (by omega) (by omega) (by rw [hk]; rfl) (by decide) (lw_c53 hcl hal E hX hbl hbA hml hxo hmo hcs hL hi6 hn hI hM hl hE hB hA JN)
      | k + 54, hk => exact absurd hk (by omega)
theorem kn_9 : b_okI RL 9 yX11_init cX11_init 2 0 := ⟨(q_in_t1 (i := 22) (by first | rfl | decide +kernel) rfl), (q_in_t1 (i := 23) (by first | rfl | decide +kernel) rfl), (q_in_t1 (i := 1) (by first | rfl | decide +kernel) rfl), (q_in_t1 (i := 24) (by first | rfl | decide +kernel) rfl), rfl, ⟨by decide, by decide, rfl⟩⟩
theorem kn_12 : b_okI RL 12 yX12_init cX12_init 2 0 := ⟨(q_in_t6 (i := 221) (by first | rfl | decide +kernel) rfl), (q_in_t6 (i := 222) (by first | rfl | decide +kernel) rfl), (q_in_t1 (i := 14) (by first | rfl | decide +kernel) rfl), (q_in_t6 (i := 223) (by first | rfl | decide +kernel) rfl), rfl, ⟨by decide, by decide, rfl⟩⟩
set_option maxRecDepth 100000 in
set_option maxHeartbeats 4000000 in
theorem whole_start {p : Program} {e : Env} {s : State} {m : MethodId} {below : List Frame} {meth : Method} {c : Code} (l : Launch) (hflags : l.flags = flags0) {b L : Nat} {xs : Nat → Int32} (hL : L ≤ 3072) (C0 : lw_At p s m meth c b L xs) : W p l e room_1 s m #[Value.ref b] below meth c s.heap [] 0 0 (lw_Z below #[Value.ref b] s) (entryFrame m ([Value.ref b] : List Value).toArray 4) := by
  obtain ⟨hx, hb, hr, hml, hown, hts, hX, hbl, hlocks, hgv⟩ := C0
  have hq := lw_tabs hts
  obtain ⟨D, hK0⟩ := lw_K0 hts
  have hA : ∀ a : Nat, a < s.heap.size → ¬ (fun q : Nat => s.heap.size ≤ q) a := fun a h => Nat.not_le.mpr h
  obtain ⟨sk, sv, hSS, hSR⟩ := lw_strs (A := fun q => s.heap.size ≤ q) hts hgv hA
  have hZ := va_Zof (A := fun q => s.heap.size ≤ q) (hts _ (lw_t3 (i := 195) (by first | rfl | decide +kernel))) (hts _ (lw_t1 (i := 16) (by first | rfl | decide +kernel))) (va_eqt (lw_hs hgv lw_s8)) hA
  have hZq := va_Zqof (A := fun q => s.heap.size ≤ q) (hts _ (lw_t3 (i := 211) (by first | rfl | decide +kernel))) (hts _ (lw_t1 (i := 18) (by first | rfl | decide +kernel))) (lw_hs hgv lw_s9) hA
  have hl := lv_entry ([.ref b]) (n := 4) (Nat.le_of_ble_eq_true rfl)
  rw [lg_entry_eq]
  generalize (lg_sl ([.ref b]) ++ List.replicate (4 - (lg_sl ([.ref b])).length) Slot.unset).toArray = ls at hl ⊢
  have hl : lv_has ls 4 [(0, .ref b)] := hl
  have E : q_E0 p c cL_law s m #[Value.ref b] RL D := ⟨hx, hb, hown, hq, hK0⟩
  obtain ⟨X0, dX0⟩ : ∃ X : XW, X = lw_X0 D sk sv := ⟨_, rfl⟩
  obtain ⟨σi, dσi⟩ : ∃ τ : ST, τ = lw_σ0 := ⟨_, rfl⟩
  have hD : X0.1 = D := by rw [dX0]; rfl
  have w0 : q_w X0 σi s.heap := by rw [dX0, dσi]; exact lw_w0
  have g0 : ∀ a, q_kd X0 a = 0 := fun a => by rw [dX0]; rfl
  have hS0 : va_S (fun q : Nat => s.heap.size ≤ q) s.heap s.heap [] := va_S.rf
  refine b_new E hS0 (q_in_t1 (i := 20) (by first | rfl | decide +kernel) rfl) (q_in_t1 (i := 21) (by first | rfl | decide +kernel) rfl) (q_in_t1 (i := 1) (by first | rfl | decide +kernel) rfl) (show vwCl[10]? = some (RX11, TX11, 17) from rfl) q_inX11 tyX11 tyX11_ok (Nat.le_of_ble_eq_true rfl) (Nat.le_of_ble_eq_true rfl) dL_law_0 (fun q1 H1 e1 z1 o1 b1 S1 => ?_)
  have w1 : q_w X0 σi H1 := w0.kept (fun a ha => o1 a (w0.lt ha))
  have k1 : q_kd X0 q1 = 0 := g0 q1
  have u1 := S1.1
  refine lv_dup hx hb dL_law_3 rfl ?_
  have A1 : ∀ a : Nat, q_nw q1 H1.size a → s.heap.size ≤ a := by
    rintro a (q | q)
    · omega
    · omega
  refine b_cv (b_runI (As := []) (rest := [.ref q1]) E (hml.trans hl.1.symm) hD w1 k1 b1 rfl (n_X11 l D X0 σi q1 H1.size) kn_9 rfl ⟨Nat.le_of_ble_eq_true rfl, Nat.le_of_ble_eq_true rfl⟩ ⟨Nat.le_of_ble_eq_true rfl, Nat.le_of_ble_eq_true rfl⟩ rfl (Nat.le_of_ble_eq_true rfl) dL_law_4) S1 rfl A1 (fun X1 σ1 H2 locs1 x1 h1 p1 w2 z2 o2 S2 => ?_)
  refine lv_astore_n (lv' := [(1, .ref q1), (0, .ref b)]) hx hb dL_law_7 rfl hl (by decide) rfl (fun ls hl => ?_)
  have hD1 : X1.1 = D := x1.1.trans hD
  have u2 := S2.1
  refine b_new E S2 (q_in_t6 (i := 219) (by first | rfl | decide +kernel) rfl) (q_in_t6 (i := 220) (by first | rfl | decide +kernel) rfl) (q_in_t1 (i := 14) (by first | rfl | decide +kernel) rfl) (show vwCl[11]? = some (RX12, TX12, 46) from rfl) q_inX12 tyX12 tyX12_ok (Nat.le_of_ble_eq_true rfl) (Nat.le_of_ble_eq_true rfl) dL_law_8 (fun q2 H3 e2 z3 o3 b3 S3 => ?_)
  have w3 : q_w X1 σ1 H3 := w2.kept (fun a ha => o3 a (w2.lt ha))
  have k3 : q_kd X1 q2 = 0 := w2.fresh (Nat.le_of_eq e2.symm)
  have u3 := S3.1
  refine lv_dup hx hb dL_law_11 rfl ?_
  have A2 : ∀ a : Nat, q_nw q2 H3.size a → s.heap.size ≤ a := by
    rintro a (q | q)
    · omega
    · omega
  refine b_cv (b_runI (As := []) (rest := [.ref q2]) E (hml.trans hl.1.symm) hD1 w3 k3 b3 rfl (n_X12 l D X1 σ1 q2 H3.size) kn_12 rfl ⟨Nat.le_of_ble_eq_true rfl, Nat.le_of_ble_eq_true rfl⟩ ⟨Nat.le_of_ble_eq_true rfl, Nat.le_of_ble_eq_true rfl⟩ rfl (Nat.le_of_ble_eq_true rfl) dL_law_12) S3 rfl A2 (fun X2 σ2 H4 locs2 x2 h2 p2 w4 z4 o4 S4 => ?_)
  refine lv_astore_n (lv' := [(2, .ref q2), (1, .ref q1), (0, .ref b)]) hx hb dL_law_15 rfl hl (by decide) rfl (fun ls hl => ?_)
  refine lv_iconst (v := 0) hx hb dL_law_16 (by decide) ?_
  refine lv_istore_n (lv' := [(3, .int 0), (2, .ref q2), (1, .ref q1), (0, .ref b)]) hx hb dL_law_17 rfl hl (by decide) rfl (fun ls hl => ?_)
  have hxo : q_kd X2 q1 = 11 := x2.kd h1 (by decide)
  have hE0 : lw_E q1 q2 σ2 := by
    have y : q_kd X1 q1 ≠ 0 := by rw [h1]; decide
    unfold lw_E
    rw [q_exi x2 y, q_exi x2 y, p1.2.1.1, p1.2.1.2, p2.2.1.1, p2.2.1.2]
    exact ⟨rfl, rfl⟩
  have hB0 : lw_B X2 q1 q2 σ2 := by
    have y : q_kd X1 q1 ≠ 0 := by rw [h1]; decide
    intro p p0 p1'
    rw [q_exi x2 y, p1.2.1.1] at p1'
    have z0 : (0 : Int32).toInt = 0 := rfl
    omega
  have hroot : y_root X2 q1 := p2.1.1 q1 (by rw [h1]; decide) p1.1.2
  obtain ⟨lb, hlb, hl1⟩ := w4.2.2.2.2.1.lb w4.1 hroot
  have k33 : q_kd X2 (q_rf X2 q2 7) = 33 := (w4.1.1 q2 7 (by rw [h2]; decide)).trans (by rw [h2]; rfl)
  have hcl : tb_Cls X2 lb q1 q2 := y_Cls hlb hxo h2 hl1 ((w4.1.2.1 (q_rf X2 q2 7) (by rw [k33]; decide)).trans (by rw [k33]; rfl))
  have hal : al_C X2 lb q1 q2 := al_Cmk hlb hxo h2 hl1
  have hS0_ := al_start hal w4.2.2.2.2.2 p2.2.1.2 p2.2.2.2
  have hD2 : X2.1 = D := x2.1.trans hD1
  have hsk : q_sk X2 = sk := x2.2.1.trans (x1.2.1.trans (by rw [dX0]; rfl))
  have hsv : q_sv X2 = sv := x2.2.2.1.trans (x1.2.2.1.trans (by rw [dX0]; rfl))
  have hreg : ∀ a, q_reg X2 a → s.heap.size ≤ a := by
    intro a ha
    rcases x2.2.2.2.2 a ha with q | q
    · rcases x1.2.2.2.2 a q with q | q
      · exact absurd (g0 a) q
      · exact A1 a q
    · exact A2 a q
  have hKX : q_KX X2 s := by
    refine ⟨?_, hK0.2.1, fun r hr => by rw [hsk]; exact hSR r hr⟩
    show va_K X2.1.1 vwCl [(X2.1.2 0, .byte), (X2.1.2 1, .int), (X2.1.2 2, .long), (X2.1.2 3, .object "CheatHeap$Tray"), (X2.1.2 4, .object "CheatHeap$Game")] s
    rw [hD2]
    exact hK0.1
  have hSW : q_SW X2 s s.heap := ⟨by rw [hsk, hsv]; exact hSS.narrow hreg, hZ.narrow hreg, hZq.narrow hreg⟩
  have E2 : q_E p c cL_law s m #[Value.ref b] RL X2 := ⟨hx, hb, hown, hq, hKX, hSW⟩
  have hS5 : va_S (q_reg X2) s.heap H4 [] := ⟨S4.1, fun a h _ => S4.2.1 a h (Nat.not_le.mpr h), fun l h => absurd h List.not_mem_nil⟩
  have hI : q_I X2 0 σ2 s.heap [] σ2 H4 := ⟨w4.1, w4.2.1, w4.2.2.1, w4.2.2.2.1, hS5, q_K.rf⟩
  refine va_forget (fun q hq => S4.2.2 q hq) ?_
  refine W.widen (k := 332) (n := 15232) (Nat.le_of_ble_eq_true rfl) (Nat.le_of_ble_eq_true rfl) ?_
  refine lw_loop hcl hal E2 hX hbl (fun q => absurd (hreg b q) (Nat.not_le.mpr hbl)) hml hxo h2 ⟨Nat.le_of_ble_eq_true rfl, Nat.le_of_ble_eq_true rfl⟩ hL (fun σ H locs ls hI => ?_) (L + 1) 0 (by omega) (Nat.zero_le _) 0 (Int.le_refl 0) (by omega) σ2 H4 [] ls hI (lw_m0 p2.2.1.2 p2.2.2.2) hE0 hB0 hS0_.1 hl
  refine lv_iconst (v := 1) hx hb dL_law_1802 (by decide) ?_
  refine va_forget (fun q hq => hreg _ (hI.S.2.2 q hq)) ?_
  refine W.widen (k := 600000) (n := 7302250) (Nat.le_of_ble_eq_true rfl) (Nat.le_of_ble_eq_true rfl) ?_
  exact lw_ret hx hb hr hlocks dL_law_1803
end
/-! FROM 65.law.lean.txt -/
section
set_option maxHeartbeats 4000000 in
theorem lw_walk (l : Launch) (hflags : l.flags = flags0) (b : Addr) (xs : List Int32) : MetFree l x (headSpec (Jvm.Cond.code x code maxLocals ret :: tables_1) room_1) (lw_P b xs) (fun _ _ _ _ _ => True) lw_Q := by
  refine MetFree.of_bodyS (code := code) (maxLocals := maxLocals) (ret := ret) (by decide) ?_ ?_
  · intro args s m h hn
    obtain ⟨meth, c, h1, h2, h3, h4, h5, h6, -, -⟩ := Cond.code_spec hn (atoms_spec (ws := Jvm.Cond.code x code maxLocals ret :: tables_1) h _ List.mem_cons_self)
    exact ⟨meth, c, h1, h2, h3, h4, h5, h6⟩
  · intro p e s m args below meth c s₁ B hml0 hP _
    obtain ⟨rfl, hx, hbd, hgv⟩ := hP
    obtain ⟨scr, harrAt, hlist, hof, hsmall⟩ := hx
    obtain ⟨hcb, hkn, -, -⟩ := State.arrayAt?_spec harrAt
    have hown : s.vm.findClass R_law = some m.cls := findClass_of_methodNamed B.named
    have hts0 : ∀ c ∈ (Jvm.Cond.code x code maxLocals ret :: tables_1), c.before #[Value.ref b] s = true := atoms_spec (ws := Jvm.Cond.code x code maxLocals ret :: tables_1) B.pre
    have hts : ∀ w ∈ lw_tbl, w.before #[Value.ref b] s = true := k2_hts_sels lw_privs (fun w hw => hts0 w (List.mem_cons_of_mem _ hw)) lw_privs_ok
    have hml : c.maxLocals = 4 := B.maxLocals_eq (hts0 _ List.mem_cons_self)
    have X₀ : Stand p l e room_1 s m #[Value.ref b] below meth c s₁ [] 0 0 := Stand.of_body B
    have hh0 : s₁.heap = s.heap := by rw [B.state]; rfl
    have hsz : scr.slots.size = xs.length := by rw [← Array.length_toList, hlist, List.length_map]
    have hval : ∀ j : Nat, j < xs.length → scr.slots[j]? = some (.int (xs.getD j 0)) := fun j hj => by
      rw [← Array.getElem?_toList, hlist]
      simp [hj]
    have hbl : b < s.heap.size := (Array.getElem?_eq_some_iff.mp hcb).1
    have hX : va_X b xs.length (fun j => xs.getD j 0) s s.heap := ⟨scr, hcb, hof, hkn, hsz, hval⟩
    have K : W p l e room_1 s m #[Value.ref b] below meth c s₁.heap [] 0 0 (lw_Z below #[Value.ref b] s) (entryFrame m ([Value.ref b] : List Value).toArray 4) := by
      rw [hh0]
      exact whole_start l hflags hbd ⟨B.exec, B.bytes, B.returns, hml, hown, hts, hX, hbl, B.notSynchronized, hgv⟩
    obtain ⟨t, a1, o, b1, b2, b3⟩ := K s₁ rfl X₀
    exact ⟨t, o, a1, b1, b2, b3⟩
theorem lw_pre_spec {args : Array Value} {s : State} (h : (Jvm.Cond.and given_1 narrow_1).before args s = true) (hr : rest_1_c.before args s = true) : ∃ (b : Addr) (xs : List Int32), lw_P b xs args s := by
  have hs := flat_of_before _ h
  have hq := flat_of_before _ hr
  have hc : (Cond.count 1).before args s = true := hs _ (by decide +kernel)
  have harr : (Cond.arrayOf (.arg 0) .int).before args s = true := hs _ (by decide +kernel)
  have hle : (Cond.le (.length (.arg 0)) (.int 3072)).before args s = true := hs _ (by decide +kernel)
  have hlen : (Cond.isInt (.length (.arg 0))).before args s = true := hq _ (by decide +kernel)
  have hall : (Cond.all (.arg 0) (.isInt (.elem (.arg 0) (.index 0)))).before args s = true := hq _ (by decide +kernel)
  obtain ⟨b, xs, hb, hx⟩ := State.ints_of_pre rfl harr hlen hall
  have hsm : xs.length < 2 ^ 31 := hx.choose_spec.2.2.2
  have hev : (Term.length (.arg 0)).eval args s none [] s = some (.int xs.length.toInt32) := hx.length_eval hb
  have hv := Cond.le_ints hev (show (Term.int 3072).eval args s none [] s = some (.int 3072) from rfl)
  have hd : xs.length.toInt32 ≤ 3072 := by
    simpa [Cond.before, Cond.holds, hv] using hle
  have hN : xs.length ≤ 3072 := (Int32.ofNat_le_ofNat hsm (by decide)).mp (show Int32.ofNat xs.length ≤ Int32.ofNat 3072 from hd)
  exact ⟨b, xs, Cond.one_arg hc (show args[0]? = some (.ref b) from hb), hx, hN, h⟩
theorem lw_comes (l : Launch) (hflags : l.flags = flags0) : Comes l x (Jvm.Cond.code x code maxLocals ret :: tables_1) room_1 (fun tb e args s => Calls_1 tb e args s ∧ rest_1 tb e args s ∧ Pre_1 tb e args s)
    (fun _ _ args s o t => lw_Q args s o t) := by
  intro p e ha hc hk s m args below hf hfit hheap happ hpre
  obtain ⟨b, xs, hP⟩ := lw_pre_spec hpre.2.2 hpre.2.1
  obtain ⟨k, o, h1, h2, h3, hQ⟩ := lw_walk l hflags b xs p e ha hc hk s m args below hf ((Spec.applies_iff_loose hf).mp happ).1 hP trivial
  exact ⟨k, o, h1, h2, h3, hQ⟩
theorem lw_frame {s t : State} {o : Outcome} {args : Array Value} (h : Framed s o t [] 600000 7302250) :
    Framed s o t (fieldLocs frame_1_writes args s ++ arrayLocs frame_1_arrays args s ++ staticLocs frame_1_statics s) 600000 7302250 := h
theorem lw_limb (L : Cond) (hL : ∀ (args : Array Value) (s t : State), L.after args s (.returned (some (.int 1))) t = true) :
    ArmFor flags0 classFile x code maxLocals ret World_1 tables_1 room_1 Calls_1 rest_1 Pre_1
      (fun tb e a s o t => postC L tb e a s o t ∧ Framed s o t (fieldLocs frame_1_writes a s ++ arrayLocs frame_1_arrays a s ++ staticLocs frame_1_statics s) 600000 7302250) := by
  intro l hflags _ _ p e ha hc hk s m args below hf hfit hheap happ hpre
  obtain ⟨k, o, h1, h2, h3, rfl, hF⟩ := lw_comes l hflags p e ha hc hk s m args below hf hfit hheap happ hpre
  exact ⟨k, _, h1, h2, h3, hL args s _, lw_frame hF⟩
theorem i_vc : Claimed_1_1 ∧ Claimed_1_2 := ⟨lw_limb limb_1_1 (fun args s t => by simp [limb_1_1, Cond.after, Cond.holds, Cond.value]), lw_limb limb_1_2 (fun args s t => Cond.after_iff.mpr (by
  first | (rw [show limb_1_2 = Cond.eq .result (.int 1) from rfl, Cond.eq_ints (x := 1) (y := 1) rfl rfl]; simp; done) | (simp [limb_1_2, Cond.value, Term.eval]; done)))⟩
end
