set_option maxRecDepth 100000 in
set_option maxHeartbeats 4000000 in
theorem n_X12 (l : Launch) (D : DW) (X : XW) (σ : ST) (h sz : Nat) : Met l yX12_init (q_ws yX12_init cX12_init 2 none) { frames := 1, cells := 0 + 1 + 1 + 1 + 1 + 1 + 1 + 1 + 1 + 1 + 1 + 1 + 1, slots := 0 + 4 + 4 + 240 + 900 + 4650 + 654 + 60 + 30 + 10 + 4 + 10 + 5, locals := 12 } (q_PN D X σ h sz 11 46 (fun k => defaultValue (tyX12 k)) [.ref h]) (q_QN X σ h sz 12 (fun X' σ' => (σ'.1 h 8 = 0 ∧ σ'.1 h 24 = 0) ∧ (∀ j, j < 4 → σ'.1 (q_rf X' h 4) j = 0 ∧ σ'.1 (q_rf X' h 5) j = -1) ∧ ∀ j, σ'.1 (q_rf X' h 20) j = if j = 6 then -1 else if j = 8 then -1 else if j = 4 then 4 else if j = 1 then 1 else if j = 0 then 2 else 0)) (0 + 1 + 1 + 1 + 1 + 1 + 1 + 1 + 1 + 1 + 1 + 1 + 1) (0 + 4 + 4 + 240 + 900 + 4650 + 654 + 60 + 30 + 10 + 4 + 10 + 5) (q_nw h sz) := by
  refine b_met (by decide +kernel) rfl rfl (Nat.le_of_ble_eq_true rfl) (fun p e s m below meth c E hml hr hlk hnm hsz hD hw0 h00 hob ls hl => ?_)
  subst hsz
  have hxx := E.1
  have hb := E.2.1
  have hl : lv_has ls 2 [(0, .ref h)] := hl
  have hS : va_S (q_nw h s.heap.size) s.heap s.heap [] := va_S.rf
  have hx0 : q_ext (q_nw h s.heap.size) X X σ σ := q_ext.rf
  have hAh : q_nw h s.heap.size h := Or.inl rfl
  have hlt := t_lt hob
  refine lv_aload_n hxx hb dX12_init_0 rfl (lv_at hl 0 rfl) ?_
  refine W.objInit hxx hb E.2.2.1 (E.2.2.2.1 _ bw_1424) (E.2.2.2.1 _ bw_26) (E.2.2.2.1 _ bw_27) rfl (by rw [hml]; exact hl.1) rfl dX12_init_1 (Nat.le_of_ble_eq_true rfl) (Nat.le_of_ble_eq_true rfl) ?_
  refine W.eq (g2 := F0 m 4 ls []) rfl ?_
  refine lv_aload_n hxx hb dX12_init_4 rfl (lv_at hl 0 rfl) ?_
  refine lv_lconst (v := 1) hxx hb dX12_init_5 (by decide) ?_
  refine b_put E hS hAh hnm (f := 3) hob (show vwCl[11]? = some (RX12, TX12, 46) from rfl) q_inX12 tyX12_ok nmX12 (by decide) bw_1428 rfl (fun _ => rfl) (tyX12_ok 3 (by decide)) rfl rfl dX12_init_6 (fun H1 locs1 z2 o3 b4 S5 => ?_)
  have w6 : q_w X σ H1 := hw0.kept (fun a ha => o3 a (fun e => ha (by rw [e]; exact h00)))
  have t7 := t_lt b4
  refine lv_aload_n hxx hb dX12_init_9 rfl (lv_at hl 0 rfl) ?_
  refine lv_iconst (v := 4) hxx hb dX12_init_10 (by decide) ?_
  refine b_newa E S5 bw_56 (t := 1) rfl (fun _ _ => rfl) (N' := 4) (by decide) (by decide) (by decide) (Nat.le_of_ble_eq_true rfl) (Nat.le_of_ble_eq_true rfl) dX12_init_11 (fun q8 H9 e10 z11 o12 r13 S14 => ?_)
  have w15 : q_w X σ H9 := w6.kept (fun a ha => o12 a (w6.lt ha))
  have b16 := b4.kept (o12 h t7)
  have t17 := t_lt b16
  have k18 : q_kd X q8 = 0 := w6.fresh (Nat.le_of_eq e10.symm)
  have g19 := S14.1
  refine b_put E S14 hAh hnm (f := 4) b16 (show vwCl[11]? = some (RX12, TX12, 46) from rfl) q_inX12 tyX12_ok nmX12 (by decide) bw_1429 rfl (fun _ => rfl) (tyX12_ok 4 (by decide)) rfl rfl dX12_init_13 (fun H20 locs1 z21 o22 b23 S24 => ?_)
  have w25 : q_w X σ H20 := w15.kept (fun a ha => o22 a (fun e => ha (by rw [e]; exact h00)))
  have t26 := t_lt b23
  have r27 := (o22 q8 (by omega)).trans r13
  refine lv_aload_n hxx hb dX12_init_16 rfl (lv_at hl 0 rfl) ?_
  refine lv_iconst (v := 4) hxx hb dX12_init_17 (by decide) ?_
  refine b_newa E S24 bw_56 (t := 1) rfl (fun _ _ => rfl) (N' := 4) (by decide) (by decide) (by decide) (Nat.le_of_ble_eq_true rfl) (Nat.le_of_ble_eq_true rfl) dX12_init_18 (fun q28 H29 e30 z31 o32 r33 S34 => ?_)
  have w35 : q_w X σ H29 := w25.kept (fun a ha => o32 a (w25.lt ha))
  have b36 := b23.kept (o32 h t26)
  have t37 := t_lt b36
  have r38 := (o32 q8 (raw_lt r27)).trans r27
  have k39 : q_kd X q28 = 0 := w25.fresh (Nat.le_of_eq e30.symm)
  have g40 := S34.1
  refine b_put E S34 hAh hnm (f := 5) b36 (show vwCl[11]? = some (RX12, TX12, 46) from rfl) q_inX12 tyX12_ok nmX12 (by decide) bw_1430 rfl (fun _ => rfl) (tyX12_ok 5 (by decide)) rfl rfl dX12_init_20 (fun H41 locs1 z42 o43 b44 S45 => ?_)
  have w46 : q_w X σ H41 := w35.kept (fun a ha => o43 a (fun e => ha (by rw [e]; exact h00)))
  have t47 := t_lt b44
  have r48 := (o43 q8 (by omega)).trans r38
  have r49 := (o43 q28 (by omega)).trans r33
  refine lv_aload_n hxx hb dX12_init_23 rfl (lv_at hl 0 rfl) ?_
  refine lv_sipush (v := 240) hxx hb dX12_init_24 (by decide) ?_
  refine b_newa E S45 bw_441 (t := 2) rfl (fun _ _ => rfl) (N' := 240) (by decide) (by decide) (by decide) (Nat.le_of_ble_eq_true rfl) (Nat.le_of_ble_eq_true rfl) dX12_init_27 (fun q50 H51 e52 z53 o54 r55 S56 => ?_)
  have w57 : q_w X σ H51 := w46.kept (fun a ha => o54 a (w46.lt ha))
  have b58 := b44.kept (o54 h t47)
  have t59 := t_lt b58
  have r60 := (o54 q8 (raw_lt r48)).trans r48
  have r61 := (o54 q28 (raw_lt r49)).trans r49
  have k62 : q_kd X q50 = 0 := w46.fresh (Nat.le_of_eq e52.symm)
  have g63 := S56.1
  refine b_put E S56 hAh hnm (f := 6) b58 (show vwCl[11]? = some (RX12, TX12, 46) from rfl) q_inX12 tyX12_ok nmX12 (by decide) bw_1431 rfl (fun _ => rfl) (tyX12_ok 6 (by decide)) rfl rfl dX12_init_29 (fun H64 locs1 z65 o66 b67 S68 => ?_)
  have w69 : q_w X σ H64 := w57.kept (fun a ha => o66 a (fun e => ha (by rw [e]; exact h00)))
  have t70 := t_lt b67
  have r71 := (o66 q8 (by omega)).trans r60
  have r72 := (o66 q28 (by omega)).trans r61
  have r73 := (o66 q50 (by omega)).trans r55
  refine lv_aload_n hxx hb dX12_init_32 rfl (lv_at hl 0 rfl) ?_
  refine lv_sipush (v := 900) hxx hb dX12_init_33 (by decide) ?_
  refine b_newa E S68 bw_55 (t := 0) rfl (fun _ _ => rfl) (N' := 900) (by decide) (by decide) (by decide) (Nat.le_of_ble_eq_true rfl) (Nat.le_of_ble_eq_true rfl) dX12_init_36 (fun q74 H75 e76 z77 o78 r79 S80 => ?_)
  have w81 : q_w X σ H75 := w69.kept (fun a ha => o78 a (w69.lt ha))
  have b82 := b67.kept (o78 h t70)
  have t83 := t_lt b82
  have r84 := (o78 q8 (raw_lt r71)).trans r71
  have r85 := (o78 q28 (raw_lt r72)).trans r72
  have r86 := (o78 q50 (raw_lt r73)).trans r73
  have k87 : q_kd X q74 = 0 := w69.fresh (Nat.le_of_eq e76.symm)
  have g88 := S80.1
  refine b_put E S80 hAh hnm (f := 7) b82 (show vwCl[11]? = some (RX12, TX12, 46) from rfl) q_inX12 tyX12_ok nmX12 (by decide) bw_1432 rfl (fun _ => rfl) (tyX12_ok 7 (by decide)) rfl rfl dX12_init_38 (fun H89 locs1 z90 o91 b92 S93 => ?_)
  have w94 : q_w X σ H89 := w81.kept (fun a ha => o91 a (fun e => ha (by rw [e]; exact h00)))
  have t95 := t_lt b92
  have r96 := (o91 q8 (by omega)).trans r84
  have r97 := (o91 q28 (by omega)).trans r85
  have r98 := (o91 q50 (by omega)).trans r86
  have r99 := (o91 q74 (by omega)).trans r79
  refine lv_aload_n hxx hb dX12_init_41 rfl (lv_at hl 0 rfl) ?_
  refine lv_iconst (v := (-1)) hxx hb dX12_init_42 (by decide) ?_
  refine b_put E S93 hAh hnm (f := 10) b92 (show vwCl[11]? = some (RX12, TX12, 46) from rfl) q_inX12 tyX12_ok nmX12 (by decide) bw_1435 rfl (fun _ => rfl) (tyX12_ok 10 (by decide)) rfl rfl dX12_init_43 (fun H100 locs1 z101 o102 b103 S104 => ?_)
  have w105 : q_w X σ H100 := w94.kept (fun a ha => o102 a (fun e => ha (by rw [e]; exact h00)))
  have t106 := t_lt b103
  have r107 := (o102 q8 (by omega)).trans r96
  have r108 := (o102 q28 (by omega)).trans r97
  have r109 := (o102 q50 (by omega)).trans r98
  have r110 := (o102 q74 (by omega)).trans r99
  refine lv_aload_n hxx hb dX12_init_46 rfl (lv_at hl 0 rfl) ?_
  refine lv_iconst (v := (-1)) hxx hb dX12_init_47 (by decide) ?_
  refine b_put E S104 hAh hnm (f := 11) b103 (show vwCl[11]? = some (RX12, TX12, 46) from rfl) q_inX12 tyX12_ok nmX12 (by decide) bw_1436 rfl (fun _ => rfl) (tyX12_ok 11 (by decide)) rfl rfl dX12_init_48 (fun H111 locs1 z112 o113 b114 S115 => ?_)
  have w116 : q_w X σ H111 := w105.kept (fun a ha => o113 a (fun e => ha (by rw [e]; exact h00)))
  have t117 := t_lt b114
  have r118 := (o113 q8 (by omega)).trans r107
  have r119 := (o113 q28 (by omega)).trans r108
  have r120 := (o113 q50 (by omega)).trans r109
  have r121 := (o113 q74 (by omega)).trans r110
  refine lv_aload_n hxx hb dX12_init_51 rfl (lv_at hl 0 rfl) ?_
  refine lv_sipush (v := 4650) hxx hb dX12_init_52 (by decide) ?_
  refine b_newa E S115 bw_56 (t := 1) rfl (fun _ _ => rfl) (N' := 4650) (by decide) (by decide) (by decide) (Nat.le_of_ble_eq_true rfl) (Nat.le_of_ble_eq_true rfl) dX12_init_55 (fun q122 H123 e124 z125 o126 r127 S128 => ?_)
  have w129 : q_w X σ H123 := w116.kept (fun a ha => o126 a (w116.lt ha))
  have b130 := b114.kept (o126 h t117)
  have t131 := t_lt b130
  have r132 := (o126 q8 (raw_lt r118)).trans r118
  have r133 := (o126 q28 (raw_lt r119)).trans r119
  have r134 := (o126 q50 (raw_lt r120)).trans r120
  have r135 := (o126 q74 (raw_lt r121)).trans r121
  have k136 : q_kd X q122 = 0 := w116.fresh (Nat.le_of_eq e124.symm)
  have g137 := S128.1
  refine b_put E S128 hAh hnm (f := 20) b130 (show vwCl[11]? = some (RX12, TX12, 46) from rfl) q_inX12 tyX12_ok nmX12 (by decide) bw_1445 rfl (fun _ => rfl) (tyX12_ok 20 (by decide)) rfl rfl dX12_init_57 (fun H138 locs1 z139 o140 b141 S142 => ?_)
  have w143 : q_w X σ H138 := w129.kept (fun a ha => o140 a (fun e => ha (by rw [e]; exact h00)))
  have t144 := t_lt b141
  have r145 := (o140 q8 (by omega)).trans r132
  have r146 := (o140 q28 (by omega)).trans r133
  have r147 := (o140 q50 (by omega)).trans r134
  have r148 := (o140 q74 (by omega)).trans r135
  have r149 := (o140 q122 (by omega)).trans r127
  refine lv_aload_n hxx hb dX12_init_60 rfl (lv_at hl 0 rfl) ?_
  refine lv_sipush (v := 654) hxx hb dX12_init_61 (by decide) ?_
  refine b_newa E S142 bw_56 (t := 1) rfl (fun _ _ => rfl) (N' := 654) (by decide) (by decide) (by decide) (Nat.le_of_ble_eq_true rfl) (Nat.le_of_ble_eq_true rfl) dX12_init_64 (fun q150 H151 e152 z153 o154 r155 S156 => ?_)
  have w157 : q_w X σ H151 := w143.kept (fun a ha => o154 a (w143.lt ha))
  have b158 := b141.kept (o154 h t144)
  have t159 := t_lt b158
  have r160 := (o154 q8 (raw_lt r145)).trans r145
  have r161 := (o154 q28 (raw_lt r146)).trans r146
  have r162 := (o154 q50 (raw_lt r147)).trans r147
  have r163 := (o154 q74 (raw_lt r148)).trans r148
  have r164 := (o154 q122 (raw_lt r149)).trans r149
  have k165 : q_kd X q150 = 0 := w143.fresh (Nat.le_of_eq e152.symm)
  have g166 := S156.1
  refine b_put E S156 hAh hnm (f := 21) b158 (show vwCl[11]? = some (RX12, TX12, 46) from rfl) q_inX12 tyX12_ok nmX12 (by decide) bw_1446 rfl (fun _ => rfl) (tyX12_ok 21 (by decide)) rfl rfl dX12_init_66 (fun H167 locs1 z168 o169 b170 S171 => ?_)
  have w172 : q_w X σ H167 := w157.kept (fun a ha => o169 a (fun e => ha (by rw [e]; exact h00)))
  have t173 := t_lt b170
  have r174 := (o169 q8 (by omega)).trans r160
  have r175 := (o169 q28 (by omega)).trans r161
  have r176 := (o169 q50 (by omega)).trans r162
  have r177 := (o169 q74 (by omega)).trans r163
  have r178 := (o169 q122 (by omega)).trans r164
  have r179 := (o169 q150 (by omega)).trans r155
  refine lv_aload_n hxx hb dX12_init_69 rfl (lv_at hl 0 rfl) ?_
  refine lv_bipush (v := 60) hxx hb dX12_init_70 (by decide) ?_
  refine b_newa E S171 bw_56 (t := 1) rfl (fun _ _ => rfl) (N' := 60) (by decide) (by decide) (by decide) (Nat.le_of_ble_eq_true rfl) (Nat.le_of_ble_eq_true rfl) dX12_init_72 (fun q180 H181 e182 z183 o184 r185 S186 => ?_)
  have w187 : q_w X σ H181 := w172.kept (fun a ha => o184 a (w172.lt ha))
  have b188 := b170.kept (o184 h t173)
  have t189 := t_lt b188
  have r190 := (o184 q8 (raw_lt r174)).trans r174
  have r191 := (o184 q28 (raw_lt r175)).trans r175
  have r192 := (o184 q50 (raw_lt r176)).trans r176
  have r193 := (o184 q74 (raw_lt r177)).trans r177
  have r194 := (o184 q122 (raw_lt r178)).trans r178
  have r195 := (o184 q150 (raw_lt r179)).trans r179
  have k196 : q_kd X q180 = 0 := w172.fresh (Nat.le_of_eq e182.symm)
  have g197 := S186.1
  refine b_put E S186 hAh hnm (f := 22) b188 (show vwCl[11]? = some (RX12, TX12, 46) from rfl) q_inX12 tyX12_ok nmX12 (by decide) bw_1447 rfl (fun _ => rfl) (tyX12_ok 22 (by decide)) rfl rfl dX12_init_74 (fun H198 locs1 z199 o200 b201 S202 => ?_)
  have w203 : q_w X σ H198 := w187.kept (fun a ha => o200 a (fun e => ha (by rw [e]; exact h00)))
  have t204 := t_lt b201
  have r205 := (o200 q8 (by omega)).trans r190
  have r206 := (o200 q28 (by omega)).trans r191
  have r207 := (o200 q50 (by omega)).trans r192
  have r208 := (o200 q74 (by omega)).trans r193
  have r209 := (o200 q122 (by omega)).trans r194
  have r210 := (o200 q150 (by omega)).trans r195
  have r211 := (o200 q180 (by omega)).trans r185
  refine lv_aload_n hxx hb dX12_init_77 rfl (lv_at hl 0 rfl) ?_
  refine lv_bipush (v := 30) hxx hb dX12_init_78 (by decide) ?_
  refine b_newa E S202 bw_441 (t := 2) rfl (fun _ _ => rfl) (N' := 30) (by decide) (by decide) (by decide) (Nat.le_of_ble_eq_true rfl) (Nat.le_of_ble_eq_true rfl) dX12_init_80 (fun q212 H213 e214 z215 o216 r217 S218 => ?_)
  have w219 : q_w X σ H213 := w203.kept (fun a ha => o216 a (w203.lt ha))
  have b220 := b201.kept (o216 h t204)
  have t221 := t_lt b220
  have r222 := (o216 q8 (raw_lt r205)).trans r205
  have r223 := (o216 q28 (raw_lt r206)).trans r206
  have r224 := (o216 q50 (raw_lt r207)).trans r207
  have r225 := (o216 q74 (raw_lt r208)).trans r208
  have r226 := (o216 q122 (raw_lt r209)).trans r209
  have r227 := (o216 q150 (raw_lt r210)).trans r210
  have r228 := (o216 q180 (raw_lt r211)).trans r211
  have k229 : q_kd X q212 = 0 := w203.fresh (Nat.le_of_eq e214.symm)
  have g230 := S218.1
  refine b_put E S218 hAh hnm (f := 23) b220 (show vwCl[11]? = some (RX12, TX12, 46) from rfl) q_inX12 tyX12_ok nmX12 (by decide) bw_1448 rfl (fun _ => rfl) (tyX12_ok 23 (by decide)) rfl rfl dX12_init_82 (fun H231 locs1 z232 o233 b234 S235 => ?_)
  have w236 : q_w X σ H231 := w219.kept (fun a ha => o233 a (fun e => ha (by rw [e]; exact h00)))
  have t237 := t_lt b234
  have r238 := (o233 q8 (by omega)).trans r222
  have r239 := (o233 q28 (by omega)).trans r223
  have r240 := (o233 q50 (by omega)).trans r224
  have r241 := (o233 q74 (by omega)).trans r225
  have r242 := (o233 q122 (by omega)).trans r226
  have r243 := (o233 q150 (by omega)).trans r227
  have r244 := (o233 q180 (by omega)).trans r228
  have r245 := (o233 q212 (by omega)).trans r217
  refine lv_aload_n hxx hb dX12_init_85 rfl (lv_at hl 0 rfl) ?_
  refine lv_bipush (v := 10) hxx hb dX12_init_86 (by decide) ?_
  refine b_newa E S235 bw_56 (t := 1) rfl (fun _ _ => rfl) (N' := 10) (by decide) (by decide) (by decide) (Nat.le_of_ble_eq_true rfl) (Nat.le_of_ble_eq_true rfl) dX12_init_88 (fun q246 H247 e248 z249 o250 r251 S252 => ?_)
  have w253 : q_w X σ H247 := w236.kept (fun a ha => o250 a (w236.lt ha))
  have b254 := b234.kept (o250 h t237)
  have t255 := t_lt b254
  have r256 := (o250 q8 (raw_lt r238)).trans r238
  have r257 := (o250 q28 (raw_lt r239)).trans r239
  have r258 := (o250 q50 (raw_lt r240)).trans r240
  have r259 := (o250 q74 (raw_lt r241)).trans r241
  have r260 := (o250 q122 (raw_lt r242)).trans r242
  have r261 := (o250 q150 (raw_lt r243)).trans r243
  have r262 := (o250 q180 (raw_lt r244)).trans r244
  have r263 := (o250 q212 (raw_lt r245)).trans r245
  have k264 : q_kd X q246 = 0 := w236.fresh (Nat.le_of_eq e248.symm)
  have g265 := S252.1
  refine b_put E S252 hAh hnm (f := 28) b254 (show vwCl[11]? = some (RX12, TX12, 46) from rfl) q_inX12 tyX12_ok nmX12 (by decide) bw_1453 rfl (fun _ => rfl) (tyX12_ok 28 (by decide)) rfl rfl dX12_init_90 (fun H266 locs1 z267 o268 b269 S270 => ?_)
  have w271 : q_w X σ H266 := w253.kept (fun a ha => o268 a (fun e => ha (by rw [e]; exact h00)))
  have t272 := t_lt b269
  have r273 := (o268 q8 (by omega)).trans r256
  have r274 := (o268 q28 (by omega)).trans r257
  have r275 := (o268 q50 (by omega)).trans r258
  have r276 := (o268 q74 (by omega)).trans r259
  have r277 := (o268 q122 (by omega)).trans r260
  have r278 := (o268 q150 (by omega)).trans r261
  have r279 := (o268 q180 (by omega)).trans r262
  have r280 := (o268 q212 (by omega)).trans r263
  have r281 := (o268 q246 (by omega)).trans r251
  refine lv_aload_n hxx hb dX12_init_93 rfl (lv_at hl 0 rfl) ?_
  refine lv_iconst (v := 4) hxx hb dX12_init_94 (by decide) ?_
  refine b_newa E S270 bw_56 (t := 1) rfl (fun _ _ => rfl) (N' := 4) (by decide) (by decide) (by decide) (Nat.le_of_ble_eq_true rfl) (Nat.le_of_ble_eq_true rfl) dX12_init_95 (fun q282 H283 e284 z285 o286 r287 S288 => ?_)
  have w289 : q_w X σ H283 := w271.kept (fun a ha => o286 a (w271.lt ha))
  have b290 := b269.kept (o286 h t272)
  have t291 := t_lt b290
  have r292 := (o286 q8 (raw_lt r273)).trans r273
  have r293 := (o286 q28 (raw_lt r274)).trans r274
  have r294 := (o286 q50 (raw_lt r275)).trans r275
  have r295 := (o286 q74 (raw_lt r276)).trans r276
  have r296 := (o286 q122 (raw_lt r277)).trans r277
  have r297 := (o286 q150 (raw_lt r278)).trans r278
  have r298 := (o286 q180 (raw_lt r279)).trans r279
  have r299 := (o286 q212 (raw_lt r280)).trans r280
  have r300 := (o286 q246 (raw_lt r281)).trans r281
  have k301 : q_kd X q282 = 0 := w271.fresh (Nat.le_of_eq e284.symm)
  have g302 := S288.1
  refine b_put E S288 hAh hnm (f := 29) b290 (show vwCl[11]? = some (RX12, TX12, 46) from rfl) q_inX12 tyX12_ok nmX12 (by decide) bw_1454 rfl (fun _ => rfl) (tyX12_ok 29 (by decide)) rfl rfl dX12_init_97 (fun H303 locs1 z304 o305 b306 S307 => ?_)
  have w308 : q_w X σ H303 := w289.kept (fun a ha => o305 a (fun e => ha (by rw [e]; exact h00)))
  have t309 := t_lt b306
  have r310 := (o305 q8 (by omega)).trans r292
  have r311 := (o305 q28 (by omega)).trans r293
  have r312 := (o305 q50 (by omega)).trans r294
  have r313 := (o305 q74 (by omega)).trans r295
  have r314 := (o305 q122 (by omega)).trans r296
  have r315 := (o305 q150 (by omega)).trans r297
  have r316 := (o305 q180 (by omega)).trans r298
  have r317 := (o305 q212 (by omega)).trans r299
  have r318 := (o305 q246 (by omega)).trans r300
  have r319 := (o305 q282 (by omega)).trans r287
  refine lv_aload_n hxx hb dX12_init_100 rfl (lv_at hl 0 rfl) ?_
  refine lv_bipush (v := 10) hxx hb dX12_init_101 (by decide) ?_
  refine b_newa E S307 bw_56 (t := 1) rfl (fun _ _ => rfl) (N' := 10) (by decide) (by decide) (by decide) (Nat.le_of_ble_eq_true rfl) (Nat.le_of_ble_eq_true rfl) dX12_init_103 (fun q320 H321 e322 z323 o324 r325 S326 => ?_)
  have w327 : q_w X σ H321 := w308.kept (fun a ha => o324 a (w308.lt ha))
  have b328 := b306.kept (o324 h t309)
  have t329 := t_lt b328
  have r330 := (o324 q8 (raw_lt r310)).trans r310
  have r331 := (o324 q28 (raw_lt r311)).trans r311
  have r332 := (o324 q50 (raw_lt r312)).trans r312
  have r333 := (o324 q74 (raw_lt r313)).trans r313
  have r334 := (o324 q122 (raw_lt r314)).trans r314
  have r335 := (o324 q150 (raw_lt r315)).trans r315
  have r336 := (o324 q180 (raw_lt r316)).trans r316
  have r337 := (o324 q212 (raw_lt r317)).trans r317
  have r338 := (o324 q246 (raw_lt r318)).trans r318
  have r339 := (o324 q282 (raw_lt r319)).trans r319
  have k340 : q_kd X q320 = 0 := w308.fresh (Nat.le_of_eq e322.symm)
  have g341 := S326.1
  refine b_put E S326 hAh hnm (f := 32) b328 (show vwCl[11]? = some (RX12, TX12, 46) from rfl) q_inX12 tyX12_ok nmX12 (by decide) bw_1457 rfl (fun _ => rfl) (tyX12_ok 32 (by decide)) rfl rfl dX12_init_105 (fun H342 locs1 z343 o344 b345 S346 => ?_)
  have w347 : q_w X σ H342 := w327.kept (fun a ha => o344 a (fun e => ha (by rw [e]; exact h00)))
  have t348 := t_lt b345
  have r349 := (o344 q8 (by omega)).trans r330
  have r350 := (o344 q28 (by omega)).trans r331
  have r351 := (o344 q50 (by omega)).trans r332
  have r352 := (o344 q74 (by omega)).trans r333
  have r353 := (o344 q122 (by omega)).trans r334
  have r354 := (o344 q150 (by omega)).trans r335
  have r355 := (o344 q180 (by omega)).trans r336
  have r356 := (o344 q212 (by omega)).trans r337
  have r357 := (o344 q246 (by omega)).trans r338
  have r358 := (o344 q282 (by omega)).trans r339
  have r359 := (o344 q320 (by omega)).trans r325
  refine lv_aload_n hxx hb dX12_init_108 rfl (lv_at hl 0 rfl) ?_
  refine lv_iconst (v := 5) hxx hb dX12_init_109 (by decide) ?_
  refine b_newa E S346 bw_56 (t := 1) rfl (fun _ _ => rfl) (N' := 5) (by decide) (by decide) (by decide) (Nat.le_of_ble_eq_true rfl) (Nat.le_of_ble_eq_true rfl) dX12_init_110 (fun q360 H361 e362 z363 o364 r365 S366 => ?_)
  have w367 : q_w X σ H361 := w347.kept (fun a ha => o364 a (w347.lt ha))
  have b368 := b345.kept (o364 h t348)
  have t369 := t_lt b368
  have r370 := (o364 q8 (raw_lt r349)).trans r349
  have r371 := (o364 q28 (raw_lt r350)).trans r350
  have r372 := (o364 q50 (raw_lt r351)).trans r351
  have r373 := (o364 q74 (raw_lt r352)).trans r352
  have r374 := (o364 q122 (raw_lt r353)).trans r353
  have r375 := (o364 q150 (raw_lt r354)).trans r354
  have r376 := (o364 q180 (raw_lt r355)).trans r355
  have r377 := (o364 q212 (raw_lt r356)).trans r356
  have r378 := (o364 q246 (raw_lt r357)).trans r357
  have r379 := (o364 q282 (raw_lt r358)).trans r358
  have r380 := (o364 q320 (raw_lt r359)).trans r359
  have k381 : q_kd X q360 = 0 := w347.fresh (Nat.le_of_eq e362.symm)
  have g382 := S366.1
  refine b_put E S366 hAh hnm (f := 36) b368 (show vwCl[11]? = some (RX12, TX12, 46) from rfl) q_inX12 tyX12_ok nmX12 (by decide) bw_1461 rfl (fun _ => rfl) (tyX12_ok 36 (by decide)) rfl rfl dX12_init_112 (fun H383 locs1 z384 o385 b386 S387 => ?_)
  have w388 : q_w X σ H383 := w367.kept (fun a ha => o385 a (fun e => ha (by rw [e]; exact h00)))
  have t389 := t_lt b386
  have r390 := (o385 q8 (by omega)).trans r370
  have r391 := (o385 q28 (by omega)).trans r371
  have r392 := (o385 q50 (by omega)).trans r372
  have r393 := (o385 q74 (by omega)).trans r373
  have r394 := (o385 q122 (by omega)).trans r374
  have r395 := (o385 q150 (by omega)).trans r375
  have r396 := (o385 q180 (by omega)).trans r376
  have r397 := (o385 q212 (by omega)).trans r377
  have r398 := (o385 q246 (by omega)).trans r378
  have r399 := (o385 q282 (by omega)).trans r379
  have r400 := (o385 q320 (by omega)).trans r380
  have r401 := (o385 q360 (by omega)).trans r365
  refine lv_iconst (v := 0) hxx hb dX12_init_115 (by decide) ?_
  refine lv_istore_n (lv' := [(1, .int 0), (0, .ref h)]) hxx hb dX12_init_116 rfl hl (by decide) rfl (fun ls hl => ?_)
  refine lv_iload_n hxx hb dX12_init_117 rfl (lv_at hl 0 rfl) ?_
  refine lv_iconst (v := 4) hxx hb dX12_init_118 (by decide) ?_
  refine lv_icmp_ge hxx hb dX12_init_119 (tgt := 135) (by decide) (fun q => absurd q (by decide)) (fun _ => ?_)
  refine lv_aload_n hxx hb dX12_init_122 rfl (lv_at hl 1 rfl) ?_
  refine b_get E (f := 5) b386 (show vwCl[11]? = some (RX12, TX12, 46) from rfl) q_inX12 (by decide) bw_1430 rfl (v := .ref q28) rfl dX12_init_123 ?_
  refine lv_iload_n hxx hb dX12_init_126 rfl (lv_at hl 0 rfl) ?_
  refine lv_iconst (v := (-1)) hxx hb dX12_init_127 (by decide) ?_
  refine b_iast E S387 (Or.inr (by have := raw_lt r391; omega)) (g := (fun _ => 0 : Nat → Int32)) r391 (by decide) (by decide) dX12_init_128 (fun H402 locs1 z403 o404 r405 S406 => ?_)
  have w407 : q_w X σ H402 := w388.kept (fun a ha => o404 a (fun e => ha (by rw [e]; exact k39)))
  have b408 := b386.kept (o404 h (by omega))
  have t409 := t_lt b408
  have r410 := (o404 q8 (by omega)).trans r390
  have r411 := (o404 q50 (by omega)).trans r392
  have r412 := (o404 q74 (by omega)).trans r393
  have r413 := (o404 q122 (by omega)).trans r394
  have r414 := (o404 q150 (by omega)).trans r395
  have r415 := (o404 q180 (by omega)).trans r396
  have r416 := (o404 q212 (by omega)).trans r397
  have r417 := (o404 q246 (by omega)).trans r398
  have r418 := (o404 q282 (by omega)).trans r399
  have r419 := (o404 q320 (by omega)).trans r400
  have r420 := (o404 q360 (by omega)).trans r401
  refine lv_iinc (v := 1) (lv' := [(1, .int 1), (0, .ref h)]) hxx hb dX12_init_129 hl (k := 0) rfl (by decide) (by decide) rfl (fun ls hl => ?_)
  refine lv_goto (tgt := 117) hxx hb dX12_init_132 (by decide) ?_
  refine lv_iload_n hxx hb dX12_init_117 rfl (lv_at hl 0 rfl) ?_
  refine lv_iconst (v := 4) hxx hb dX12_init_118 (by decide) ?_
  refine lv_icmp_ge hxx hb dX12_init_119 (tgt := 135) (by decide) (fun q => absurd q (by decide)) (fun _ => ?_)
  refine lv_aload_n hxx hb dX12_init_122 rfl (lv_at hl 1 rfl) ?_
  refine b_get E (f := 5) b408 (show vwCl[11]? = some (RX12, TX12, 46) from rfl) q_inX12 (by decide) bw_1430 rfl (v := .ref q28) rfl dX12_init_123 ?_
  refine lv_iload_n hxx hb dX12_init_126 rfl (lv_at hl 0 rfl) ?_
  refine lv_iconst (v := (-1)) hxx hb dX12_init_127 (by decide) ?_
  refine b_iast E S406 (Or.inr (by have := raw_lt r405; omega)) (g := (fun j => if j = (0 : Int32).toNatClampNeg then ((-1) : Int32) else (fun _ => 0 : Nat → Int32) j)) r405 (by decide) (by decide) dX12_init_128 (fun H421 locs1 z422 o423 r424 S425 => ?_)
  have w426 : q_w X σ H421 := w407.kept (fun a ha => o423 a (fun e => ha (by rw [e]; exact k39)))
  have b427 := b408.kept (o423 h (by omega))
  have t428 := t_lt b427
  have r429 := (o423 q8 (by omega)).trans r410
  have r430 := (o423 q50 (by omega)).trans r411
  have r431 := (o423 q74 (by omega)).trans r412
  have r432 := (o423 q122 (by omega)).trans r413
  have r433 := (o423 q150 (by omega)).trans r414
  have r434 := (o423 q180 (by omega)).trans r415
  have r435 := (o423 q212 (by omega)).trans r416
  have r436 := (o423 q246 (by omega)).trans r417
  have r437 := (o423 q282 (by omega)).trans r418
  have r438 := (o423 q320 (by omega)).trans r419
  have r439 := (o423 q360 (by omega)).trans r420
  refine lv_iinc (v := 2) (lv' := [(1, .int 2), (0, .ref h)]) hxx hb dX12_init_129 hl (k := 0) rfl (by decide) (by decide) rfl (fun ls hl => ?_)
  refine lv_goto (tgt := 117) hxx hb dX12_init_132 (by decide) ?_
  refine lv_iload_n hxx hb dX12_init_117 rfl (lv_at hl 0 rfl) ?_
  refine lv_iconst (v := 4) hxx hb dX12_init_118 (by decide) ?_
  refine lv_icmp_ge hxx hb dX12_init_119 (tgt := 135) (by decide) (fun q => absurd q (by decide)) (fun _ => ?_)
  refine lv_aload_n hxx hb dX12_init_122 rfl (lv_at hl 1 rfl) ?_
  refine b_get E (f := 5) b427 (show vwCl[11]? = some (RX12, TX12, 46) from rfl) q_inX12 (by decide) bw_1430 rfl (v := .ref q28) rfl dX12_init_123 ?_
  refine lv_iload_n hxx hb dX12_init_126 rfl (lv_at hl 0 rfl) ?_
  refine lv_iconst (v := (-1)) hxx hb dX12_init_127 (by decide) ?_
  refine b_iast E S425 (Or.inr (by have := raw_lt r424; omega)) (g := (fun j => if j = (1 : Int32).toNatClampNeg then ((-1) : Int32) else (fun j => if j = (0 : Int32).toNatClampNeg then ((-1) : Int32) else (fun _ => 0 : Nat → Int32) j) j)) r424 (by decide) (by decide) dX12_init_128 (fun H440 locs1 z441 o442 r443 S444 => ?_)
  have w445 : q_w X σ H440 := w426.kept (fun a ha => o442 a (fun e => ha (by rw [e]; exact k39)))
  have b446 := b427.kept (o442 h (by omega))
  have t447 := t_lt b446
  have r448 := (o442 q8 (by omega)).trans r429
  have r449 := (o442 q50 (by omega)).trans r430
  have r450 := (o442 q74 (by omega)).trans r431
  have r451 := (o442 q122 (by omega)).trans r432
  have r452 := (o442 q150 (by omega)).trans r433
  have r453 := (o442 q180 (by omega)).trans r434
  have r454 := (o442 q212 (by omega)).trans r435
  have r455 := (o442 q246 (by omega)).trans r436
  have r456 := (o442 q282 (by omega)).trans r437
  have r457 := (o442 q320 (by omega)).trans r438
  have r458 := (o442 q360 (by omega)).trans r439
  refine lv_iinc (v := 3) (lv' := [(1, .int 3), (0, .ref h)]) hxx hb dX12_init_129 hl (k := 0) rfl (by decide) (by decide) rfl (fun ls hl => ?_)
  refine lv_goto (tgt := 117) hxx hb dX12_init_132 (by decide) ?_
  refine lv_iload_n hxx hb dX12_init_117 rfl (lv_at hl 0 rfl) ?_
  refine lv_iconst (v := 4) hxx hb dX12_init_118 (by decide) ?_
  refine lv_icmp_ge hxx hb dX12_init_119 (tgt := 135) (by decide) (fun q => absurd q (by decide)) (fun _ => ?_)
  refine lv_aload_n hxx hb dX12_init_122 rfl (lv_at hl 1 rfl) ?_
  refine b_get E (f := 5) b446 (show vwCl[11]? = some (RX12, TX12, 46) from rfl) q_inX12 (by decide) bw_1430 rfl (v := .ref q28) rfl dX12_init_123 ?_
  refine lv_iload_n hxx hb dX12_init_126 rfl (lv_at hl 0 rfl) ?_
  refine lv_iconst (v := (-1)) hxx hb dX12_init_127 (by decide) ?_
  refine b_iast E S444 (Or.inr (by have := raw_lt r443; omega)) (g := (fun j => if j = (2 : Int32).toNatClampNeg then ((-1) : Int32) else (fun j => if j = (1 : Int32).toNatClampNeg then ((-1) : Int32) else (fun j => if j = (0 : Int32).toNatClampNeg then ((-1) : Int32) else (fun _ => 0 : Nat → Int32) j) j) j)) r443 (by decide) (by decide) dX12_init_128 (fun H459 locs1 z460 o461 r462 S463 => ?_)
  have w464 : q_w X σ H459 := w445.kept (fun a ha => o461 a (fun e => ha (by rw [e]; exact k39)))
  have b465 := b446.kept (o461 h (by omega))
  have t466 := t_lt b465
  have r467 := (o461 q8 (by omega)).trans r448
  have r468 := (o461 q50 (by omega)).trans r449
  have r469 := (o461 q74 (by omega)).trans r450
  have r470 := (o461 q122 (by omega)).trans r451
  have r471 := (o461 q150 (by omega)).trans r452
  have r472 := (o461 q180 (by omega)).trans r453
  have r473 := (o461 q212 (by omega)).trans r454
  have r474 := (o461 q246 (by omega)).trans r455
  have r475 := (o461 q282 (by omega)).trans r456
  have r476 := (o461 q320 (by omega)).trans r457
  have r477 := (o461 q360 (by omega)).trans r458
  refine lv_iinc (v := 4) (lv' := [(1, .int 4), (0, .ref h)]) hxx hb dX12_init_129 hl (k := 0) rfl (by decide) (by decide) rfl (fun ls hl => ?_)
  refine lv_goto (tgt := 117) hxx hb dX12_init_132 (by decide) ?_
  refine lv_iload_n hxx hb dX12_init_117 rfl (lv_at hl 0 rfl) ?_
  refine lv_iconst (v := 4) hxx hb dX12_init_118 (by decide) ?_
  refine lv_icmp_ge hxx hb dX12_init_119 (tgt := 135) (by decide) (fun _ => ?_) (fun q => absurd (by decide) q)
  refine lv_aload_n hxx hb dX12_init_135 rfl (lv_at hl 1 rfl) ?_
  refine b_get E (f := 20) b465 (show vwCl[11]? = some (RX12, TX12, 46) from rfl) q_inX12 (by decide) bw_1445 rfl (v := .ref q122) rfl dX12_init_136 ?_
  refine lv_iconst (v := 0) hxx hb dX12_init_139 (by decide) ?_
  refine lv_iconst (v := 2) hxx hb dX12_init_140 (by decide) ?_
  refine b_iast E S463 (Or.inr (by have := raw_lt r470; omega)) (g := (fun _ => 0 : Nat → Int32)) r470 (by decide) (by decide) dX12_init_141 (fun H478 locs1 z479 o480 r481 S482 => ?_)
  have w483 : q_w X σ H478 := w464.kept (fun a ha => o480 a (fun e => ha (by rw [e]; exact k136)))
  have b484 := b465.kept (o480 h (by omega))
  have t485 := t_lt b484
  have r486 := (o480 q8 (by omega)).trans r467
  have r487 := (o480 q28 (by omega)).trans r462
  have r488 := (o480 q50 (by omega)).trans r468
  have r489 := (o480 q74 (by omega)).trans r469
  have r490 := (o480 q150 (by omega)).trans r471
  have r491 := (o480 q180 (by omega)).trans r472
  have r492 := (o480 q212 (by omega)).trans r473
  have r493 := (o480 q246 (by omega)).trans r474
  have r494 := (o480 q282 (by omega)).trans r475
  have r495 := (o480 q320 (by omega)).trans r476
  have r496 := (o480 q360 (by omega)).trans r477
  refine lv_aload_n hxx hb dX12_init_142 rfl (lv_at hl 1 rfl) ?_
  refine b_get E (f := 20) b484 (show vwCl[11]? = some (RX12, TX12, 46) from rfl) q_inX12 (by decide) bw_1445 rfl (v := .ref q122) rfl dX12_init_143 ?_
  refine lv_iconst (v := 1) hxx hb dX12_init_146 (by decide) ?_
  refine lv_iconst (v := 1) hxx hb dX12_init_147 (by decide) ?_
  refine b_iast E S482 (Or.inr (by have := raw_lt r481; omega)) (g := (fun j => if j = (0 : Int32).toNatClampNeg then (2 : Int32) else (fun _ => 0 : Nat → Int32) j)) r481 (by decide) (by decide) dX12_init_148 (fun H497 locs1 z498 o499 r500 S501 => ?_)
  have w502 : q_w X σ H497 := w483.kept (fun a ha => o499 a (fun e => ha (by rw [e]; exact k136)))
  have b503 := b484.kept (o499 h (by omega))
  have t504 := t_lt b503
  have r505 := (o499 q8 (by omega)).trans r486
  have r506 := (o499 q28 (by omega)).trans r487
  have r507 := (o499 q50 (by omega)).trans r488
  have r508 := (o499 q74 (by omega)).trans r489
  have r509 := (o499 q150 (by omega)).trans r490
  have r510 := (o499 q180 (by omega)).trans r491
  have r511 := (o499 q212 (by omega)).trans r492
  have r512 := (o499 q246 (by omega)).trans r493
  have r513 := (o499 q282 (by omega)).trans r494
  have r514 := (o499 q320 (by omega)).trans r495
  have r515 := (o499 q360 (by omega)).trans r496
  refine lv_aload_n hxx hb dX12_init_149 rfl (lv_at hl 1 rfl) ?_
  refine b_get E (f := 20) b503 (show vwCl[11]? = some (RX12, TX12, 46) from rfl) q_inX12 (by decide) bw_1445 rfl (v := .ref q122) rfl dX12_init_150 ?_
  refine lv_iconst (v := 4) hxx hb dX12_init_153 (by decide) ?_
  refine lv_iconst (v := 4) hxx hb dX12_init_154 (by decide) ?_
  refine b_iast E S501 (Or.inr (by have := raw_lt r500; omega)) (g := (fun j => if j = (1 : Int32).toNatClampNeg then (1 : Int32) else (fun j => if j = (0 : Int32).toNatClampNeg then (2 : Int32) else (fun _ => 0 : Nat → Int32) j) j)) r500 (by decide) (by decide) dX12_init_155 (fun H516 locs1 z517 o518 r519 S520 => ?_)
  have w521 : q_w X σ H516 := w502.kept (fun a ha => o518 a (fun e => ha (by rw [e]; exact k136)))
  have b522 := b503.kept (o518 h (by omega))
  have t523 := t_lt b522
  have r524 := (o518 q8 (by omega)).trans r505
  have r525 := (o518 q28 (by omega)).trans r506
  have r526 := (o518 q50 (by omega)).trans r507
  have r527 := (o518 q74 (by omega)).trans r508
  have r528 := (o518 q150 (by omega)).trans r509
  have r529 := (o518 q180 (by omega)).trans r510
  have r530 := (o518 q212 (by omega)).trans r511
  have r531 := (o518 q246 (by omega)).trans r512
  have r532 := (o518 q282 (by omega)).trans r513
  have r533 := (o518 q320 (by omega)).trans r514
  have r534 := (o518 q360 (by omega)).trans r515
  refine lv_aload_n hxx hb dX12_init_156 rfl (lv_at hl 1 rfl) ?_
  refine b_get E (f := 20) b522 (show vwCl[11]? = some (RX12, TX12, 46) from rfl) q_inX12 (by decide) bw_1445 rfl (v := .ref q122) rfl dX12_init_157 ?_
  refine lv_bipush (v := 8) hxx hb dX12_init_160 (by decide) ?_
  refine lv_iconst (v := (-1)) hxx hb dX12_init_162 (by decide) ?_
  refine b_iast E S520 (Or.inr (by have := raw_lt r519; omega)) (g := (fun j => if j = (4 : Int32).toNatClampNeg then (4 : Int32) else (fun j => if j = (1 : Int32).toNatClampNeg then (1 : Int32) else (fun j => if j = (0 : Int32).toNatClampNeg then (2 : Int32) else (fun _ => 0 : Nat → Int32) j) j) j)) r519 (by decide) (by decide) dX12_init_163 (fun H535 locs1 z536 o537 r538 S539 => ?_)
  have w540 : q_w X σ H535 := w521.kept (fun a ha => o537 a (fun e => ha (by rw [e]; exact k136)))
  have b541 := b522.kept (o537 h (by omega))
  have t542 := t_lt b541
  have r543 := (o537 q8 (by omega)).trans r524
  have r544 := (o537 q28 (by omega)).trans r525
  have r545 := (o537 q50 (by omega)).trans r526
  have r546 := (o537 q74 (by omega)).trans r527
  have r547 := (o537 q150 (by omega)).trans r528
  have r548 := (o537 q180 (by omega)).trans r529
  have r549 := (o537 q212 (by omega)).trans r530
  have r550 := (o537 q246 (by omega)).trans r531
  have r551 := (o537 q282 (by omega)).trans r532
  have r552 := (o537 q320 (by omega)).trans r533
  have r553 := (o537 q360 (by omega)).trans r534
  refine lv_aload_n hxx hb dX12_init_164 rfl (lv_at hl 1 rfl) ?_
  refine b_get E (f := 20) b541 (show vwCl[11]? = some (RX12, TX12, 46) from rfl) q_inX12 (by decide) bw_1445 rfl (v := .ref q122) rfl dX12_init_165 ?_
  refine lv_bipush (v := 6) hxx hb dX12_init_168 (by decide) ?_
  refine lv_iconst (v := (-1)) hxx hb dX12_init_170 (by decide) ?_
  refine b_iast E S539 (Or.inr (by have := raw_lt r538; omega)) (g := (fun j => if j = (8 : Int32).toNatClampNeg then ((-1) : Int32) else (fun j => if j = (4 : Int32).toNatClampNeg then (4 : Int32) else (fun j => if j = (1 : Int32).toNatClampNeg then (1 : Int32) else (fun j => if j = (0 : Int32).toNatClampNeg then (2 : Int32) else (fun _ => 0 : Nat → Int32) j) j) j) j)) r538 (by decide) (by decide) dX12_init_171 (fun H554 locs1 z555 o556 r557 S558 => ?_)
  have w559 : q_w X σ H554 := w540.kept (fun a ha => o556 a (fun e => ha (by rw [e]; exact k136)))
  have b560 := b541.kept (o556 h (by omega))
  have t561 := t_lt b560
  have r562 := (o556 q8 (by omega)).trans r543
  have r563 := (o556 q28 (by omega)).trans r544
  have r564 := (o556 q50 (by omega)).trans r545
  have r565 := (o556 q74 (by omega)).trans r546
  have r566 := (o556 q150 (by omega)).trans r547
  have r567 := (o556 q180 (by omega)).trans r548
  have r568 := (o556 q212 (by omega)).trans r549
  have r569 := (o556 q246 (by omega)).trans r550
  have r570 := (o556 q282 (by omega)).trans r551
  have r571 := (o556 q320 (by omega)).trans r552
  have r572 := (o556 q360 (by omega)).trans r553
  have y577 := raw_lt r562
  obtain ⟨X573, dX573⟩ : ∃ Y, Y = q_xg X q8 30 4 (fun _ => 0) := ⟨_, rfl⟩
  obtain ⟨σ574, dσ574⟩ : ∃ τ, τ = q_sg σ q8 (fun _ => 0 : Nat → Int32) (fun _ => 0) 0 := ⟨_, rfl⟩
  have x575 : q_ext (fun a => a = q8) X X573 σ σ574 := by rw [dX573, dσ574]; exact q_ext.add k18
  have w576 : q_w X573 σ574 H554 := by
    rw [dX573, dσ574]
    exact w559.add k18 (fun f hf => absurd rfl hf) (fun _ => rfl) (by decide) (fun q => absurd q (by decide)) (fun f => by refine q_inB (lo := 0) (hi := 3) rfl ?_ ?_ <;> ((try dsimp only); repeat' split) <;> decide) (fun q => by rcases q with q | q <;> exact absurd q (by decide)) (q_cfA hD (by decide) (t0 := 1) rfl r562 (fun j => rfl))
  have D578 : X573.1 = D := x575.1.trans hD
  have k579 : q_kd X573 q8 = 30 := by rw [dX573]; exact q_xg_h
  have n580 : q_ln X573 q8 = 4 := by rw [dX573]; exact if_pos rfl
  have x581 := hx0.tr x575 (fun a e => Or.inr (by rw [e]; omega))
  have k582 : q_kd X573 q28 = 0 := x575.k0 k39 (by omega)
  have k583 : q_kd X573 q50 = 0 := x575.k0 k62 (by omega)
  have k584 : q_kd X573 q74 = 0 := x575.k0 k87 (by omega)
  have k585 : q_kd X573 q122 = 0 := x575.k0 k136 (by omega)
  have k586 : q_kd X573 q150 = 0 := x575.k0 k165 (by omega)
  have k587 : q_kd X573 q180 = 0 := x575.k0 k196 (by omega)
  have k588 : q_kd X573 q212 = 0 := x575.k0 k229 (by omega)
  have k589 : q_kd X573 q246 = 0 := x575.k0 k264 (by omega)
  have k590 : q_kd X573 q282 = 0 := x575.k0 k301 (by omega)
  have k591 : q_kd X573 q320 = 0 := x575.k0 k340 (by omega)
  have k592 : q_kd X573 q360 = 0 := x575.k0 k381 (by omega)
  have k593 : q_kd X573 h = 0 := x575.k0 h00 (by omega)
  have j594 : ∀ j, σ574.1 q8 j = (fun _ => 0 : Nat → Int32) j := fun j => by rw [dσ574]; exact if_pos rfl
  have y599 := raw_lt r563
  obtain ⟨X595, dX595⟩ : ∃ Y, Y = q_xg X573 q28 31 4 (fun _ => 0) := ⟨_, rfl⟩
  obtain ⟨σ596, dσ596⟩ : ∃ τ, τ = q_sg σ574 q28 (fun j => if j = (3 : Int32).toNatClampNeg then ((-1) : Int32) else (fun j => if j = (2 : Int32).toNatClampNeg then ((-1) : Int32) else (fun j => if j = (1 : Int32).toNatClampNeg then ((-1) : Int32) else (fun j => if j = (0 : Int32).toNatClampNeg then ((-1) : Int32) else (fun _ => 0 : Nat → Int32) j) j) j) j) (fun _ => 0) 0 := ⟨_, rfl⟩
  have x597 : q_ext (fun a => a = q28) X573 X595 σ574 σ596 := by rw [dX595, dσ596]; exact q_ext.add k582
  have w598 : q_w X595 σ596 H554 := by
    rw [dX595, dσ596]
    exact w576.add k582 (fun f hf => absurd rfl hf) (fun _ => rfl) (by decide) (fun q => absurd q (by decide)) (fun f => by refine q_inB (lo := -1) (hi := 60) rfl ?_ ?_ <;> ((try dsimp only); repeat' split) <;> decide) (fun q => by rcases q with q | q <;> exact absurd q (by decide)) (q_cfA D578 (by decide) (t0 := 1) rfl r563 (fun j => rfl))
  have D600 : X595.1 = D := x597.1.trans D578
  have k601 : q_kd X595 q28 = 31 := by rw [dX595]; exact q_xg_h
  have n602 : q_ln X595 q28 = 4 := by rw [dX595]; exact if_pos rfl
  have x603 := x581.tr x597 (fun a e => Or.inr (by rw [e]; omega))
  have k604 := x597.kd k579 (by decide)
  have k605 : q_kd X595 q50 = 0 := x597.k0 k583 (by omega)
  have k606 : q_kd X595 q74 = 0 := x597.k0 k584 (by omega)
  have k607 : q_kd X595 q122 = 0 := x597.k0 k585 (by omega)
  have k608 : q_kd X595 q150 = 0 := x597.k0 k586 (by omega)
  have k609 : q_kd X595 q180 = 0 := x597.k0 k587 (by omega)
  have k610 : q_kd X595 q212 = 0 := x597.k0 k588 (by omega)
  have k611 : q_kd X595 q246 = 0 := x597.k0 k589 (by omega)
  have k612 : q_kd X595 q282 = 0 := x597.k0 k590 (by omega)
  have k613 : q_kd X595 q320 = 0 := x597.k0 k591 (by omega)
  have k614 : q_kd X595 q360 = 0 := x597.k0 k592 (by omega)
  have k615 : q_kd X595 h = 0 := x597.k0 k593 (by omega)
  have n616 : q_ln X595 q8 = 4 := (x597.2.2.2.1 q8 (by rw [k579]; decide)).2.1.trans n580
  have j617 : ∀ j, σ596.1 q8 j = (fun _ => 0 : Nat → Int32) j := fun j => (q_exi x597 (by rw [k579]; decide)).trans (j594 j)
  have j618 : ∀ j, σ596.1 q28 j = (fun j => if j = (3 : Int32).toNatClampNeg then ((-1) : Int32) else (fun j => if j = (2 : Int32).toNatClampNeg then ((-1) : Int32) else (fun j => if j = (1 : Int32).toNatClampNeg then ((-1) : Int32) else (fun j => if j = (0 : Int32).toNatClampNeg then ((-1) : Int32) else (fun _ => 0 : Nat → Int32) j) j) j) j) j := fun j => by rw [dσ596]; exact if_pos rfl
  have y623 := raw_lt r564
  obtain ⟨X619, dX619⟩ : ∃ Y, Y = q_xg X595 q50 32 240 (fun _ => 0) := ⟨_, rfl⟩
  obtain ⟨σ620, dσ620⟩ : ∃ τ, τ = q_sg σ596 q50 (fun _ => 0) (fun _ => 0) 0 := ⟨_, rfl⟩
  have x621 : q_ext (fun a => a = q50) X595 X619 σ596 σ620 := by rw [dX619, dσ620]; exact q_ext.add k605
  have w622 : q_w X619 σ620 H554 := by
    rw [dX619, dσ620]
    exact w598.add k605 (fun f hf => absurd rfl hf) (fun _ => rfl) (by decide) (fun q => absurd q (by decide)) (fun f => q_inU rfl) (fun q => by rcases q with q | q <;> exact absurd q (by decide)) (q_cfA D600 (by decide) (t0 := 2) rfl r564 (fun j => rfl))
  have D624 : X619.1 = D := x621.1.trans D600
  have k625 : q_kd X619 q50 = 32 := by rw [dX619]; exact q_xg_h
  have n626 : q_ln X619 q50 = 240 := by rw [dX619]; exact if_pos rfl
  have x627 := x603.tr x621 (fun a e => Or.inr (by rw [e]; omega))
  have k628 := x621.kd k604 (by decide)
  have k629 := x621.kd k601 (by decide)
  have k630 : q_kd X619 q74 = 0 := x621.k0 k606 (by omega)
  have k631 : q_kd X619 q122 = 0 := x621.k0 k607 (by omega)
  have k632 : q_kd X619 q150 = 0 := x621.k0 k608 (by omega)
  have k633 : q_kd X619 q180 = 0 := x621.k0 k609 (by omega)
  have k634 : q_kd X619 q212 = 0 := x621.k0 k610 (by omega)
  have k635 : q_kd X619 q246 = 0 := x621.k0 k611 (by omega)
  have k636 : q_kd X619 q282 = 0 := x621.k0 k612 (by omega)
  have k637 : q_kd X619 q320 = 0 := x621.k0 k613 (by omega)
  have k638 : q_kd X619 q360 = 0 := x621.k0 k614 (by omega)
  have k639 : q_kd X619 h = 0 := x621.k0 k615 (by omega)
  have n640 : q_ln X619 q8 = 4 := (x621.2.2.2.1 q8 (by rw [k604]; decide)).2.1.trans n616
  have n641 : q_ln X619 q28 = 4 := (x621.2.2.2.1 q28 (by rw [k601]; decide)).2.1.trans n602
  have j642 : ∀ j, σ620.1 q8 j = (fun _ => 0 : Nat → Int32) j := fun j => (q_exi x621 (by rw [k604]; decide)).trans (j617 j)
  have j643 : ∀ j, σ620.1 q28 j = (fun j => if j = (3 : Int32).toNatClampNeg then ((-1) : Int32) else (fun j => if j = (2 : Int32).toNatClampNeg then ((-1) : Int32) else (fun j => if j = (1 : Int32).toNatClampNeg then ((-1) : Int32) else (fun j => if j = (0 : Int32).toNatClampNeg then ((-1) : Int32) else (fun _ => 0 : Nat → Int32) j) j) j) j) j := fun j => (q_exi x621 (by rw [k601]; decide)).trans (j618 j)
  have y648 := raw_lt r565
  obtain ⟨X644, dX644⟩ : ∃ Y, Y = q_xg X619 q74 33 900 (fun _ => 0) := ⟨_, rfl⟩
  obtain ⟨σ645, dσ645⟩ : ∃ τ, τ = q_sg σ620 q74 (fun _ => 0 : Nat → Int32) (fun _ => 0) 0 := ⟨_, rfl⟩
  have x646 : q_ext (fun a => a = q74) X619 X644 σ620 σ645 := by rw [dX644, dσ645]; exact q_ext.add k630
  have w647 : q_w X644 σ645 H554 := by
    rw [dX644, dσ645]
    exact w622.add k630 (fun f hf => absurd rfl hf) (fun _ => rfl) (by decide) (fun q => absurd q (by decide)) (fun f => q_inU rfl) (fun q => by rcases q with q | q <;> exact absurd q (by decide)) (q_cfA D624 (by decide) (t0 := 0) rfl r565 (fun j => rfl))
  have D649 : X644.1 = D := x646.1.trans D624
  have k650 : q_kd X644 q74 = 33 := by rw [dX644]; exact q_xg_h
  have n651 : q_ln X644 q74 = 900 := by rw [dX644]; exact if_pos rfl
  have x652 := x627.tr x646 (fun a e => Or.inr (by rw [e]; omega))
  have k653 := x646.kd k628 (by decide)
  have k654 := x646.kd k629 (by decide)
  have k655 := x646.kd k625 (by decide)
  have k656 : q_kd X644 q122 = 0 := x646.k0 k631 (by omega)
  have k657 : q_kd X644 q150 = 0 := x646.k0 k632 (by omega)
  have k658 : q_kd X644 q180 = 0 := x646.k0 k633 (by omega)
  have k659 : q_kd X644 q212 = 0 := x646.k0 k634 (by omega)
  have k660 : q_kd X644 q246 = 0 := x646.k0 k635 (by omega)
  have k661 : q_kd X644 q282 = 0 := x646.k0 k636 (by omega)
  have k662 : q_kd X644 q320 = 0 := x646.k0 k637 (by omega)
  have k663 : q_kd X644 q360 = 0 := x646.k0 k638 (by omega)
  have k664 : q_kd X644 h = 0 := x646.k0 k639 (by omega)
  have n665 : q_ln X644 q8 = 4 := (x646.2.2.2.1 q8 (by rw [k628]; decide)).2.1.trans n640
  have n666 : q_ln X644 q28 = 4 := (x646.2.2.2.1 q28 (by rw [k629]; decide)).2.1.trans n641
  have n667 : q_ln X644 q50 = 240 := (x646.2.2.2.1 q50 (by rw [k625]; decide)).2.1.trans n626
  have j668 : ∀ j, σ645.1 q8 j = (fun _ => 0 : Nat → Int32) j := fun j => (q_exi x646 (by rw [k628]; decide)).trans (j642 j)
  have j669 : ∀ j, σ645.1 q28 j = (fun j => if j = (3 : Int32).toNatClampNeg then ((-1) : Int32) else (fun j => if j = (2 : Int32).toNatClampNeg then ((-1) : Int32) else (fun j => if j = (1 : Int32).toNatClampNeg then ((-1) : Int32) else (fun j => if j = (0 : Int32).toNatClampNeg then ((-1) : Int32) else (fun _ => 0 : Nat → Int32) j) j) j) j) j := fun j => (q_exi x646 (by rw [k629]; decide)).trans (j643 j)
  have y674 := raw_lt r557
  obtain ⟨X670, dX670⟩ : ∃ Y, Y = q_xg X644 q122 34 4650 (fun _ => 0) := ⟨_, rfl⟩
  obtain ⟨σ671, dσ671⟩ : ∃ τ, τ = q_sg σ645 q122 (fun j => if j = (6 : Int32).toNatClampNeg then ((-1) : Int32) else (fun j => if j = (8 : Int32).toNatClampNeg then ((-1) : Int32) else (fun j => if j = (4 : Int32).toNatClampNeg then (4 : Int32) else (fun j => if j = (1 : Int32).toNatClampNeg then (1 : Int32) else (fun j => if j = (0 : Int32).toNatClampNeg then (2 : Int32) else (fun _ => 0 : Nat → Int32) j) j) j) j) j) (fun _ => 0) 0 := ⟨_, rfl⟩
  have x672 : q_ext (fun a => a = q122) X644 X670 σ645 σ671 := by rw [dX670, dσ671]; exact q_ext.add k656
  have w673 : q_w X670 σ671 H554 := by
    rw [dX670, dσ671]
    exact w647.add k656 (fun f hf => absurd rfl hf) (fun _ => rfl) (by decide) (fun q => absurd q (by decide)) (fun f => q_inU rfl) (fun q => by rcases q with q | q <;> exact absurd q (by decide)) (q_cfA D649 (by decide) (t0 := 1) rfl r557 (fun j => rfl))
  have D675 : X670.1 = D := x672.1.trans D649
  have k676 : q_kd X670 q122 = 34 := by rw [dX670]; exact q_xg_h
  have n677 : q_ln X670 q122 = 4650 := by rw [dX670]; exact if_pos rfl
  have x678 := x652.tr x672 (fun a e => Or.inr (by rw [e]; omega))
  have k679 := x672.kd k653 (by decide)
  have k680 := x672.kd k654 (by decide)
  have k681 := x672.kd k655 (by decide)
  have k682 := x672.kd k650 (by decide)
  have k683 : q_kd X670 q150 = 0 := x672.k0 k657 (by omega)
  have k684 : q_kd X670 q180 = 0 := x672.k0 k658 (by omega)
  have k685 : q_kd X670 q212 = 0 := x672.k0 k659 (by omega)
  have k686 : q_kd X670 q246 = 0 := x672.k0 k660 (by omega)
  have k687 : q_kd X670 q282 = 0 := x672.k0 k661 (by omega)
  have k688 : q_kd X670 q320 = 0 := x672.k0 k662 (by omega)
  have k689 : q_kd X670 q360 = 0 := x672.k0 k663 (by omega)
  have k690 : q_kd X670 h = 0 := x672.k0 k664 (by omega)
  have n691 : q_ln X670 q8 = 4 := (x672.2.2.2.1 q8 (by rw [k653]; decide)).2.1.trans n665
  have n692 : q_ln X670 q28 = 4 := (x672.2.2.2.1 q28 (by rw [k654]; decide)).2.1.trans n666
  have n693 : q_ln X670 q50 = 240 := (x672.2.2.2.1 q50 (by rw [k655]; decide)).2.1.trans n667
  have n694 : q_ln X670 q74 = 900 := (x672.2.2.2.1 q74 (by rw [k650]; decide)).2.1.trans n651
  have j695 : ∀ j, σ671.1 q8 j = (fun _ => 0 : Nat → Int32) j := fun j => (q_exi x672 (by rw [k653]; decide)).trans (j668 j)
  have j696 : ∀ j, σ671.1 q28 j = (fun j => if j = (3 : Int32).toNatClampNeg then ((-1) : Int32) else (fun j => if j = (2 : Int32).toNatClampNeg then ((-1) : Int32) else (fun j => if j = (1 : Int32).toNatClampNeg then ((-1) : Int32) else (fun j => if j = (0 : Int32).toNatClampNeg then ((-1) : Int32) else (fun _ => 0 : Nat → Int32) j) j) j) j) j := fun j => (q_exi x672 (by rw [k654]; decide)).trans (j669 j)
  have j697 : ∀ j, σ671.1 q122 j = (fun j => if j = (6 : Int32).toNatClampNeg then ((-1) : Int32) else (fun j => if j = (8 : Int32).toNatClampNeg then ((-1) : Int32) else (fun j => if j = (4 : Int32).toNatClampNeg then (4 : Int32) else (fun j => if j = (1 : Int32).toNatClampNeg then (1 : Int32) else (fun j => if j = (0 : Int32).toNatClampNeg then (2 : Int32) else (fun _ => 0 : Nat → Int32) j) j) j) j) j) j := fun j => by rw [dσ671]; exact if_pos rfl
  have y702 := raw_lt r566
  obtain ⟨X698, dX698⟩ : ∃ Y, Y = q_xg X670 q150 35 654 (fun _ => 0) := ⟨_, rfl⟩
  obtain ⟨σ699, dσ699⟩ : ∃ τ, τ = q_sg σ671 q150 (fun _ => 0 : Nat → Int32) (fun _ => 0) 0 := ⟨_, rfl⟩
  have x700 : q_ext (fun a => a = q150) X670 X698 σ671 σ699 := by rw [dX698, dσ699]; exact q_ext.add k683
  have w701 : q_w X698 σ699 H554 := by
    rw [dX698, dσ699]
    exact w673.add k683 (fun f hf => absurd rfl hf) (fun _ => rfl) (by decide) (fun q => absurd q (by decide)) (fun f => q_inU rfl) (fun q => by rcases q with q | q <;> exact absurd q (by decide)) (q_cfA D675 (by decide) (t0 := 1) rfl r566 (fun j => rfl))
  have D703 : X698.1 = D := x700.1.trans D675
  have k704 : q_kd X698 q150 = 35 := by rw [dX698]; exact q_xg_h
  have n705 : q_ln X698 q150 = 654 := by rw [dX698]; exact if_pos rfl
  have x706 := x678.tr x700 (fun a e => Or.inr (by rw [e]; omega))
  have k707 := x700.kd k679 (by decide)
  have k708 := x700.kd k680 (by decide)
  have k709 := x700.kd k681 (by decide)
  have k710 := x700.kd k682 (by decide)
  have k711 := x700.kd k676 (by decide)
  have k712 : q_kd X698 q180 = 0 := x700.k0 k684 (by omega)
  have k713 : q_kd X698 q212 = 0 := x700.k0 k685 (by omega)
  have k714 : q_kd X698 q246 = 0 := x700.k0 k686 (by omega)
  have k715 : q_kd X698 q282 = 0 := x700.k0 k687 (by omega)
  have k716 : q_kd X698 q320 = 0 := x700.k0 k688 (by omega)
  have k717 : q_kd X698 q360 = 0 := x700.k0 k689 (by omega)
  have k718 : q_kd X698 h = 0 := x700.k0 k690 (by omega)
  have n719 : q_ln X698 q8 = 4 := (x700.2.2.2.1 q8 (by rw [k679]; decide)).2.1.trans n691
  have n720 : q_ln X698 q28 = 4 := (x700.2.2.2.1 q28 (by rw [k680]; decide)).2.1.trans n692
  have n721 : q_ln X698 q50 = 240 := (x700.2.2.2.1 q50 (by rw [k681]; decide)).2.1.trans n693
  have n722 : q_ln X698 q74 = 900 := (x700.2.2.2.1 q74 (by rw [k682]; decide)).2.1.trans n694
  have n723 : q_ln X698 q122 = 4650 := (x700.2.2.2.1 q122 (by rw [k676]; decide)).2.1.trans n677
  have j724 : ∀ j, σ699.1 q8 j = (fun _ => 0 : Nat → Int32) j := fun j => (q_exi x700 (by rw [k679]; decide)).trans (j695 j)
  have j725 : ∀ j, σ699.1 q28 j = (fun j => if j = (3 : Int32).toNatClampNeg then ((-1) : Int32) else (fun j => if j = (2 : Int32).toNatClampNeg then ((-1) : Int32) else (fun j => if j = (1 : Int32).toNatClampNeg then ((-1) : Int32) else (fun j => if j = (0 : Int32).toNatClampNeg then ((-1) : Int32) else (fun _ => 0 : Nat → Int32) j) j) j) j) j := fun j => (q_exi x700 (by rw [k680]; decide)).trans (j696 j)
  have j726 : ∀ j, σ699.1 q122 j = (fun j => if j = (6 : Int32).toNatClampNeg then ((-1) : Int32) else (fun j => if j = (8 : Int32).toNatClampNeg then ((-1) : Int32) else (fun j => if j = (4 : Int32).toNatClampNeg then (4 : Int32) else (fun j => if j = (1 : Int32).toNatClampNeg then (1 : Int32) else (fun j => if j = (0 : Int32).toNatClampNeg then (2 : Int32) else (fun _ => 0 : Nat → Int32) j) j) j) j) j) j := fun j => (q_exi x700 (by rw [k676]; decide)).trans (j697 j)
  have y731 := raw_lt r567
  obtain ⟨X727, dX727⟩ : ∃ Y, Y = q_xg X698 q180 36 60 (fun _ => 0) := ⟨_, rfl⟩
  obtain ⟨σ728, dσ728⟩ : ∃ τ, τ = q_sg σ699 q180 (fun _ => 0 : Nat → Int32) (fun _ => 0) 0 := ⟨_, rfl⟩
  have x729 : q_ext (fun a => a = q180) X698 X727 σ699 σ728 := by rw [dX727, dσ728]; exact q_ext.add k712
  have w730 : q_w X727 σ728 H554 := by
    rw [dX727, dσ728]
    exact w701.add k712 (fun f hf => absurd rfl hf) (fun _ => rfl) (by decide) (fun q => absurd q (by decide)) (fun f => q_inU rfl) (fun q => by rcases q with q | q <;> exact absurd q (by decide)) (q_cfA D703 (by decide) (t0 := 1) rfl r567 (fun j => rfl))
  have D732 : X727.1 = D := x729.1.trans D703
  have k733 : q_kd X727 q180 = 36 := by rw [dX727]; exact q_xg_h
  have n734 : q_ln X727 q180 = 60 := by rw [dX727]; exact if_pos rfl
  have x735 := x706.tr x729 (fun a e => Or.inr (by rw [e]; omega))
  have k736 := x729.kd k707 (by decide)
  have k737 := x729.kd k708 (by decide)
  have k738 := x729.kd k709 (by decide)
  have k739 := x729.kd k710 (by decide)
  have k740 := x729.kd k711 (by decide)
  have k741 := x729.kd k704 (by decide)
  have k742 : q_kd X727 q212 = 0 := x729.k0 k713 (by omega)
  have k743 : q_kd X727 q246 = 0 := x729.k0 k714 (by omega)
  have k744 : q_kd X727 q282 = 0 := x729.k0 k715 (by omega)
  have k745 : q_kd X727 q320 = 0 := x729.k0 k716 (by omega)
  have k746 : q_kd X727 q360 = 0 := x729.k0 k717 (by omega)
  have k747 : q_kd X727 h = 0 := x729.k0 k718 (by omega)
  have n748 : q_ln X727 q8 = 4 := (x729.2.2.2.1 q8 (by rw [k707]; decide)).2.1.trans n719
  have n749 : q_ln X727 q28 = 4 := (x729.2.2.2.1 q28 (by rw [k708]; decide)).2.1.trans n720
  have n750 : q_ln X727 q50 = 240 := (x729.2.2.2.1 q50 (by rw [k709]; decide)).2.1.trans n721
  have n751 : q_ln X727 q74 = 900 := (x729.2.2.2.1 q74 (by rw [k710]; decide)).2.1.trans n722
  have n752 : q_ln X727 q122 = 4650 := (x729.2.2.2.1 q122 (by rw [k711]; decide)).2.1.trans n723
  have n753 : q_ln X727 q150 = 654 := (x729.2.2.2.1 q150 (by rw [k704]; decide)).2.1.trans n705
  have j754 : ∀ j, σ728.1 q8 j = (fun _ => 0 : Nat → Int32) j := fun j => (q_exi x729 (by rw [k707]; decide)).trans (j724 j)
  have j755 : ∀ j, σ728.1 q28 j = (fun j => if j = (3 : Int32).toNatClampNeg then ((-1) : Int32) else (fun j => if j = (2 : Int32).toNatClampNeg then ((-1) : Int32) else (fun j => if j = (1 : Int32).toNatClampNeg then ((-1) : Int32) else (fun j => if j = (0 : Int32).toNatClampNeg then ((-1) : Int32) else (fun _ => 0 : Nat → Int32) j) j) j) j) j := fun j => (q_exi x729 (by rw [k708]; decide)).trans (j725 j)
  have j756 : ∀ j, σ728.1 q122 j = (fun j => if j = (6 : Int32).toNatClampNeg then ((-1) : Int32) else (fun j => if j = (8 : Int32).toNatClampNeg then ((-1) : Int32) else (fun j => if j = (4 : Int32).toNatClampNeg then (4 : Int32) else (fun j => if j = (1 : Int32).toNatClampNeg then (1 : Int32) else (fun j => if j = (0 : Int32).toNatClampNeg then (2 : Int32) else (fun _ => 0 : Nat → Int32) j) j) j) j) j) j := fun j => (q_exi x729 (by rw [k711]; decide)).trans (j726 j)
  have y761 := raw_lt r568
  obtain ⟨X757, dX757⟩ : ∃ Y, Y = q_xg X727 q212 37 30 (fun _ => 0) := ⟨_, rfl⟩
  obtain ⟨σ758, dσ758⟩ : ∃ τ, τ = q_sg σ728 q212 (fun _ => 0) (fun _ => 0) 0 := ⟨_, rfl⟩
  have x759 : q_ext (fun a => a = q212) X727 X757 σ728 σ758 := by rw [dX757, dσ758]; exact q_ext.add k742
  have w760 : q_w X757 σ758 H554 := by
    rw [dX757, dσ758]
    exact w730.add k742 (fun f hf => absurd rfl hf) (fun _ => rfl) (by decide) (fun q => absurd q (by decide)) (fun f => q_inU rfl) (fun q => by rcases q with q | q <;> exact absurd q (by decide)) (q_cfA D732 (by decide) (t0 := 2) rfl r568 (fun j => rfl))
  have D762 : X757.1 = D := x759.1.trans D732
  have k763 : q_kd X757 q212 = 37 := by rw [dX757]; exact q_xg_h
  have n764 : q_ln X757 q212 = 30 := by rw [dX757]; exact if_pos rfl
  have x765 := x735.tr x759 (fun a e => Or.inr (by rw [e]; omega))
  have k766 := x759.kd k736 (by decide)
  have k767 := x759.kd k737 (by decide)
  have k768 := x759.kd k738 (by decide)
  have k769 := x759.kd k739 (by decide)
  have k770 := x759.kd k740 (by decide)
  have k771 := x759.kd k741 (by decide)
  have k772 := x759.kd k733 (by decide)
  have k773 : q_kd X757 q246 = 0 := x759.k0 k743 (by omega)
  have k774 : q_kd X757 q282 = 0 := x759.k0 k744 (by omega)
  have k775 : q_kd X757 q320 = 0 := x759.k0 k745 (by omega)
  have k776 : q_kd X757 q360 = 0 := x759.k0 k746 (by omega)
  have k777 : q_kd X757 h = 0 := x759.k0 k747 (by omega)
  have n778 : q_ln X757 q8 = 4 := (x759.2.2.2.1 q8 (by rw [k736]; decide)).2.1.trans n748
  have n779 : q_ln X757 q28 = 4 := (x759.2.2.2.1 q28 (by rw [k737]; decide)).2.1.trans n749
  have n780 : q_ln X757 q50 = 240 := (x759.2.2.2.1 q50 (by rw [k738]; decide)).2.1.trans n750
  have n781 : q_ln X757 q74 = 900 := (x759.2.2.2.1 q74 (by rw [k739]; decide)).2.1.trans n751
  have n782 : q_ln X757 q122 = 4650 := (x759.2.2.2.1 q122 (by rw [k740]; decide)).2.1.trans n752
  have n783 : q_ln X757 q150 = 654 := (x759.2.2.2.1 q150 (by rw [k741]; decide)).2.1.trans n753
  have n784 : q_ln X757 q180 = 60 := (x759.2.2.2.1 q180 (by rw [k733]; decide)).2.1.trans n734
  have j785 : ∀ j, σ758.1 q8 j = (fun _ => 0 : Nat → Int32) j := fun j => (q_exi x759 (by rw [k736]; decide)).trans (j754 j)
  have j786 : ∀ j, σ758.1 q28 j = (fun j => if j = (3 : Int32).toNatClampNeg then ((-1) : Int32) else (fun j => if j = (2 : Int32).toNatClampNeg then ((-1) : Int32) else (fun j => if j = (1 : Int32).toNatClampNeg then ((-1) : Int32) else (fun j => if j = (0 : Int32).toNatClampNeg then ((-1) : Int32) else (fun _ => 0 : Nat → Int32) j) j) j) j) j := fun j => (q_exi x759 (by rw [k737]; decide)).trans (j755 j)
  have j787 : ∀ j, σ758.1 q122 j = (fun j => if j = (6 : Int32).toNatClampNeg then ((-1) : Int32) else (fun j => if j = (8 : Int32).toNatClampNeg then ((-1) : Int32) else (fun j => if j = (4 : Int32).toNatClampNeg then (4 : Int32) else (fun j => if j = (1 : Int32).toNatClampNeg then (1 : Int32) else (fun j => if j = (0 : Int32).toNatClampNeg then (2 : Int32) else (fun _ => 0 : Nat → Int32) j) j) j) j) j) j := fun j => (q_exi x759 (by rw [k740]; decide)).trans (j756 j)
  have y792 := raw_lt r569
  obtain ⟨X788, dX788⟩ : ∃ Y, Y = q_xg X757 q246 39 10 (fun _ => 0) := ⟨_, rfl⟩
  obtain ⟨σ789, dσ789⟩ : ∃ τ, τ = q_sg σ758 q246 (fun _ => 0 : Nat → Int32) (fun _ => 0) 0 := ⟨_, rfl⟩
  have x790 : q_ext (fun a => a = q246) X757 X788 σ758 σ789 := by rw [dX788, dσ789]; exact q_ext.add k773
  have w791 : q_w X788 σ789 H554 := by
    rw [dX788, dσ789]
    exact w760.add k773 (fun f hf => absurd rfl hf) (fun _ => rfl) (by decide) (fun q => absurd q (by decide)) (fun f => q_inU rfl) (fun q => by rcases q with q | q <;> exact absurd q (by decide)) (q_cfA D762 (by decide) (t0 := 1) rfl r569 (fun j => rfl))
  have D793 : X788.1 = D := x790.1.trans D762
  have k794 : q_kd X788 q246 = 39 := by rw [dX788]; exact q_xg_h
  have n795 : q_ln X788 q246 = 10 := by rw [dX788]; exact if_pos rfl
  have x796 := x765.tr x790 (fun a e => Or.inr (by rw [e]; omega))
  have k797 := x790.kd k766 (by decide)
  have k798 := x790.kd k767 (by decide)
  have k799 := x790.kd k768 (by decide)
  have k800 := x790.kd k769 (by decide)
  have k801 := x790.kd k770 (by decide)
  have k802 := x790.kd k771 (by decide)
  have k803 := x790.kd k772 (by decide)
  have k804 := x790.kd k763 (by decide)
  have k805 : q_kd X788 q282 = 0 := x790.k0 k774 (by omega)
  have k806 : q_kd X788 q320 = 0 := x790.k0 k775 (by omega)
  have k807 : q_kd X788 q360 = 0 := x790.k0 k776 (by omega)
  have k808 : q_kd X788 h = 0 := x790.k0 k777 (by omega)
  have n809 : q_ln X788 q8 = 4 := (x790.2.2.2.1 q8 (by rw [k766]; decide)).2.1.trans n778
  have n810 : q_ln X788 q28 = 4 := (x790.2.2.2.1 q28 (by rw [k767]; decide)).2.1.trans n779
  have n811 : q_ln X788 q50 = 240 := (x790.2.2.2.1 q50 (by rw [k768]; decide)).2.1.trans n780
  have n812 : q_ln X788 q74 = 900 := (x790.2.2.2.1 q74 (by rw [k769]; decide)).2.1.trans n781
  have n813 : q_ln X788 q122 = 4650 := (x790.2.2.2.1 q122 (by rw [k770]; decide)).2.1.trans n782
  have n814 : q_ln X788 q150 = 654 := (x790.2.2.2.1 q150 (by rw [k771]; decide)).2.1.trans n783
  have n815 : q_ln X788 q180 = 60 := (x790.2.2.2.1 q180 (by rw [k772]; decide)).2.1.trans n784
  have n816 : q_ln X788 q212 = 30 := (x790.2.2.2.1 q212 (by rw [k763]; decide)).2.1.trans n764
  have j817 : ∀ j, σ789.1 q8 j = (fun _ => 0 : Nat → Int32) j := fun j => (q_exi x790 (by rw [k766]; decide)).trans (j785 j)
  have j818 : ∀ j, σ789.1 q28 j = (fun j => if j = (3 : Int32).toNatClampNeg then ((-1) : Int32) else (fun j => if j = (2 : Int32).toNatClampNeg then ((-1) : Int32) else (fun j => if j = (1 : Int32).toNatClampNeg then ((-1) : Int32) else (fun j => if j = (0 : Int32).toNatClampNeg then ((-1) : Int32) else (fun _ => 0 : Nat → Int32) j) j) j) j) j := fun j => (q_exi x790 (by rw [k767]; decide)).trans (j786 j)
  have j819 : ∀ j, σ789.1 q122 j = (fun j => if j = (6 : Int32).toNatClampNeg then ((-1) : Int32) else (fun j => if j = (8 : Int32).toNatClampNeg then ((-1) : Int32) else (fun j => if j = (4 : Int32).toNatClampNeg then (4 : Int32) else (fun j => if j = (1 : Int32).toNatClampNeg then (1 : Int32) else (fun j => if j = (0 : Int32).toNatClampNeg then (2 : Int32) else (fun _ => 0 : Nat → Int32) j) j) j) j) j) j := fun j => (q_exi x790 (by rw [k770]; decide)).trans (j787 j)
  have y824 := raw_lt r570
  obtain ⟨X820, dX820⟩ : ∃ Y, Y = q_xg X788 q282 40 4 (fun _ => 0) := ⟨_, rfl⟩
  obtain ⟨σ821, dσ821⟩ : ∃ τ, τ = q_sg σ789 q282 (fun _ => 0 : Nat → Int32) (fun _ => 0) 0 := ⟨_, rfl⟩
  have x822 : q_ext (fun a => a = q282) X788 X820 σ789 σ821 := by rw [dX820, dσ821]; exact q_ext.add k805
  have w823 : q_w X820 σ821 H554 := by
    rw [dX820, dσ821]
    exact w791.add k805 (fun f hf => absurd rfl hf) (fun _ => rfl) (by decide) (fun q => absurd q (by decide)) (fun f => q_inU rfl) (fun q => by rcases q with q | q <;> exact absurd q (by decide)) (q_cfA D793 (by decide) (t0 := 1) rfl r570 (fun j => rfl))
  have D825 : X820.1 = D := x822.1.trans D793
  have k826 : q_kd X820 q282 = 40 := by rw [dX820]; exact q_xg_h
  have n827 : q_ln X820 q282 = 4 := by rw [dX820]; exact if_pos rfl
  have x828 := x796.tr x822 (fun a e => Or.inr (by rw [e]; omega))
  have k829 := x822.kd k797 (by decide)
  have k830 := x822.kd k798 (by decide)
  have k831 := x822.kd k799 (by decide)
  have k832 := x822.kd k800 (by decide)
  have k833 := x822.kd k801 (by decide)
  have k834 := x822.kd k802 (by decide)
  have k835 := x822.kd k803 (by decide)
  have k836 := x822.kd k804 (by decide)
  have k837 := x822.kd k794 (by decide)
  have k838 : q_kd X820 q320 = 0 := x822.k0 k806 (by omega)
  have k839 : q_kd X820 q360 = 0 := x822.k0 k807 (by omega)
  have k840 : q_kd X820 h = 0 := x822.k0 k808 (by omega)
  have n841 : q_ln X820 q8 = 4 := (x822.2.2.2.1 q8 (by rw [k797]; decide)).2.1.trans n809
  have n842 : q_ln X820 q28 = 4 := (x822.2.2.2.1 q28 (by rw [k798]; decide)).2.1.trans n810
  have n843 : q_ln X820 q50 = 240 := (x822.2.2.2.1 q50 (by rw [k799]; decide)).2.1.trans n811
  have n844 : q_ln X820 q74 = 900 := (x822.2.2.2.1 q74 (by rw [k800]; decide)).2.1.trans n812
  have n845 : q_ln X820 q122 = 4650 := (x822.2.2.2.1 q122 (by rw [k801]; decide)).2.1.trans n813
  have n846 : q_ln X820 q150 = 654 := (x822.2.2.2.1 q150 (by rw [k802]; decide)).2.1.trans n814
  have n847 : q_ln X820 q180 = 60 := (x822.2.2.2.1 q180 (by rw [k803]; decide)).2.1.trans n815
  have n848 : q_ln X820 q212 = 30 := (x822.2.2.2.1 q212 (by rw [k804]; decide)).2.1.trans n816
  have n849 : q_ln X820 q246 = 10 := (x822.2.2.2.1 q246 (by rw [k794]; decide)).2.1.trans n795
  have j850 : ∀ j, σ821.1 q8 j = (fun _ => 0 : Nat → Int32) j := fun j => (q_exi x822 (by rw [k797]; decide)).trans (j817 j)
  have j851 : ∀ j, σ821.1 q28 j = (fun j => if j = (3 : Int32).toNatClampNeg then ((-1) : Int32) else (fun j => if j = (2 : Int32).toNatClampNeg then ((-1) : Int32) else (fun j => if j = (1 : Int32).toNatClampNeg then ((-1) : Int32) else (fun j => if j = (0 : Int32).toNatClampNeg then ((-1) : Int32) else (fun _ => 0 : Nat → Int32) j) j) j) j) j := fun j => (q_exi x822 (by rw [k798]; decide)).trans (j818 j)
  have j852 : ∀ j, σ821.1 q122 j = (fun j => if j = (6 : Int32).toNatClampNeg then ((-1) : Int32) else (fun j => if j = (8 : Int32).toNatClampNeg then ((-1) : Int32) else (fun j => if j = (4 : Int32).toNatClampNeg then (4 : Int32) else (fun j => if j = (1 : Int32).toNatClampNeg then (1 : Int32) else (fun j => if j = (0 : Int32).toNatClampNeg then (2 : Int32) else (fun _ => 0 : Nat → Int32) j) j) j) j) j) j := fun j => (q_exi x822 (by rw [k801]; decide)).trans (j819 j)
  have y857 := raw_lt r571
  obtain ⟨X853, dX853⟩ : ∃ Y, Y = q_xg X820 q320 38 10 (fun _ => 0) := ⟨_, rfl⟩
  obtain ⟨σ854, dσ854⟩ : ∃ τ, τ = q_sg σ821 q320 (fun _ => 0 : Nat → Int32) (fun _ => 0) 0 := ⟨_, rfl⟩
  have x855 : q_ext (fun a => a = q320) X820 X853 σ821 σ854 := by rw [dX853, dσ854]; exact q_ext.add k838
  have w856 : q_w X853 σ854 H554 := by
    rw [dX853, dσ854]
    exact w823.add k838 (fun f hf => absurd rfl hf) (fun _ => rfl) (by decide) (fun q => absurd q (by decide)) (fun f => q_inU rfl) (fun q => by rcases q with q | q <;> exact absurd q (by decide)) (q_cfA D825 (by decide) (t0 := 1) rfl r571 (fun j => rfl))
  have D858 : X853.1 = D := x855.1.trans D825
  have k859 : q_kd X853 q320 = 38 := by rw [dX853]; exact q_xg_h
  have n860 : q_ln X853 q320 = 10 := by rw [dX853]; exact if_pos rfl
  have x861 := x828.tr x855 (fun a e => Or.inr (by rw [e]; omega))
  have k862 := x855.kd k829 (by decide)
  have k863 := x855.kd k830 (by decide)
  have k864 := x855.kd k831 (by decide)
  have k865 := x855.kd k832 (by decide)
  have k866 := x855.kd k833 (by decide)
  have k867 := x855.kd k834 (by decide)
  have k868 := x855.kd k835 (by decide)
  have k869 := x855.kd k836 (by decide)
  have k870 := x855.kd k837 (by decide)
  have k871 := x855.kd k826 (by decide)
  have k872 : q_kd X853 q360 = 0 := x855.k0 k839 (by omega)
  have k873 : q_kd X853 h = 0 := x855.k0 k840 (by omega)
  have n874 : q_ln X853 q8 = 4 := (x855.2.2.2.1 q8 (by rw [k829]; decide)).2.1.trans n841
  have n875 : q_ln X853 q28 = 4 := (x855.2.2.2.1 q28 (by rw [k830]; decide)).2.1.trans n842
  have n876 : q_ln X853 q50 = 240 := (x855.2.2.2.1 q50 (by rw [k831]; decide)).2.1.trans n843
  have n877 : q_ln X853 q74 = 900 := (x855.2.2.2.1 q74 (by rw [k832]; decide)).2.1.trans n844
  have n878 : q_ln X853 q122 = 4650 := (x855.2.2.2.1 q122 (by rw [k833]; decide)).2.1.trans n845
  have n879 : q_ln X853 q150 = 654 := (x855.2.2.2.1 q150 (by rw [k834]; decide)).2.1.trans n846
  have n880 : q_ln X853 q180 = 60 := (x855.2.2.2.1 q180 (by rw [k835]; decide)).2.1.trans n847
  have n881 : q_ln X853 q212 = 30 := (x855.2.2.2.1 q212 (by rw [k836]; decide)).2.1.trans n848
  have n882 : q_ln X853 q246 = 10 := (x855.2.2.2.1 q246 (by rw [k837]; decide)).2.1.trans n849
  have n883 : q_ln X853 q282 = 4 := (x855.2.2.2.1 q282 (by rw [k826]; decide)).2.1.trans n827
  have j884 : ∀ j, σ854.1 q8 j = (fun _ => 0 : Nat → Int32) j := fun j => (q_exi x855 (by rw [k829]; decide)).trans (j850 j)
  have j885 : ∀ j, σ854.1 q28 j = (fun j => if j = (3 : Int32).toNatClampNeg then ((-1) : Int32) else (fun j => if j = (2 : Int32).toNatClampNeg then ((-1) : Int32) else (fun j => if j = (1 : Int32).toNatClampNeg then ((-1) : Int32) else (fun j => if j = (0 : Int32).toNatClampNeg then ((-1) : Int32) else (fun _ => 0 : Nat → Int32) j) j) j) j) j := fun j => (q_exi x855 (by rw [k830]; decide)).trans (j851 j)
  have j886 : ∀ j, σ854.1 q122 j = (fun j => if j = (6 : Int32).toNatClampNeg then ((-1) : Int32) else (fun j => if j = (8 : Int32).toNatClampNeg then ((-1) : Int32) else (fun j => if j = (4 : Int32).toNatClampNeg then (4 : Int32) else (fun j => if j = (1 : Int32).toNatClampNeg then (1 : Int32) else (fun j => if j = (0 : Int32).toNatClampNeg then (2 : Int32) else (fun _ => 0 : Nat → Int32) j) j) j) j) j) j := fun j => (q_exi x855 (by rw [k833]; decide)).trans (j852 j)
  have y891 := raw_lt r572
  obtain ⟨X887, dX887⟩ : ∃ Y, Y = q_xg X853 q360 41 5 (fun _ => 0) := ⟨_, rfl⟩
  obtain ⟨σ888, dσ888⟩ : ∃ τ, τ = q_sg σ854 q360 (fun _ => 0 : Nat → Int32) (fun _ => 0) 0 := ⟨_, rfl⟩
  have x889 : q_ext (fun a => a = q360) X853 X887 σ854 σ888 := by rw [dX887, dσ888]; exact q_ext.add k872
  have w890 : q_w X887 σ888 H554 := by
    rw [dX887, dσ888]
    exact w856.add k872 (fun f hf => absurd rfl hf) (fun _ => rfl) (by decide) (fun q => absurd q (by decide)) (fun f => q_inU rfl) (fun q => by rcases q with q | q <;> exact absurd q (by decide)) (q_cfA D858 (by decide) (t0 := 1) rfl r572 (fun j => rfl))
  have D892 : X887.1 = D := x889.1.trans D858
  have k893 : q_kd X887 q360 = 41 := by rw [dX887]; exact q_xg_h
  have n894 : q_ln X887 q360 = 5 := by rw [dX887]; exact if_pos rfl
  have x895 := x861.tr x889 (fun a e => Or.inr (by rw [e]; omega))
  have k896 := x889.kd k862 (by decide)
  have k897 := x889.kd k863 (by decide)
  have k898 := x889.kd k864 (by decide)
  have k899 := x889.kd k865 (by decide)
  have k900 := x889.kd k866 (by decide)
  have k901 := x889.kd k867 (by decide)
  have k902 := x889.kd k868 (by decide)
  have k903 := x889.kd k869 (by decide)
  have k904 := x889.kd k870 (by decide)
  have k905 := x889.kd k871 (by decide)
  have k906 := x889.kd k859 (by decide)
  have k907 : q_kd X887 h = 0 := x889.k0 k873 (by omega)
  have n908 : q_ln X887 q8 = 4 := (x889.2.2.2.1 q8 (by rw [k862]; decide)).2.1.trans n874
  have n909 : q_ln X887 q28 = 4 := (x889.2.2.2.1 q28 (by rw [k863]; decide)).2.1.trans n875
  have n910 : q_ln X887 q50 = 240 := (x889.2.2.2.1 q50 (by rw [k864]; decide)).2.1.trans n876
  have n911 : q_ln X887 q74 = 900 := (x889.2.2.2.1 q74 (by rw [k865]; decide)).2.1.trans n877
  have n912 : q_ln X887 q122 = 4650 := (x889.2.2.2.1 q122 (by rw [k866]; decide)).2.1.trans n878
  have n913 : q_ln X887 q150 = 654 := (x889.2.2.2.1 q150 (by rw [k867]; decide)).2.1.trans n879
  have n914 : q_ln X887 q180 = 60 := (x889.2.2.2.1 q180 (by rw [k868]; decide)).2.1.trans n880
  have n915 : q_ln X887 q212 = 30 := (x889.2.2.2.1 q212 (by rw [k869]; decide)).2.1.trans n881
  have n916 : q_ln X887 q246 = 10 := (x889.2.2.2.1 q246 (by rw [k870]; decide)).2.1.trans n882
  have n917 : q_ln X887 q282 = 4 := (x889.2.2.2.1 q282 (by rw [k871]; decide)).2.1.trans n883
  have n918 : q_ln X887 q320 = 10 := (x889.2.2.2.1 q320 (by rw [k859]; decide)).2.1.trans n860
  have j919 : ∀ j, σ888.1 q8 j = (fun _ => 0 : Nat → Int32) j := fun j => (q_exi x889 (by rw [k862]; decide)).trans (j884 j)
  have j920 : ∀ j, σ888.1 q28 j = (fun j => if j = (3 : Int32).toNatClampNeg then ((-1) : Int32) else (fun j => if j = (2 : Int32).toNatClampNeg then ((-1) : Int32) else (fun j => if j = (1 : Int32).toNatClampNeg then ((-1) : Int32) else (fun j => if j = (0 : Int32).toNatClampNeg then ((-1) : Int32) else (fun _ => 0 : Nat → Int32) j) j) j) j) j := fun j => (q_exi x889 (by rw [k863]; decide)).trans (j885 j)
  have j921 : ∀ j, σ888.1 q122 j = (fun j => if j = (6 : Int32).toNatClampNeg then ((-1) : Int32) else (fun j => if j = (8 : Int32).toNatClampNeg then ((-1) : Int32) else (fun j => if j = (4 : Int32).toNatClampNeg then (4 : Int32) else (fun j => if j = (1 : Int32).toNatClampNeg then (1 : Int32) else (fun j => if j = (0 : Int32).toNatClampNeg then (2 : Int32) else (fun _ => 0 : Nat → Int32) j) j) j) j) j) j := fun j => (q_exi x889 (by rw [k866]; decide)).trans (j886 j)
  obtain ⟨X922, dX922⟩ : ∃ Y, Y = q_xg X887 h 12 0 (fun f => ([0, 0, 0, 0, q8, q28, q50, q74, 0, 0, 0, 0, 0, 0, 0, 0, 0, 0, 0, 0, q122, q150, q180, q212, 0, 0, 0, 0, q246, q282, 0, 0, q320, 0, 0, 0, q360, 0, 0, 0, 0, 0, 0, 0, 0, 0] : List Nat).getD f 0) := ⟨_, rfl⟩
  obtain ⟨σ923, dσ923⟩ : ∃ τ, τ = q_sg σ888 h (fun f => ([0, 0, 0, 0, 0, 0, 0, 0, 0, 0, (-1), (-1), 0, 0, 0, 0, 0, 0, 0, 0, 0, 0, 0, 0, 0, 0, 0, 0, 0, 0, 0, 0, 0, 0, 0, 0, 0, 0, 0, 0, 0, 0, 0, 0, 0, 0] : List Int32).getD f 0) (fun f => ([0, 0, 0, 1, 0, 0, 0, 0, 0, 0, 0, 0, 0, 0, 0, 0, 0, 0, 0, 0, 0, 0, 0, 0, 0, 0, 0, 0, 0, 0, 0, 0, 0, 0, 0, 0, 0, 0, 0, 0, 0, 0, 0, 0, 0, 0] : List Int64).getD f 0) 0 := ⟨_, rfl⟩
  have x924 : q_ext (fun a => a = h) X887 X922 σ888 σ923 := by rw [dX922, dσ923]; exact q_ext.add k907
  have hrk : ∀ f, f < 40 → q_rk 12 f ≠ 0 → q_kd X887 (([0, 0, 0, 0, q8, q28, q50, q74, 0, 0, 0, 0, 0, 0, 0, 0, 0, 0, 0, 0, q122, q150, q180, q212, 0, 0, 0, 0, q246, q282, 0, 0, q320, 0, 0, 0, q360, 0, 0, 0, 0, 0, 0, 0, 0, 0] : List Nat).getD f 0) = q_rk 12 f := fun f h40 hf => match f, h40, hf with | 0, _, hf => absurd rfl hf | 1, _, hf => absurd rfl hf | 2, _, hf => absurd rfl hf | 3, _, hf => absurd rfl hf | 4, _, _ => k896 | 5, _, _ => k897 | 6, _, _ => k898 | 7, _, _ => k899 | 8, _, hf => absurd rfl hf | 9, _, hf => absurd rfl hf | 10, _, hf => absurd rfl hf | 11, _, hf => absurd rfl hf | 12, _, hf => absurd rfl hf | 13, _, hf => absurd rfl hf | 14, _, hf => absurd rfl hf | 15, _, hf => absurd rfl hf | 16, _, hf => absurd rfl hf | 17, _, hf => absurd rfl hf | 18, _, hf => absurd rfl hf | 19, _, hf => absurd rfl hf | 20, _, _ => k900 | 21, _, _ => k901 | 22, _, _ => k902 | 23, _, _ => k903 | 24, _, hf => absurd rfl hf | 25, _, hf => absurd rfl hf | 26, _, hf => absurd rfl hf | 27, _, hf => absurd rfl hf | 28, _, _ => k904 | 29, _, _ => k905 | 30, _, hf => absurd rfl hf | 31, _, hf => absurd rfl hf | 32, _, _ => k906 | 33, _, hf => absurd rfl hf | 34, _, hf => absurd rfl hf | 35, _, hf => absurd rfl hf | 36, _, _ => k893 | 37, _, hf => absurd rfl hf | 38, _, hf => absurd rfl hf | 39, _, hf => absurd rfl hf | (n + 40), h40, _ => absurd h40 (by omega)
  have hB : ∀ f, f < 40 → (q_bn 12 f).1 ≤ ((([0, 0, 0, 0, 0, 0, 0, 0, 0, 0, (-1), (-1), 0, 0, 0, 0, 0, 0, 0, 0, 0, 0, 0, 0, 0, 0, 0, 0, 0, 0, 0, 0, 0, 0, 0, 0, 0, 0, 0, 0, 0, 0, 0, 0, 0, 0] : List Int32).getD f 0).toInt) ∧ (([0, 0, 0, 0, 0, 0, 0, 0, 0, 0, (-1), (-1), 0, 0, 0, 0, 0, 0, 0, 0, 0, 0, 0, 0, 0, 0, 0, 0, 0, 0, 0, 0, 0, 0, 0, 0, 0, 0, 0, 0, 0, 0, 0, 0, 0, 0] : List Int32).getD f 0).toInt ≤ (q_bn 12 f).2 := by decide +kernel
  have w925 : q_w X922 σ923 H554 := by
    rw [dX922, dσ923]
    exact w890.add k907 (q_hrk hrk) (fun q => absurd rfl q) (by decide) (fun q => absurd q (by decide)) (q_hB2 hB) (fun q => by rcases q with q | q <;> exact absurd q (by decide)) (q_cfO D892 ⟨rfl, by decide⟩ (show vwCl[11]? = some (RX12, TX12, 46) from rfl) b560 (fun f hf => match f, hf with | 0, _ => rfl | 1, _ => rfl | 2, _ => rfl | 3, _ => rfl | 4, _ => rfl | 5, _ => rfl | 6, _ => rfl | 7, _ => rfl | 8, _ => rfl | 9, _ => rfl | 10, _ => rfl | 11, _ => rfl | 12, _ => rfl | 13, _ => rfl | 14, _ => rfl | 15, _ => rfl | 16, _ => rfl | 17, _ => rfl | 18, _ => rfl | 19, _ => rfl | 20, _ => rfl | 21, _ => rfl | 22, _ => rfl | 23, _ => rfl | 24, _ => rfl | 25, _ => rfl | 26, _ => rfl | 27, _ => rfl | 28, _ => rfl | 29, _ => rfl | 30, _ => rfl | 31, _ => rfl | 32, _ => rfl | 33, _ => rfl | 34, _ => rfl | 35, _ => rfl | 36, _ => rfl | 37, _ => rfl | 38, _ => rfl | 39, _ => rfl | 40, _ => rfl | 41, _ => rfl | 42, _ => rfl | 43, _ => rfl | 44, _ => rfl | 45, _ => rfl | (n + 46), hf => absurd hf (by omega)))
  have k926 : q_kd X922 h = 12 := by rw [dX922]; exact q_xg_h
  have x927 := x895.tr x924 (fun a e => Or.inl e)
  have k928 := x924.kd k896 (by decide)
  have k929 := x924.kd k897 (by decide)
  have k930 := x924.kd k898 (by decide)
  have k931 := x924.kd k899 (by decide)
  have k932 := x924.kd k900 (by decide)
  have k933 := x924.kd k901 (by decide)
  have k934 := x924.kd k902 (by decide)
  have k935 := x924.kd k903 (by decide)
  have k936 := x924.kd k904 (by decide)
  have k937 := x924.kd k905 (by decide)
  have k938 := x924.kd k906 (by decide)
  have k939 := x924.kd k893 (by decide)
  have hr4 : q_rf X922 h 4 = q8 := by rw [dX922]; exact if_pos rfl
  have ha4 : ∀ j, σ923.1 q8 j = (fun _ => 0 : Nat → Int32) j := fun j => (q_exi x924 (by rw [k896]; decide)).trans (j919 j)
  have hr5 : q_rf X922 h 5 = q28 := by rw [dX922]; exact if_pos rfl
  have ha5 : ∀ j, σ923.1 q28 j = (fun j => if j = (3 : Int32).toNatClampNeg then ((-1) : Int32) else (fun j => if j = (2 : Int32).toNatClampNeg then ((-1) : Int32) else (fun j => if j = (1 : Int32).toNatClampNeg then ((-1) : Int32) else (fun j => if j = (0 : Int32).toNatClampNeg then ((-1) : Int32) else (fun _ => 0 : Nat → Int32) j) j) j) j) j := fun j => (q_exi x924 (by rw [k897]; decide)).trans (j920 j)
  have hr20 : q_rf X922 h 20 = q122 := by rw [dX922]; exact if_pos rfl
  have ha20 : ∀ j, σ923.1 q122 j = (fun j => if j = (6 : Int32).toNatClampNeg then ((-1) : Int32) else (fun j => if j = (8 : Int32).toNatClampNeg then ((-1) : Int32) else (fun j => if j = (4 : Int32).toNatClampNeg then (4 : Int32) else (fun j => if j = (1 : Int32).toNatClampNeg then (1 : Int32) else (fun j => if j = (0 : Int32).toNatClampNeg then (2 : Int32) else (fun _ => 0 : Nat → Int32) j) j) j) j) j) j := fun j => (q_exi x924 (by rw [k900]; decide)).trans (j921 j)
  exact b_ret E hr hlk S558 x927 k926 ⟨⟨by rw [dσ923]; exact if_pos rfl, by rw [dσ923]; exact if_pos rfl⟩, fun j hj => by rw [hr4, hr5, ha4, ha5]; exact match j, hj with | 0, _ => ⟨rfl, rfl⟩ | 1, _ => ⟨rfl, rfl⟩ | 2, _ => ⟨rfl, rfl⟩ | 3, _ => ⟨rfl, rfl⟩ | (n + 4), hj => absurd hj (by omega), fun j => by rw [hr20, ha20]; rfl⟩ w925 dX12_init_172
