theorem nw_no {h q n : Nat} (h1 : h < q) (h2 : h < n) : ¬ q_nw q n h := by
  rintro (e | e)
  · exact Nat.ne_of_lt h1 e
  · exact Nat.not_lt_of_ge e h2
theorem nw_in {h q n sz : Nat} (g : sz ≤ q) (k : sz ≤ n) : ∀ a, q_nw q n a → q_nw h sz a := by
  rintro a (e | e)
  · exact Or.inr (by rw [e]; exact g)
  · exact Or.inr (Nat.le_trans k e)
set_option maxRecDepth 100000 in
set_option maxHeartbeats 4000000 in
theorem n_X5 (l : Launch) (D : DW) (X : XW) (σ : ST) (h sz : Nat) (v1 : Int32) (kn : Nat) (hv : 0 ≤ v1.toInt) (hkn : v1.toNatClampNeg = kn) (hk : kn < 1000) : Met l yX5_init (q_ws yX5_init cX5_init 2 none) { frames := 1, cells := 1, slots := 0 + kn, locals := 24 } (q_PN D X σ h sz 4 1 (fun k => defaultValue (tyX5 k)) [.ref h, .int v1]) (q_QN X σ h sz 5 (fun X' σ' => (y_rt X X' ∧ y_root X' h) ∧ q_ln X' (q_rf X' h 0) = kn)) 1 (0 + kn) (q_nw h sz) := by
  refine b_met  (by first | exact rfl | decide +kernel) rfl rfl (Nat.le_of_ble_eq_true rfl) (fun p e s m below meth c E hml hr hlk hnm hsz hD hw0 h00 hob ls hl => ?_)
  subst hsz
  have hxx := E.1
  have hb := E.2.1
  have hl : lv_has ls 2 [(0, .ref h), (1, .int v1)] := hl
  have hS : va_S (q_nw h s.heap.size) s.heap s.heap [] := va_S.rf
  have hx0 : q_ext (q_nw h s.heap.size) X X σ σ := q_ext.rf
  have hAh : q_nw h s.heap.size h := Or.inl rfl
  have yr0 : y_rt X X := y_rt.rf
  have hlt := t_lt hob
  refine lv_aload_n hxx hb dX5_init_0 rfl (lv_at hl 0 rfl) ?_
  refine W.objInit hxx hb E.2.2.1 (E.2.2.2.1 _ bw_47) (E.2.2.2.1 _ bw_26) (E.2.2.2.1 _ bw_27) rfl (by rw [hml]; exact hl.1) rfl dX5_init_1 (Nat.le_of_ble_eq_true rfl) (Nat.le_of_ble_eq_true rfl) ?_
  refine W.eq (g2 := F0 m 4 ls []) rfl ?_
  refine lv_aload_n hxx hb dX5_init_4 rfl (lv_at hl 0 rfl) ?_
  refine lv_iconst (v := 0) hxx hb dX5_init_5 (by decide) ?_
  refine lv_iload_n hxx hb dX5_init_6 rfl (lv_at hl 1 rfl) ?_
  refine va_mmax hxx hb (hml.trans hl.1.symm) E.2.2.1 (E.2.2.2.1 _ (q_in_t1 (i := 48) (by first | rfl | decide +kernel) rfl)) (E.2.2.2.1 _ (q_in_t1 (i := 49) (by first | rfl | decide +kernel) rfl)) (E.2.2.2.1 _ (q_in_t1 (i := 5) (by first | rfl | decide +kernel) rfl)) (E.2.2.2.1 _ (q_in_t1 (i := 50) (by first | rfl | decide +kernel) rfl)) (Nat.le_of_ble_eq_true rfl) (Nat.le_of_ble_eq_true rfl) (Nat.zero_le _) (Nat.zero_le _) dX5_init_7 ?_
  have hmx : (if (0 : Int32) < v1 then v1 else 0) = v1 := by
    by_cases q : (0 : Int32) < v1
    · rw [if_pos q]
    · rw [if_neg q]; rw [Int32.lt_iff_toInt_lt, q_z0] at q; exact Int32.toInt_inj.mp (by rw [q_z0]; omega)
  rw [hmx]
  refine b_newa E hS bw_56 (t := 1) rfl (fun _ _ => rfl) (N' := kn) hv hkn (by show kn * 4 ≤ 536870912; omega) (Nat.le_of_ble_eq_true rfl) (Nat.le_refl _) dX5_init_10 (fun q1 H2 e3 z4 o5 r6 S7 => ?_)
  have hq1 : h < q1 := by first | exact Nat.lt_of_lt_of_eq hlt e3.symm | omega
  have gg_q1 : s.heap.size ≤ q1 := Nat.le_trans hS.1 (Nat.le_of_eq e3.symm)
  have mm_q1 : q1 < H2.size := by rw [z4, e3]; exact Nat.lt_succ_self _
  have w8 : q_w X σ H2 := hw0.kept (fun a ha => o5 a (hw0.lt ha))
  have b9 := hob.kept (o5 h hlt)
  try clear o5
  have t10 := t_lt b9
  have k11 : q_kd X q1 = 0 := hw0.fresh (Nat.le_of_eq e3.symm)
  have g12 := S7.1
  refine b_put E S7 hAh hnm (f := 0) b9 (show vwCl[4]? = some (RX5, TX5, 1) from rfl) q_inX5 tyX5_ok nmX5 (by decide) bw_51 rfl (fun _ => rfl) (tyX5_ok 0 (by decide)) rfl rfl dX5_init_12 (fun H13 locs1 z14 o15 b16 S17 => ?_)
  try clear b9; try clear S7
  have w18 : q_w X σ H13 := w8.kept (fun a ha => o15 a (fun e => ha (by rw [e]; exact h00)))
  try clear w8
  have t19 := t_lt b16
  try clear t10
  have r20 := (o15 q1 (by first | exact (Nat.ne_of_gt hq1) | omega)).trans r6
  try clear o15; try clear r6
  have y25 := raw_lt r20
  try clear y25
  obtain ⟨X21, dX21⟩ : ∃ Y, Y = q_xg X q1 20 kn (fun _ => 0) := ⟨_, rfl⟩
  obtain ⟨σ22, dσ22⟩ : ∃ τ, τ = q_sg σ q1 (fun _ => 0 : Nat → Int32) (fun _ => 0) 0 := ⟨_, rfl⟩
  have x23 : q_ext (fun a => a = q1) X X21 σ σ22 := by rw [dX21, dσ22]; exact q_ext.add k11
  have y26 : y_root X21 q1 := by rw [dX21]; exact (y_root.out w18.1 k11).add y_xg (fun f hf => absurd rfl hf)
  have y27 : y_rt X X21 := by rw [dX21]; exact yr0.add y_xg (fun f hf => absurd rfl hf)
  have w24 : q_w X21 σ22 H13 := by
    rw [dX21, dσ22]
    exact w18.add k11 (fun f hf => absurd rfl hf) (fun q => absurd rfl q) (by omega) (fun q => absurd q (by decide)) (fun f => q_inU rfl) (fun q => by rcases q with q | q <;> exact absurd q (by decide)) (q_cfA hD (by decide) (t0 := 1) rfl r20 (fun j => rfl)) (fun f hf => absurd rfl hf) (fun f g hf _ _ => absurd rfl hf) (fun f hf => absurd rfl hf) (fun f hf => absurd (show (0 : Nat) = 5 from hf) (by decide)) (fun _ f _ => ⟨rfl, rfl⟩)
  try clear r20; try clear w18; try clear k11; try clear t0
  have D28 : X21.1 = D := x23.1.trans hD
  have k29 : q_kd X21 q1 = 20 := by rw [dX21]; exact q_xg_h
  have n30 : q_ln X21 q1 = kn := by rw [dX21]; exact if_pos rfl
  have x31 := hx0.tr x23 (fun a e => Or.inr (by rw [e]; exact gg_q1))
  have k32 : q_kd X21 h = 0 := x23.k0 h00 (by first | exact (Nat.ne_of_lt hq1) | (omega))
  try clear x23
  obtain ⟨X33, dX33⟩ : ∃ Y, Y = q_xg X21 h 5 0 (fun f => ([q1] : List Nat).getD f 0) := ⟨_, rfl⟩
  obtain ⟨σ34, dσ34⟩ : ∃ τ, τ = q_sg σ22 h (fun f => ([0] : List Int32).getD f 0) (fun f => ([0] : List Int64).getD f 0) 0 := ⟨_, rfl⟩
  have x35 : q_ext (fun a => a = h) X21 X33 σ22 σ34 := by rw [dX33, dσ34]; exact q_ext.add k32
  have hrk : ∀ f, f < 40 → q_rk 5 f ≠ 0 → q_kd X21 (([q1] : List Nat).getD f 0) = q_rk 5 f := fun f h40 hf => match f, h40, hf with | 0, _, _ => k29 | 1, _, hf => absurd rfl hf | 2, _, hf => absurd rfl hf | 3, _, hf => absurd rfl hf | 4, _, hf => absurd rfl hf | 5, _, hf => absurd rfl hf | 6, _, hf => absurd rfl hf | 7, _, hf => absurd rfl hf | 8, _, hf => absurd rfl hf | 9, _, hf => absurd rfl hf | 10, _, hf => absurd rfl hf | 11, _, hf => absurd rfl hf | 12, _, hf => absurd rfl hf | 13, _, hf => absurd rfl hf | 14, _, hf => absurd rfl hf | 15, _, hf => absurd rfl hf | 16, _, hf => absurd rfl hf | 17, _, hf => absurd rfl hf | 18, _, hf => absurd rfl hf | 19, _, hf => absurd rfl hf | 20, _, hf => absurd rfl hf | 21, _, hf => absurd rfl hf | 22, _, hf => absurd rfl hf | 23, _, hf => absurd rfl hf | 24, _, hf => absurd rfl hf | 25, _, hf => absurd rfl hf | 26, _, hf => absurd rfl hf | 27, _, hf => absurd rfl hf | 28, _, hf => absurd rfl hf | 29, _, hf => absurd rfl hf | 30, _, hf => absurd rfl hf | 31, _, hf => absurd rfl hf | 32, _, hf => absurd rfl hf | 33, _, hf => absurd rfl hf | 34, _, hf => absurd rfl hf | 35, _, hf => absurd rfl hf | 36, _, hf => absurd rfl hf | 37, _, hf => absurd rfl hf | 38, _, hf => absurd rfl hf | 39, _, hf => absurd rfl hf | (n + 40), h40, _ => absurd h40 (Nat.not_lt_of_ge (Nat.le_add_left 40 n))
  have hB : ∀ f, f < 40 → (q_bn 5 f).1 ≤ ((([0] : List Int32).getD f 0).toInt) ∧ (([0] : List Int32).getD f 0).toInt ≤ (q_bn 5 f).2 := by decide +kernel
  have y37 : ∀ f, q_rk 5 f ≠ 0 → h < ([q1] : List Nat).getD f 0 := by
    intro f hf
    rcases y_fs5 hf with rfl
    · exact (hq1)
  have y38 : ∀ f, q_rk 5 f ≠ 0 → y_root X21 (([q1] : List Nat).getD f 0) := by
    intro f hf
    rcases y_fs5 hf with rfl
    · exact y26
  try clear y26
  have y39 : ∀ f, q_rk 5 f = 5 → q_ln X21 (q_rf X21 (([q1] : List Nat).getD f 0) 0) = y_rl 5 f := by
    intro f hf
    rcases y_fs5 (show q_rk 5 f ≠ 0 by rw [hf]; decide) with rfl
    · exact absurd hf (by decide)
  have y40 : ∀ f, q_rk 5 f ≠ 0 → ([q1] : List Nat).getD f 0 ≠ h := by
    intro f hf
    rcases y_fs5 hf with rfl
    · exact ((Nat.ne_of_gt hq1))
  have y41 : ∀ f, q_rk 5 f ≠ 0 → q_kd X (([q1] : List Nat).getD f 0) = 0 := by
    intro f hf
    rcases y_fs5 hf with rfl
    · exact hw0.fresh (gg_q1)
  have w36 : q_w X33 σ34 H13 := by
    rw [dX33, dσ34]
    exact w24.add k32 (q_hrk hrk) (fun q => absurd rfl q) (by decide) (fun q => absurd q (by decide)) (q_hB hB (by decide)) (fun q => by rcases q with q | q <;> exact absurd q (by decide)) (q_cfO D28 ⟨rfl, by decide⟩ (show vwCl[4]? = some (RX5, TX5, 1) from rfl) b16 (fun f hf => match f, hf with | 0, _ => rfl | (n + 1), hf => absurd hf (Nat.not_lt_of_ge (Nat.le_add_left 1 n)))) y37 (y_in5 (rf := (fun f => ([q1] : List Nat).getD f 0))) y38 y39 (fun q => absurd q (by decide))
  try clear y39; try clear y38; try clear y37; try clear D28; try clear b16
  have y42 : y_root X33 h := by
    rw [dX33]
    exact (y_root.out w24.1 k32).add y_xg y40
  try clear y40; try clear k32; try clear w24
  have y43 : y_rt X X33 := by
    rw [dX33]
    exact y27.add y_xg y41
  try clear y41; try clear y27
  have k44 : q_kd X33 h = 5 := by rw [dX33]; exact q_xg_h
  have x45 := x31.tr x35 (fun a e => Or.inl e)
  try clear x31
  have k46 := x35.kd k29 (by decide)
  try clear k46
  have hr0 : q_rf X33 h 0 = q1 := by rw [dX33]; exact if_pos rfl
  have hl0 : q_ln X33 (q_rf X33 h 0) = kn := by rw [hr0]; exact (x35.2.2.2.1 q1 (by rw [k29]; decide)).2.1.trans n30
  try clear x35; try clear k29
  exact b_ret E hr hlk S17 x45 k44 ⟨⟨y43, y42⟩, hl0⟩ w36 dX5_init_15

set_option maxRecDepth 100000 in
set_option maxHeartbeats 4000000 in
theorem n_X10 (l : Launch) (D : DW) (X : XW) (σ : ST) (h sz : Nat) : Met l yX10_init (q_ws yX10_init cX10_init 1 none) { frames := 1, cells := 1, slots := 60, locals := 12 } (q_PN D X σ h sz 9 3 (fun k => defaultValue (tyX10 k)) [.ref h]) (q_QN X σ h sz 10 (fun X' σ' => (y_rt X X' ∧ y_root X' h) ∧ σ'.1 h 0 = 0 ∧ σ'.1 h 1 = -1)) 1 60 (q_nw h sz) := by
  refine b_met  (by first | exact rfl | decide +kernel) rfl rfl (Nat.le_of_ble_eq_true rfl) (fun p e s m below meth c E hml hr hlk hnm hsz hD hw0 h00 hob ls hl => ?_)
  subst hsz
  have hxx := E.1
  have hb := E.2.1
  have hl : lv_has ls 1 [(0, .ref h)] := hl
  have hS : va_S (q_nw h s.heap.size) s.heap s.heap [] := va_S.rf
  have hx0 : q_ext (q_nw h s.heap.size) X X σ σ := q_ext.rf
  have hAh : q_nw h s.heap.size h := Or.inl rfl
  have yr0 : y_rt X X := y_rt.rf
  have hlt := t_lt hob
  refine lv_aload_n hxx hb dX10_init_0 rfl (lv_at hl 0 rfl) ?_
  refine W.objInit hxx hb E.2.2.1 (E.2.2.2.1 _ bw_429) (E.2.2.2.1 _ bw_26) (E.2.2.2.1 _ bw_27) rfl (by rw [hml]; exact hl.1) rfl dX10_init_1 (Nat.le_of_ble_eq_true rfl) (Nat.le_of_ble_eq_true rfl) ?_
  refine W.eq (g2 := F0 m 4 ls []) rfl ?_
  refine lv_aload_n hxx hb dX10_init_4 rfl (lv_at hl 0 rfl) ?_
  refine lv_iconst (v := 0) hxx hb dX10_init_5 (by decide) ?_
  refine b_put E hS hAh hnm (f := 0) hob (show vwCl[9]? = some (RX10, TX10, 3) from rfl) q_inX10 tyX10_ok nmX10 (by decide) bw_430 rfl (fun _ => rfl) (tyX10_ok 0 (by decide)) rfl rfl dX10_init_6 (fun H1 locs1 z2 o3 b4 S5 => ?_)
  have w6 : q_w X σ H1 := hw0.kept (fun a ha => o3 a (fun e => ha (by rw [e]; exact h00)))
  try clear o3
  have t7 := t_lt b4
  refine lv_aload_n hxx hb dX10_init_9 rfl (lv_at hl 0 rfl) ?_
  refine lv_iconst (v := (-1)) hxx hb dX10_init_10 (by decide) ?_
  refine b_put E S5 hAh hnm (f := 1) b4 (show vwCl[9]? = some (RX10, TX10, 3) from rfl) q_inX10 tyX10_ok nmX10 (by decide) bw_432 rfl (fun _ => rfl) (tyX10_ok 1 (by decide)) rfl rfl dX10_init_11 (fun H8 locs1 z9 o10 b11 S12 => ?_)
  try clear S5; try clear b4
  have w13 : q_w X σ H8 := w6.kept (fun a ha => o10 a (fun e => ha (by rw [e]; exact h00)))
  try clear o10; try clear w6
  have t14 := t_lt b11
  try clear t7
  refine lv_aload_n hxx hb dX10_init_14 rfl (lv_at hl 0 rfl) ?_
  refine lv_bipush (v := 60) hxx hb dX10_init_15 (by decide) ?_
  refine b_newa E S12 bw_441 (t := 2) rfl (fun _ _ => rfl) (N' := 60) (by decide) (by decide) (by decide) (Nat.le_of_ble_eq_true rfl) (Nat.le_of_ble_eq_true rfl) dX10_init_17 (fun q15 H16 e17 z18 o19 r20 S21 => ?_)
  have hq15 : h < q15 := by first | exact Nat.lt_of_lt_of_eq t14 e17.symm | omega
  have gg_q15 : s.heap.size ≤ q15 := Nat.le_trans S12.1 (Nat.le_of_eq e17.symm)
  have mm_q15 : q15 < H16.size := by rw [z18, e17]; exact Nat.lt_succ_self _
  try clear S12
  have w22 : q_w X σ H16 := w13.kept (fun a ha => o19 a (w13.lt ha))
  have b23 := b11.kept (o19 h t14)
  try clear o19; try clear b11
  have t24 := t_lt b23
  try clear t14
  have k25 : q_kd X q15 = 0 := w13.fresh (Nat.le_of_eq e17.symm)
  try clear w13
  have g26 := S21.1
  refine b_put E S21 hAh hnm (f := 2) b23 (show vwCl[9]? = some (RX10, TX10, 3) from rfl) q_inX10 tyX10_ok nmX10 (by decide) bw_433 rfl (fun _ => rfl) (tyX10_ok 2 (by decide)) rfl rfl dX10_init_19 (fun H27 locs1 z28 o29 b30 S31 => ?_)
  try clear b23; try clear S21
  have w32 : q_w X σ H27 := w22.kept (fun a ha => o29 a (fun e => ha (by rw [e]; exact h00)))
  try clear w22
  have t33 := t_lt b30
  try clear t24
  have r34 := (o29 q15 (by first | exact (Nat.ne_of_gt hq15) | omega)).trans r20
  try clear o29; try clear r20
  have y39 := raw_lt r34
  try clear y39
  obtain ⟨X35, dX35⟩ : ∃ Y, Y = q_xg X q15 21 60 (fun _ => 0) := ⟨_, rfl⟩
  obtain ⟨σ36, dσ36⟩ : ∃ τ, τ = q_sg σ q15 (fun _ => 0) (fun _ => 0) 0 := ⟨_, rfl⟩
  have x37 : q_ext (fun a => a = q15) X X35 σ σ36 := by rw [dX35, dσ36]; exact q_ext.add k25
  have y40 : y_root X35 q15 := by rw [dX35]; exact (y_root.out w32.1 k25).add y_xg (fun f hf => absurd rfl hf)
  have y41 : y_rt X X35 := by rw [dX35]; exact yr0.add y_xg (fun f hf => absurd rfl hf)
  have w38 : q_w X35 σ36 H27 := by
    rw [dX35, dσ36]
    exact w32.add k25 (fun f hf => absurd rfl hf) (fun _ => rfl) (by decide) (fun q => absurd q (by decide)) (fun f => q_inU rfl) (fun q => by rcases q with q | q <;> exact absurd q (by decide)) (q_cfA hD (by decide) (t0 := 2) rfl r34 (fun j => rfl)) (fun f hf => absurd rfl hf) (fun f g hf _ _ => absurd rfl hf) (fun f hf => absurd rfl hf) (fun f hf => absurd (show (0 : Nat) = 5 from hf) (by decide)) (fun q => absurd q (by decide))
  try clear r34; try clear w32; try clear k25; try clear t0
  have D42 : X35.1 = D := x37.1.trans hD
  have k43 : q_kd X35 q15 = 21 := by rw [dX35]; exact q_xg_h
  have n44 : q_ln X35 q15 = 60 := by rw [dX35]; exact if_pos rfl
  have x45 := hx0.tr x37 (fun a e => Or.inr (by rw [e]; exact gg_q15))
  have k46 : q_kd X35 h = 0 := x37.k0 h00 (by first | exact (Nat.ne_of_lt hq15) | (omega))
  try clear x37
  obtain ⟨X47, dX47⟩ : ∃ Y, Y = q_xg X35 h 10 0 (fun f => ([0, 0, q15] : List Nat).getD f 0) := ⟨_, rfl⟩
  obtain ⟨σ48, dσ48⟩ : ∃ τ, τ = q_sg σ36 h (fun f => ([0, (-1), 0] : List Int32).getD f 0) (fun f => ([0, 0, 0] : List Int64).getD f 0) 0 := ⟨_, rfl⟩
  have x49 : q_ext (fun a => a = h) X35 X47 σ36 σ48 := by rw [dX47, dσ48]; exact q_ext.add k46
  have hrk : ∀ f, f < 40 → q_rk 10 f ≠ 0 → q_kd X35 (([0, 0, q15] : List Nat).getD f 0) = q_rk 10 f := fun f h40 hf => match f, h40, hf with | 0, _, hf => absurd rfl hf | 1, _, hf => absurd rfl hf | 2, _, _ => k43 | 3, _, hf => absurd rfl hf | 4, _, hf => absurd rfl hf | 5, _, hf => absurd rfl hf | 6, _, hf => absurd rfl hf | 7, _, hf => absurd rfl hf | 8, _, hf => absurd rfl hf | 9, _, hf => absurd rfl hf | 10, _, hf => absurd rfl hf | 11, _, hf => absurd rfl hf | 12, _, hf => absurd rfl hf | 13, _, hf => absurd rfl hf | 14, _, hf => absurd rfl hf | 15, _, hf => absurd rfl hf | 16, _, hf => absurd rfl hf | 17, _, hf => absurd rfl hf | 18, _, hf => absurd rfl hf | 19, _, hf => absurd rfl hf | 20, _, hf => absurd rfl hf | 21, _, hf => absurd rfl hf | 22, _, hf => absurd rfl hf | 23, _, hf => absurd rfl hf | 24, _, hf => absurd rfl hf | 25, _, hf => absurd rfl hf | 26, _, hf => absurd rfl hf | 27, _, hf => absurd rfl hf | 28, _, hf => absurd rfl hf | 29, _, hf => absurd rfl hf | 30, _, hf => absurd rfl hf | 31, _, hf => absurd rfl hf | 32, _, hf => absurd rfl hf | 33, _, hf => absurd rfl hf | 34, _, hf => absurd rfl hf | 35, _, hf => absurd rfl hf | 36, _, hf => absurd rfl hf | 37, _, hf => absurd rfl hf | 38, _, hf => absurd rfl hf | 39, _, hf => absurd rfl hf | (n + 40), h40, _ => absurd h40 (Nat.not_lt_of_ge (Nat.le_add_left 40 n))
  have hB : ∀ f, f < 40 → (q_bn 10 f).1 ≤ ((([0, (-1), 0] : List Int32).getD f 0).toInt) ∧ (([0, (-1), 0] : List Int32).getD f 0).toInt ≤ (q_bn 10 f).2 := by decide +kernel
  have y51 : ∀ f, q_rk 10 f ≠ 0 → h < ([0, 0, q15] : List Nat).getD f 0 := by
    intro f hf
    rcases y_fs10 hf with rfl
    · exact (hq15)
  have y52 : ∀ f, q_rk 10 f ≠ 0 → y_root X35 (([0, 0, q15] : List Nat).getD f 0) := by
    intro f hf
    rcases y_fs10 hf with rfl
    · exact y40
  try clear y40
  have y53 : ∀ f, q_rk 10 f = 5 → q_ln X35 (q_rf X35 (([0, 0, q15] : List Nat).getD f 0) 0) = y_rl 10 f := by
    intro f hf
    rcases y_fs10 (show q_rk 10 f ≠ 0 by rw [hf]; decide) with rfl
    · exact absurd hf (by decide)
  have y54 : ∀ f, q_rk 10 f ≠ 0 → ([0, 0, q15] : List Nat).getD f 0 ≠ h := by
    intro f hf
    rcases y_fs10 hf with rfl
    · exact ((Nat.ne_of_gt hq15))
  have y55 : ∀ f, q_rk 10 f ≠ 0 → q_kd X (([0, 0, q15] : List Nat).getD f 0) = 0 := by
    intro f hf
    rcases y_fs10 hf with rfl
    · exact hw0.fresh (gg_q15)
  have hIV : ∀ f, f < 60 → ([0, (-1), 0] : List Int32).getD f 0 = y_iv 10 f ∧ ([0, 0, 0] : List Int64).getD f 0 = y_il 10 f := by decide +kernel
  have w50 : q_w X47 σ48 H27 := by
    rw [dX47, dσ48]
    exact w38.add k46 (q_hrk hrk) (fun q => absurd rfl q) (by decide) (fun q => absurd q (by decide)) (q_hB hB (by decide)) (fun q => by rcases q with q | q <;> exact absurd q (by decide)) (q_cfO D42 ⟨rfl, by decide⟩ (show vwCl[9]? = some (RX10, TX10, 3) from rfl) b30 (fun f hf => match f, hf with | 0, _ => rfl | 1, _ => rfl | 2, _ => rfl | (n + 3), hf => absurd hf (Nat.not_lt_of_ge (Nat.le_add_left 3 n)))) y51 (y_in10 (rf := (fun f => ([0, 0, q15] : List Nat).getD f 0))) y52 y53 (fun _ f hf => hIV f (hf.resolve_left (by decide)))
  try clear y53; try clear y52; try clear y51; try clear D42; try clear b30
  have y56 : y_root X47 h := by
    rw [dX47]
    exact (y_root.out w38.1 k46).add y_xg y54
  try clear y54; try clear k46; try clear w38
  have y57 : y_rt X X47 := by
    rw [dX47]
    exact y41.add y_xg y55
  try clear y55; try clear y41
  have k58 : q_kd X47 h = 10 := by rw [dX47]; exact q_xg_h
  have x59 := x45.tr x49 (fun a e => Or.inl e)
  try clear x45
  have k60 := x49.kd k43 (by decide)
  try clear k60; try clear x49; try clear k43
  exact b_ret E hr hlk S31 x59 k58 ⟨⟨y57, y56⟩, ⟨by rw [dσ48]; exact if_pos rfl, by rw [dσ48]; exact if_pos rfl⟩⟩ w50 dX10_init_22

set_option maxRecDepth 100000 in
set_option maxHeartbeats 4000000 in
theorem n_X6 (l : Launch) (D : DW) (X : XW) (σ : ST) (h sz : Nat) : Met l yX6_init (q_ws yX6_init cX6_init 1 none) { frames := 2, cells := 6, slots := 67, locals := 45 } (q_PN D X σ h sz 5 8 (fun k => defaultValue (tyX6 k)) [.ref h]) (q_QN X σ h sz 6 (fun X' _ => (y_rt X X' ∧ y_root X' h) ∧ True)) 6 67 (q_nw h sz) := by
  refine b_met  (by first | exact rfl | decide +kernel) rfl rfl (Nat.le_of_ble_eq_true rfl) (fun p e s m below meth c E hml hr hlk hnm hsz hD hw0 h00 hob ls hl => ?_)
  subst hsz
  have hxx := E.1
  have hb := E.2.1
  have hl : lv_has ls 1 [(0, .ref h)] := hl
  have hS : va_S (q_nw h s.heap.size) s.heap s.heap [] := va_S.rf
  have hx0 : q_ext (q_nw h s.heap.size) X X σ σ := q_ext.rf
  have hAh : q_nw h s.heap.size h := Or.inl rfl
  have yr0 : y_rt X X := y_rt.rf
  have hlt := t_lt hob
  refine lv_aload_n hxx hb dX6_init_0 rfl (lv_at hl 0 rfl) ?_
  refine W.objInit hxx hb E.2.2.1 (E.2.2.2.1 _ bw_41) (E.2.2.2.1 _ bw_26) (E.2.2.2.1 _ bw_27) rfl (by rw [hml]; exact hl.1) rfl dX6_init_1 (Nat.le_of_ble_eq_true rfl) (Nat.le_of_ble_eq_true rfl) ?_
  refine W.eq (g2 := F0 m 4 ls []) rfl ?_
  refine lv_aload_n hxx hb dX6_init_4 rfl (lv_at hl 0 rfl) ?_
  refine lv_iconst (v := 2) hxx hb dX6_init_5 (by decide) ?_
  refine b_put E hS hAh hnm (f := 0) hob (show vwCl[5]? = some (RX6, TX6, 8) from rfl) q_inX6 tyX6_ok nmX6 (by decide) bw_57 rfl (fun _ => rfl) (tyX6_ok 0 (by decide)) rfl rfl dX6_init_6 (fun H1 locs1 z2 o3 b4 S5 => ?_)
  have w6 : q_w X σ H1 := hw0.kept (fun a ha => o3 a (fun e => ha (by rw [e]; exact h00)))
  try clear o3
  have t7 := t_lt b4
  refine lv_aload_n hxx hb dX6_init_9 rfl (lv_at hl 0 rfl) ?_
  refine lv_iconst (v := 1) hxx hb dX6_init_10 (by decide) ?_
  refine b_put E S5 hAh hnm (f := 1) b4 (show vwCl[5]? = some (RX6, TX6, 8) from rfl) q_inX6 tyX6_ok nmX6 (by decide) bw_62 rfl (fun _ => rfl) (tyX6_ok 1 (by decide)) rfl rfl dX6_init_11 (fun H8 locs1 z9 o10 b11 S12 => ?_)
  try clear S5; try clear b4
  have w13 : q_w X σ H8 := w6.kept (fun a ha => o10 a (fun e => ha (by rw [e]; exact h00)))
  try clear o10; try clear w6
  have t14 := t_lt b11
  try clear t7
  refine lv_aload_n hxx hb dX6_init_14 rfl (lv_at hl 0 rfl) ?_
  refine lv_iconst (v := 0) hxx hb dX6_init_15 (by decide) ?_
  refine b_put E S12 hAh hnm (f := 2) b11 (show vwCl[5]? = some (RX6, TX6, 8) from rfl) q_inX6 tyX6_ok nmX6 (by decide) bw_65 rfl (fun _ => rfl) (tyX6_ok 2 (by decide)) rfl rfl dX6_init_16 (fun H15 locs1 z16 o17 b18 S19 => ?_)
  try clear S12; try clear b11
  have w20 : q_w X σ H15 := w13.kept (fun a ha => o17 a (fun e => ha (by rw [e]; exact h00)))
  try clear o17; try clear w13
  have t21 := t_lt b18
  try clear t14
  refine lv_aload_n hxx hb dX6_init_19 rfl (lv_at hl 0 rfl) ?_
  refine lv_iconst (v := 4) hxx hb dX6_init_20 (by decide) ?_
  refine b_put E S19 hAh hnm (f := 3) b18 (show vwCl[5]? = some (RX6, TX6, 8) from rfl) q_inX6 tyX6_ok nmX6 (by decide) bw_68 rfl (fun _ => rfl) (tyX6_ok 3 (by decide)) rfl rfl dX6_init_21 (fun H22 locs1 z23 o24 b25 S26 => ?_)
  try clear S19; try clear b18
  have w27 : q_w X σ H22 := w20.kept (fun a ha => o24 a (fun e => ha (by rw [e]; exact h00)))
  try clear o24; try clear w20
  have t28 := t_lt b25
  try clear t21
  refine lv_aload_n hxx hb dX6_init_24 rfl (lv_at hl 0 rfl) ?_
  refine lv_iconst (v := 0) hxx hb dX6_init_25 (by decide) ?_
  refine b_put E S26 hAh hnm (f := 4) b25 (show vwCl[5]? = some (RX6, TX6, 8) from rfl) q_inX6 tyX6_ok nmX6 (by decide) bw_73 rfl (fun _ => rfl) (tyX6_ok 4 (by decide)) rfl rfl dX6_init_26 (fun H29 locs1 z30 o31 b32 S33 => ?_)
  try clear S26; try clear b25
  have w34 : q_w X σ H29 := w27.kept (fun a ha => o31 a (fun e => ha (by rw [e]; exact h00)))
  try clear o31; try clear w27
  have t35 := t_lt b32
  try clear t28
  refine lv_aload_n hxx hb dX6_init_29 rfl (lv_at hl 0 rfl) ?_
  refine b_new E S33 bw_42 bw_43 bw_4 (show vwCl[4]? = some (RX5, TX5, 1) from rfl) q_inX5 tyX5 tyX5_ok (Nat.le_of_ble_eq_true rfl) (Nat.le_of_ble_eq_true rfl) dX6_init_30 (fun q36 H37 e38 z39 o40 b41 S42 => ?_)
  have hq36 : h < q36 := by first | exact Nat.lt_of_lt_of_eq t35 e38.symm | omega
  have gg_q36 : s.heap.size ≤ q36 := Nat.le_trans S33.1 (Nat.le_of_eq e38.symm)
  have mm_q36 : q36 < H37.size := by rw [z39, e38]; exact Nat.lt_succ_self _
  try clear S33
  have w43 : q_w X σ H37 := w34.kept (fun a ha => o40 a (w34.lt ha))
  have b44 := b32.kept (o40 h t35)
  try clear o40; try clear b32
  have t45 := t_lt b44
  try clear t35
  have k46 : q_kd X q36 = 0 := w34.fresh (Nat.le_of_eq e38.symm)
  try clear w34
  have g47 := S42.1
  refine lv_dup hxx hb dX6_init_33 rfl ?_
  refine lv_bipush (v := 10) hxx hb dX6_init_34 (by decide) ?_
  have a58 : ∀ a, q_nw q36 H37.size a → q_nw h s.heap.size a := nw_in gg_q36 (Nat.le_trans gg_q36 (Nat.le_of_lt mm_q36))
  refine b_cv (b_runI (As := [.int 10]) (rest := [.ref q36, .ref h]) E (hml.trans hl.1.symm) hD w43 k46 b41 rfl (n_X5 l D X σ q36 H37.size 10 10 (by decide) (by decide) (by decide)) bi_X6_29 rfl ⟨Nat.le_of_ble_eq_true rfl, Nat.le_of_ble_eq_true rfl⟩ ⟨Nat.le_of_ble_eq_true rfl, Nat.le_of_ble_eq_true rfl⟩ rfl (Nat.le_of_ble_eq_true rfl) dX6_init_36) S42 rfl a58 (fun X48 σ49 H50 locs1 x51 k52 p53 w54 z55 o56 S57 => ?_)
  try clear k46; try clear w43; try clear S42; try clear b41
  have D59 : X48.1 = D := x51.1.trans hD
  have k60 : q_kd X48 h = 0 := x51.k0 h00 (by first | exact (nw_no hq36 (Nat.lt_trans hq36 mm_q36)) | (rintro (e | e) <;> omega))
  have b61 := b44.kept (o56 h t45 (by first | exact (Nat.ne_of_lt hq36) | omega))
  try clear o56; try clear b44
  have t62 := t_lt b61
  try clear t45
  have y63 := yr0.tr p53.1.1 (fun c hc => by rw [(hx0.2.2.2.1 c hc).1]; exact hc)
  have x64 := hx0.tr x51 a58
  try clear x51
  have y65 := p53.1.2
  have y66 := p53.2
  try clear p53
  refine b_put E S57 hAh hnm (f := 5) b61 (show vwCl[5]? = some (RX6, TX6, 8) from rfl) q_inX6 tyX6_ok nmX6 (by decide) bw_78 rfl (fun _ => rfl) (tyX6_ok 5 (by decide)) rfl rfl dX6_init_39 (fun H67 locs1 z68 o69 b70 S71 => ?_)
  try clear b61; try clear S57
  have w72 : q_w X48 σ49 H67 := w54.kept (fun a ha => o69 a (fun e => ha (by rw [e]; exact k60)))
  try clear o69; try clear w54
  have t73 := t_lt b70
  try clear t62
  refine lv_aload_n hxx hb dX6_init_42 rfl (lv_at hl 0 rfl) ?_
  refine b_new E S71 bw_42 bw_43 bw_4 (show vwCl[4]? = some (RX5, TX5, 1) from rfl) q_inX5 tyX5 tyX5_ok (Nat.le_of_ble_eq_true rfl) (Nat.le_of_ble_eq_true rfl) dX6_init_43 (fun q74 H75 e76 z77 o78 b79 S80 => ?_)
  have hq74 : h < q74 := by first | exact Nat.lt_of_lt_of_eq t73 e76.symm | omega
  have gg_q74 : s.heap.size ≤ q74 := Nat.le_trans S71.1 (Nat.le_of_eq e76.symm)
  have mm_q74 : q74 < H75.size := by rw [z77, e76]; exact Nat.lt_succ_self _
  have cc_q74 : q36 < q74 := by first | exact Nat.lt_of_lt_of_eq (Nat.lt_of_lt_of_le (Nat.lt_of_lt_of_le mm_q36 z55) (Nat.le_of_eq z68.symm)) e76.symm | omega
  try clear S71
  have w81 : q_w X48 σ49 H75 := w72.kept (fun a ha => o78 a (w72.lt ha))
  have b82 := b70.kept (o78 h t73)
  try clear o78; try clear b70
  have t83 := t_lt b82
  try clear t73
  have k84 : q_kd X48 q74 = 0 := w72.fresh (Nat.le_of_eq e76.symm)
  try clear w72
  have g85 := S80.1
  refine lv_dup hxx hb dX6_init_46 rfl ?_
  refine lv_bipush (v := 48) hxx hb dX6_init_47 (by decide) ?_
  have a96 : ∀ a, q_nw q74 H75.size a → q_nw h s.heap.size a := nw_in gg_q74 (Nat.le_trans gg_q74 (Nat.le_of_lt mm_q74))
  refine b_cv (b_runI (As := [.int 48]) (rest := [.ref q74, .ref h]) E (hml.trans hl.1.symm) D59 w81 k84 b79 rfl (n_X5 l D X48 σ49 q74 H75.size 48 48 (by decide) (by decide) (by decide)) bi_X6_29 rfl ⟨Nat.le_of_ble_eq_true rfl, Nat.le_of_ble_eq_true rfl⟩ ⟨Nat.le_of_ble_eq_true rfl, Nat.le_of_ble_eq_true rfl⟩ rfl (Nat.le_of_ble_eq_true rfl) dX6_init_49) S80 rfl a96 (fun X86 σ87 H88 locs1 x89 k90 p91 w92 z93 o94 S95 => ?_)
  try clear k84; try clear S80; try clear b79
  have D97 : X86.1 = D := x89.1.trans D59
  try clear D59
  have k98 : q_kd X86 h = 0 := x89.k0 k60 (by first | exact (nw_no hq74 (Nat.lt_trans hq74 mm_q74)) | (rintro (e | e) <;> omega))
  try clear k60
  have b99 := b82.kept (o94 h t83 (by first | exact (Nat.ne_of_lt hq74) | omega))
  try clear o94; try clear b82
  have t100 := t_lt b99
  try clear t83
  have y101 := y63.tr p91.1.1 (fun c hc => by rw [(x64.2.2.2.1 c hc).1]; exact hc)
  try clear y63
  have x102 := x64.tr x89 a96
  try clear x64
  have k103 := x89.kd k52 (by decide)
  have y104 := p91.1.1 q36 (by rw [k52]; decide) y65
  try clear y65
  have y105 := y_rlx x89 w81.1 k52 y66
  try clear x89; try clear w81; try clear y66; try clear k52
  have y106 := p91.1.2
  have y107 := p91.2
  try clear p91
  refine b_put E S95 hAh hnm (f := 6) b99 (show vwCl[5]? = some (RX6, TX6, 8) from rfl) q_inX6 tyX6_ok nmX6 (by decide) bw_82 rfl (fun _ => rfl) (tyX6_ok 6 (by decide)) rfl rfl dX6_init_52 (fun H108 locs1 z109 o110 b111 S112 => ?_)
  try clear b99; try clear S95
  have w113 : q_w X86 σ87 H108 := w92.kept (fun a ha => o110 a (fun e => ha (by rw [e]; exact k98)))
  try clear o110; try clear w92
  have t114 := t_lt b111
  try clear t100
  refine lv_aload_n hxx hb dX6_init_55 rfl (lv_at hl 0 rfl) ?_
  refine b_new E S112 bw_42 bw_43 bw_4 (show vwCl[4]? = some (RX5, TX5, 1) from rfl) q_inX5 tyX5 tyX5_ok (Nat.le_of_ble_eq_true rfl) (Nat.le_of_ble_eq_true rfl) dX6_init_56 (fun q115 H116 e117 z118 o119 b120 S121 => ?_)
  have hq115 : h < q115 := by first | exact Nat.lt_of_lt_of_eq t114 e117.symm | omega
  have gg_q115 : s.heap.size ≤ q115 := Nat.le_trans S112.1 (Nat.le_of_eq e117.symm)
  have mm_q115 : q115 < H116.size := by rw [z118, e117]; exact Nat.lt_succ_self _
  have cc_q115 : q74 < q115 := by first | exact Nat.lt_of_lt_of_eq (Nat.lt_of_lt_of_le (Nat.lt_of_lt_of_le mm_q74 z93) (Nat.le_of_eq z109.symm)) e117.symm | omega
  try clear S112
  have w122 : q_w X86 σ87 H116 := w113.kept (fun a ha => o119 a (w113.lt ha))
  have b123 := b111.kept (o119 h t114)
  try clear o119; try clear b111
  have t124 := t_lt b123
  try clear t114
  have k125 : q_kd X86 q115 = 0 := w113.fresh (Nat.le_of_eq e117.symm)
  try clear w113
  have g126 := S121.1
  refine lv_dup hxx hb dX6_init_59 rfl ?_
  refine lv_bipush (v := 6) hxx hb dX6_init_60 (by decide) ?_
  have a137 : ∀ a, q_nw q115 H116.size a → q_nw h s.heap.size a := nw_in gg_q115 (Nat.le_trans gg_q115 (Nat.le_of_lt mm_q115))
  refine b_cv (b_runI (As := [.int 6]) (rest := [.ref q115, .ref h]) E (hml.trans hl.1.symm) D97 w122 k125 b120 rfl (n_X5 l D X86 σ87 q115 H116.size 6 6 (by decide) (by decide) (by decide)) bi_X6_29 rfl ⟨Nat.le_of_ble_eq_true rfl, Nat.le_of_ble_eq_true rfl⟩ ⟨Nat.le_of_ble_eq_true rfl, Nat.le_of_ble_eq_true rfl⟩ rfl (Nat.le_of_ble_eq_true rfl) dX6_init_62) S121 rfl a137 (fun X127 σ128 H129 locs1 x130 k131 p132 w133 z134 o135 S136 => ?_)
  try clear k125; try clear S121; try clear b120
  have D138 : X127.1 = D := x130.1.trans D97
  try clear D97
  have k139 : q_kd X127 h = 0 := x130.k0 k98 (by first | exact (nw_no hq115 (Nat.lt_trans hq115 mm_q115)) | (rintro (e | e) <;> omega))
  try clear k98
  have b140 := b123.kept (o135 h t124 (by first | exact (Nat.ne_of_lt hq115) | omega))
  try clear o135; try clear b123
  have t141 := t_lt b140
  try clear t124
  have y142 := y101.tr p132.1.1 (fun c hc => by rw [(x102.2.2.2.1 c hc).1]; exact hc)
  try clear y101
  have x143 := x102.tr x130 a137
  try clear x102
  have k144 := x130.kd k103 (by decide)
  have k145 := x130.kd k90 (by decide)
  have y146 := p132.1.1 q36 (by rw [k103]; decide) y104
  try clear y104
  have y147 := p132.1.1 q74 (by rw [k90]; decide) y106
  try clear y106
  have y148 := y_rlx x130 w122.1 k103 y105
  try clear y105; try clear k103
  have y149 := y_rlx x130 w122.1 k90 y107
  try clear x130; try clear w122; try clear y107; try clear k90
  have y150 := p132.1.2
  have y151 := p132.2
  try clear p132
  refine b_put E S136 hAh hnm (f := 7) b140 (show vwCl[5]? = some (RX6, TX6, 8) from rfl) q_inX6 tyX6_ok nmX6 (by decide) bw_83 rfl (fun _ => rfl) (tyX6_ok 7 (by decide)) rfl rfl dX6_init_65 (fun H152 locs1 z153 o154 b155 S156 => ?_)
  try clear b140; try clear S136
  have w157 : q_w X127 σ128 H152 := w133.kept (fun a ha => o154 a (fun e => ha (by rw [e]; exact k139)))
  try clear o154; try clear w133
  have t158 := t_lt b155
  try clear t141
  obtain ⟨X159, dX159⟩ : ∃ Y, Y = q_xg X127 h 6 0 (fun f => ([0, 0, 0, 0, 0, q36, q74, q115] : List Nat).getD f 0) := ⟨_, rfl⟩
  obtain ⟨σ160, dσ160⟩ : ∃ τ, τ = q_sg σ128 h (fun f => ([2, 1, 0, 4, 0, 0, 0, 0] : List Int32).getD f 0) (fun f => ([0, 0, 0, 0, 0, 0, 0, 0] : List Int64).getD f 0) 0 := ⟨_, rfl⟩
  have x161 : q_ext (fun a => a = h) X127 X159 σ128 σ160 := by rw [dX159, dσ160]; exact q_ext.add k139
  have hrk : ∀ f, f < 40 → q_rk 6 f ≠ 0 → q_kd X127 (([0, 0, 0, 0, 0, q36, q74, q115] : List Nat).getD f 0) = q_rk 6 f := fun f h40 hf => match f, h40, hf with | 0, _, hf => absurd rfl hf | 1, _, hf => absurd rfl hf | 2, _, hf => absurd rfl hf | 3, _, hf => absurd rfl hf | 4, _, hf => absurd rfl hf | 5, _, _ => k144 | 6, _, _ => k145 | 7, _, _ => k131 | 8, _, hf => absurd rfl hf | 9, _, hf => absurd rfl hf | 10, _, hf => absurd rfl hf | 11, _, hf => absurd rfl hf | 12, _, hf => absurd rfl hf | 13, _, hf => absurd rfl hf | 14, _, hf => absurd rfl hf | 15, _, hf => absurd rfl hf | 16, _, hf => absurd rfl hf | 17, _, hf => absurd rfl hf | 18, _, hf => absurd rfl hf | 19, _, hf => absurd rfl hf | 20, _, hf => absurd rfl hf | 21, _, hf => absurd rfl hf | 22, _, hf => absurd rfl hf | 23, _, hf => absurd rfl hf | 24, _, hf => absurd rfl hf | 25, _, hf => absurd rfl hf | 26, _, hf => absurd rfl hf | 27, _, hf => absurd rfl hf | 28, _, hf => absurd rfl hf | 29, _, hf => absurd rfl hf | 30, _, hf => absurd rfl hf | 31, _, hf => absurd rfl hf | 32, _, hf => absurd rfl hf | 33, _, hf => absurd rfl hf | 34, _, hf => absurd rfl hf | 35, _, hf => absurd rfl hf | 36, _, hf => absurd rfl hf | 37, _, hf => absurd rfl hf | 38, _, hf => absurd rfl hf | 39, _, hf => absurd rfl hf | (n + 40), h40, _ => absurd h40 (Nat.not_lt_of_ge (Nat.le_add_left 40 n))
  have hB : ∀ f, f < 40 → (q_bn 6 f).1 ≤ ((([2, 1, 0, 4, 0, 0, 0, 0] : List Int32).getD f 0).toInt) ∧ (([2, 1, 0, 4, 0, 0, 0, 0] : List Int32).getD f 0).toInt ≤ (q_bn 6 f).2 := by decide +kernel
  have y163 : ∀ f, q_rk 6 f ≠ 0 → h < ([0, 0, 0, 0, 0, q36, q74, q115] : List Nat).getD f 0 := by
    intro f hf
    rcases y_fs6 hf with rfl | rfl | rfl
    · exact (hq36)
    · exact (hq74)
    · exact (hq115)
  have y164 : ∀ f, q_rk 6 f ≠ 0 → y_root X127 (([0, 0, 0, 0, 0, q36, q74, q115] : List Nat).getD f 0) := by
    intro f hf
    rcases y_fs6 hf with rfl | rfl | rfl
    · exact y146
    · exact y147
    · exact y150
  try clear y150; try clear y147; try clear y146
  have y165 : ∀ f, q_rk 6 f = 5 → q_ln X127 (q_rf X127 (([0, 0, 0, 0, 0, q36, q74, q115] : List Nat).getD f 0) 0) = y_rl 6 f := by
    intro f hf
    rcases y_fs6 (show q_rk 6 f ≠ 0 by rw [hf]; decide) with rfl | rfl | rfl
    · exact y148
    · exact y149
    · exact y151
  have y166 : ∀ f, q_rk 6 f ≠ 0 → ([0, 0, 0, 0, 0, q36, q74, q115] : List Nat).getD f 0 ≠ h := by
    intro f hf
    rcases y_fs6 hf with rfl | rfl | rfl
    · exact ((Nat.ne_of_gt hq36))
    · exact ((Nat.ne_of_gt hq74))
    · exact ((Nat.ne_of_gt hq115))
  have y167 : ∀ f, q_rk 6 f ≠ 0 → q_kd X (([0, 0, 0, 0, 0, q36, q74, q115] : List Nat).getD f 0) = 0 := by
    intro f hf
    rcases y_fs6 hf with rfl | rfl | rfl
    · exact hw0.fresh (gg_q36)
    · exact hw0.fresh (gg_q74)
    · exact hw0.fresh (gg_q115)
  have hIV : ∀ f, f < 60 → ([2, 1, 0, 4, 0, 0, 0, 0] : List Int32).getD f 0 = y_iv 6 f ∧ ([0, 0, 0, 0, 0, 0, 0, 0] : List Int64).getD f 0 = y_il 6 f := by decide +kernel
  have w162 : q_w X159 σ160 H152 := by
    rw [dX159, dσ160]
    exact w157.add k139 (q_hrk hrk) (fun q => absurd rfl q) (by decide) (fun q => absurd q (by decide)) (q_hB hB (by decide)) (fun q => by rcases q with q | q <;> exact absurd q (by decide)) (q_cfO D138 ⟨rfl, by decide⟩ (show vwCl[5]? = some (RX6, TX6, 8) from rfl) b155 (fun f hf => match f, hf with | 0, _ => rfl | 1, _ => rfl | 2, _ => rfl | 3, _ => rfl | 4, _ => rfl | 5, _ => rfl | 6, _ => rfl | 7, _ => rfl | (n + 8), hf => absurd hf (Nat.not_lt_of_ge (Nat.le_add_left 8 n)))) y163 (y_in6 (rf := (fun f => ([0, 0, 0, 0, 0, q36, q74, q115] : List Nat).getD f 0)) (show q36 < q74 from cc_q74) (show q74 < q115 from cc_q115)) y164 y165 (fun _ f hf => hIV f (hf.resolve_left (by decide)))
  try clear y165; try clear y164; try clear y163; try clear b155; try clear D138
  have y168 : y_root X159 h := by
    rw [dX159]
    exact (y_root.out w157.1 k139).add y_xg y166
  try clear y166; try clear k139
  have y169 : y_rt X X159 := by
    rw [dX159]
    exact y142.add y_xg y167
  try clear y167; try clear y142
  have k170 : q_kd X159 h = 6 := by rw [dX159]; exact q_xg_h
  have x171 := x143.tr x161 (fun a e => Or.inl e)
  try clear x143
  have y172 := y_rlx x161 w157.1 k144 y148
  try clear y172; try clear y148
  have y173 := y_rlx x161 w157.1 k145 y149
  try clear y173; try clear y149
  have y174 := y_rlx x161 w157.1 k131 y151
  try clear y174; try clear w157; try clear y151
  have k175 := x161.kd k144 (by decide)
  try clear k175; try clear k144
  have k176 := x161.kd k145 (by decide)
  try clear k176; try clear k145
  have k177 := x161.kd k131 (by decide)
  try clear k177; try clear x161; try clear k131
  exact b_ret E hr hlk S156 x171 k170 ⟨⟨y169, y168⟩, trivial⟩ w162 dX6_init_68

set_option maxRecDepth 100000 in
set_option maxHeartbeats 4000000 in
theorem n_X1 (l : Launch) (D : DW) (X : XW) (σ : ST) (h sz : Nat) : Met l yX1_init (q_ws yX1_init cX1_init 1 none) { frames := 2, cells := 14, slots := 157, locals := 45 } (q_PN D X σ h sz 1 7 (fun k => defaultValue (tyX1 k)) [.ref h]) (q_QN X σ h sz 2 (fun X' _ => (y_rt X X' ∧ y_root X' h) ∧ True)) 14 157 (q_nw h sz) := by
  refine b_met  (by first | exact rfl | decide +kernel) rfl rfl (Nat.le_of_ble_eq_true rfl) (fun p e s m below meth c E hml hr hlk hnm hsz hD hw0 h00 hob ls hl => ?_)
  subst hsz
  have hxx := E.1
  have hb := E.2.1
  have hl : lv_has ls 1 [(0, .ref h)] := hl
  have hS : va_S (q_nw h s.heap.size) s.heap s.heap [] := va_S.rf
  have hx0 : q_ext (q_nw h s.heap.size) X X σ σ := q_ext.rf
  have hAh : q_nw h s.heap.size h := Or.inl rfl
  have yr0 : y_rt X X := y_rt.rf
  have hlt := t_lt hob
  refine lv_aload_n hxx hb dX1_init_0 rfl (lv_at hl 0 rfl) ?_
  refine W.objInit hxx hb E.2.2.1 (E.2.2.2.1 _ bw_106) (E.2.2.2.1 _ bw_26) (E.2.2.2.1 _ bw_27) rfl (by rw [hml]; exact hl.1) rfl dX1_init_1 (Nat.le_of_ble_eq_true rfl) (Nat.le_of_ble_eq_true rfl) ?_
  refine W.eq (g2 := F0 m 4 ls []) rfl ?_
  refine lv_aload_n hxx hb dX1_init_4 rfl (lv_at hl 0 rfl) ?_
  refine b_new E hS bw_107 bw_43 bw_4 (show vwCl[4]? = some (RX5, TX5, 1) from rfl) q_inX5 tyX5 tyX5_ok (Nat.le_of_ble_eq_true rfl) (Nat.le_of_ble_eq_true rfl) dX1_init_5 (fun q1 H2 e3 z4 o5 b6 S7 => ?_)
  have hq1 : h < q1 := by first | exact Nat.lt_of_lt_of_eq hlt e3.symm | omega
  have gg_q1 : s.heap.size ≤ q1 := Nat.le_trans hS.1 (Nat.le_of_eq e3.symm)
  have mm_q1 : q1 < H2.size := by rw [z4, e3]; exact Nat.lt_succ_self _
  have w8 : q_w X σ H2 := hw0.kept (fun a ha => o5 a (hw0.lt ha))
  have b9 := hob.kept (o5 h hlt)
  try clear o5
  have t10 := t_lt b9
  have k11 : q_kd X q1 = 0 := hw0.fresh (Nat.le_of_eq e3.symm)
  have g12 := S7.1
  refine lv_dup hxx hb dX1_init_8 rfl ?_
  refine lv_bipush (v := 60) hxx hb dX1_init_9 (by decide) ?_
  have a23 : ∀ a, q_nw q1 H2.size a → q_nw h s.heap.size a := nw_in gg_q1 (Nat.le_trans gg_q1 (Nat.le_of_lt mm_q1))
  refine b_cv (b_runI (As := [.int 60]) (rest := [.ref q1, .ref h]) E (hml.trans hl.1.symm) hD w8 k11 b6 rfl (n_X5 l D X σ q1 H2.size 60 60 (by decide) (by decide) (by decide)) bi_X1_11 rfl ⟨Nat.le_of_ble_eq_true rfl, Nat.le_of_ble_eq_true rfl⟩ ⟨Nat.le_of_ble_eq_true rfl, Nat.le_of_ble_eq_true rfl⟩ rfl (Nat.le_of_ble_eq_true rfl) dX1_init_11) S7 rfl a23 (fun X13 σ14 H15 locs1 x16 k17 p18 w19 z20 o21 S22 => ?_)
  try clear k11; try clear w8; try clear S7; try clear b6
  have D24 : X13.1 = D := x16.1.trans hD
  have k25 : q_kd X13 h = 0 := x16.k0 h00 (by first | exact (nw_no hq1 (Nat.lt_trans hq1 mm_q1)) | (rintro (e | e) <;> omega))
  have b26 := b9.kept (o21 h t10 (by first | exact (Nat.ne_of_lt hq1) | omega))
  try clear o21; try clear b9
  have t27 := t_lt b26
  try clear t10
  have y28 := yr0.tr p18.1.1 (fun c hc => by rw [(hx0.2.2.2.1 c hc).1]; exact hc)
  have x29 := hx0.tr x16 a23
  try clear x16
  have y30 := p18.1.2
  have y31 := p18.2
  try clear p18
  refine b_put E S22 hAh hnm (f := 0) b26 (show vwCl[1]? = some (RX1, TX1, 7) from rfl) q_inX1 tyX1_ok nmX1 (by decide) bw_109 rfl (fun _ => rfl) (tyX1_ok 0 (by decide)) rfl rfl dX1_init_14 (fun H32 locs1 z33 o34 b35 S36 => ?_)
  try clear b26; try clear S22
  have w37 : q_w X13 σ14 H32 := w19.kept (fun a ha => o34 a (fun e => ha (by rw [e]; exact k25)))
  try clear o34; try clear w19
  have t38 := t_lt b35
  try clear t27
  refine lv_aload_n hxx hb dX1_init_17 rfl (lv_at hl 0 rfl) ?_
  refine b_new E S36 bw_107 bw_43 bw_4 (show vwCl[4]? = some (RX5, TX5, 1) from rfl) q_inX5 tyX5 tyX5_ok (Nat.le_of_ble_eq_true rfl) (Nat.le_of_ble_eq_true rfl) dX1_init_18 (fun q39 H40 e41 z42 o43 b44 S45 => ?_)
  have hq39 : h < q39 := by first | exact Nat.lt_of_lt_of_eq t38 e41.symm | omega
  have gg_q39 : s.heap.size ≤ q39 := Nat.le_trans S36.1 (Nat.le_of_eq e41.symm)
  have mm_q39 : q39 < H40.size := by rw [z42, e41]; exact Nat.lt_succ_self _
  have cc_q39 : q1 < q39 := by first | exact Nat.lt_of_lt_of_eq (Nat.lt_of_lt_of_le (Nat.lt_of_lt_of_le mm_q1 z20) (Nat.le_of_eq z33.symm)) e41.symm | omega
  try clear S36
  have w46 : q_w X13 σ14 H40 := w37.kept (fun a ha => o43 a (w37.lt ha))
  have b47 := b35.kept (o43 h t38)
  try clear o43; try clear b35
  have t48 := t_lt b47
  try clear t38
  have k49 : q_kd X13 q39 = 0 := w37.fresh (Nat.le_of_eq e41.symm)
  try clear w37
  have g50 := S45.1
  refine lv_dup hxx hb dX1_init_21 rfl ?_
  refine lv_bipush (v := 60) hxx hb dX1_init_22 (by decide) ?_
  have a61 : ∀ a, q_nw q39 H40.size a → q_nw h s.heap.size a := nw_in gg_q39 (Nat.le_trans gg_q39 (Nat.le_of_lt mm_q39))
  refine b_cv (b_runI (As := [.int 60]) (rest := [.ref q39, .ref h]) E (hml.trans hl.1.symm) D24 w46 k49 b44 rfl (n_X5 l D X13 σ14 q39 H40.size 60 60 (by decide) (by decide) (by decide)) bi_X1_11 rfl ⟨Nat.le_of_ble_eq_true rfl, Nat.le_of_ble_eq_true rfl⟩ ⟨Nat.le_of_ble_eq_true rfl, Nat.le_of_ble_eq_true rfl⟩ rfl (Nat.le_of_ble_eq_true rfl) dX1_init_24) S45 rfl a61 (fun X51 σ52 H53 locs1 x54 k55 p56 w57 z58 o59 S60 => ?_)
  try clear k49; try clear S45; try clear b44
  have D62 : X51.1 = D := x54.1.trans D24
  try clear D24
  have k63 : q_kd X51 h = 0 := x54.k0 k25 (by first | exact (nw_no hq39 (Nat.lt_trans hq39 mm_q39)) | (rintro (e | e) <;> omega))
  try clear k25
  have b64 := b47.kept (o59 h t48 (by first | exact (Nat.ne_of_lt hq39) | omega))
  try clear o59; try clear b47
  have t65 := t_lt b64
  try clear t48
  have y66 := y28.tr p56.1.1 (fun c hc => by rw [(x29.2.2.2.1 c hc).1]; exact hc)
  try clear y28
  have x67 := x29.tr x54 a61
  try clear x29
  have k68 := x54.kd k17 (by decide)
  have y69 := p56.1.1 q1 (by rw [k17]; decide) y30
  try clear y30
  have y70 := y_rlx x54 w46.1 k17 y31
  try clear x54; try clear w46; try clear y31; try clear k17
  have y71 := p56.1.2
  have y72 := p56.2
  try clear p56
  refine b_put E S60 hAh hnm (f := 1) b64 (show vwCl[1]? = some (RX1, TX1, 7) from rfl) q_inX1 tyX1_ok nmX1 (by decide) bw_110 rfl (fun _ => rfl) (tyX1_ok 1 (by decide)) rfl rfl dX1_init_27 (fun H73 locs1 z74 o75 b76 S77 => ?_)
  try clear b64; try clear S60
  have w78 : q_w X51 σ52 H73 := w57.kept (fun a ha => o75 a (fun e => ha (by rw [e]; exact k63)))
  try clear o75; try clear w57
  have t79 := t_lt b76
  try clear t65
  refine lv_aload_n hxx hb dX1_init_30 rfl (lv_at hl 0 rfl) ?_
  refine b_new E S77 bw_107 bw_43 bw_4 (show vwCl[4]? = some (RX5, TX5, 1) from rfl) q_inX5 tyX5 tyX5_ok (Nat.le_of_ble_eq_true rfl) (Nat.le_of_ble_eq_true rfl) dX1_init_31 (fun q80 H81 e82 z83 o84 b85 S86 => ?_)
  have hq80 : h < q80 := by first | exact Nat.lt_of_lt_of_eq t79 e82.symm | omega
  have gg_q80 : s.heap.size ≤ q80 := Nat.le_trans S77.1 (Nat.le_of_eq e82.symm)
  have mm_q80 : q80 < H81.size := by rw [z83, e82]; exact Nat.lt_succ_self _
  have cc_q80 : q39 < q80 := by first | exact Nat.lt_of_lt_of_eq (Nat.lt_of_lt_of_le (Nat.lt_of_lt_of_le mm_q39 z58) (Nat.le_of_eq z74.symm)) e82.symm | omega
  try clear S77
  have w87 : q_w X51 σ52 H81 := w78.kept (fun a ha => o84 a (w78.lt ha))
  have b88 := b76.kept (o84 h t79)
  try clear o84; try clear b76
  have t89 := t_lt b88
  try clear t79
  have k90 : q_kd X51 q80 = 0 := w78.fresh (Nat.le_of_eq e82.symm)
  try clear w78
  have g91 := S86.1
  refine lv_dup hxx hb dX1_init_34 rfl ?_
  refine lv_bipush (v := 6) hxx hb dX1_init_35 (by decide) ?_
  have a102 : ∀ a, q_nw q80 H81.size a → q_nw h s.heap.size a := nw_in gg_q80 (Nat.le_trans gg_q80 (Nat.le_of_lt mm_q80))
  refine b_cv (b_runI (As := [.int 6]) (rest := [.ref q80, .ref h]) E (hml.trans hl.1.symm) D62 w87 k90 b85 rfl (n_X5 l D X51 σ52 q80 H81.size 6 6 (by decide) (by decide) (by decide)) bi_X1_11 rfl ⟨Nat.le_of_ble_eq_true rfl, Nat.le_of_ble_eq_true rfl⟩ ⟨Nat.le_of_ble_eq_true rfl, Nat.le_of_ble_eq_true rfl⟩ rfl (Nat.le_of_ble_eq_true rfl) dX1_init_37) S86 rfl a102 (fun X92 σ93 H94 locs1 x95 k96 p97 w98 z99 o100 S101 => ?_)
  try clear k90; try clear S86; try clear b85
  have D103 : X92.1 = D := x95.1.trans D62
  try clear D62
  have k104 : q_kd X92 h = 0 := x95.k0 k63 (by first | exact (nw_no hq80 (Nat.lt_trans hq80 mm_q80)) | (rintro (e | e) <;> omega))
  try clear k63
  have b105 := b88.kept (o100 h t89 (by first | exact (Nat.ne_of_lt hq80) | omega))
  try clear o100; try clear b88
  have t106 := t_lt b105
  try clear t89
  have y107 := y66.tr p97.1.1 (fun c hc => by rw [(x67.2.2.2.1 c hc).1]; exact hc)
  try clear y66
  have x108 := x67.tr x95 a102
  try clear x67
  have k109 := x95.kd k68 (by decide)
  have k110 := x95.kd k55 (by decide)
  have y111 := p97.1.1 q1 (by rw [k68]; decide) y69
  try clear y69
  have y112 := p97.1.1 q39 (by rw [k55]; decide) y71
  try clear y71
  have y113 := y_rlx x95 w87.1 k68 y70
  try clear y70; try clear k68
  have y114 := y_rlx x95 w87.1 k55 y72
  try clear x95; try clear w87; try clear y72; try clear k55
  have y115 := p97.1.2
  have y116 := p97.2
  try clear p97
  refine b_put E S101 hAh hnm (f := 2) b105 (show vwCl[1]? = some (RX1, TX1, 7) from rfl) q_inX1 tyX1_ok nmX1 (by decide) bw_111 rfl (fun _ => rfl) (tyX1_ok 2 (by decide)) rfl rfl dX1_init_40 (fun H117 locs1 z118 o119 b120 S121 => ?_)
  try clear b105; try clear S101
  have w122 : q_w X92 σ93 H117 := w98.kept (fun a ha => o119 a (fun e => ha (by rw [e]; exact k104)))
  try clear o119; try clear w98
  have t123 := t_lt b120
  try clear t106
  refine lv_aload_n hxx hb dX1_init_43 rfl (lv_at hl 0 rfl) ?_
  refine b_new E S121 bw_107 bw_43 bw_4 (show vwCl[4]? = some (RX5, TX5, 1) from rfl) q_inX5 tyX5 tyX5_ok (Nat.le_of_ble_eq_true rfl) (Nat.le_of_ble_eq_true rfl) dX1_init_44 (fun q124 H125 e126 z127 o128 b129 S130 => ?_)
  have hq124 : h < q124 := by first | exact Nat.lt_of_lt_of_eq t123 e126.symm | omega
  have gg_q124 : s.heap.size ≤ q124 := Nat.le_trans S121.1 (Nat.le_of_eq e126.symm)
  have mm_q124 : q124 < H125.size := by rw [z127, e126]; exact Nat.lt_succ_self _
  have cc_q124 : q80 < q124 := by first | exact Nat.lt_of_lt_of_eq (Nat.lt_of_lt_of_le (Nat.lt_of_lt_of_le mm_q80 z99) (Nat.le_of_eq z118.symm)) e126.symm | omega
  try clear S121
  have w131 : q_w X92 σ93 H125 := w122.kept (fun a ha => o128 a (w122.lt ha))
  have b132 := b120.kept (o128 h t123)
  try clear o128; try clear b120
  have t133 := t_lt b132
  try clear t123
  have k134 : q_kd X92 q124 = 0 := w122.fresh (Nat.le_of_eq e126.symm)
  try clear w122
  have g135 := S130.1
  refine lv_dup hxx hb dX1_init_47 rfl ?_
  refine lv_bipush (v := 6) hxx hb dX1_init_48 (by decide) ?_
  have a146 : ∀ a, q_nw q124 H125.size a → q_nw h s.heap.size a := nw_in gg_q124 (Nat.le_trans gg_q124 (Nat.le_of_lt mm_q124))
  refine b_cv (b_runI (As := [.int 6]) (rest := [.ref q124, .ref h]) E (hml.trans hl.1.symm) D103 w131 k134 b129 rfl (n_X5 l D X92 σ93 q124 H125.size 6 6 (by decide) (by decide) (by decide)) bi_X1_11 rfl ⟨Nat.le_of_ble_eq_true rfl, Nat.le_of_ble_eq_true rfl⟩ ⟨Nat.le_of_ble_eq_true rfl, Nat.le_of_ble_eq_true rfl⟩ rfl (Nat.le_of_ble_eq_true rfl) dX1_init_50) S130 rfl a146 (fun X136 σ137 H138 locs1 x139 k140 p141 w142 z143 o144 S145 => ?_)
  try clear k134; try clear S130; try clear b129
  have D147 : X136.1 = D := x139.1.trans D103
  try clear D103
  have k148 : q_kd X136 h = 0 := x139.k0 k104 (by first | exact (nw_no hq124 (Nat.lt_trans hq124 mm_q124)) | (rintro (e | e) <;> omega))
  try clear k104
  have b149 := b132.kept (o144 h t133 (by first | exact (Nat.ne_of_lt hq124) | omega))
  try clear o144; try clear b132
  have t150 := t_lt b149
  try clear t133
  have y151 := y107.tr p141.1.1 (fun c hc => by rw [(x108.2.2.2.1 c hc).1]; exact hc)
  try clear y107
  have x152 := x108.tr x139 a146
  try clear x108
  have k153 := x139.kd k109 (by decide)
  have k154 := x139.kd k110 (by decide)
  have k155 := x139.kd k96 (by decide)
  have y156 := p141.1.1 q1 (by rw [k109]; decide) y111
  try clear y111
  have y157 := p141.1.1 q39 (by rw [k110]; decide) y112
  try clear y112
  have y158 := p141.1.1 q80 (by rw [k96]; decide) y115
  try clear y115
  have y159 := y_rlx x139 w131.1 k109 y113
  try clear y113; try clear k109
  have y160 := y_rlx x139 w131.1 k110 y114
  try clear y114; try clear k110
  have y161 := y_rlx x139 w131.1 k96 y116
  try clear x139; try clear w131; try clear y116; try clear k96
  have y162 := p141.1.2
  have y163 := p141.2
  try clear p141
  refine b_put E S145 hAh hnm (f := 3) b149 (show vwCl[1]? = some (RX1, TX1, 7) from rfl) q_inX1 tyX1_ok nmX1 (by decide) bw_115 rfl (fun _ => rfl) (tyX1_ok 3 (by decide)) rfl rfl dX1_init_53 (fun H164 locs1 z165 o166 b167 S168 => ?_)
  try clear b149; try clear S145
  have w169 : q_w X136 σ137 H164 := w142.kept (fun a ha => o166 a (fun e => ha (by rw [e]; exact k148)))
  try clear o166; try clear w142
  have t170 := t_lt b167
  try clear t150
  refine lv_aload_n hxx hb dX1_init_56 rfl (lv_at hl 0 rfl) ?_
  refine b_new E S168 bw_107 bw_43 bw_4 (show vwCl[4]? = some (RX5, TX5, 1) from rfl) q_inX5 tyX5 tyX5_ok (Nat.le_of_ble_eq_true rfl) (Nat.le_of_ble_eq_true rfl) dX1_init_57 (fun q171 H172 e173 z174 o175 b176 S177 => ?_)
  have hq171 : h < q171 := by first | exact Nat.lt_of_lt_of_eq t170 e173.symm | omega
  have gg_q171 : s.heap.size ≤ q171 := Nat.le_trans S168.1 (Nat.le_of_eq e173.symm)
  have mm_q171 : q171 < H172.size := by rw [z174, e173]; exact Nat.lt_succ_self _
  have cc_q171 : q124 < q171 := by first | exact Nat.lt_of_lt_of_eq (Nat.lt_of_lt_of_le (Nat.lt_of_lt_of_le mm_q124 z143) (Nat.le_of_eq z165.symm)) e173.symm | omega
  try clear S168
  have w178 : q_w X136 σ137 H172 := w169.kept (fun a ha => o175 a (w169.lt ha))
  have b179 := b167.kept (o175 h t170)
  try clear o175; try clear b167
  have t180 := t_lt b179
  try clear t170
  have k181 : q_kd X136 q171 = 0 := w169.fresh (Nat.le_of_eq e173.symm)
  try clear w169
  have g182 := S177.1
  refine lv_dup hxx hb dX1_init_60 rfl ?_
  refine lv_bipush (v := 6) hxx hb dX1_init_61 (by decide) ?_
  have a193 : ∀ a, q_nw q171 H172.size a → q_nw h s.heap.size a := nw_in gg_q171 (Nat.le_trans gg_q171 (Nat.le_of_lt mm_q171))
  refine b_cv (b_runI (As := [.int 6]) (rest := [.ref q171, .ref h]) E (hml.trans hl.1.symm) D147 w178 k181 b176 rfl (n_X5 l D X136 σ137 q171 H172.size 6 6 (by decide) (by decide) (by decide)) bi_X1_11 rfl ⟨Nat.le_of_ble_eq_true rfl, Nat.le_of_ble_eq_true rfl⟩ ⟨Nat.le_of_ble_eq_true rfl, Nat.le_of_ble_eq_true rfl⟩ rfl (Nat.le_of_ble_eq_true rfl) dX1_init_63) S177 rfl a193 (fun X183 σ184 H185 locs1 x186 k187 p188 w189 z190 o191 S192 => ?_)
  try clear k181; try clear S177; try clear b176
  have D194 : X183.1 = D := x186.1.trans D147
  try clear D147
  have k195 : q_kd X183 h = 0 := x186.k0 k148 (by first | exact (nw_no hq171 (Nat.lt_trans hq171 mm_q171)) | (rintro (e | e) <;> omega))
  try clear k148
  have b196 := b179.kept (o191 h t180 (by first | exact (Nat.ne_of_lt hq171) | omega))
  try clear o191; try clear b179
  have t197 := t_lt b196
  try clear t180
  have y198 := y151.tr p188.1.1 (fun c hc => by rw [(x152.2.2.2.1 c hc).1]; exact hc)
  try clear y151
  have x199 := x152.tr x186 a193
  try clear x152
  have k200 := x186.kd k153 (by decide)
  have k201 := x186.kd k154 (by decide)
  have k202 := x186.kd k155 (by decide)
  have k203 := x186.kd k140 (by decide)
  have y204 := p188.1.1 q1 (by rw [k153]; decide) y156
  try clear y156
  have y205 := p188.1.1 q39 (by rw [k154]; decide) y157
  try clear y157
  have y206 := p188.1.1 q80 (by rw [k155]; decide) y158
  try clear y158
  have y207 := p188.1.1 q124 (by rw [k140]; decide) y162
  try clear y162
  have y208 := y_rlx x186 w178.1 k153 y159
  try clear y159; try clear k153
  have y209 := y_rlx x186 w178.1 k154 y160
  try clear y160; try clear k154
  have y210 := y_rlx x186 w178.1 k155 y161
  try clear y161; try clear k155
  have y211 := y_rlx x186 w178.1 k140 y163
  try clear x186; try clear w178; try clear y163; try clear k140
  have y212 := p188.1.2
  have y213 := p188.2
  try clear p188
  refine b_put E S192 hAh hnm (f := 4) b196 (show vwCl[1]? = some (RX1, TX1, 7) from rfl) q_inX1 tyX1_ok nmX1 (by decide) bw_119 rfl (fun _ => rfl) (tyX1_ok 4 (by decide)) rfl rfl dX1_init_66 (fun H214 locs1 z215 o216 b217 S218 => ?_)
  try clear b196; try clear S192
  have w219 : q_w X183 σ184 H214 := w189.kept (fun a ha => o216 a (fun e => ha (by rw [e]; exact k195)))
  try clear o216; try clear w189
  have t220 := t_lt b217
  try clear t197
  refine lv_aload_n hxx hb dX1_init_69 rfl (lv_at hl 0 rfl) ?_
  refine b_new E S218 bw_107 bw_43 bw_4 (show vwCl[4]? = some (RX5, TX5, 1) from rfl) q_inX5 tyX5 tyX5_ok (Nat.le_of_ble_eq_true rfl) (Nat.le_of_ble_eq_true rfl) dX1_init_70 (fun q221 H222 e223 z224 o225 b226 S227 => ?_)
  have hq221 : h < q221 := by first | exact Nat.lt_of_lt_of_eq t220 e223.symm | omega
  have gg_q221 : s.heap.size ≤ q221 := Nat.le_trans S218.1 (Nat.le_of_eq e223.symm)
  have mm_q221 : q221 < H222.size := by rw [z224, e223]; exact Nat.lt_succ_self _
  have cc_q221 : q171 < q221 := by first | exact Nat.lt_of_lt_of_eq (Nat.lt_of_lt_of_le (Nat.lt_of_lt_of_le mm_q171 z190) (Nat.le_of_eq z215.symm)) e223.symm | omega
  try clear S218
  have w228 : q_w X183 σ184 H222 := w219.kept (fun a ha => o225 a (w219.lt ha))
  have b229 := b217.kept (o225 h t220)
  try clear o225; try clear b217
  have t230 := t_lt b229
  try clear t220
  have k231 : q_kd X183 q221 = 0 := w219.fresh (Nat.le_of_eq e223.symm)
  try clear w219
  have g232 := S227.1
  refine lv_dup hxx hb dX1_init_73 rfl ?_
  refine lv_bipush (v := 6) hxx hb dX1_init_74 (by decide) ?_
  have a243 : ∀ a, q_nw q221 H222.size a → q_nw h s.heap.size a := nw_in gg_q221 (Nat.le_trans gg_q221 (Nat.le_of_lt mm_q221))
  refine b_cv (b_runI (As := [.int 6]) (rest := [.ref q221, .ref h]) E (hml.trans hl.1.symm) D194 w228 k231 b226 rfl (n_X5 l D X183 σ184 q221 H222.size 6 6 (by decide) (by decide) (by decide)) bi_X1_11 rfl ⟨Nat.le_of_ble_eq_true rfl, Nat.le_of_ble_eq_true rfl⟩ ⟨Nat.le_of_ble_eq_true rfl, Nat.le_of_ble_eq_true rfl⟩ rfl (Nat.le_of_ble_eq_true rfl) dX1_init_76) S227 rfl a243 (fun X233 σ234 H235 locs1 x236 k237 p238 w239 z240 o241 S242 => ?_)
  try clear k231; try clear S227; try clear b226
  have D244 : X233.1 = D := x236.1.trans D194
  try clear D194
  have k245 : q_kd X233 h = 0 := x236.k0 k195 (by first | exact (nw_no hq221 (Nat.lt_trans hq221 mm_q221)) | (rintro (e | e) <;> omega))
  try clear k195
  have b246 := b229.kept (o241 h t230 (by first | exact (Nat.ne_of_lt hq221) | omega))
  try clear o241; try clear b229
  have t247 := t_lt b246
  try clear t230
  have y248 := y198.tr p238.1.1 (fun c hc => by rw [(x199.2.2.2.1 c hc).1]; exact hc)
  try clear y198
  have x249 := x199.tr x236 a243
  try clear x199
  have k250 := x236.kd k200 (by decide)
  have k251 := x236.kd k201 (by decide)
  have k252 := x236.kd k202 (by decide)
  have k253 := x236.kd k203 (by decide)
  have k254 := x236.kd k187 (by decide)
  have y255 := p238.1.1 q1 (by rw [k200]; decide) y204
  try clear y204
  have y256 := p238.1.1 q39 (by rw [k201]; decide) y205
  try clear y205
  have y257 := p238.1.1 q80 (by rw [k202]; decide) y206
  try clear y206
  have y258 := p238.1.1 q124 (by rw [k203]; decide) y207
  try clear y207
  have y259 := p238.1.1 q171 (by rw [k187]; decide) y212
  try clear y212
  have y260 := y_rlx x236 w228.1 k200 y208
  try clear y208; try clear k200
  have y261 := y_rlx x236 w228.1 k201 y209
  try clear y209; try clear k201
  have y262 := y_rlx x236 w228.1 k202 y210
  try clear y210; try clear k202
  have y263 := y_rlx x236 w228.1 k203 y211
  try clear y211; try clear k203
  have y264 := y_rlx x236 w228.1 k187 y213
  try clear x236; try clear w228; try clear y213; try clear k187
  have y265 := p238.1.2
  have y266 := p238.2
  try clear p238
  refine b_put E S242 hAh hnm (f := 5) b246 (show vwCl[1]? = some (RX1, TX1, 7) from rfl) q_inX1 tyX1_ok nmX1 (by decide) bw_123 rfl (fun _ => rfl) (tyX1_ok 5 (by decide)) rfl rfl dX1_init_79 (fun H267 locs1 z268 o269 b270 S271 => ?_)
  try clear b246; try clear S242
  have w272 : q_w X233 σ234 H267 := w239.kept (fun a ha => o269 a (fun e => ha (by rw [e]; exact k245)))
  try clear o269; try clear w239
  have t273 := t_lt b270
  try clear t247
  refine lv_aload_n hxx hb dX1_init_82 rfl (lv_at hl 0 rfl) ?_
  refine b_new E S271 bw_107 bw_43 bw_4 (show vwCl[4]? = some (RX5, TX5, 1) from rfl) q_inX5 tyX5 tyX5_ok (Nat.le_of_ble_eq_true rfl) (Nat.le_of_ble_eq_true rfl) dX1_init_83 (fun q274 H275 e276 z277 o278 b279 S280 => ?_)
  have hq274 : h < q274 := by first | exact Nat.lt_of_lt_of_eq t273 e276.symm | omega
  have gg_q274 : s.heap.size ≤ q274 := Nat.le_trans S271.1 (Nat.le_of_eq e276.symm)
  have mm_q274 : q274 < H275.size := by rw [z277, e276]; exact Nat.lt_succ_self _
  have cc_q274 : q221 < q274 := by first | exact Nat.lt_of_lt_of_eq (Nat.lt_of_lt_of_le (Nat.lt_of_lt_of_le mm_q221 z240) (Nat.le_of_eq z268.symm)) e276.symm | omega
  try clear S271
  have w281 : q_w X233 σ234 H275 := w272.kept (fun a ha => o278 a (w272.lt ha))
  have b282 := b270.kept (o278 h t273)
  try clear o278; try clear b270
  have t283 := t_lt b282
  try clear t273
  have k284 : q_kd X233 q274 = 0 := w272.fresh (Nat.le_of_eq e276.symm)
  try clear w272
  have g285 := S280.1
  refine lv_dup hxx hb dX1_init_86 rfl ?_
  refine lv_bipush (v := 6) hxx hb dX1_init_87 (by decide) ?_
  have a296 : ∀ a, q_nw q274 H275.size a → q_nw h s.heap.size a := nw_in gg_q274 (Nat.le_trans gg_q274 (Nat.le_of_lt mm_q274))
  refine b_cv (b_runI (As := [.int 6]) (rest := [.ref q274, .ref h]) E (hml.trans hl.1.symm) D244 w281 k284 b279 rfl (n_X5 l D X233 σ234 q274 H275.size 6 6 (by decide) (by decide) (by decide)) bi_X1_11 rfl ⟨Nat.le_of_ble_eq_true rfl, Nat.le_of_ble_eq_true rfl⟩ ⟨Nat.le_of_ble_eq_true rfl, Nat.le_of_ble_eq_true rfl⟩ rfl (Nat.le_of_ble_eq_true rfl) dX1_init_89) S280 rfl a296 (fun X286 σ287 H288 locs1 x289 k290 p291 w292 z293 o294 S295 => ?_)
  try clear k284; try clear S280; try clear b279
  have D297 : X286.1 = D := x289.1.trans D244
  try clear D244
  have k298 : q_kd X286 h = 0 := x289.k0 k245 (by first | exact (nw_no hq274 (Nat.lt_trans hq274 mm_q274)) | (rintro (e | e) <;> omega))
  try clear k245
  have b299 := b282.kept (o294 h t283 (by first | exact (Nat.ne_of_lt hq274) | omega))
  try clear o294; try clear b282
  have t300 := t_lt b299
  try clear t283
  have y301 := y248.tr p291.1.1 (fun c hc => by rw [(x249.2.2.2.1 c hc).1]; exact hc)
  try clear y248
  have x302 := x249.tr x289 a296
  try clear x249
  have k303 := x289.kd k250 (by decide)
  have k304 := x289.kd k251 (by decide)
  have k305 := x289.kd k252 (by decide)
  have k306 := x289.kd k253 (by decide)
  have k307 := x289.kd k254 (by decide)
  have k308 := x289.kd k237 (by decide)
  have y309 := p291.1.1 q1 (by rw [k250]; decide) y255
  try clear y255
  have y310 := p291.1.1 q39 (by rw [k251]; decide) y256
  try clear y256
  have y311 := p291.1.1 q80 (by rw [k252]; decide) y257
  try clear y257
  have y312 := p291.1.1 q124 (by rw [k253]; decide) y258
  try clear y258
  have y313 := p291.1.1 q171 (by rw [k254]; decide) y259
  try clear y259
  have y314 := p291.1.1 q221 (by rw [k237]; decide) y265
  try clear y265
  have y315 := y_rlx x289 w281.1 k250 y260
  try clear y260; try clear k250
  have y316 := y_rlx x289 w281.1 k251 y261
  try clear y261; try clear k251
  have y317 := y_rlx x289 w281.1 k252 y262
  try clear y262; try clear k252
  have y318 := y_rlx x289 w281.1 k253 y263
  try clear y263; try clear k253
  have y319 := y_rlx x289 w281.1 k254 y264
  try clear y264; try clear k254
  have y320 := y_rlx x289 w281.1 k237 y266
  try clear x289; try clear w281; try clear y266; try clear k237
  have y321 := p291.1.2
  have y322 := p291.2
  try clear p291
  refine b_put E S295 hAh hnm (f := 6) b299 (show vwCl[1]? = some (RX1, TX1, 7) from rfl) q_inX1 tyX1_ok nmX1 (by decide) bw_127 rfl (fun _ => rfl) (tyX1_ok 6 (by decide)) rfl rfl dX1_init_92 (fun H323 locs1 z324 o325 b326 S327 => ?_)
  try clear b299; try clear S295
  have w328 : q_w X286 σ287 H323 := w292.kept (fun a ha => o325 a (fun e => ha (by rw [e]; exact k298)))
  try clear o325; try clear w292
  have t329 := t_lt b326
  try clear t300
  obtain ⟨X330, dX330⟩ : ∃ Y, Y = q_xg X286 h 2 0 (fun f => ([q1, q39, q80, q124, q171, q221, q274] : List Nat).getD f 0) := ⟨_, rfl⟩
  obtain ⟨σ331, dσ331⟩ : ∃ τ, τ = q_sg σ287 h (fun f => ([0, 0, 0, 0, 0, 0, 0] : List Int32).getD f 0) (fun f => ([0, 0, 0, 0, 0, 0, 0] : List Int64).getD f 0) 0 := ⟨_, rfl⟩
  have x332 : q_ext (fun a => a = h) X286 X330 σ287 σ331 := by rw [dX330, dσ331]; exact q_ext.add k298
  have hrk : ∀ f, f < 40 → q_rk 2 f ≠ 0 → q_kd X286 (([q1, q39, q80, q124, q171, q221, q274] : List Nat).getD f 0) = q_rk 2 f := fun f h40 hf => match f, h40, hf with | 0, _, _ => k303 | 1, _, _ => k304 | 2, _, _ => k305 | 3, _, _ => k306 | 4, _, _ => k307 | 5, _, _ => k308 | 6, _, _ => k290 | 7, _, hf => absurd rfl hf | 8, _, hf => absurd rfl hf | 9, _, hf => absurd rfl hf | 10, _, hf => absurd rfl hf | 11, _, hf => absurd rfl hf | 12, _, hf => absurd rfl hf | 13, _, hf => absurd rfl hf | 14, _, hf => absurd rfl hf | 15, _, hf => absurd rfl hf | 16, _, hf => absurd rfl hf | 17, _, hf => absurd rfl hf | 18, _, hf => absurd rfl hf | 19, _, hf => absurd rfl hf | 20, _, hf => absurd rfl hf | 21, _, hf => absurd rfl hf | 22, _, hf => absurd rfl hf | 23, _, hf => absurd rfl hf | 24, _, hf => absurd rfl hf | 25, _, hf => absurd rfl hf | 26, _, hf => absurd rfl hf | 27, _, hf => absurd rfl hf | 28, _, hf => absurd rfl hf | 29, _, hf => absurd rfl hf | 30, _, hf => absurd rfl hf | 31, _, hf => absurd rfl hf | 32, _, hf => absurd rfl hf | 33, _, hf => absurd rfl hf | 34, _, hf => absurd rfl hf | 35, _, hf => absurd rfl hf | 36, _, hf => absurd rfl hf | 37, _, hf => absurd rfl hf | 38, _, hf => absurd rfl hf | 39, _, hf => absurd rfl hf | (n + 40), h40, _ => absurd h40 (Nat.not_lt_of_ge (Nat.le_add_left 40 n))
  have hB : ∀ f, f < 40 → (q_bn 2 f).1 ≤ ((([0, 0, 0, 0, 0, 0, 0] : List Int32).getD f 0).toInt) ∧ (([0, 0, 0, 0, 0, 0, 0] : List Int32).getD f 0).toInt ≤ (q_bn 2 f).2 := by decide +kernel
  have y334 : ∀ f, q_rk 2 f ≠ 0 → h < ([q1, q39, q80, q124, q171, q221, q274] : List Nat).getD f 0 := by
    intro f hf
    rcases y_fs2 hf with rfl | rfl | rfl | rfl | rfl | rfl | rfl
    · exact (hq1)
    · exact (hq39)
    · exact (hq80)
    · exact (hq124)
    · exact (hq171)
    · exact (hq221)
    · exact (hq274)
  have y335 : ∀ f, q_rk 2 f ≠ 0 → y_root X286 (([q1, q39, q80, q124, q171, q221, q274] : List Nat).getD f 0) := by
    intro f hf
    rcases y_fs2 hf with rfl | rfl | rfl | rfl | rfl | rfl | rfl
    · exact y309
    · exact y310
    · exact y311
    · exact y312
    · exact y313
    · exact y314
    · exact y321
  try clear y321; try clear y314; try clear y313; try clear y312; try clear y311; try clear y310; try clear y309
  have y336 : ∀ f, q_rk 2 f = 5 → q_ln X286 (q_rf X286 (([q1, q39, q80, q124, q171, q221, q274] : List Nat).getD f 0) 0) = y_rl 2 f := by
    intro f hf
    rcases y_fs2 (show q_rk 2 f ≠ 0 by rw [hf]; decide) with rfl | rfl | rfl | rfl | rfl | rfl | rfl
    · exact y315
    · exact y316
    · exact y317
    · exact y318
    · exact y319
    · exact y320
    · exact y322
  have y337 : ∀ f, q_rk 2 f ≠ 0 → ([q1, q39, q80, q124, q171, q221, q274] : List Nat).getD f 0 ≠ h := by
    intro f hf
    rcases y_fs2 hf with rfl | rfl | rfl | rfl | rfl | rfl | rfl
    · exact ((Nat.ne_of_gt hq1))
    · exact ((Nat.ne_of_gt hq39))
    · exact ((Nat.ne_of_gt hq80))
    · exact ((Nat.ne_of_gt hq124))
    · exact ((Nat.ne_of_gt hq171))
    · exact ((Nat.ne_of_gt hq221))
    · exact ((Nat.ne_of_gt hq274))
  have y338 : ∀ f, q_rk 2 f ≠ 0 → q_kd X (([q1, q39, q80, q124, q171, q221, q274] : List Nat).getD f 0) = 0 := by
    intro f hf
    rcases y_fs2 hf with rfl | rfl | rfl | rfl | rfl | rfl | rfl
    · exact hw0.fresh (gg_q1)
    · exact hw0.fresh (gg_q39)
    · exact hw0.fresh (gg_q80)
    · exact hw0.fresh (gg_q124)
    · exact hw0.fresh (gg_q171)
    · exact hw0.fresh (gg_q221)
    · exact hw0.fresh (gg_q274)
  have w333 : q_w X330 σ331 H323 := by
    rw [dX330, dσ331]
    exact w328.add k298 (q_hrk hrk) (fun q => absurd rfl q) (by decide) (fun q => absurd q (by decide)) (q_hB hB (by decide)) (fun q => by rcases q with q | q <;> exact absurd q (by decide)) (q_cfO D297 ⟨rfl, by decide⟩ (show vwCl[1]? = some (RX1, TX1, 7) from rfl) b326 (fun f hf => match f, hf with | 0, _ => rfl | 1, _ => rfl | 2, _ => rfl | 3, _ => rfl | 4, _ => rfl | 5, _ => rfl | 6, _ => rfl | (n + 7), hf => absurd hf (Nat.not_lt_of_ge (Nat.le_add_left 7 n)))) y334 (y_in2 (rf := (fun f => ([q1, q39, q80, q124, q171, q221, q274] : List Nat).getD f 0)) (show q1 < q39 from cc_q39) (show q39 < q80 from cc_q80) (show q80 < q124 from cc_q124) (show q124 < q171 from cc_q171) (show q171 < q221 from cc_q221) (show q221 < q274 from cc_q274)) y335 y336 (fun q => absurd q (by decide))
  try clear y336; try clear y335; try clear y334; try clear b326; try clear D297
  have y339 : y_root X330 h := by
    rw [dX330]
    exact (y_root.out w328.1 k298).add y_xg y337
  try clear y337; try clear k298
  have y340 : y_rt X X330 := by
    rw [dX330]
    exact y301.add y_xg y338
  try clear y338; try clear y301
  have k341 : q_kd X330 h = 2 := by rw [dX330]; exact q_xg_h
  have x342 := x302.tr x332 (fun a e => Or.inl e)
  try clear x302
  have y343 := y_rlx x332 w328.1 k303 y315
  try clear y343; try clear y315
  have y344 := y_rlx x332 w328.1 k304 y316
  try clear y344; try clear y316
  have y345 := y_rlx x332 w328.1 k305 y317
  try clear y345; try clear y317
  have y346 := y_rlx x332 w328.1 k306 y318
  try clear y346; try clear y318
  have y347 := y_rlx x332 w328.1 k307 y319
  try clear y347; try clear y319
  have y348 := y_rlx x332 w328.1 k308 y320
  try clear y348; try clear y320
  have y349 := y_rlx x332 w328.1 k290 y322
  try clear y349; try clear w328; try clear y322
  have k350 := x332.kd k303 (by decide)
  try clear k350; try clear k303
  have k351 := x332.kd k304 (by decide)
  try clear k351; try clear k304
  have k352 := x332.kd k305 (by decide)
  try clear k352; try clear k305
  have k353 := x332.kd k306 (by decide)
  try clear k353; try clear k306
  have k354 := x332.kd k307 (by decide)
  try clear k354; try clear k307
  have k355 := x332.kd k308 (by decide)
  try clear k355; try clear k308
  have k356 := x332.kd k290 (by decide)
  try clear k356; try clear x332; try clear k290
  exact b_ret E hr hlk S327 x342 k341 ⟨⟨y340, y339⟩, trivial⟩ w333 dX1_init_95

set_option maxRecDepth 100000 in
set_option maxHeartbeats 4000000 in
theorem n_X2 (l : Launch) (D : DW) (X : XW) (σ : ST) (h sz : Nat) : Met l yX2_init (q_ws yX2_init cX2_init 1 none) { frames := 2, cells := 8, slots := 564, locals := 45 } (q_PN D X σ h sz 2 6 (fun k => defaultValue (tyX2 k)) [.ref h]) (q_QN X σ h sz 3 (fun X' _ => (y_rt X X' ∧ y_root X' h) ∧ True)) 8 564 (q_nw h sz) := by
  refine b_met  (by first | exact rfl | decide +kernel) rfl rfl (Nat.le_of_ble_eq_true rfl) (fun p e s m below meth c E hml hr hlk hnm hsz hD hw0 h00 hob ls hl => ?_)
  subst hsz
  have hxx := E.1
  have hb := E.2.1
  have hl : lv_has ls 1 [(0, .ref h)] := hl
  have hS : va_S (q_nw h s.heap.size) s.heap s.heap [] := va_S.rf
  have hx0 : q_ext (q_nw h s.heap.size) X X σ σ := q_ext.rf
  have hAh : q_nw h s.heap.size h := Or.inl rfl
  have yr0 : y_rt X X := y_rt.rf
  have hlt := t_lt hob
  refine lv_aload_n hxx hb dX2_init_0 rfl (lv_at hl 0 rfl) ?_
  refine W.objInit hxx hb E.2.2.1 (E.2.2.2.1 _ bw_150) (E.2.2.2.1 _ bw_26) (E.2.2.2.1 _ bw_27) rfl (by rw [hml]; exact hl.1) rfl dX2_init_1 (Nat.le_of_ble_eq_true rfl) (Nat.le_of_ble_eq_true rfl) ?_
  refine W.eq (g2 := F0 m 4 ls []) rfl ?_
  refine lv_aload_n hxx hb dX2_init_4 rfl (lv_at hl 0 rfl) ?_
  refine lv_iconst (v := 0) hxx hb dX2_init_5 (by decide) ?_
  refine b_put E hS hAh hnm (f := 0) hob (show vwCl[2]? = some (RX2, TX2, 6) from rfl) q_inX2 tyX2_ok nmX2 (by decide) bw_153 rfl (fun _ => rfl) (tyX2_ok 0 (by decide)) rfl rfl dX2_init_6 (fun H1 locs1 z2 o3 b4 S5 => ?_)
  have w6 : q_w X σ H1 := hw0.kept (fun a ha => o3 a (fun e => ha (by rw [e]; exact h00)))
  try clear o3
  have t7 := t_lt b4
  refine lv_aload_n hxx hb dX2_init_9 rfl (lv_at hl 0 rfl) ?_
  refine lv_iconst (v := 0) hxx hb dX2_init_10 (by decide) ?_
  refine b_put E S5 hAh hnm (f := 1) b4 (show vwCl[2]? = some (RX2, TX2, 6) from rfl) q_inX2 tyX2_ok nmX2 (by decide) bw_155 rfl (fun _ => rfl) (tyX2_ok 1 (by decide)) rfl rfl dX2_init_11 (fun H8 locs1 z9 o10 b11 S12 => ?_)
  try clear S5; try clear b4
  have w13 : q_w X σ H8 := w6.kept (fun a ha => o10 a (fun e => ha (by rw [e]; exact h00)))
  try clear o10; try clear w6
  have t14 := t_lt b11
  try clear t7
  refine lv_aload_n hxx hb dX2_init_14 rfl (lv_at hl 0 rfl) ?_
  refine b_new E S12 bw_151 bw_43 bw_4 (show vwCl[4]? = some (RX5, TX5, 1) from rfl) q_inX5 tyX5 tyX5_ok (Nat.le_of_ble_eq_true rfl) (Nat.le_of_ble_eq_true rfl) dX2_init_15 (fun q15 H16 e17 z18 o19 b20 S21 => ?_)
  have hq15 : h < q15 := by first | exact Nat.lt_of_lt_of_eq t14 e17.symm | omega
  have gg_q15 : s.heap.size ≤ q15 := Nat.le_trans S12.1 (Nat.le_of_eq e17.symm)
  have mm_q15 : q15 < H16.size := by rw [z18, e17]; exact Nat.lt_succ_self _
  try clear S12
  have w22 : q_w X σ H16 := w13.kept (fun a ha => o19 a (w13.lt ha))
  have b23 := b11.kept (o19 h t14)
  try clear o19; try clear b11
  have t24 := t_lt b23
  try clear t14
  have k25 : q_kd X q15 = 0 := w13.fresh (Nat.le_of_eq e17.symm)
  try clear w13
  have g26 := S21.1
  refine lv_dup hxx hb dX2_init_18 rfl ?_
  refine lv_bipush (v := 80) hxx hb dX2_init_19 (by decide) ?_
  have a37 : ∀ a, q_nw q15 H16.size a → q_nw h s.heap.size a := nw_in gg_q15 (Nat.le_trans gg_q15 (Nat.le_of_lt mm_q15))
  refine b_cv (b_runI (As := [.int 80]) (rest := [.ref q15, .ref h]) E (hml.trans hl.1.symm) hD w22 k25 b20 rfl (n_X5 l D X σ q15 H16.size 80 80 (by decide) (by decide) (by decide)) bi_X2_20 rfl ⟨Nat.le_of_ble_eq_true rfl, Nat.le_of_ble_eq_true rfl⟩ ⟨Nat.le_of_ble_eq_true rfl, Nat.le_of_ble_eq_true rfl⟩ rfl (Nat.le_of_ble_eq_true rfl) dX2_init_21) S21 rfl a37 (fun X27 σ28 H29 locs1 x30 k31 p32 w33 z34 o35 S36 => ?_)
  try clear k25; try clear w22; try clear S21; try clear b20
  have D38 : X27.1 = D := x30.1.trans hD
  have k39 : q_kd X27 h = 0 := x30.k0 h00 (by first | exact (nw_no hq15 (Nat.lt_trans hq15 mm_q15)) | (rintro (e | e) <;> omega))
  have b40 := b23.kept (o35 h t24 (by first | exact (Nat.ne_of_lt hq15) | omega))
  try clear o35; try clear b23
  have t41 := t_lt b40
  try clear t24
  have y42 := yr0.tr p32.1.1 (fun c hc => by rw [(hx0.2.2.2.1 c hc).1]; exact hc)
  have x43 := hx0.tr x30 a37
  try clear x30
  have y44 := p32.1.2
  have y45 := p32.2
  try clear p32
  refine b_put E S36 hAh hnm (f := 2) b40 (show vwCl[2]? = some (RX2, TX2, 6) from rfl) q_inX2 tyX2_ok nmX2 (by decide) bw_159 rfl (fun _ => rfl) (tyX2_ok 2 (by decide)) rfl rfl dX2_init_24 (fun H46 locs1 z47 o48 b49 S50 => ?_)
  try clear b40; try clear S36
  have w51 : q_w X27 σ28 H46 := w33.kept (fun a ha => o48 a (fun e => ha (by rw [e]; exact k39)))
  try clear o48; try clear w33
  have t52 := t_lt b49
  try clear t41
  refine lv_aload_n hxx hb dX2_init_27 rfl (lv_at hl 0 rfl) ?_
  refine b_new E S50 bw_151 bw_43 bw_4 (show vwCl[4]? = some (RX5, TX5, 1) from rfl) q_inX5 tyX5 tyX5_ok (Nat.le_of_ble_eq_true rfl) (Nat.le_of_ble_eq_true rfl) dX2_init_28 (fun q53 H54 e55 z56 o57 b58 S59 => ?_)
  have hq53 : h < q53 := by first | exact Nat.lt_of_lt_of_eq t52 e55.symm | omega
  have gg_q53 : s.heap.size ≤ q53 := Nat.le_trans S50.1 (Nat.le_of_eq e55.symm)
  have mm_q53 : q53 < H54.size := by rw [z56, e55]; exact Nat.lt_succ_self _
  have cc_q53 : q15 < q53 := by first | exact Nat.lt_of_lt_of_eq (Nat.lt_of_lt_of_le (Nat.lt_of_lt_of_le mm_q15 z34) (Nat.le_of_eq z47.symm)) e55.symm | omega
  try clear S50
  have w60 : q_w X27 σ28 H54 := w51.kept (fun a ha => o57 a (w51.lt ha))
  have b61 := b49.kept (o57 h t52)
  try clear o57; try clear b49
  have t62 := t_lt b61
  try clear t52
  have k63 : q_kd X27 q53 = 0 := w51.fresh (Nat.le_of_eq e55.symm)
  try clear w51
  have g64 := S59.1
  refine lv_dup hxx hb dX2_init_31 rfl ?_
  refine lv_bipush (v := 80) hxx hb dX2_init_32 (by decide) ?_
  have a75 : ∀ a, q_nw q53 H54.size a → q_nw h s.heap.size a := nw_in gg_q53 (Nat.le_trans gg_q53 (Nat.le_of_lt mm_q53))
  refine b_cv (b_runI (As := [.int 80]) (rest := [.ref q53, .ref h]) E (hml.trans hl.1.symm) D38 w60 k63 b58 rfl (n_X5 l D X27 σ28 q53 H54.size 80 80 (by decide) (by decide) (by decide)) bi_X2_20 rfl ⟨Nat.le_of_ble_eq_true rfl, Nat.le_of_ble_eq_true rfl⟩ ⟨Nat.le_of_ble_eq_true rfl, Nat.le_of_ble_eq_true rfl⟩ rfl (Nat.le_of_ble_eq_true rfl) dX2_init_34) S59 rfl a75 (fun X65 σ66 H67 locs1 x68 k69 p70 w71 z72 o73 S74 => ?_)
  try clear k63; try clear S59; try clear b58
  have D76 : X65.1 = D := x68.1.trans D38
  try clear D38
  have k77 : q_kd X65 h = 0 := x68.k0 k39 (by first | exact (nw_no hq53 (Nat.lt_trans hq53 mm_q53)) | (rintro (e | e) <;> omega))
  try clear k39
  have b78 := b61.kept (o73 h t62 (by first | exact (Nat.ne_of_lt hq53) | omega))
  try clear o73; try clear b61
  have t79 := t_lt b78
  try clear t62
  have y80 := y42.tr p70.1.1 (fun c hc => by rw [(x43.2.2.2.1 c hc).1]; exact hc)
  try clear y42
  have x81 := x43.tr x68 a75
  try clear x43
  have k82 := x68.kd k31 (by decide)
  have y83 := p70.1.1 q15 (by rw [k31]; decide) y44
  try clear y44
  have y84 := y_rlx x68 w60.1 k31 y45
  try clear x68; try clear w60; try clear y45; try clear k31
  have y85 := p70.1.2
  have y86 := p70.2
  try clear p70
  refine b_put E S74 hAh hnm (f := 3) b78 (show vwCl[2]? = some (RX2, TX2, 6) from rfl) q_inX2 tyX2_ok nmX2 (by decide) bw_161 rfl (fun _ => rfl) (tyX2_ok 3 (by decide)) rfl rfl dX2_init_37 (fun H87 locs1 z88 o89 b90 S91 => ?_)
  try clear b78; try clear S74
  have w92 : q_w X65 σ66 H87 := w71.kept (fun a ha => o89 a (fun e => ha (by rw [e]; exact k77)))
  try clear o89; try clear w71
  have t93 := t_lt b90
  try clear t79
  refine lv_aload_n hxx hb dX2_init_40 rfl (lv_at hl 0 rfl) ?_
  refine b_new E S91 bw_151 bw_43 bw_4 (show vwCl[4]? = some (RX5, TX5, 1) from rfl) q_inX5 tyX5 tyX5_ok (Nat.le_of_ble_eq_true rfl) (Nat.le_of_ble_eq_true rfl) dX2_init_41 (fun q94 H95 e96 z97 o98 b99 S100 => ?_)
  have hq94 : h < q94 := by first | exact Nat.lt_of_lt_of_eq t93 e96.symm | omega
  have gg_q94 : s.heap.size ≤ q94 := Nat.le_trans S91.1 (Nat.le_of_eq e96.symm)
  have mm_q94 : q94 < H95.size := by rw [z97, e96]; exact Nat.lt_succ_self _
  have cc_q94 : q53 < q94 := by first | exact Nat.lt_of_lt_of_eq (Nat.lt_of_lt_of_le (Nat.lt_of_lt_of_le mm_q53 z72) (Nat.le_of_eq z88.symm)) e96.symm | omega
  try clear S91
  have w101 : q_w X65 σ66 H95 := w92.kept (fun a ha => o98 a (w92.lt ha))
  have b102 := b90.kept (o98 h t93)
  try clear o98; try clear b90
  have t103 := t_lt b102
  try clear t93
  have k104 : q_kd X65 q94 = 0 := w92.fresh (Nat.le_of_eq e96.symm)
  try clear w92
  have g105 := S100.1
  refine lv_dup hxx hb dX2_init_44 rfl ?_
  refine lv_bipush (v := 80) hxx hb dX2_init_45 (by decide) ?_
  have a116 : ∀ a, q_nw q94 H95.size a → q_nw h s.heap.size a := nw_in gg_q94 (Nat.le_trans gg_q94 (Nat.le_of_lt mm_q94))
  refine b_cv (b_runI (As := [.int 80]) (rest := [.ref q94, .ref h]) E (hml.trans hl.1.symm) D76 w101 k104 b99 rfl (n_X5 l D X65 σ66 q94 H95.size 80 80 (by decide) (by decide) (by decide)) bi_X2_20 rfl ⟨Nat.le_of_ble_eq_true rfl, Nat.le_of_ble_eq_true rfl⟩ ⟨Nat.le_of_ble_eq_true rfl, Nat.le_of_ble_eq_true rfl⟩ rfl (Nat.le_of_ble_eq_true rfl) dX2_init_47) S100 rfl a116 (fun X106 σ107 H108 locs1 x109 k110 p111 w112 z113 o114 S115 => ?_)
  try clear k104; try clear S100; try clear b99
  have D117 : X106.1 = D := x109.1.trans D76
  try clear D76
  have k118 : q_kd X106 h = 0 := x109.k0 k77 (by first | exact (nw_no hq94 (Nat.lt_trans hq94 mm_q94)) | (rintro (e | e) <;> omega))
  try clear k77
  have b119 := b102.kept (o114 h t103 (by first | exact (Nat.ne_of_lt hq94) | omega))
  try clear o114; try clear b102
  have t120 := t_lt b119
  try clear t103
  have y121 := y80.tr p111.1.1 (fun c hc => by rw [(x81.2.2.2.1 c hc).1]; exact hc)
  try clear y80
  have x122 := x81.tr x109 a116
  try clear x81
  have k123 := x109.kd k82 (by decide)
  have k124 := x109.kd k69 (by decide)
  have y125 := p111.1.1 q15 (by rw [k82]; decide) y83
  try clear y83
  have y126 := p111.1.1 q53 (by rw [k69]; decide) y85
  try clear y85
  have y127 := y_rlx x109 w101.1 k82 y84
  try clear y84; try clear k82
  have y128 := y_rlx x109 w101.1 k69 y86
  try clear x109; try clear w101; try clear y86; try clear k69
  have y129 := p111.1.2
  have y130 := p111.2
  try clear p111
  refine b_put E S115 hAh hnm (f := 4) b119 (show vwCl[2]? = some (RX2, TX2, 6) from rfl) q_inX2 tyX2_ok nmX2 (by decide) bw_163 rfl (fun _ => rfl) (tyX2_ok 4 (by decide)) rfl rfl dX2_init_50 (fun H131 locs1 z132 o133 b134 S135 => ?_)
  try clear b119; try clear S115
  have w136 : q_w X106 σ107 H131 := w112.kept (fun a ha => o133 a (fun e => ha (by rw [e]; exact k118)))
  try clear o133; try clear w112
  have t137 := t_lt b134
  try clear t120
  refine lv_aload_n hxx hb dX2_init_53 rfl (lv_at hl 0 rfl) ?_
  refine b_new E S135 bw_151 bw_43 bw_4 (show vwCl[4]? = some (RX5, TX5, 1) from rfl) q_inX5 tyX5 tyX5_ok (Nat.le_of_ble_eq_true rfl) (Nat.le_of_ble_eq_true rfl) dX2_init_54 (fun q138 H139 e140 z141 o142 b143 S144 => ?_)
  have hq138 : h < q138 := by first | exact Nat.lt_of_lt_of_eq t137 e140.symm | omega
  have gg_q138 : s.heap.size ≤ q138 := Nat.le_trans S135.1 (Nat.le_of_eq e140.symm)
  have mm_q138 : q138 < H139.size := by rw [z141, e140]; exact Nat.lt_succ_self _
  have cc_q138 : q94 < q138 := by first | exact Nat.lt_of_lt_of_eq (Nat.lt_of_lt_of_le (Nat.lt_of_lt_of_le mm_q94 z113) (Nat.le_of_eq z132.symm)) e140.symm | omega
  try clear S135
  have w145 : q_w X106 σ107 H139 := w136.kept (fun a ha => o142 a (w136.lt ha))
  have b146 := b134.kept (o142 h t137)
  try clear o142; try clear b134
  have t147 := t_lt b146
  try clear t137
  have k148 : q_kd X106 q138 = 0 := w136.fresh (Nat.le_of_eq e140.symm)
  try clear w136
  have g149 := S144.1
  refine lv_dup hxx hb dX2_init_57 rfl ?_
  refine lv_sipush (v := 320) hxx hb dX2_init_58 (by decide) ?_
  have a160 : ∀ a, q_nw q138 H139.size a → q_nw h s.heap.size a := nw_in gg_q138 (Nat.le_trans gg_q138 (Nat.le_of_lt mm_q138))
  refine b_cv (b_runI (As := [.int 320]) (rest := [.ref q138, .ref h]) E (hml.trans hl.1.symm) D117 w145 k148 b143 rfl (n_X5 l D X106 σ107 q138 H139.size 320 320 (by decide) (by decide) (by decide)) bi_X2_20 rfl ⟨Nat.le_of_ble_eq_true rfl, Nat.le_of_ble_eq_true rfl⟩ ⟨Nat.le_of_ble_eq_true rfl, Nat.le_of_ble_eq_true rfl⟩ rfl (Nat.le_of_ble_eq_true rfl) dX2_init_61) S144 rfl a160 (fun X150 σ151 H152 locs1 x153 k154 p155 w156 z157 o158 S159 => ?_)
  try clear k148; try clear S144; try clear b143
  have D161 : X150.1 = D := x153.1.trans D117
  try clear D117
  have k162 : q_kd X150 h = 0 := x153.k0 k118 (by first | exact (nw_no hq138 (Nat.lt_trans hq138 mm_q138)) | (rintro (e | e) <;> omega))
  try clear k118
  have b163 := b146.kept (o158 h t147 (by first | exact (Nat.ne_of_lt hq138) | omega))
  try clear o158; try clear b146
  have t164 := t_lt b163
  try clear t147
  have y165 := y121.tr p155.1.1 (fun c hc => by rw [(x122.2.2.2.1 c hc).1]; exact hc)
  try clear y121
  have x166 := x122.tr x153 a160
  try clear x122
  have k167 := x153.kd k123 (by decide)
  have k168 := x153.kd k124 (by decide)
  have k169 := x153.kd k110 (by decide)
  have y170 := p155.1.1 q15 (by rw [k123]; decide) y125
  try clear y125
  have y171 := p155.1.1 q53 (by rw [k124]; decide) y126
  try clear y126
  have y172 := p155.1.1 q94 (by rw [k110]; decide) y129
  try clear y129
  have y173 := y_rlx x153 w145.1 k123 y127
  try clear y127; try clear k123
  have y174 := y_rlx x153 w145.1 k124 y128
  try clear y128; try clear k124
  have y175 := y_rlx x153 w145.1 k110 y130
  try clear x153; try clear w145; try clear y130; try clear k110
  have y176 := p155.1.2
  have y177 := p155.2
  try clear p155
  refine b_put E S159 hAh hnm (f := 5) b163 (show vwCl[2]? = some (RX2, TX2, 6) from rfl) q_inX2 tyX2_ok nmX2 (by decide) bw_165 rfl (fun _ => rfl) (tyX2_ok 5 (by decide)) rfl rfl dX2_init_64 (fun H178 locs1 z179 o180 b181 S182 => ?_)
  try clear b163; try clear S159
  have w183 : q_w X150 σ151 H178 := w156.kept (fun a ha => o180 a (fun e => ha (by rw [e]; exact k162)))
  try clear o180; try clear w156
  have t184 := t_lt b181
  try clear t164
  obtain ⟨X185, dX185⟩ : ∃ Y, Y = q_xg X150 h 3 0 (fun f => ([0, 0, q15, q53, q94, q138] : List Nat).getD f 0) := ⟨_, rfl⟩
  obtain ⟨σ186, dσ186⟩ : ∃ τ, τ = q_sg σ151 h (fun f => ([0, 0, 0, 0, 0, 0] : List Int32).getD f 0) (fun f => ([0, 0, 0, 0, 0, 0] : List Int64).getD f 0) 0 := ⟨_, rfl⟩
  have x187 : q_ext (fun a => a = h) X150 X185 σ151 σ186 := by rw [dX185, dσ186]; exact q_ext.add k162
  have hrk : ∀ f, f < 40 → q_rk 3 f ≠ 0 → q_kd X150 (([0, 0, q15, q53, q94, q138] : List Nat).getD f 0) = q_rk 3 f := fun f h40 hf => match f, h40, hf with | 0, _, hf => absurd rfl hf | 1, _, hf => absurd rfl hf | 2, _, _ => k167 | 3, _, _ => k168 | 4, _, _ => k169 | 5, _, _ => k154 | 6, _, hf => absurd rfl hf | 7, _, hf => absurd rfl hf | 8, _, hf => absurd rfl hf | 9, _, hf => absurd rfl hf | 10, _, hf => absurd rfl hf | 11, _, hf => absurd rfl hf | 12, _, hf => absurd rfl hf | 13, _, hf => absurd rfl hf | 14, _, hf => absurd rfl hf | 15, _, hf => absurd rfl hf | 16, _, hf => absurd rfl hf | 17, _, hf => absurd rfl hf | 18, _, hf => absurd rfl hf | 19, _, hf => absurd rfl hf | 20, _, hf => absurd rfl hf | 21, _, hf => absurd rfl hf | 22, _, hf => absurd rfl hf | 23, _, hf => absurd rfl hf | 24, _, hf => absurd rfl hf | 25, _, hf => absurd rfl hf | 26, _, hf => absurd rfl hf | 27, _, hf => absurd rfl hf | 28, _, hf => absurd rfl hf | 29, _, hf => absurd rfl hf | 30, _, hf => absurd rfl hf | 31, _, hf => absurd rfl hf | 32, _, hf => absurd rfl hf | 33, _, hf => absurd rfl hf | 34, _, hf => absurd rfl hf | 35, _, hf => absurd rfl hf | 36, _, hf => absurd rfl hf | 37, _, hf => absurd rfl hf | 38, _, hf => absurd rfl hf | 39, _, hf => absurd rfl hf | (n + 40), h40, _ => absurd h40 (Nat.not_lt_of_ge (Nat.le_add_left 40 n))
  have hB : ∀ f, f < 40 → (q_bn 3 f).1 ≤ ((([0, 0, 0, 0, 0, 0] : List Int32).getD f 0).toInt) ∧ (([0, 0, 0, 0, 0, 0] : List Int32).getD f 0).toInt ≤ (q_bn 3 f).2 := by decide +kernel
  have y189 : ∀ f, q_rk 3 f ≠ 0 → h < ([0, 0, q15, q53, q94, q138] : List Nat).getD f 0 := by
    intro f hf
    rcases y_fs3 hf with rfl | rfl | rfl | rfl
    · exact (hq15)
    · exact (hq53)
    · exact (hq94)
    · exact (hq138)
  have y190 : ∀ f, q_rk 3 f ≠ 0 → y_root X150 (([0, 0, q15, q53, q94, q138] : List Nat).getD f 0) := by
    intro f hf
    rcases y_fs3 hf with rfl | rfl | rfl | rfl
    · exact y170
    · exact y171
    · exact y172
    · exact y176
  try clear y176; try clear y172; try clear y171; try clear y170
  have y191 : ∀ f, q_rk 3 f = 5 → q_ln X150 (q_rf X150 (([0, 0, q15, q53, q94, q138] : List Nat).getD f 0) 0) = y_rl 3 f := by
    intro f hf
    rcases y_fs3 (show q_rk 3 f ≠ 0 by rw [hf]; decide) with rfl | rfl | rfl | rfl
    · exact y173
    · exact y174
    · exact y175
    · exact y177
  have y192 : ∀ f, q_rk 3 f ≠ 0 → ([0, 0, q15, q53, q94, q138] : List Nat).getD f 0 ≠ h := by
    intro f hf
    rcases y_fs3 hf with rfl | rfl | rfl | rfl
    · exact ((Nat.ne_of_gt hq15))
    · exact ((Nat.ne_of_gt hq53))
    · exact ((Nat.ne_of_gt hq94))
    · exact ((Nat.ne_of_gt hq138))
  have y193 : ∀ f, q_rk 3 f ≠ 0 → q_kd X (([0, 0, q15, q53, q94, q138] : List Nat).getD f 0) = 0 := by
    intro f hf
    rcases y_fs3 hf with rfl | rfl | rfl | rfl
    · exact hw0.fresh (gg_q15)
    · exact hw0.fresh (gg_q53)
    · exact hw0.fresh (gg_q94)
    · exact hw0.fresh (gg_q138)
  have hIV : ∀ f, f < 60 → ([0, 0, 0, 0, 0, 0] : List Int32).getD f 0 = y_iv 3 f ∧ ([0, 0, 0, 0, 0, 0] : List Int64).getD f 0 = y_il 3 f := by decide +kernel
  have w188 : q_w X185 σ186 H178 := by
    rw [dX185, dσ186]
    exact w183.add k162 (q_hrk hrk) (fun q => absurd rfl q) (by decide) (fun q => absurd q (by decide)) (q_hB hB (by decide)) (fun q => by rcases q with q | q <;> exact absurd q (by decide)) (q_cfO D161 ⟨rfl, by decide⟩ (show vwCl[2]? = some (RX2, TX2, 6) from rfl) b181 (fun f hf => match f, hf with | 0, _ => rfl | 1, _ => rfl | 2, _ => rfl | 3, _ => rfl | 4, _ => rfl | 5, _ => rfl | (n + 6), hf => absurd hf (Nat.not_lt_of_ge (Nat.le_add_left 6 n)))) y189 (y_in3 (rf := (fun f => ([0, 0, q15, q53, q94, q138] : List Nat).getD f 0)) (show q15 < q53 from cc_q53) (show q53 < q94 from cc_q94) (show q94 < q138 from cc_q138)) y190 y191 (fun _ f hf => hIV f (hf.resolve_left (by decide)))
  try clear y191; try clear y190; try clear y189; try clear b181; try clear D161
  have y194 : y_root X185 h := by
    rw [dX185]
    exact (y_root.out w183.1 k162).add y_xg y192
  try clear y192; try clear k162
  have y195 : y_rt X X185 := by
    rw [dX185]
    exact y165.add y_xg y193
  try clear y193; try clear y165
  have k196 : q_kd X185 h = 3 := by rw [dX185]; exact q_xg_h
  have x197 := x166.tr x187 (fun a e => Or.inl e)
  try clear x166
  have y198 := y_rlx x187 w183.1 k167 y173
  try clear y198; try clear y173
  have y199 := y_rlx x187 w183.1 k168 y174
  try clear y199; try clear y174
  have y200 := y_rlx x187 w183.1 k169 y175
  try clear y200; try clear y175
  have y201 := y_rlx x187 w183.1 k154 y177
  try clear y201; try clear w183; try clear y177
  have k202 := x187.kd k167 (by decide)
  try clear k202; try clear k167
  have k203 := x187.kd k168 (by decide)
  try clear k203; try clear k168
  have k204 := x187.kd k169 (by decide)
  try clear k204; try clear k169
  have k205 := x187.kd k154 (by decide)
  try clear k205; try clear x187; try clear k154
  exact b_ret E hr hlk S182 x197 k196 ⟨⟨y195, y194⟩, trivial⟩ w188 dX2_init_67

set_option maxRecDepth 100000 in
set_option maxHeartbeats 4000000 in
theorem n_X8 (l : Launch) (D : DW) (X : XW) (σ : ST) (h sz : Nat) : Met l yX8_init (q_ws yX8_init cX8_init 1 none) { frames := 2, cells := 10, slots := 305, locals := 45 } (q_PN D X σ h sz 7 8 (fun k => defaultValue (tyX8 k)) [.ref h]) (q_QN X σ h sz 8 (fun X' _ => (y_rt X X' ∧ y_root X' h) ∧ True)) 10 305 (q_nw h sz) := by
  refine b_met  (by first | exact rfl | decide +kernel) rfl rfl (Nat.le_of_ble_eq_true rfl) (fun p e s m below meth c E hml hr hlk hnm hsz hD hw0 h00 hob ls hl => ?_)
  subst hsz
  have hxx := E.1
  have hb := E.2.1
  have hl : lv_has ls 1 [(0, .ref h)] := hl
  have hS : va_S (q_nw h s.heap.size) s.heap s.heap [] := va_S.rf
  have hx0 : q_ext (q_nw h s.heap.size) X X σ σ := q_ext.rf
  have hAh : q_nw h s.heap.size h := Or.inl rfl
  have yr0 : y_rt X X := y_rt.rf
  have hlt := t_lt hob
  refine lv_aload_n hxx hb dX8_init_0 rfl (lv_at hl 0 rfl) ?_
  refine W.objInit hxx hb E.2.2.1 (E.2.2.2.1 _ bw_184) (E.2.2.2.1 _ bw_26) (E.2.2.2.1 _ bw_27) rfl (by rw [hml]; exact hl.1) rfl dX8_init_1 (Nat.le_of_ble_eq_true rfl) (Nat.le_of_ble_eq_true rfl) ?_
  refine W.eq (g2 := F0 m 4 ls []) rfl ?_
  refine lv_aload_n hxx hb dX8_init_4 rfl (lv_at hl 0 rfl) ?_
  refine lv_iconst (v := 0) hxx hb dX8_init_5 (by decide) ?_
  refine b_put E hS hAh hnm (f := 0) hob (show vwCl[7]? = some (RX8, TX8, 8) from rfl) q_inX8 tyX8_ok nmX8 (by decide) bw_187 rfl (fun _ => rfl) (tyX8_ok 0 (by decide)) rfl rfl dX8_init_6 (fun H1 locs1 z2 o3 b4 S5 => ?_)
  have w6 : q_w X σ H1 := hw0.kept (fun a ha => o3 a (fun e => ha (by rw [e]; exact h00)))
  try clear o3
  have t7 := t_lt b4
  refine lv_aload_n hxx hb dX8_init_9 rfl (lv_at hl 0 rfl) ?_
  refine lv_iconst (v := 0) hxx hb dX8_init_10 (by decide) ?_
  refine b_put E S5 hAh hnm (f := 1) b4 (show vwCl[7]? = some (RX8, TX8, 8) from rfl) q_inX8 tyX8_ok nmX8 (by decide) bw_190 rfl (fun _ => rfl) (tyX8_ok 1 (by decide)) rfl rfl dX8_init_11 (fun H8 locs1 z9 o10 b11 S12 => ?_)
  try clear S5; try clear b4
  have w13 : q_w X σ H8 := w6.kept (fun a ha => o10 a (fun e => ha (by rw [e]; exact h00)))
  try clear o10; try clear w6
  have t14 := t_lt b11
  try clear t7
  refine lv_aload_n hxx hb dX8_init_14 rfl (lv_at hl 0 rfl) ?_
  refine lv_iconst (v := 0) hxx hb dX8_init_15 (by decide) ?_
  refine b_put E S12 hAh hnm (f := 2) b11 (show vwCl[7]? = some (RX8, TX8, 8) from rfl) q_inX8 tyX8_ok nmX8 (by decide) bw_193 rfl (fun _ => rfl) (tyX8_ok 2 (by decide)) rfl rfl dX8_init_16 (fun H15 locs1 z16 o17 b18 S19 => ?_)
  try clear S12; try clear b11
  have w20 : q_w X σ H15 := w13.kept (fun a ha => o17 a (fun e => ha (by rw [e]; exact h00)))
  try clear o17; try clear w13
  have t21 := t_lt b18
  try clear t14
  refine lv_aload_n hxx hb dX8_init_19 rfl (lv_at hl 0 rfl) ?_
  refine b_new E S19 bw_185 bw_43 bw_4 (show vwCl[4]? = some (RX5, TX5, 1) from rfl) q_inX5 tyX5 tyX5_ok (Nat.le_of_ble_eq_true rfl) (Nat.le_of_ble_eq_true rfl) dX8_init_20 (fun q22 H23 e24 z25 o26 b27 S28 => ?_)
  have hq22 : h < q22 := by first | exact Nat.lt_of_lt_of_eq t21 e24.symm | omega
  have gg_q22 : s.heap.size ≤ q22 := Nat.le_trans S19.1 (Nat.le_of_eq e24.symm)
  have mm_q22 : q22 < H23.size := by rw [z25, e24]; exact Nat.lt_succ_self _
  try clear S19
  have w29 : q_w X σ H23 := w20.kept (fun a ha => o26 a (w20.lt ha))
  have b30 := b18.kept (o26 h t21)
  try clear o26; try clear b18
  have t31 := t_lt b30
  try clear t21
  have k32 : q_kd X q22 = 0 := w20.fresh (Nat.le_of_eq e24.symm)
  try clear w20
  have g33 := S28.1
  refine lv_dup hxx hb dX8_init_23 rfl ?_
  refine lv_bipush (v := 60) hxx hb dX8_init_24 (by decide) ?_
  have a44 : ∀ a, q_nw q22 H23.size a → q_nw h s.heap.size a := nw_in gg_q22 (Nat.le_trans gg_q22 (Nat.le_of_lt mm_q22))
  refine b_cv (b_runI (As := [.int 60]) (rest := [.ref q22, .ref h]) E (hml.trans hl.1.symm) hD w29 k32 b27 rfl (n_X5 l D X σ q22 H23.size 60 60 (by decide) (by decide) (by decide)) bi_X8_24 rfl ⟨Nat.le_of_ble_eq_true rfl, Nat.le_of_ble_eq_true rfl⟩ ⟨Nat.le_of_ble_eq_true rfl, Nat.le_of_ble_eq_true rfl⟩ rfl (Nat.le_of_ble_eq_true rfl) dX8_init_26) S28 rfl a44 (fun X34 σ35 H36 locs1 x37 k38 p39 w40 z41 o42 S43 => ?_)
  try clear k32; try clear w29; try clear S28; try clear b27
  have D45 : X34.1 = D := x37.1.trans hD
  have k46 : q_kd X34 h = 0 := x37.k0 h00 (by first | exact (nw_no hq22 (Nat.lt_trans hq22 mm_q22)) | (rintro (e | e) <;> omega))
  have b47 := b30.kept (o42 h t31 (by first | exact (Nat.ne_of_lt hq22) | omega))
  try clear o42; try clear b30
  have t48 := t_lt b47
  try clear t31
  have y49 := yr0.tr p39.1.1 (fun c hc => by rw [(hx0.2.2.2.1 c hc).1]; exact hc)
  have x50 := hx0.tr x37 a44
  try clear x37
  have y51 := p39.1.2
  have y52 := p39.2
  try clear p39
  refine b_put E S43 hAh hnm (f := 3) b47 (show vwCl[7]? = some (RX8, TX8, 8) from rfl) q_inX8 tyX8_ok nmX8 (by decide) bw_195 rfl (fun _ => rfl) (tyX8_ok 3 (by decide)) rfl rfl dX8_init_29 (fun H53 locs1 z54 o55 b56 S57 => ?_)
  try clear b47; try clear S43
  have w58 : q_w X34 σ35 H53 := w40.kept (fun a ha => o55 a (fun e => ha (by rw [e]; exact k46)))
  try clear o55; try clear w40
  have t59 := t_lt b56
  try clear t48
  refine lv_aload_n hxx hb dX8_init_32 rfl (lv_at hl 0 rfl) ?_
  refine b_new E S57 bw_185 bw_43 bw_4 (show vwCl[4]? = some (RX5, TX5, 1) from rfl) q_inX5 tyX5 tyX5_ok (Nat.le_of_ble_eq_true rfl) (Nat.le_of_ble_eq_true rfl) dX8_init_33 (fun q60 H61 e62 z63 o64 b65 S66 => ?_)
  have hq60 : h < q60 := by first | exact Nat.lt_of_lt_of_eq t59 e62.symm | omega
  have gg_q60 : s.heap.size ≤ q60 := Nat.le_trans S57.1 (Nat.le_of_eq e62.symm)
  have mm_q60 : q60 < H61.size := by rw [z63, e62]; exact Nat.lt_succ_self _
  have cc_q60 : q22 < q60 := by first | exact Nat.lt_of_lt_of_eq (Nat.lt_of_lt_of_le (Nat.lt_of_lt_of_le mm_q22 z41) (Nat.le_of_eq z54.symm)) e62.symm | omega
  try clear S57
  have w67 : q_w X34 σ35 H61 := w58.kept (fun a ha => o64 a (w58.lt ha))
  have b68 := b56.kept (o64 h t59)
  try clear o64; try clear b56
  have t69 := t_lt b68
  try clear t59
  have k70 : q_kd X34 q60 = 0 := w58.fresh (Nat.le_of_eq e62.symm)
  try clear w58
  have g71 := S66.1
  refine lv_dup hxx hb dX8_init_36 rfl ?_
  refine lv_bipush (v := 60) hxx hb dX8_init_37 (by decide) ?_
  have a82 : ∀ a, q_nw q60 H61.size a → q_nw h s.heap.size a := nw_in gg_q60 (Nat.le_trans gg_q60 (Nat.le_of_lt mm_q60))
  refine b_cv (b_runI (As := [.int 60]) (rest := [.ref q60, .ref h]) E (hml.trans hl.1.symm) D45 w67 k70 b65 rfl (n_X5 l D X34 σ35 q60 H61.size 60 60 (by decide) (by decide) (by decide)) bi_X8_24 rfl ⟨Nat.le_of_ble_eq_true rfl, Nat.le_of_ble_eq_true rfl⟩ ⟨Nat.le_of_ble_eq_true rfl, Nat.le_of_ble_eq_true rfl⟩ rfl (Nat.le_of_ble_eq_true rfl) dX8_init_39) S66 rfl a82 (fun X72 σ73 H74 locs1 x75 k76 p77 w78 z79 o80 S81 => ?_)
  try clear k70; try clear S66; try clear b65
  have D83 : X72.1 = D := x75.1.trans D45
  try clear D45
  have k84 : q_kd X72 h = 0 := x75.k0 k46 (by first | exact (nw_no hq60 (Nat.lt_trans hq60 mm_q60)) | (rintro (e | e) <;> omega))
  try clear k46
  have b85 := b68.kept (o80 h t69 (by first | exact (Nat.ne_of_lt hq60) | omega))
  try clear o80; try clear b68
  have t86 := t_lt b85
  try clear t69
  have y87 := y49.tr p77.1.1 (fun c hc => by rw [(x50.2.2.2.1 c hc).1]; exact hc)
  try clear y49
  have x88 := x50.tr x75 a82
  try clear x50
  have k89 := x75.kd k38 (by decide)
  have y90 := p77.1.1 q22 (by rw [k38]; decide) y51
  try clear y51
  have y91 := y_rlx x75 w67.1 k38 y52
  try clear x75; try clear w67; try clear y52; try clear k38
  have y92 := p77.1.2
  have y93 := p77.2
  try clear p77
  refine b_put E S81 hAh hnm (f := 4) b85 (show vwCl[7]? = some (RX8, TX8, 8) from rfl) q_inX8 tyX8_ok nmX8 (by decide) bw_198 rfl (fun _ => rfl) (tyX8_ok 4 (by decide)) rfl rfl dX8_init_42 (fun H94 locs1 z95 o96 b97 S98 => ?_)
  try clear b85; try clear S81
  have w99 : q_w X72 σ73 H94 := w78.kept (fun a ha => o96 a (fun e => ha (by rw [e]; exact k84)))
  try clear o96; try clear w78
  have t100 := t_lt b97
  try clear t86
  refine lv_aload_n hxx hb dX8_init_45 rfl (lv_at hl 0 rfl) ?_
  refine b_new E S98 bw_185 bw_43 bw_4 (show vwCl[4]? = some (RX5, TX5, 1) from rfl) q_inX5 tyX5 tyX5_ok (Nat.le_of_ble_eq_true rfl) (Nat.le_of_ble_eq_true rfl) dX8_init_46 (fun q101 H102 e103 z104 o105 b106 S107 => ?_)
  have hq101 : h < q101 := by first | exact Nat.lt_of_lt_of_eq t100 e103.symm | omega
  have gg_q101 : s.heap.size ≤ q101 := Nat.le_trans S98.1 (Nat.le_of_eq e103.symm)
  have mm_q101 : q101 < H102.size := by rw [z104, e103]; exact Nat.lt_succ_self _
  have cc_q101 : q60 < q101 := by first | exact Nat.lt_of_lt_of_eq (Nat.lt_of_lt_of_le (Nat.lt_of_lt_of_le mm_q60 z79) (Nat.le_of_eq z95.symm)) e103.symm | omega
  try clear S98
  have w108 : q_w X72 σ73 H102 := w99.kept (fun a ha => o105 a (w99.lt ha))
  have b109 := b97.kept (o105 h t100)
  try clear o105; try clear b97
  have t110 := t_lt b109
  try clear t100
  have k111 : q_kd X72 q101 = 0 := w99.fresh (Nat.le_of_eq e103.symm)
  try clear w99
  have g112 := S107.1
  refine lv_dup hxx hb dX8_init_49 rfl ?_
  refine lv_bipush (v := 60) hxx hb dX8_init_50 (by decide) ?_
  have a123 : ∀ a, q_nw q101 H102.size a → q_nw h s.heap.size a := nw_in gg_q101 (Nat.le_trans gg_q101 (Nat.le_of_lt mm_q101))
  refine b_cv (b_runI (As := [.int 60]) (rest := [.ref q101, .ref h]) E (hml.trans hl.1.symm) D83 w108 k111 b106 rfl (n_X5 l D X72 σ73 q101 H102.size 60 60 (by decide) (by decide) (by decide)) bi_X8_24 rfl ⟨Nat.le_of_ble_eq_true rfl, Nat.le_of_ble_eq_true rfl⟩ ⟨Nat.le_of_ble_eq_true rfl, Nat.le_of_ble_eq_true rfl⟩ rfl (Nat.le_of_ble_eq_true rfl) dX8_init_52) S107 rfl a123 (fun X113 σ114 H115 locs1 x116 k117 p118 w119 z120 o121 S122 => ?_)
  try clear k111; try clear S107; try clear b106
  have D124 : X113.1 = D := x116.1.trans D83
  try clear D83
  have k125 : q_kd X113 h = 0 := x116.k0 k84 (by first | exact (nw_no hq101 (Nat.lt_trans hq101 mm_q101)) | (rintro (e | e) <;> omega))
  try clear k84
  have b126 := b109.kept (o121 h t110 (by first | exact (Nat.ne_of_lt hq101) | omega))
  try clear o121; try clear b109
  have t127 := t_lt b126
  try clear t110
  have y128 := y87.tr p118.1.1 (fun c hc => by rw [(x88.2.2.2.1 c hc).1]; exact hc)
  try clear y87
  have x129 := x88.tr x116 a123
  try clear x88
  have k130 := x116.kd k89 (by decide)
  have k131 := x116.kd k76 (by decide)
  have y132 := p118.1.1 q22 (by rw [k89]; decide) y90
  try clear y90
  have y133 := p118.1.1 q60 (by rw [k76]; decide) y92
  try clear y92
  have y134 := y_rlx x116 w108.1 k89 y91
  try clear y91; try clear k89
  have y135 := y_rlx x116 w108.1 k76 y93
  try clear x116; try clear w108; try clear y93; try clear k76
  have y136 := p118.1.2
  have y137 := p118.2
  try clear p118
  refine b_put E S122 hAh hnm (f := 5) b126 (show vwCl[7]? = some (RX8, TX8, 8) from rfl) q_inX8 tyX8_ok nmX8 (by decide) bw_201 rfl (fun _ => rfl) (tyX8_ok 5 (by decide)) rfl rfl dX8_init_55 (fun H138 locs1 z139 o140 b141 S142 => ?_)
  try clear b126; try clear S122
  have w143 : q_w X113 σ114 H138 := w119.kept (fun a ha => o140 a (fun e => ha (by rw [e]; exact k125)))
  try clear o140; try clear w119
  have t144 := t_lt b141
  try clear t127
  refine lv_aload_n hxx hb dX8_init_58 rfl (lv_at hl 0 rfl) ?_
  refine b_new E S142 bw_185 bw_43 bw_4 (show vwCl[4]? = some (RX5, TX5, 1) from rfl) q_inX5 tyX5 tyX5_ok (Nat.le_of_ble_eq_true rfl) (Nat.le_of_ble_eq_true rfl) dX8_init_59 (fun q145 H146 e147 z148 o149 b150 S151 => ?_)
  have hq145 : h < q145 := by first | exact Nat.lt_of_lt_of_eq t144 e147.symm | omega
  have gg_q145 : s.heap.size ≤ q145 := Nat.le_trans S142.1 (Nat.le_of_eq e147.symm)
  have mm_q145 : q145 < H146.size := by rw [z148, e147]; exact Nat.lt_succ_self _
  have cc_q145 : q101 < q145 := by first | exact Nat.lt_of_lt_of_eq (Nat.lt_of_lt_of_le (Nat.lt_of_lt_of_le mm_q101 z120) (Nat.le_of_eq z139.symm)) e147.symm | omega
  try clear S142
  have w152 : q_w X113 σ114 H146 := w143.kept (fun a ha => o149 a (w143.lt ha))
  have b153 := b141.kept (o149 h t144)
  try clear o149; try clear b141
  have t154 := t_lt b153
  try clear t144
  have k155 : q_kd X113 q145 = 0 := w143.fresh (Nat.le_of_eq e147.symm)
  try clear w143
  have g156 := S151.1
  refine lv_dup hxx hb dX8_init_62 rfl ?_
  refine lv_bipush (v := 60) hxx hb dX8_init_63 (by decide) ?_
  have a167 : ∀ a, q_nw q145 H146.size a → q_nw h s.heap.size a := nw_in gg_q145 (Nat.le_trans gg_q145 (Nat.le_of_lt mm_q145))
  refine b_cv (b_runI (As := [.int 60]) (rest := [.ref q145, .ref h]) E (hml.trans hl.1.symm) D124 w152 k155 b150 rfl (n_X5 l D X113 σ114 q145 H146.size 60 60 (by decide) (by decide) (by decide)) bi_X8_24 rfl ⟨Nat.le_of_ble_eq_true rfl, Nat.le_of_ble_eq_true rfl⟩ ⟨Nat.le_of_ble_eq_true rfl, Nat.le_of_ble_eq_true rfl⟩ rfl (Nat.le_of_ble_eq_true rfl) dX8_init_65) S151 rfl a167 (fun X157 σ158 H159 locs1 x160 k161 p162 w163 z164 o165 S166 => ?_)
  try clear k155; try clear S151; try clear b150
  have D168 : X157.1 = D := x160.1.trans D124
  try clear D124
  have k169 : q_kd X157 h = 0 := x160.k0 k125 (by first | exact (nw_no hq145 (Nat.lt_trans hq145 mm_q145)) | (rintro (e | e) <;> omega))
  try clear k125
  have b170 := b153.kept (o165 h t154 (by first | exact (Nat.ne_of_lt hq145) | omega))
  try clear o165; try clear b153
  have t171 := t_lt b170
  try clear t154
  have y172 := y128.tr p162.1.1 (fun c hc => by rw [(x129.2.2.2.1 c hc).1]; exact hc)
  try clear y128
  have x173 := x129.tr x160 a167
  try clear x129
  have k174 := x160.kd k130 (by decide)
  have k175 := x160.kd k131 (by decide)
  have k176 := x160.kd k117 (by decide)
  have y177 := p162.1.1 q22 (by rw [k130]; decide) y132
  try clear y132
  have y178 := p162.1.1 q60 (by rw [k131]; decide) y133
  try clear y133
  have y179 := p162.1.1 q101 (by rw [k117]; decide) y136
  try clear y136
  have y180 := y_rlx x160 w152.1 k130 y134
  try clear y134; try clear k130
  have y181 := y_rlx x160 w152.1 k131 y135
  try clear y135; try clear k131
  have y182 := y_rlx x160 w152.1 k117 y137
  try clear x160; try clear w152; try clear y137; try clear k117
  have y183 := p162.1.2
  have y184 := p162.2
  try clear p162
  refine b_put E S166 hAh hnm (f := 6) b170 (show vwCl[7]? = some (RX8, TX8, 8) from rfl) q_inX8 tyX8_ok nmX8 (by decide) bw_204 rfl (fun _ => rfl) (tyX8_ok 6 (by decide)) rfl rfl dX8_init_68 (fun H185 locs1 z186 o187 b188 S189 => ?_)
  try clear b170; try clear S166
  have w190 : q_w X157 σ158 H185 := w163.kept (fun a ha => o187 a (fun e => ha (by rw [e]; exact k169)))
  try clear o187; try clear w163
  have t191 := t_lt b188
  try clear t171
  refine lv_aload_n hxx hb dX8_init_71 rfl (lv_at hl 0 rfl) ?_
  refine b_new E S189 bw_185 bw_43 bw_4 (show vwCl[4]? = some (RX5, TX5, 1) from rfl) q_inX5 tyX5 tyX5_ok (Nat.le_of_ble_eq_true rfl) (Nat.le_of_ble_eq_true rfl) dX8_init_72 (fun q192 H193 e194 z195 o196 b197 S198 => ?_)
  have hq192 : h < q192 := by first | exact Nat.lt_of_lt_of_eq t191 e194.symm | omega
  have gg_q192 : s.heap.size ≤ q192 := Nat.le_trans S189.1 (Nat.le_of_eq e194.symm)
  have mm_q192 : q192 < H193.size := by rw [z195, e194]; exact Nat.lt_succ_self _
  have cc_q192 : q145 < q192 := by first | exact Nat.lt_of_lt_of_eq (Nat.lt_of_lt_of_le (Nat.lt_of_lt_of_le mm_q145 z164) (Nat.le_of_eq z186.symm)) e194.symm | omega
  try clear S189
  have w199 : q_w X157 σ158 H193 := w190.kept (fun a ha => o196 a (w190.lt ha))
  have b200 := b188.kept (o196 h t191)
  try clear o196; try clear b188
  have t201 := t_lt b200
  try clear t191
  have k202 : q_kd X157 q192 = 0 := w190.fresh (Nat.le_of_eq e194.symm)
  try clear w190
  have g203 := S198.1
  refine lv_dup hxx hb dX8_init_75 rfl ?_
  refine lv_bipush (v := 60) hxx hb dX8_init_76 (by decide) ?_
  have a214 : ∀ a, q_nw q192 H193.size a → q_nw h s.heap.size a := nw_in gg_q192 (Nat.le_trans gg_q192 (Nat.le_of_lt mm_q192))
  refine b_cv (b_runI (As := [.int 60]) (rest := [.ref q192, .ref h]) E (hml.trans hl.1.symm) D168 w199 k202 b197 rfl (n_X5 l D X157 σ158 q192 H193.size 60 60 (by decide) (by decide) (by decide)) bi_X8_24 rfl ⟨Nat.le_of_ble_eq_true rfl, Nat.le_of_ble_eq_true rfl⟩ ⟨Nat.le_of_ble_eq_true rfl, Nat.le_of_ble_eq_true rfl⟩ rfl (Nat.le_of_ble_eq_true rfl) dX8_init_78) S198 rfl a214 (fun X204 σ205 H206 locs1 x207 k208 p209 w210 z211 o212 S213 => ?_)
  try clear k202; try clear S198; try clear b197
  have D215 : X204.1 = D := x207.1.trans D168
  try clear D168
  have k216 : q_kd X204 h = 0 := x207.k0 k169 (by first | exact (nw_no hq192 (Nat.lt_trans hq192 mm_q192)) | (rintro (e | e) <;> omega))
  try clear k169
  have b217 := b200.kept (o212 h t201 (by first | exact (Nat.ne_of_lt hq192) | omega))
  try clear o212; try clear b200
  have t218 := t_lt b217
  try clear t201
  have y219 := y172.tr p209.1.1 (fun c hc => by rw [(x173.2.2.2.1 c hc).1]; exact hc)
  try clear y172
  have x220 := x173.tr x207 a214
  try clear x173
  have k221 := x207.kd k174 (by decide)
  have k222 := x207.kd k175 (by decide)
  have k223 := x207.kd k176 (by decide)
  have k224 := x207.kd k161 (by decide)
  have y225 := p209.1.1 q22 (by rw [k174]; decide) y177
  try clear y177
  have y226 := p209.1.1 q60 (by rw [k175]; decide) y178
  try clear y178
  have y227 := p209.1.1 q101 (by rw [k176]; decide) y179
  try clear y179
  have y228 := p209.1.1 q145 (by rw [k161]; decide) y183
  try clear y183
  have y229 := y_rlx x207 w199.1 k174 y180
  try clear y180; try clear k174
  have y230 := y_rlx x207 w199.1 k175 y181
  try clear y181; try clear k175
  have y231 := y_rlx x207 w199.1 k176 y182
  try clear y182; try clear k176
  have y232 := y_rlx x207 w199.1 k161 y184
  try clear x207; try clear w199; try clear y184; try clear k161
  have y233 := p209.1.2
  have y234 := p209.2
  try clear p209
  refine b_put E S213 hAh hnm (f := 7) b217 (show vwCl[7]? = some (RX8, TX8, 8) from rfl) q_inX8 tyX8_ok nmX8 (by decide) bw_206 rfl (fun _ => rfl) (tyX8_ok 7 (by decide)) rfl rfl dX8_init_81 (fun H235 locs1 z236 o237 b238 S239 => ?_)
  try clear b217; try clear S213
  have w240 : q_w X204 σ205 H235 := w210.kept (fun a ha => o237 a (fun e => ha (by rw [e]; exact k216)))
  try clear o237; try clear w210
  have t241 := t_lt b238
  try clear t218
  obtain ⟨X242, dX242⟩ : ∃ Y, Y = q_xg X204 h 8 0 (fun f => ([0, 0, 0, q22, q60, q101, q145, q192] : List Nat).getD f 0) := ⟨_, rfl⟩
  obtain ⟨σ243, dσ243⟩ : ∃ τ, τ = q_sg σ205 h (fun f => ([0, 0, 0, 0, 0, 0, 0, 0] : List Int32).getD f 0) (fun f => ([0, 0, 0, 0, 0, 0, 0, 0] : List Int64).getD f 0) 0 := ⟨_, rfl⟩
  have x244 : q_ext (fun a => a = h) X204 X242 σ205 σ243 := by rw [dX242, dσ243]; exact q_ext.add k216
  have hrk : ∀ f, f < 40 → q_rk 8 f ≠ 0 → q_kd X204 (([0, 0, 0, q22, q60, q101, q145, q192] : List Nat).getD f 0) = q_rk 8 f := fun f h40 hf => match f, h40, hf with | 0, _, hf => absurd rfl hf | 1, _, hf => absurd rfl hf | 2, _, hf => absurd rfl hf | 3, _, _ => k221 | 4, _, _ => k222 | 5, _, _ => k223 | 6, _, _ => k224 | 7, _, _ => k208 | 8, _, hf => absurd rfl hf | 9, _, hf => absurd rfl hf | 10, _, hf => absurd rfl hf | 11, _, hf => absurd rfl hf | 12, _, hf => absurd rfl hf | 13, _, hf => absurd rfl hf | 14, _, hf => absurd rfl hf | 15, _, hf => absurd rfl hf | 16, _, hf => absurd rfl hf | 17, _, hf => absurd rfl hf | 18, _, hf => absurd rfl hf | 19, _, hf => absurd rfl hf | 20, _, hf => absurd rfl hf | 21, _, hf => absurd rfl hf | 22, _, hf => absurd rfl hf | 23, _, hf => absurd rfl hf | 24, _, hf => absurd rfl hf | 25, _, hf => absurd rfl hf | 26, _, hf => absurd rfl hf | 27, _, hf => absurd rfl hf | 28, _, hf => absurd rfl hf | 29, _, hf => absurd rfl hf | 30, _, hf => absurd rfl hf | 31, _, hf => absurd rfl hf | 32, _, hf => absurd rfl hf | 33, _, hf => absurd rfl hf | 34, _, hf => absurd rfl hf | 35, _, hf => absurd rfl hf | 36, _, hf => absurd rfl hf | 37, _, hf => absurd rfl hf | 38, _, hf => absurd rfl hf | 39, _, hf => absurd rfl hf | (n + 40), h40, _ => absurd h40 (Nat.not_lt_of_ge (Nat.le_add_left 40 n))
  have hB : ∀ f, f < 40 → (q_bn 8 f).1 ≤ ((([0, 0, 0, 0, 0, 0, 0, 0] : List Int32).getD f 0).toInt) ∧ (([0, 0, 0, 0, 0, 0, 0, 0] : List Int32).getD f 0).toInt ≤ (q_bn 8 f).2 := by decide +kernel
  have y246 : ∀ f, q_rk 8 f ≠ 0 → h < ([0, 0, 0, q22, q60, q101, q145, q192] : List Nat).getD f 0 := by
    intro f hf
    rcases y_fs8 hf with rfl | rfl | rfl | rfl | rfl
    · exact (hq22)
    · exact (hq60)
    · exact (hq101)
    · exact (hq145)
    · exact (hq192)
  have y247 : ∀ f, q_rk 8 f ≠ 0 → y_root X204 (([0, 0, 0, q22, q60, q101, q145, q192] : List Nat).getD f 0) := by
    intro f hf
    rcases y_fs8 hf with rfl | rfl | rfl | rfl | rfl
    · exact y225
    · exact y226
    · exact y227
    · exact y228
    · exact y233
  try clear y233; try clear y228; try clear y227; try clear y226; try clear y225
  have y248 : ∀ f, q_rk 8 f = 5 → q_ln X204 (q_rf X204 (([0, 0, 0, q22, q60, q101, q145, q192] : List Nat).getD f 0) 0) = y_rl 8 f := by
    intro f hf
    rcases y_fs8 (show q_rk 8 f ≠ 0 by rw [hf]; decide) with rfl | rfl | rfl | rfl | rfl
    · exact y229
    · exact y230
    · exact y231
    · exact y232
    · exact y234
  have y249 : ∀ f, q_rk 8 f ≠ 0 → ([0, 0, 0, q22, q60, q101, q145, q192] : List Nat).getD f 0 ≠ h := by
    intro f hf
    rcases y_fs8 hf with rfl | rfl | rfl | rfl | rfl
    · exact ((Nat.ne_of_gt hq22))
    · exact ((Nat.ne_of_gt hq60))
    · exact ((Nat.ne_of_gt hq101))
    · exact ((Nat.ne_of_gt hq145))
    · exact ((Nat.ne_of_gt hq192))
  have y250 : ∀ f, q_rk 8 f ≠ 0 → q_kd X (([0, 0, 0, q22, q60, q101, q145, q192] : List Nat).getD f 0) = 0 := by
    intro f hf
    rcases y_fs8 hf with rfl | rfl | rfl | rfl | rfl
    · exact hw0.fresh (gg_q22)
    · exact hw0.fresh (gg_q60)
    · exact hw0.fresh (gg_q101)
    · exact hw0.fresh (gg_q145)
    · exact hw0.fresh (gg_q192)
  have hIV : ∀ f, f < 60 → ([0, 0, 0, 0, 0, 0, 0, 0] : List Int32).getD f 0 = y_iv 8 f ∧ ([0, 0, 0, 0, 0, 0, 0, 0] : List Int64).getD f 0 = y_il 8 f := by decide +kernel
  have w245 : q_w X242 σ243 H235 := by
    rw [dX242, dσ243]
    exact w240.add k216 (q_hrk hrk) (fun q => absurd rfl q) (by decide) (fun q => absurd q (by decide)) (q_hB hB (by decide)) (fun q => by rcases q with q | q <;> exact absurd q (by decide)) (q_cfO D215 ⟨rfl, by decide⟩ (show vwCl[7]? = some (RX8, TX8, 8) from rfl) b238 (fun f hf => match f, hf with | 0, _ => rfl | 1, _ => rfl | 2, _ => rfl | 3, _ => rfl | 4, _ => rfl | 5, _ => rfl | 6, _ => rfl | 7, _ => rfl | (n + 8), hf => absurd hf (Nat.not_lt_of_ge (Nat.le_add_left 8 n)))) y246 (y_in8 (rf := (fun f => ([0, 0, 0, q22, q60, q101, q145, q192] : List Nat).getD f 0)) (show q22 < q60 from cc_q60) (show q60 < q101 from cc_q101) (show q101 < q145 from cc_q145) (show q145 < q192 from cc_q192)) y247 y248 (fun _ f hf => hIV f (hf.resolve_left (by decide)))
  try clear y248; try clear y247; try clear y246; try clear b238; try clear D215
  have y251 : y_root X242 h := by
    rw [dX242]
    exact (y_root.out w240.1 k216).add y_xg y249
  try clear y249; try clear k216
  have y252 : y_rt X X242 := by
    rw [dX242]
    exact y219.add y_xg y250
  try clear y250; try clear y219
  have k253 : q_kd X242 h = 8 := by rw [dX242]; exact q_xg_h
  have x254 := x220.tr x244 (fun a e => Or.inl e)
  try clear x220
  have y255 := y_rlx x244 w240.1 k221 y229
  try clear y255; try clear y229
  have y256 := y_rlx x244 w240.1 k222 y230
  try clear y256; try clear y230
  have y257 := y_rlx x244 w240.1 k223 y231
  try clear y257; try clear y231
  have y258 := y_rlx x244 w240.1 k224 y232
  try clear y258; try clear y232
  have y259 := y_rlx x244 w240.1 k208 y234
  try clear y259; try clear w240; try clear y234
  have k260 := x244.kd k221 (by decide)
  try clear k260; try clear k221
  have k261 := x244.kd k222 (by decide)
  try clear k261; try clear k222
  have k262 := x244.kd k223 (by decide)
  try clear k262; try clear k223
  have k263 := x244.kd k224 (by decide)
  try clear k263; try clear k224
  have k264 := x244.kd k208 (by decide)
  try clear k264; try clear x244; try clear k208
  exact b_ret E hr hlk S239 x254 k253 ⟨⟨y252, y251⟩, trivial⟩ w245 dX8_init_84

set_option maxRecDepth 100000 in
set_option maxHeartbeats 4000000 in
theorem n_X7 (l : Launch) (D : DW) (X : XW) (σ : ST) (h sz : Nat) : Met l yX7_init (q_ws yX7_init cX7_init 1 none) { frames := 2, cells := 2, slots := 61, locals := 45 } (q_PN D X σ h sz 6 8 (fun k => defaultValue (tyX7 k)) [.ref h]) (q_QN X σ h sz 7 (fun X' _ => (y_rt X X' ∧ y_root X' h) ∧ True)) 2 61 (q_nw h sz) := by
  refine b_met  (by first | exact rfl | decide +kernel) rfl rfl (Nat.le_of_ble_eq_true rfl) (fun p e s m below meth c E hml hr hlk hnm hsz hD hw0 h00 hob ls hl => ?_)
  subst hsz
  have hxx := E.1
  have hb := E.2.1
  have hl : lv_has ls 1 [(0, .ref h)] := hl
  have hS : va_S (q_nw h s.heap.size) s.heap s.heap [] := va_S.rf
  have hx0 : q_ext (q_nw h s.heap.size) X X σ σ := q_ext.rf
  have hAh : q_nw h s.heap.size h := Or.inl rfl
  have yr0 : y_rt X X := y_rt.rf
  have hlt := t_lt hob
  refine lv_aload_n hxx hb dX7_init_0 rfl (lv_at hl 0 rfl) ?_
  refine W.objInit hxx hb E.2.2.1 (E.2.2.2.1 _ bw_391) (E.2.2.2.1 _ bw_26) (E.2.2.2.1 _ bw_27) rfl (by rw [hml]; exact hl.1) rfl dX7_init_1 (Nat.le_of_ble_eq_true rfl) (Nat.le_of_ble_eq_true rfl) ?_
  refine W.eq (g2 := F0 m 4 ls []) rfl ?_
  refine lv_aload_n hxx hb dX7_init_4 rfl (lv_at hl 0 rfl) ?_
  refine lv_iconst (v := 0) hxx hb dX7_init_5 (by decide) ?_
  refine b_put E hS hAh hnm (f := 0) hob (show vwCl[6]? = some (RX7, TX7, 8) from rfl) q_inX7 tyX7_ok nmX7 (by decide) bw_394 rfl (fun _ => rfl) (tyX7_ok 0 (by decide)) rfl rfl dX7_init_6 (fun H1 locs1 z2 o3 b4 S5 => ?_)
  have w6 : q_w X σ H1 := hw0.kept (fun a ha => o3 a (fun e => ha (by rw [e]; exact h00)))
  try clear o3
  have t7 := t_lt b4
  refine lv_aload_n hxx hb dX7_init_9 rfl (lv_at hl 0 rfl) ?_
  refine lv_iconst (v := 0) hxx hb dX7_init_10 (by decide) ?_
  refine b_put E S5 hAh hnm (f := 1) b4 (show vwCl[6]? = some (RX7, TX7, 8) from rfl) q_inX7 tyX7_ok nmX7 (by decide) bw_396 rfl (fun _ => rfl) (tyX7_ok 1 (by decide)) rfl rfl dX7_init_11 (fun H8 locs1 z9 o10 b11 S12 => ?_)
  try clear S5; try clear b4
  have w13 : q_w X σ H8 := w6.kept (fun a ha => o10 a (fun e => ha (by rw [e]; exact h00)))
  try clear o10; try clear w6
  have t14 := t_lt b11
  try clear t7
  refine lv_aload_n hxx hb dX7_init_14 rfl (lv_at hl 0 rfl) ?_
  refine lv_iconst (v := 0) hxx hb dX7_init_15 (by decide) ?_
  refine b_put E S12 hAh hnm (f := 2) b11 (show vwCl[6]? = some (RX7, TX7, 8) from rfl) q_inX7 tyX7_ok nmX7 (by decide) bw_398 rfl (fun _ => rfl) (tyX7_ok 2 (by decide)) rfl rfl dX7_init_16 (fun H15 locs1 z16 o17 b18 S19 => ?_)
  try clear S12; try clear b11
  have w20 : q_w X σ H15 := w13.kept (fun a ha => o17 a (fun e => ha (by rw [e]; exact h00)))
  try clear o17; try clear w13
  have t21 := t_lt b18
  try clear t14
  refine lv_aload_n hxx hb dX7_init_19 rfl (lv_at hl 0 rfl) ?_
  refine lv_iconst (v := 0) hxx hb dX7_init_20 (by decide) ?_
  refine b_put E S19 hAh hnm (f := 3) b18 (show vwCl[6]? = some (RX7, TX7, 8) from rfl) q_inX7 tyX7_ok nmX7 (by decide) bw_400 rfl (fun _ => rfl) (tyX7_ok 3 (by decide)) rfl rfl dX7_init_21 (fun H22 locs1 z23 o24 b25 S26 => ?_)
  try clear S19; try clear b18
  have w27 : q_w X σ H22 := w20.kept (fun a ha => o24 a (fun e => ha (by rw [e]; exact h00)))
  try clear o24; try clear w20
  have t28 := t_lt b25
  try clear t21
  refine lv_aload_n hxx hb dX7_init_24 rfl (lv_at hl 0 rfl) ?_
  refine lv_iconst (v := 0) hxx hb dX7_init_25 (by decide) ?_
  refine b_put E S26 hAh hnm (f := 4) b25 (show vwCl[6]? = some (RX7, TX7, 8) from rfl) q_inX7 tyX7_ok nmX7 (by decide) bw_402 rfl (fun _ => rfl) (tyX7_ok 4 (by decide)) rfl rfl dX7_init_26 (fun H29 locs1 z30 o31 b32 S33 => ?_)
  try clear S26; try clear b25
  have w34 : q_w X σ H29 := w27.kept (fun a ha => o31 a (fun e => ha (by rw [e]; exact h00)))
  try clear o31; try clear w27
  have t35 := t_lt b32
  try clear t28
  refine lv_aload_n hxx hb dX7_init_29 rfl (lv_at hl 0 rfl) ?_
  refine lv_iconst (v := 0) hxx hb dX7_init_30 (by decide) ?_
  refine b_put E S33 hAh hnm (f := 5) b32 (show vwCl[6]? = some (RX7, TX7, 8) from rfl) q_inX7 tyX7_ok nmX7 (by decide) bw_404 rfl (fun _ => rfl) (tyX7_ok 5 (by decide)) rfl rfl dX7_init_31 (fun H36 locs1 z37 o38 b39 S40 => ?_)
  try clear S33; try clear b32
  have w41 : q_w X σ H36 := w34.kept (fun a ha => o38 a (fun e => ha (by rw [e]; exact h00)))
  try clear o38; try clear w34
  have t42 := t_lt b39
  try clear t35
  refine lv_aload_n hxx hb dX7_init_34 rfl (lv_at hl 0 rfl) ?_
  refine lv_iconst (v := 0) hxx hb dX7_init_35 (by decide) ?_
  refine b_put E S40 hAh hnm (f := 6) b39 (show vwCl[6]? = some (RX7, TX7, 8) from rfl) q_inX7 tyX7_ok nmX7 (by decide) bw_406 rfl (fun _ => rfl) (tyX7_ok 6 (by decide)) rfl rfl dX7_init_36 (fun H43 locs1 z44 o45 b46 S47 => ?_)
  try clear S40; try clear b39
  have w48 : q_w X σ H43 := w41.kept (fun a ha => o45 a (fun e => ha (by rw [e]; exact h00)))
  try clear o45; try clear w41
  have t49 := t_lt b46
  try clear t42
  refine lv_aload_n hxx hb dX7_init_39 rfl (lv_at hl 0 rfl) ?_
  refine b_new E S47 bw_392 bw_43 bw_4 (show vwCl[4]? = some (RX5, TX5, 1) from rfl) q_inX5 tyX5 tyX5_ok (Nat.le_of_ble_eq_true rfl) (Nat.le_of_ble_eq_true rfl) dX7_init_40 (fun q50 H51 e52 z53 o54 b55 S56 => ?_)
  have hq50 : h < q50 := by first | exact Nat.lt_of_lt_of_eq t49 e52.symm | omega
  have gg_q50 : s.heap.size ≤ q50 := Nat.le_trans S47.1 (Nat.le_of_eq e52.symm)
  have mm_q50 : q50 < H51.size := by rw [z53, e52]; exact Nat.lt_succ_self _
  try clear S47
  have w57 : q_w X σ H51 := w48.kept (fun a ha => o54 a (w48.lt ha))
  have b58 := b46.kept (o54 h t49)
  try clear o54; try clear b46
  have t59 := t_lt b58
  try clear t49
  have k60 : q_kd X q50 = 0 := w48.fresh (Nat.le_of_eq e52.symm)
  try clear w48
  have g61 := S56.1
  refine lv_dup hxx hb dX7_init_43 rfl ?_
  refine lv_bipush (v := 60) hxx hb dX7_init_44 (by decide) ?_
  have a72 : ∀ a, q_nw q50 H51.size a → q_nw h s.heap.size a := nw_in gg_q50 (Nat.le_trans gg_q50 (Nat.le_of_lt mm_q50))
  refine b_cv (b_runI (As := [.int 60]) (rest := [.ref q50, .ref h]) E (hml.trans hl.1.symm) hD w57 k60 b55 rfl (n_X5 l D X σ q50 H51.size 60 60 (by decide) (by decide) (by decide)) bi_X7_38 rfl ⟨Nat.le_of_ble_eq_true rfl, Nat.le_of_ble_eq_true rfl⟩ ⟨Nat.le_of_ble_eq_true rfl, Nat.le_of_ble_eq_true rfl⟩ rfl (Nat.le_of_ble_eq_true rfl) dX7_init_46) S56 rfl a72 (fun X62 σ63 H64 locs1 x65 k66 p67 w68 z69 o70 S71 => ?_)
  try clear k60; try clear w57; try clear S56; try clear b55
  have D73 : X62.1 = D := x65.1.trans hD
  have k74 : q_kd X62 h = 0 := x65.k0 h00 (by first | exact (nw_no hq50 (Nat.lt_trans hq50 mm_q50)) | (rintro (e | e) <;> omega))
  have b75 := b58.kept (o70 h t59 (by first | exact (Nat.ne_of_lt hq50) | omega))
  try clear o70; try clear b58
  have t76 := t_lt b75
  try clear t59
  have y77 := yr0.tr p67.1.1 (fun c hc => by rw [(hx0.2.2.2.1 c hc).1]; exact hc)
  have x78 := hx0.tr x65 a72
  try clear x65
  have y79 := p67.1.2
  have y80 := p67.2
  try clear p67
  refine b_put E S71 hAh hnm (f := 7) b75 (show vwCl[6]? = some (RX7, TX7, 8) from rfl) q_inX7 tyX7_ok nmX7 (by decide) bw_407 rfl (fun _ => rfl) (tyX7_ok 7 (by decide)) rfl rfl dX7_init_49 (fun H81 locs1 z82 o83 b84 S85 => ?_)
  try clear b75; try clear S71
  have w86 : q_w X62 σ63 H81 := w68.kept (fun a ha => o83 a (fun e => ha (by rw [e]; exact k74)))
  try clear o83; try clear w68
  have t87 := t_lt b84
  try clear t76
  obtain ⟨X88, dX88⟩ : ∃ Y, Y = q_xg X62 h 7 0 (fun f => ([0, 0, 0, 0, 0, 0, 0, q50] : List Nat).getD f 0) := ⟨_, rfl⟩
  obtain ⟨σ89, dσ89⟩ : ∃ τ, τ = q_sg σ63 h (fun f => ([0, 0, 0, 0, 0, 0, 0, 0] : List Int32).getD f 0) (fun f => ([0, 0, 0, 0, 0, 0, 0, 0] : List Int64).getD f 0) 0 := ⟨_, rfl⟩
  have x90 : q_ext (fun a => a = h) X62 X88 σ63 σ89 := by rw [dX88, dσ89]; exact q_ext.add k74
  have hrk : ∀ f, f < 40 → q_rk 7 f ≠ 0 → q_kd X62 (([0, 0, 0, 0, 0, 0, 0, q50] : List Nat).getD f 0) = q_rk 7 f := fun f h40 hf => match f, h40, hf with | 0, _, hf => absurd rfl hf | 1, _, hf => absurd rfl hf | 2, _, hf => absurd rfl hf | 3, _, hf => absurd rfl hf | 4, _, hf => absurd rfl hf | 5, _, hf => absurd rfl hf | 6, _, hf => absurd rfl hf | 7, _, _ => k66 | 8, _, hf => absurd rfl hf | 9, _, hf => absurd rfl hf | 10, _, hf => absurd rfl hf | 11, _, hf => absurd rfl hf | 12, _, hf => absurd rfl hf | 13, _, hf => absurd rfl hf | 14, _, hf => absurd rfl hf | 15, _, hf => absurd rfl hf | 16, _, hf => absurd rfl hf | 17, _, hf => absurd rfl hf | 18, _, hf => absurd rfl hf | 19, _, hf => absurd rfl hf | 20, _, hf => absurd rfl hf | 21, _, hf => absurd rfl hf | 22, _, hf => absurd rfl hf | 23, _, hf => absurd rfl hf | 24, _, hf => absurd rfl hf | 25, _, hf => absurd rfl hf | 26, _, hf => absurd rfl hf | 27, _, hf => absurd rfl hf | 28, _, hf => absurd rfl hf | 29, _, hf => absurd rfl hf | 30, _, hf => absurd rfl hf | 31, _, hf => absurd rfl hf | 32, _, hf => absurd rfl hf | 33, _, hf => absurd rfl hf | 34, _, hf => absurd rfl hf | 35, _, hf => absurd rfl hf | 36, _, hf => absurd rfl hf | 37, _, hf => absurd rfl hf | 38, _, hf => absurd rfl hf | 39, _, hf => absurd rfl hf | (n + 40), h40, _ => absurd h40 (Nat.not_lt_of_ge (Nat.le_add_left 40 n))
  have hB : ∀ f, f < 40 → (q_bn 7 f).1 ≤ ((([0, 0, 0, 0, 0, 0, 0, 0] : List Int32).getD f 0).toInt) ∧ (([0, 0, 0, 0, 0, 0, 0, 0] : List Int32).getD f 0).toInt ≤ (q_bn 7 f).2 := by decide +kernel
  have y92 : ∀ f, q_rk 7 f ≠ 0 → h < ([0, 0, 0, 0, 0, 0, 0, q50] : List Nat).getD f 0 := by
    intro f hf
    rcases y_fs7 hf with rfl
    · exact (hq50)
  have y93 : ∀ f, q_rk 7 f ≠ 0 → y_root X62 (([0, 0, 0, 0, 0, 0, 0, q50] : List Nat).getD f 0) := by
    intro f hf
    rcases y_fs7 hf with rfl
    · exact y79
  try clear y79
  have y94 : ∀ f, q_rk 7 f = 5 → q_ln X62 (q_rf X62 (([0, 0, 0, 0, 0, 0, 0, q50] : List Nat).getD f 0) 0) = y_rl 7 f := by
    intro f hf
    rcases y_fs7 (show q_rk 7 f ≠ 0 by rw [hf]; decide) with rfl
    · exact y80
  have y95 : ∀ f, q_rk 7 f ≠ 0 → ([0, 0, 0, 0, 0, 0, 0, q50] : List Nat).getD f 0 ≠ h := by
    intro f hf
    rcases y_fs7 hf with rfl
    · exact ((Nat.ne_of_gt hq50))
  have y96 : ∀ f, q_rk 7 f ≠ 0 → q_kd X (([0, 0, 0, 0, 0, 0, 0, q50] : List Nat).getD f 0) = 0 := by
    intro f hf
    rcases y_fs7 hf with rfl
    · exact hw0.fresh (gg_q50)
  have hIV : ∀ f, f < 60 → ([0, 0, 0, 0, 0, 0, 0, 0] : List Int32).getD f 0 = y_iv 7 f ∧ ([0, 0, 0, 0, 0, 0, 0, 0] : List Int64).getD f 0 = y_il 7 f := by decide +kernel
  have w91 : q_w X88 σ89 H81 := by
    rw [dX88, dσ89]
    exact w86.add k74 (q_hrk hrk) (fun q => absurd rfl q) (by decide) (fun q => absurd q (by decide)) (q_hB hB (by decide)) (fun q => by rcases q with q | q <;> exact absurd q (by decide)) (q_cfO D73 ⟨rfl, by decide⟩ (show vwCl[6]? = some (RX7, TX7, 8) from rfl) b84 (fun f hf => match f, hf with | 0, _ => rfl | 1, _ => rfl | 2, _ => rfl | 3, _ => rfl | 4, _ => rfl | 5, _ => rfl | 6, _ => rfl | 7, _ => rfl | (n + 8), hf => absurd hf (Nat.not_lt_of_ge (Nat.le_add_left 8 n)))) y92 (y_in7 (rf := (fun f => ([0, 0, 0, 0, 0, 0, 0, q50] : List Nat).getD f 0))) y93 y94 (fun _ f hf => hIV f (hf.resolve_left (by decide)))
  try clear y94; try clear y93; try clear y92; try clear b84; try clear D73
  have y97 : y_root X88 h := by
    rw [dX88]
    exact (y_root.out w86.1 k74).add y_xg y95
  try clear y95; try clear k74
  have y98 : y_rt X X88 := by
    rw [dX88]
    exact y77.add y_xg y96
  try clear y96; try clear y77
  have k99 : q_kd X88 h = 7 := by rw [dX88]; exact q_xg_h
  have x100 := x78.tr x90 (fun a e => Or.inl e)
  try clear x78
  have y101 := y_rlx x90 w86.1 k66 y80
  try clear y101; try clear w86; try clear y80
  have k102 := x90.kd k66 (by decide)
  try clear k102; try clear x90; try clear k66
  exact b_ret E hr hlk S85 x100 k99 ⟨⟨y98, y97⟩, trivial⟩ w91 dX7_init_52

set_option maxRecDepth 100000 in
set_option maxHeartbeats 4000000 in
theorem n_X0 (l : Launch) (D : DW) (X : XW) (σ : ST) (h sz : Nat) : Met l yX0_init (q_ws yX0_init cX0_init 1 none) { frames := 3, cells := 46, slots := 1144, locals := 65 } (q_PN D X σ h sz 0 15 (fun k => defaultValue (tyX0 k)) [.ref h]) (q_QN X σ h sz 1 (fun X' _ => (y_rt X X' ∧ y_root X' h) ∧ True)) 46 1144 (q_nw h sz) := by
  refine b_met  (by first | exact rfl | decide +kernel) rfl rfl (Nat.le_of_ble_eq_true rfl) (fun p e s m below meth c E hml hr hlk hnm hsz hD hw0 h00 hob ls hl => ?_)
  subst hsz
  have hxx := E.1
  have hb := E.2.1
  have hl : lv_has ls 1 [(0, .ref h)] := hl
  have hS : va_S (q_nw h s.heap.size) s.heap s.heap [] := va_S.rf
  have hx0 : q_ext (q_nw h s.heap.size) X X σ σ := q_ext.rf
  have hAh : q_nw h s.heap.size h := Or.inl rfl
  have yr0 : y_rt X X := y_rt.rf
  have hlt := t_lt hob
  refine lv_aload_n hxx hb dX0_init_0 rfl (lv_at hl 0 rfl) ?_
  refine W.objInit hxx hb E.2.2.1 (E.2.2.2.1 _ bw_35) (E.2.2.2.1 _ bw_26) (E.2.2.2.1 _ bw_27) rfl (by rw [hml]; exact hl.1) rfl dX0_init_1 (Nat.le_of_ble_eq_true rfl) (Nat.le_of_ble_eq_true rfl) ?_
  refine W.eq (g2 := F0 m 4 ls []) rfl ?_
  refine lv_aload_n hxx hb dX0_init_4 rfl (lv_at hl 0 rfl) ?_
  refine b_new E hS bw_36 bw_37 bw_3 (show vwCl[5]? = some (RX6, TX6, 8) from rfl) q_inX6 tyX6 tyX6_ok (Nat.le_of_ble_eq_true rfl) (Nat.le_of_ble_eq_true rfl) dX0_init_5 (fun q1 H2 e3 z4 o5 b6 S7 => ?_)
  have hq1 : h < q1 := by first | exact Nat.lt_of_lt_of_eq hlt e3.symm | omega
  have gg_q1 : s.heap.size ≤ q1 := Nat.le_trans hS.1 (Nat.le_of_eq e3.symm)
  have mm_q1 : q1 < H2.size := by rw [z4, e3]; exact Nat.lt_succ_self _
  have w8 : q_w X σ H2 := hw0.kept (fun a ha => o5 a (hw0.lt ha))
  have b9 := hob.kept (o5 h hlt)
  try clear o5
  have t10 := t_lt b9
  have k11 : q_kd X q1 = 0 := hw0.fresh (Nat.le_of_eq e3.symm)
  have g12 := S7.1
  refine lv_dup hxx hb dX0_init_8 rfl ?_
  have a23 : ∀ a, q_nw q1 H2.size a → q_nw h s.heap.size a := nw_in gg_q1 (Nat.le_trans gg_q1 (Nat.le_of_lt mm_q1))
  refine b_cv (b_runN (As := []) (rest := [.ref q1, .ref h]) E (hml.trans hl.1.symm) hD w8 k11 b6 rfl (n_X6 l D X σ q1 H2.size) bi_X0_11 rfl ⟨Nat.le_of_ble_eq_true rfl, Nat.le_of_ble_eq_true rfl⟩ ⟨Nat.le_of_ble_eq_true rfl, Nat.le_of_ble_eq_true rfl⟩ rfl (Nat.le_of_ble_eq_true rfl) dX0_init_9) S7 rfl a23 (fun X13 σ14 H15 locs1 x16 k17 p18 w19 z20 o21 S22 => ?_)
  try clear k11; try clear w8; try clear S7; try clear b6
  have D24 : X13.1 = D := x16.1.trans hD
  have k25 : q_kd X13 h = 0 := x16.k0 h00 (by first | exact (nw_no hq1 (Nat.lt_trans hq1 mm_q1)) | (rintro (e | e) <;> omega))
  have b26 := b9.kept (o21 h t10 (by first | exact (Nat.ne_of_lt hq1) | omega))
  try clear o21; try clear b9
  have t27 := t_lt b26
  try clear t10
  have y28 := yr0.tr p18.1.1 (fun c hc => by rw [(hx0.2.2.2.1 c hc).1]; exact hc)
  have x29 := hx0.tr x16 a23
  try clear x16
  have y30 := p18.1.2
  try clear p18
  refine b_put E S22 hAh hnm (f := 0) b26 (show vwCl[0]? = some (RX0, TX0, 15) from rfl) q_inX0 tyX0_ok nmX0 (by decide) bw_228 rfl (fun _ => rfl) (tyX0_ok 0 (by decide)) rfl rfl dX0_init_12 (fun H31 locs1 z32 o33 b34 S35 => ?_)
  try clear b26; try clear S22
  have w36 : q_w X13 σ14 H31 := w19.kept (fun a ha => o33 a (fun e => ha (by rw [e]; exact k25)))
  try clear o33; try clear w19
  have t37 := t_lt b34
  try clear t27
  refine lv_aload_n hxx hb dX0_init_15 rfl (lv_at hl 0 rfl) ?_
  refine b_new E S35 bw_101 bw_102 bw_6 (show vwCl[1]? = some (RX1, TX1, 7) from rfl) q_inX1 tyX1 tyX1_ok (Nat.le_of_ble_eq_true rfl) (Nat.le_of_ble_eq_true rfl) dX0_init_16 (fun q38 H39 e40 z41 o42 b43 S44 => ?_)
  have hq38 : h < q38 := by first | exact Nat.lt_of_lt_of_eq t37 e40.symm | omega
  have gg_q38 : s.heap.size ≤ q38 := Nat.le_trans S35.1 (Nat.le_of_eq e40.symm)
  have mm_q38 : q38 < H39.size := by rw [z41, e40]; exact Nat.lt_succ_self _
  have cc_q38 : q1 < q38 := by first | exact Nat.lt_of_lt_of_eq (Nat.lt_of_lt_of_le (Nat.lt_of_lt_of_le mm_q1 z20) (Nat.le_of_eq z32.symm)) e40.symm | omega
  try clear S35
  have w45 : q_w X13 σ14 H39 := w36.kept (fun a ha => o42 a (w36.lt ha))
  have b46 := b34.kept (o42 h t37)
  try clear o42; try clear b34
  have t47 := t_lt b46
  try clear t37
  have k48 : q_kd X13 q38 = 0 := w36.fresh (Nat.le_of_eq e40.symm)
  try clear w36
  have g49 := S44.1
  refine lv_dup hxx hb dX0_init_19 rfl ?_
  have a60 : ∀ a, q_nw q38 H39.size a → q_nw h s.heap.size a := nw_in gg_q38 (Nat.le_trans gg_q38 (Nat.le_of_lt mm_q38))
  refine b_cv (b_runN (As := []) (rest := [.ref q38, .ref h]) E (hml.trans hl.1.symm) D24 w45 k48 b43 rfl (n_X1 l D X13 σ14 q38 H39.size) bi_X0_20 rfl ⟨Nat.le_of_ble_eq_true rfl, Nat.le_of_ble_eq_true rfl⟩ ⟨Nat.le_of_ble_eq_true rfl, Nat.le_of_ble_eq_true rfl⟩ rfl (Nat.le_of_ble_eq_true rfl) dX0_init_20) S44 rfl a60 (fun X50 σ51 H52 locs1 x53 k54 p55 w56 z57 o58 S59 => ?_)
  try clear k48; try clear w45; try clear S44; try clear b43
  have D61 : X50.1 = D := x53.1.trans D24
  try clear D24
  have k62 : q_kd X50 h = 0 := x53.k0 k25 (by first | exact (nw_no hq38 (Nat.lt_trans hq38 mm_q38)) | (rintro (e | e) <;> omega))
  try clear k25
  have b63 := b46.kept (o58 h t47 (by first | exact (Nat.ne_of_lt hq38) | omega))
  try clear o58; try clear b46
  have t64 := t_lt b63
  try clear t47
  have y65 := y28.tr p55.1.1 (fun c hc => by rw [(x29.2.2.2.1 c hc).1]; exact hc)
  try clear y28
  have x66 := x29.tr x53 a60
  try clear x29
  have k67 := x53.kd k17 (by decide)
  try clear x53
  have y68 := p55.1.1 q1 (by rw [k17]; decide) y30
  try clear y30; try clear k17
  have y69 := p55.1.2
  try clear p55
  refine b_put E S59 hAh hnm (f := 1) b63 (show vwCl[0]? = some (RX0, TX0, 15) from rfl) q_inX0 tyX0_ok nmX0 (by decide) bw_232 rfl (fun _ => rfl) (tyX0_ok 1 (by decide)) rfl rfl dX0_init_23 (fun H70 locs1 z71 o72 b73 S74 => ?_)
  try clear b63; try clear S59
  have w75 : q_w X50 σ51 H70 := w56.kept (fun a ha => o72 a (fun e => ha (by rw [e]; exact k62)))
  try clear o72; try clear w56
  have t76 := t_lt b73
  try clear t64
  refine lv_aload_n hxx hb dX0_init_26 rfl (lv_at hl 0 rfl) ?_
  refine b_new E S74 bw_145 bw_146 bw_7 (show vwCl[2]? = some (RX2, TX2, 6) from rfl) q_inX2 tyX2 tyX2_ok (Nat.le_of_ble_eq_true rfl) (Nat.le_of_ble_eq_true rfl) dX0_init_27 (fun q77 H78 e79 z80 o81 b82 S83 => ?_)
  have hq77 : h < q77 := by first | exact Nat.lt_of_lt_of_eq t76 e79.symm | omega
  have gg_q77 : s.heap.size ≤ q77 := Nat.le_trans S74.1 (Nat.le_of_eq e79.symm)
  have mm_q77 : q77 < H78.size := by rw [z80, e79]; exact Nat.lt_succ_self _
  have cc_q77 : q38 < q77 := by first | exact Nat.lt_of_lt_of_eq (Nat.lt_of_lt_of_le (Nat.lt_of_lt_of_le mm_q38 z57) (Nat.le_of_eq z71.symm)) e79.symm | omega
  try clear S74
  have w84 : q_w X50 σ51 H78 := w75.kept (fun a ha => o81 a (w75.lt ha))
  have b85 := b73.kept (o81 h t76)
  try clear o81; try clear b73
  have t86 := t_lt b85
  try clear t76
  have k87 : q_kd X50 q77 = 0 := w75.fresh (Nat.le_of_eq e79.symm)
  try clear w75
  have g88 := S83.1
  refine lv_dup hxx hb dX0_init_30 rfl ?_
  have a99 : ∀ a, q_nw q77 H78.size a → q_nw h s.heap.size a := nw_in gg_q77 (Nat.le_trans gg_q77 (Nat.le_of_lt mm_q77))
  refine b_cv (b_runN (As := []) (rest := [.ref q77, .ref h]) E (hml.trans hl.1.symm) D61 w84 k87 b82 rfl (n_X2 l D X50 σ51 q77 H78.size) bi_X0_27 rfl ⟨Nat.le_of_ble_eq_true rfl, Nat.le_of_ble_eq_true rfl⟩ ⟨Nat.le_of_ble_eq_true rfl, Nat.le_of_ble_eq_true rfl⟩ rfl (Nat.le_of_ble_eq_true rfl) dX0_init_31) S83 rfl a99 (fun X89 σ90 H91 locs1 x92 k93 p94 w95 z96 o97 S98 => ?_)
  try clear k87; try clear w84; try clear S83; try clear b82
  have D100 : X89.1 = D := x92.1.trans D61
  try clear D61
  have k101 : q_kd X89 h = 0 := x92.k0 k62 (by first | exact (nw_no hq77 (Nat.lt_trans hq77 mm_q77)) | (rintro (e | e) <;> omega))
  try clear k62
  have b102 := b85.kept (o97 h t86 (by first | exact (Nat.ne_of_lt hq77) | omega))
  try clear o97; try clear b85
  have t103 := t_lt b102
  try clear t86
  have y104 := y65.tr p94.1.1 (fun c hc => by rw [(x66.2.2.2.1 c hc).1]; exact hc)
  try clear y65
  have x105 := x66.tr x92 a99
  try clear x66
  have k106 := x92.kd k67 (by decide)
  have k107 := x92.kd k54 (by decide)
  try clear x92
  have y108 := p94.1.1 q1 (by rw [k67]; decide) y68
  try clear y68; try clear k67
  have y109 := p94.1.1 q38 (by rw [k54]; decide) y69
  try clear y69; try clear k54
  have y110 := p94.1.2
  try clear p94
  refine b_put E S98 hAh hnm (f := 2) b102 (show vwCl[0]? = some (RX0, TX0, 15) from rfl) q_inX0 tyX0_ok nmX0 (by decide) bw_236 rfl (fun _ => rfl) (tyX0_ok 2 (by decide)) rfl rfl dX0_init_34 (fun H111 locs1 z112 o113 b114 S115 => ?_)
  try clear b102; try clear S98
  have w116 : q_w X89 σ90 H111 := w95.kept (fun a ha => o113 a (fun e => ha (by rw [e]; exact k101)))
  try clear o113; try clear w95
  have t117 := t_lt b114
  try clear t103
  refine lv_aload_n hxx hb dX0_init_37 rfl (lv_at hl 0 rfl) ?_
  refine b_new E S115 bw_179 bw_180 bw_8 (show vwCl[7]? = some (RX8, TX8, 8) from rfl) q_inX8 tyX8 tyX8_ok (Nat.le_of_ble_eq_true rfl) (Nat.le_of_ble_eq_true rfl) dX0_init_38 (fun q118 H119 e120 z121 o122 b123 S124 => ?_)
  have hq118 : h < q118 := by first | exact Nat.lt_of_lt_of_eq t117 e120.symm | omega
  have gg_q118 : s.heap.size ≤ q118 := Nat.le_trans S115.1 (Nat.le_of_eq e120.symm)
  have mm_q118 : q118 < H119.size := by rw [z121, e120]; exact Nat.lt_succ_self _
  have cc_q118 : q77 < q118 := by first | exact Nat.lt_of_lt_of_eq (Nat.lt_of_lt_of_le (Nat.lt_of_lt_of_le mm_q77 z96) (Nat.le_of_eq z112.symm)) e120.symm | omega
  try clear S115
  have w125 : q_w X89 σ90 H119 := w116.kept (fun a ha => o122 a (w116.lt ha))
  have b126 := b114.kept (o122 h t117)
  try clear o122; try clear b114
  have t127 := t_lt b126
  try clear t117
  have k128 : q_kd X89 q118 = 0 := w116.fresh (Nat.le_of_eq e120.symm)
  try clear w116
  have g129 := S124.1
  refine lv_dup hxx hb dX0_init_41 rfl ?_
  have a140 : ∀ a, q_nw q118 H119.size a → q_nw h s.heap.size a := nw_in gg_q118 (Nat.le_trans gg_q118 (Nat.le_of_lt mm_q118))
  refine b_cv (b_runN (As := []) (rest := [.ref q118, .ref h]) E (hml.trans hl.1.symm) D100 w125 k128 b123 rfl (n_X8 l D X89 σ90 q118 H119.size) bi_X0_34 rfl ⟨Nat.le_of_ble_eq_true rfl, Nat.le_of_ble_eq_true rfl⟩ ⟨Nat.le_of_ble_eq_true rfl, Nat.le_of_ble_eq_true rfl⟩ rfl (Nat.le_of_ble_eq_true rfl) dX0_init_42) S124 rfl a140 (fun X130 σ131 H132 locs1 x133 k134 p135 w136 z137 o138 S139 => ?_)
  try clear k128; try clear w125; try clear S124; try clear b123
  have D141 : X130.1 = D := x133.1.trans D100
  try clear D100
  have k142 : q_kd X130 h = 0 := x133.k0 k101 (by first | exact (nw_no hq118 (Nat.lt_trans hq118 mm_q118)) | (rintro (e | e) <;> omega))
  try clear k101
  have b143 := b126.kept (o138 h t127 (by first | exact (Nat.ne_of_lt hq118) | omega))
  try clear o138; try clear b126
  have t144 := t_lt b143
  try clear t127
  have y145 := y104.tr p135.1.1 (fun c hc => by rw [(x105.2.2.2.1 c hc).1]; exact hc)
  try clear y104
  have x146 := x105.tr x133 a140
  try clear x105
  have k147 := x133.kd k106 (by decide)
  have k148 := x133.kd k107 (by decide)
  have k149 := x133.kd k93 (by decide)
  try clear x133
  have y150 := p135.1.1 q1 (by rw [k106]; decide) y108
  try clear y108; try clear k106
  have y151 := p135.1.1 q38 (by rw [k107]; decide) y109
  try clear y109; try clear k107
  have y152 := p135.1.1 q77 (by rw [k93]; decide) y110
  try clear y110; try clear k93
  have y153 := p135.1.2
  try clear p135
  refine b_put E S139 hAh hnm (f := 3) b143 (show vwCl[0]? = some (RX0, TX0, 15) from rfl) q_inX0 tyX0_ok nmX0 (by decide) bw_239 rfl (fun _ => rfl) (tyX0_ok 3 (by decide)) rfl rfl dX0_init_45 (fun H154 locs1 z155 o156 b157 S158 => ?_)
  try clear b143; try clear S139
  have w159 : q_w X130 σ131 H154 := w136.kept (fun a ha => o156 a (fun e => ha (by rw [e]; exact k142)))
  try clear o156; try clear w136
  have t160 := t_lt b157
  try clear t144
  refine lv_aload_n hxx hb dX0_init_48 rfl (lv_at hl 0 rfl) ?_
  refine lv_iconst (v := 0) hxx hb dX0_init_49 (by decide) ?_
  refine b_put E S158 hAh hnm (f := 4) b157 (show vwCl[0]? = some (RX0, TX0, 15) from rfl) q_inX0 tyX0_ok nmX0 (by decide) bw_242 rfl (fun _ => rfl) (tyX0_ok 4 (by decide)) rfl rfl dX0_init_50 (fun H161 locs1 z162 o163 b164 S165 => ?_)
  try clear S158; try clear b157
  have w166 : q_w X130 σ131 H161 := w159.kept (fun a ha => o163 a (fun e => ha (by rw [e]; exact k142)))
  try clear o163; try clear w159
  have t167 := t_lt b164
  try clear t160
  refine lv_aload_n hxx hb dX0_init_53 rfl (lv_at hl 0 rfl) ?_
  refine lv_iconst (v := 0) hxx hb dX0_init_54 (by decide) ?_
  refine b_put E S165 hAh hnm (f := 5) b164 (show vwCl[0]? = some (RX0, TX0, 15) from rfl) q_inX0 tyX0_ok nmX0 (by decide) bw_245 rfl (fun _ => rfl) (tyX0_ok 5 (by decide)) rfl rfl dX0_init_55 (fun H168 locs1 z169 o170 b171 S172 => ?_)
  try clear S165; try clear b164
  have w173 : q_w X130 σ131 H168 := w166.kept (fun a ha => o170 a (fun e => ha (by rw [e]; exact k142)))
  try clear o170; try clear w166
  have t174 := t_lt b171
  try clear t167
  refine lv_aload_n hxx hb dX0_init_58 rfl (lv_at hl 0 rfl) ?_
  refine lv_iconst (v := (-1)) hxx hb dX0_init_59 (by decide) ?_
  refine b_put E S172 hAh hnm (f := 6) b171 (show vwCl[0]? = some (RX0, TX0, 15) from rfl) q_inX0 tyX0_ok nmX0 (by decide) bw_248 rfl (fun _ => rfl) (tyX0_ok 6 (by decide)) rfl rfl dX0_init_60 (fun H175 locs1 z176 o177 b178 S179 => ?_)
  try clear S172; try clear b171
  have w180 : q_w X130 σ131 H175 := w173.kept (fun a ha => o177 a (fun e => ha (by rw [e]; exact k142)))
  try clear o177; try clear w173
  have t181 := t_lt b178
  try clear t174
  refine lv_aload_n hxx hb dX0_init_63 rfl (lv_at hl 0 rfl) ?_
  refine lv_iconst (v := 0) hxx hb dX0_init_64 (by decide) ?_
  refine b_put E S179 hAh hnm (f := 7) b178 (show vwCl[0]? = some (RX0, TX0, 15) from rfl) q_inX0 tyX0_ok nmX0 (by decide) bw_251 rfl (fun _ => rfl) (tyX0_ok 7 (by decide)) rfl rfl dX0_init_65 (fun H182 locs1 z183 o184 b185 S186 => ?_)
  try clear S179; try clear b178
  have w187 : q_w X130 σ131 H182 := w180.kept (fun a ha => o184 a (fun e => ha (by rw [e]; exact k142)))
  try clear o184; try clear w180
  have t188 := t_lt b185
  try clear t181
  refine lv_aload_n hxx hb dX0_init_68 rfl (lv_at hl 0 rfl) ?_
  refine b_new E S186 bw_226 bw_43 bw_4 (show vwCl[4]? = some (RX5, TX5, 1) from rfl) q_inX5 tyX5 tyX5_ok (Nat.le_of_ble_eq_true rfl) (Nat.le_of_ble_eq_true rfl) dX0_init_69 (fun q189 H190 e191 z192 o193 b194 S195 => ?_)
  have hq189 : h < q189 := by first | exact Nat.lt_of_lt_of_eq t188 e191.symm | omega
  have gg_q189 : s.heap.size ≤ q189 := Nat.le_trans S186.1 (Nat.le_of_eq e191.symm)
  have mm_q189 : q189 < H190.size := by rw [z192, e191]; exact Nat.lt_succ_self _
  have cc_q189 : q118 < q189 := by first | exact Nat.lt_of_lt_of_eq (Nat.lt_of_lt_of_le (Nat.lt_of_lt_of_le (Nat.lt_of_lt_of_le (Nat.lt_of_lt_of_le (Nat.lt_of_lt_of_le (Nat.lt_of_lt_of_le mm_q118 z137) (Nat.le_of_eq z155.symm)) (Nat.le_of_eq z162.symm)) (Nat.le_of_eq z169.symm)) (Nat.le_of_eq z176.symm)) (Nat.le_of_eq z183.symm)) e191.symm | omega
  try clear S186
  have w196 : q_w X130 σ131 H190 := w187.kept (fun a ha => o193 a (w187.lt ha))
  have b197 := b185.kept (o193 h t188)
  try clear o193; try clear b185
  have t198 := t_lt b197
  try clear t188
  have k199 : q_kd X130 q189 = 0 := w187.fresh (Nat.le_of_eq e191.symm)
  try clear w187
  have g200 := S195.1
  refine lv_dup hxx hb dX0_init_72 rfl ?_
  refine lv_bipush (v := 10) hxx hb dX0_init_73 (by decide) ?_
  have a211 : ∀ a, q_nw q189 H190.size a → q_nw h s.heap.size a := nw_in gg_q189 (Nat.le_trans gg_q189 (Nat.le_of_lt mm_q189))
  refine b_cv (b_runI (As := [.int 10]) (rest := [.ref q189, .ref h]) E (hml.trans hl.1.symm) D141 w196 k199 b194 rfl (n_X5 l D X130 σ131 q189 H190.size 10 10 (by decide) (by decide) (by decide)) bi_X0_55 rfl ⟨Nat.le_of_ble_eq_true rfl, Nat.le_of_ble_eq_true rfl⟩ ⟨Nat.le_of_ble_eq_true rfl, Nat.le_of_ble_eq_true rfl⟩ rfl (Nat.le_of_ble_eq_true rfl) dX0_init_75) S195 rfl a211 (fun X201 σ202 H203 locs1 x204 k205 p206 w207 z208 o209 S210 => ?_)
  try clear k199; try clear w196; try clear S195; try clear b194
  have D212 : X201.1 = D := x204.1.trans D141
  try clear D141
  have k213 : q_kd X201 h = 0 := x204.k0 k142 (by first | exact (nw_no hq189 (Nat.lt_trans hq189 mm_q189)) | (rintro (e | e) <;> omega))
  try clear k142
  have b214 := b197.kept (o209 h t198 (by first | exact (Nat.ne_of_lt hq189) | omega))
  try clear o209; try clear b197
  have t215 := t_lt b214
  try clear t198
  have y216 := y145.tr p206.1.1 (fun c hc => by rw [(x146.2.2.2.1 c hc).1]; exact hc)
  try clear y145
  have x217 := x146.tr x204 a211
  try clear x146
  have k218 := x204.kd k147 (by decide)
  have k219 := x204.kd k148 (by decide)
  have k220 := x204.kd k149 (by decide)
  have k221 := x204.kd k134 (by decide)
  try clear x204
  have y222 := p206.1.1 q1 (by rw [k147]; decide) y150
  try clear y150; try clear k147
  have y223 := p206.1.1 q38 (by rw [k148]; decide) y151
  try clear y151; try clear k148
  have y224 := p206.1.1 q77 (by rw [k149]; decide) y152
  try clear y152; try clear k149
  have y225 := p206.1.1 q118 (by rw [k134]; decide) y153
  try clear y153; try clear k134
  have y226 := p206.1.2
  have y227 := p206.2
  try clear p206
  refine b_put E S210 hAh hnm (f := 8) b214 (show vwCl[0]? = some (RX0, TX0, 15) from rfl) q_inX0 tyX0_ok nmX0 (by decide) bw_254 rfl (fun _ => rfl) (tyX0_ok 8 (by decide)) rfl rfl dX0_init_78 (fun H228 locs1 z229 o230 b231 S232 => ?_)
  try clear b214; try clear S210
  have w233 : q_w X201 σ202 H228 := w207.kept (fun a ha => o230 a (fun e => ha (by rw [e]; exact k213)))
  try clear o230; try clear w207
  have t234 := t_lt b231
  try clear t215
  refine lv_aload_n hxx hb dX0_init_81 rfl (lv_at hl 0 rfl) ?_
  refine lv_iconst (v := 0) hxx hb dX0_init_82 (by decide) ?_
  refine b_put E S232 hAh hnm (f := 9) b231 (show vwCl[0]? = some (RX0, TX0, 15) from rfl) q_inX0 tyX0_ok nmX0 (by decide) bw_255 rfl (fun _ => rfl) (tyX0_ok 9 (by decide)) rfl rfl dX0_init_83 (fun H235 locs1 z236 o237 b238 S239 => ?_)
  try clear S232; try clear b231
  have w240 : q_w X201 σ202 H235 := w233.kept (fun a ha => o237 a (fun e => ha (by rw [e]; exact k213)))
  try clear o237; try clear w233
  have t241 := t_lt b238
  try clear t234
  refine lv_aload_n hxx hb dX0_init_86 rfl (lv_at hl 0 rfl) ?_
  refine b_new E S239 bw_226 bw_43 bw_4 (show vwCl[4]? = some (RX5, TX5, 1) from rfl) q_inX5 tyX5 tyX5_ok (Nat.le_of_ble_eq_true rfl) (Nat.le_of_ble_eq_true rfl) dX0_init_87 (fun q242 H243 e244 z245 o246 b247 S248 => ?_)
  have hq242 : h < q242 := by first | exact Nat.lt_of_lt_of_eq t241 e244.symm | omega
  have gg_q242 : s.heap.size ≤ q242 := Nat.le_trans S239.1 (Nat.le_of_eq e244.symm)
  have mm_q242 : q242 < H243.size := by rw [z245, e244]; exact Nat.lt_succ_self _
  have cc_q242 : q189 < q242 := by first | exact Nat.lt_of_lt_of_eq (Nat.lt_of_lt_of_le (Nat.lt_of_lt_of_le (Nat.lt_of_lt_of_le mm_q189 z208) (Nat.le_of_eq z229.symm)) (Nat.le_of_eq z236.symm)) e244.symm | omega
  try clear S239
  have w249 : q_w X201 σ202 H243 := w240.kept (fun a ha => o246 a (w240.lt ha))
  have b250 := b238.kept (o246 h t241)
  try clear o246; try clear b238
  have t251 := t_lt b250
  try clear t241
  have k252 : q_kd X201 q242 = 0 := w240.fresh (Nat.le_of_eq e244.symm)
  try clear w240
  have g253 := S248.1
  refine lv_dup hxx hb dX0_init_90 rfl ?_
  refine lv_bipush (v := 10) hxx hb dX0_init_91 (by decide) ?_
  have a264 : ∀ a, q_nw q242 H243.size a → q_nw h s.heap.size a := nw_in gg_q242 (Nat.le_trans gg_q242 (Nat.le_of_lt mm_q242))
  refine b_cv (b_runI (As := [.int 10]) (rest := [.ref q242, .ref h]) E (hml.trans hl.1.symm) D212 w249 k252 b247 rfl (n_X5 l D X201 σ202 q242 H243.size 10 10 (by decide) (by decide) (by decide)) bi_X0_55 rfl ⟨Nat.le_of_ble_eq_true rfl, Nat.le_of_ble_eq_true rfl⟩ ⟨Nat.le_of_ble_eq_true rfl, Nat.le_of_ble_eq_true rfl⟩ rfl (Nat.le_of_ble_eq_true rfl) dX0_init_93) S248 rfl a264 (fun X254 σ255 H256 locs1 x257 k258 p259 w260 z261 o262 S263 => ?_)
  try clear k252; try clear S248; try clear b247
  have D265 : X254.1 = D := x257.1.trans D212
  try clear D212
  have k266 : q_kd X254 h = 0 := x257.k0 k213 (by first | exact (nw_no hq242 (Nat.lt_trans hq242 mm_q242)) | (rintro (e | e) <;> omega))
  try clear k213
  have b267 := b250.kept (o262 h t251 (by first | exact (Nat.ne_of_lt hq242) | omega))
  try clear o262; try clear b250
  have t268 := t_lt b267
  try clear t251
  have y269 := y216.tr p259.1.1 (fun c hc => by rw [(x217.2.2.2.1 c hc).1]; exact hc)
  try clear y216
  have x270 := x217.tr x257 a264
  try clear x217
  have k271 := x257.kd k218 (by decide)
  have k272 := x257.kd k219 (by decide)
  have k273 := x257.kd k220 (by decide)
  have k274 := x257.kd k221 (by decide)
  have k275 := x257.kd k205 (by decide)
  have y276 := p259.1.1 q1 (by rw [k218]; decide) y222
  try clear y222; try clear k218
  have y277 := p259.1.1 q38 (by rw [k219]; decide) y223
  try clear y223; try clear k219
  have y278 := p259.1.1 q77 (by rw [k220]; decide) y224
  try clear y224; try clear k220
  have y279 := p259.1.1 q118 (by rw [k221]; decide) y225
  try clear y225; try clear k221
  have y280 := p259.1.1 q189 (by rw [k205]; decide) y226
  try clear y226
  have y281 := y_rlx x257 w249.1 k205 y227
  try clear x257; try clear w249; try clear y227; try clear k205
  have y282 := p259.1.2
  have y283 := p259.2
  try clear p259
  refine b_put E S263 hAh hnm (f := 10) b267 (show vwCl[0]? = some (RX0, TX0, 15) from rfl) q_inX0 tyX0_ok nmX0 (by decide) bw_257 rfl (fun _ => rfl) (tyX0_ok 10 (by decide)) rfl rfl dX0_init_96 (fun H284 locs1 z285 o286 b287 S288 => ?_)
  try clear b267; try clear S263
  have w289 : q_w X254 σ255 H284 := w260.kept (fun a ha => o286 a (fun e => ha (by rw [e]; exact k266)))
  try clear o286; try clear w260
  have t290 := t_lt b287
  try clear t268
  refine lv_aload_n hxx hb dX0_init_99 rfl (lv_at hl 0 rfl) ?_
  refine lv_iconst (v := 0) hxx hb dX0_init_100 (by decide) ?_
  refine b_put E S288 hAh hnm (f := 11) b287 (show vwCl[0]? = some (RX0, TX0, 15) from rfl) q_inX0 tyX0_ok nmX0 (by decide) bw_258 rfl (fun _ => rfl) (tyX0_ok 11 (by decide)) rfl rfl dX0_init_101 (fun H291 locs1 z292 o293 b294 S295 => ?_)
  try clear S288; try clear b287
  have w296 : q_w X254 σ255 H291 := w289.kept (fun a ha => o293 a (fun e => ha (by rw [e]; exact k266)))
  try clear o293; try clear w289
  have t297 := t_lt b294
  try clear t290
  refine lv_aload_n hxx hb dX0_init_104 rfl (lv_at hl 0 rfl) ?_
  refine lv_iconst (v := (-1)) hxx hb dX0_init_105 (by decide) ?_
  refine b_put E S295 hAh hnm (f := 12) b294 (show vwCl[0]? = some (RX0, TX0, 15) from rfl) q_inX0 tyX0_ok nmX0 (by decide) bw_260 rfl (fun _ => rfl) (tyX0_ok 12 (by decide)) rfl rfl dX0_init_106 (fun H298 locs1 z299 o300 b301 S302 => ?_)
  try clear S295; try clear b294
  have w303 : q_w X254 σ255 H298 := w296.kept (fun a ha => o300 a (fun e => ha (by rw [e]; exact k266)))
  try clear o300; try clear w296
  have t304 := t_lt b301
  try clear t297
  refine lv_aload_n hxx hb dX0_init_109 rfl (lv_at hl 0 rfl) ?_
  refine lv_iconst (v := (-1)) hxx hb dX0_init_110 (by decide) ?_
  refine b_put E S302 hAh hnm (f := 13) b301 (show vwCl[0]? = some (RX0, TX0, 15) from rfl) q_inX0 tyX0_ok nmX0 (by decide) bw_262 rfl (fun _ => rfl) (tyX0_ok 13 (by decide)) rfl rfl dX0_init_111 (fun H305 locs1 z306 o307 b308 S309 => ?_)
  try clear S302; try clear b301
  have w310 : q_w X254 σ255 H305 := w303.kept (fun a ha => o307 a (fun e => ha (by rw [e]; exact k266)))
  try clear o307; try clear w303
  have t311 := t_lt b308
  try clear t304
  refine lv_aload_n hxx hb dX0_init_114 rfl (lv_at hl 0 rfl) ?_
  refine lv_iconst (v := (-1)) hxx hb dX0_init_115 (by decide) ?_
  refine b_put E S309 hAh hnm (f := 14) b308 (show vwCl[0]? = some (RX0, TX0, 15) from rfl) q_inX0 tyX0_ok nmX0 (by decide) bw_264 rfl (fun _ => rfl) (tyX0_ok 14 (by decide)) rfl rfl dX0_init_116 (fun H312 locs1 z313 o314 b315 S316 => ?_)
  try clear S309; try clear b308
  have w317 : q_w X254 σ255 H312 := w310.kept (fun a ha => o314 a (fun e => ha (by rw [e]; exact k266)))
  try clear o314; try clear w310
  have t318 := t_lt b315
  try clear t311
  obtain ⟨X319, dX319⟩ : ∃ Y, Y = q_xg X254 h 1 0 (fun f => ([q1, q38, q77, q118, 0, 0, 0, 0, q189, 0, q242, 0, 0, 0, 0] : List Nat).getD f 0) := ⟨_, rfl⟩
  obtain ⟨σ320, dσ320⟩ : ∃ τ, τ = q_sg σ255 h (fun f => ([0, 0, 0, 0, 0, 0, (-1), 0, 0, 0, 0, 0, (-1), (-1), (-1)] : List Int32).getD f 0) (fun f => ([0, 0, 0, 0, 0, 0, 0, 0, 0, 0, 0, 0, 0, 0, 0] : List Int64).getD f 0) 0 := ⟨_, rfl⟩
  have x321 : q_ext (fun a => a = h) X254 X319 σ255 σ320 := by rw [dX319, dσ320]; exact q_ext.add k266
  have hrk : ∀ f, f < 40 → q_rk 1 f ≠ 0 → q_kd X254 (([q1, q38, q77, q118, 0, 0, 0, 0, q189, 0, q242, 0, 0, 0, 0] : List Nat).getD f 0) = q_rk 1 f := fun f h40 hf => match f, h40, hf with | 0, _, _ => k271 | 1, _, _ => k272 | 2, _, _ => k273 | 3, _, _ => k274 | 4, _, hf => absurd rfl hf | 5, _, hf => absurd rfl hf | 6, _, hf => absurd rfl hf | 7, _, hf => absurd rfl hf | 8, _, _ => k275 | 9, _, hf => absurd rfl hf | 10, _, _ => k258 | 11, _, hf => absurd rfl hf | 12, _, hf => absurd rfl hf | 13, _, hf => absurd rfl hf | 14, _, hf => absurd rfl hf | 15, _, hf => absurd rfl hf | 16, _, hf => absurd rfl hf | 17, _, hf => absurd rfl hf | 18, _, hf => absurd rfl hf | 19, _, hf => absurd rfl hf | 20, _, hf => absurd rfl hf | 21, _, hf => absurd rfl hf | 22, _, hf => absurd rfl hf | 23, _, hf => absurd rfl hf | 24, _, hf => absurd rfl hf | 25, _, hf => absurd rfl hf | 26, _, hf => absurd rfl hf | 27, _, hf => absurd rfl hf | 28, _, hf => absurd rfl hf | 29, _, hf => absurd rfl hf | 30, _, hf => absurd rfl hf | 31, _, hf => absurd rfl hf | 32, _, hf => absurd rfl hf | 33, _, hf => absurd rfl hf | 34, _, hf => absurd rfl hf | 35, _, hf => absurd rfl hf | 36, _, hf => absurd rfl hf | 37, _, hf => absurd rfl hf | 38, _, hf => absurd rfl hf | 39, _, hf => absurd rfl hf | (n + 40), h40, _ => absurd h40 (Nat.not_lt_of_ge (Nat.le_add_left 40 n))
  have hB : ∀ f, f < 40 → (q_bn 1 f).1 ≤ ((([0, 0, 0, 0, 0, 0, (-1), 0, 0, 0, 0, 0, (-1), (-1), (-1)] : List Int32).getD f 0).toInt) ∧ (([0, 0, 0, 0, 0, 0, (-1), 0, 0, 0, 0, 0, (-1), (-1), (-1)] : List Int32).getD f 0).toInt ≤ (q_bn 1 f).2 := by decide +kernel
  have y323 : ∀ f, q_rk 1 f ≠ 0 → h < ([q1, q38, q77, q118, 0, 0, 0, 0, q189, 0, q242, 0, 0, 0, 0] : List Nat).getD f 0 := by
    intro f hf
    rcases y_fs1 hf with rfl | rfl | rfl | rfl | rfl | rfl
    · exact (hq1)
    · exact (hq38)
    · exact (hq77)
    · exact (hq118)
    · exact (hq189)
    · exact (hq242)
  have y324 : ∀ f, q_rk 1 f ≠ 0 → y_root X254 (([q1, q38, q77, q118, 0, 0, 0, 0, q189, 0, q242, 0, 0, 0, 0] : List Nat).getD f 0) := by
    intro f hf
    rcases y_fs1 hf with rfl | rfl | rfl | rfl | rfl | rfl
    · exact y276
    · exact y277
    · exact y278
    · exact y279
    · exact y280
    · exact y282
  try clear y282; try clear y280; try clear y279; try clear y278; try clear y277; try clear y276
  have y325 : ∀ f, q_rk 1 f = 5 → q_ln X254 (q_rf X254 (([q1, q38, q77, q118, 0, 0, 0, 0, q189, 0, q242, 0, 0, 0, 0] : List Nat).getD f 0) 0) = y_rl 1 f := by
    intro f hf
    rcases y_fs1 (show q_rk 1 f ≠ 0 by rw [hf]; decide) with rfl | rfl | rfl | rfl | rfl | rfl
    · exact absurd hf (by decide)
    · exact absurd hf (by decide)
    · exact absurd hf (by decide)
    · exact absurd hf (by decide)
    · exact y281
    · exact y283
  have y326 : ∀ f, q_rk 1 f ≠ 0 → ([q1, q38, q77, q118, 0, 0, 0, 0, q189, 0, q242, 0, 0, 0, 0] : List Nat).getD f 0 ≠ h := by
    intro f hf
    rcases y_fs1 hf with rfl | rfl | rfl | rfl | rfl | rfl
    · exact ((Nat.ne_of_gt hq1))
    · exact ((Nat.ne_of_gt hq38))
    · exact ((Nat.ne_of_gt hq77))
    · exact ((Nat.ne_of_gt hq118))
    · exact ((Nat.ne_of_gt hq189))
    · exact ((Nat.ne_of_gt hq242))
  have y327 : ∀ f, q_rk 1 f ≠ 0 → q_kd X (([q1, q38, q77, q118, 0, 0, 0, 0, q189, 0, q242, 0, 0, 0, 0] : List Nat).getD f 0) = 0 := by
    intro f hf
    rcases y_fs1 hf with rfl | rfl | rfl | rfl | rfl | rfl
    · exact hw0.fresh (gg_q1)
    · exact hw0.fresh (gg_q38)
    · exact hw0.fresh (gg_q77)
    · exact hw0.fresh (gg_q118)
    · exact hw0.fresh (gg_q189)
    · exact hw0.fresh (gg_q242)
  have hIV : ∀ f, f < 60 → ([0, 0, 0, 0, 0, 0, (-1), 0, 0, 0, 0, 0, (-1), (-1), (-1)] : List Int32).getD f 0 = y_iv 1 f ∧ ([0, 0, 0, 0, 0, 0, 0, 0, 0, 0, 0, 0, 0, 0, 0] : List Int64).getD f 0 = y_il 1 f := by decide +kernel
  have w322 : q_w X319 σ320 H312 := by
    rw [dX319, dσ320]
    exact w317.add k266 (q_hrk hrk) (fun q => absurd rfl q) (by decide) (fun q => absurd q (by decide)) (q_hB hB (by decide)) (fun q => by rcases q with q | q <;> exact absurd q (by decide)) (q_cfO D265 ⟨rfl, by decide⟩ (show vwCl[0]? = some (RX0, TX0, 15) from rfl) b315 (fun f hf => match f, hf with | 0, _ => rfl | 1, _ => rfl | 2, _ => rfl | 3, _ => rfl | 4, _ => rfl | 5, _ => rfl | 6, _ => rfl | 7, _ => rfl | 8, _ => rfl | 9, _ => rfl | 10, _ => rfl | 11, _ => rfl | 12, _ => rfl | 13, _ => rfl | 14, _ => rfl | (n + 15), hf => absurd hf (Nat.not_lt_of_ge (Nat.le_add_left 15 n)))) y323 (y_in1 (rf := (fun f => ([q1, q38, q77, q118, 0, 0, 0, 0, q189, 0, q242, 0, 0, 0, 0] : List Nat).getD f 0)) (show q1 < q38 from cc_q38) (show q38 < q77 from cc_q77) (show q77 < q118 from cc_q118) (show q118 < q189 from cc_q189) (show q189 < q242 from cc_q242)) y324 y325 (fun _ f hf => hIV f (hf.resolve_left (by decide)))
  try clear y325; try clear y324; try clear y323; try clear b315; try clear D265
  have y328 : y_root X319 h := by
    rw [dX319]
    exact (y_root.out w317.1 k266).add y_xg y326
  try clear y326; try clear k266
  have y329 : y_rt X X319 := by
    rw [dX319]
    exact y269.add y_xg y327
  try clear y327; try clear y269
  have k330 : q_kd X319 h = 1 := by rw [dX319]; exact q_xg_h
  have x331 := x270.tr x321 (fun a e => Or.inl e)
  try clear x270
  have y332 := y_rlx x321 w317.1 k275 y281
  try clear y332; try clear y281
  have y333 := y_rlx x321 w317.1 k258 y283
  try clear y333; try clear w317; try clear y283
  have k334 := x321.kd k271 (by decide)
  try clear k334; try clear k271
  have k335 := x321.kd k272 (by decide)
  try clear k335; try clear k272
  have k336 := x321.kd k273 (by decide)
  try clear k336; try clear k273
  have k337 := x321.kd k274 (by decide)
  try clear k337; try clear k274
  have k338 := x321.kd k275 (by decide)
  try clear k338; try clear k275
  have k339 := x321.kd k258 (by decide)
  try clear k339; try clear x321; try clear k258
  exact b_ret E hr hlk S316 x331 k330 ⟨⟨y329, y328⟩, trivial⟩ w322 dX0_init_119
