/-! FROM 52.born.lean.txt -/
section
theorem nw_no {h q n : Nat} (h1 : h < q) (h2 : h < n) : ¬ q_nw q n h := by
  rintro (e | e)
  · exact Nat.ne_of_lt h1 e
  · exact Nat.not_lt_of_ge e h2
theorem nw_in {h q n sz : Nat} (g : sz ≤ q) (k : sz ≤ n) : ∀ a, q_nw q n a → q_nw h sz a := by
  rintro a (e | e)
  · exact Or.inr (by rw [e]; exact g)
  · exact Or.inr (Nat.le_trans k e)
set_option maxRecDepth 100000 in
set_option maxHeartbeats 4000000 in
theorem n_X5 (l : Launch) (D : DW) (X : XW) (σ : ST) (h sz : Nat) (v1 : Int32) (kn : Nat) (hv : 0 ≤ v1.toInt) (hkn : v1.toNatClampNeg = kn) (hk : kn < 1000) : Met l yX5_init (q_ws yX5_init cX5_init 2 none) { frames := 1, cells := 1, slots := 0 + kn, locals := 24 } (q_PN D X σ h sz 4 1 (fun k => defaultValue (tyX5 k)) [.ref h, .int v1]) (q_QN X σ h sz 5 (fun X' σ' => (y_rt X X' ∧ y_root X' h) ∧ q_ln X' (q_rf X' h 0) = kn)) 1 (0 + kn) (q_nw h sz) := by
  refine b_met  (by first | exact rfl | decide +kernel) rfl rfl (Nat.le_of_ble_eq_true rfl) (fun p e s m below meth c E hml hr hlk hnm hsz hD hw0 h00 hob ls hl => ?_)
  subst hsz
  have hxx := E.1
  have hb := E.2.1
  have hl : lv_has ls 2 [(0, .ref h), (1, .int v1)] := hl
  have hS : va_S (q_nw h s.heap.size) s.heap s.heap [] := va_S.rf
  have hx0 : q_ext (q_nw h s.heap.size) X X σ σ := q_ext.rf
  have hAh : q_nw h s.heap.size h := Or.inl rfl
  have yr0 : y_rt X X := y_rt.rf
  have hlt := t_lt hob
  refine lv_aload_n hxx hb dX5_init_0 rfl (lv_at hl 0 rfl) ?_
  refine W.objInit hxx hb E.2.2.1 (E.2.2.2.1 _ bw_47) (E.2.2.2.1 _ bw_26) (E.2.2.2.1 _ bw_27) rfl (by rw [hml]; exact hl.1) rfl dX5_init_1 (Nat.le_of_ble_eq_true rfl) (Nat.le_of_ble_eq_true rfl) ?_
  refine W.eq (g2 := F0 m 4 ls []) rfl ?_
  refine lv_aload_n hxx hb dX5_init_4 rfl (lv_at hl 0 rfl) ?_
  refine lv_iconst (v := 0) hxx hb dX5_init_5 (by decide) ?_
  refine lv_iload_n hxx hb dX5_init_6 rfl (lv_at hl 1 rfl) ?_
  refine va_mmax hxx hb (hml.trans hl.1.symm) E.2.2.1 (E.2.2.2.1 _ (q_in_t1 (i := 48) (by first | rfl | decide +kernel) rfl)) (E.2.2.2.1 _ (q_in_t1 (i := 49) (by first | rfl | decide +kernel) rfl)) (E.2.2.2.1 _ (q_in_t1 (i := 5) (by first | rfl | decide +kernel) rfl)) (E.2.2.2.1 _ (q_in_t1 (i := 50) (by first | rfl | decide +kernel) rfl)) (Nat.le_of_ble_eq_true rfl) (Nat.le_of_ble_eq_true rfl) (Nat.zero_le _) (Nat.zero_le _) dX5_init_7 ?_
  have hmx : (if (0 : Int32) < v1 then v1 else 0) = v1 := by
    by_cases q : (0 : Int32) < v1
    · rw [if_pos q]
    · rw [if_neg q]; rw [Int32.lt_iff_toInt_lt, q_z0] at q; exact Int32.toInt_inj.mp (by rw [q_z0]; omega)
  rw [hmx]
  refine b_newa E hS bw_56 (t := 1) rfl (fun _ _ => rfl) (N' := kn) hv hkn (by show kn * 4 ≤ 536870912; omega) (Nat.le_of_ble_eq_true rfl) (Nat.le_refl _) dX5_init_10 (fun q1 H2 e3 z4 o5 r6 S7 => ?_)
  have hq1 : h < q1 := by first | exact Nat.lt_of_lt_of_eq hlt e3.symm | omega
  have gg_q1 : s.heap.size ≤ q1 := Nat.le_trans hS.1 (Nat.le_of_eq e3.symm)
  have mm_q1 : q1 < H2.size := by rw [z4, e3]; exact Nat.lt_succ_self _
  have w8 : q_w X σ H2 := hw0.kept (fun a ha => o5 a (hw0.lt ha))
  have b9 := hob.kept (o5 h hlt)
  try clear o5
  have t10 := t_lt b9
  have k11 : q_kd X q1 = 0 := hw0.fresh (Nat.le_of_eq e3.symm)
  have g12 := S7.1
  refine b_put E S7 hAh hnm (f := 0) b9 (show vwCl[4]? = some (RX5, TX5, 1) from rfl) q_inX5 tyX5_ok nmX5 (by decide) bw_51 rfl (fun _ => rfl) (tyX5_ok 0 (by decide)) rfl rfl dX5_init_12 (fun H13 locs1 z14 o15 b16 S17 => ?_)
  try clear b9; try clear S7
  have w18 : q_w X σ H13 := w8.kept (fun a ha => o15 a (fun e => ha (by rw [e]; exact h00)))
  try clear w8
  have t19 := t_lt b16
  try clear t10
  have r20 := (o15 q1 (by first | exact (Nat.ne_of_gt hq1) | omega)).trans r6
  try clear o15; try clear r6
  have y25 := raw_lt r20
  try clear y25
  obtain ⟨X21, dX21⟩ : ∃ Y, Y = q_xg X q1 20 kn (fun _ => 0) := ⟨_, rfl⟩
  obtain ⟨σ22, dσ22⟩ : ∃ τ, τ = q_sg σ q1 (fun _ => 0 : Nat → Int32) (fun _ => 0) 0 := ⟨_, rfl⟩
  have x23 : q_ext (fun a => a = q1) X X21 σ σ22 := by rw [dX21, dσ22]; exact q_ext.add k11
  have y26 : y_root X21 q1 := by rw [dX21]; exact (y_root.out w18.1 k11).add y_xg (fun f hf => absurd rfl hf)
  have y27 : y_rt X X21 := by rw [dX21]; exact yr0.add y_xg (fun f hf => absurd rfl hf)
  have w24 : q_w X21 σ22 H13 := by
    rw [dX21, dσ22]
    exact w18.add k11 (fun f hf => absurd rfl hf) (fun q => absurd rfl q) (by omega) (fun q => absurd q (by decide)) (fun f => q_inU rfl) (fun q => by rcases q with q | q <;> exact absurd q (by decide)) (q_cfA hD (by decide) (t0 := 1) rfl r20 (fun j => rfl)) (fun f hf => absurd rfl hf) (fun f g hf _ _ => absurd rfl hf) (fun f hf => absurd rfl hf) (fun f hf => absurd (show (0 : Nat) = 5 from hf) (by decide)) (fun _ f _ => ⟨rfl, rfl⟩)
  try clear r20; try clear w18; try clear k11; try clear t0
  have D28 : X21.1 = D := x23.1.trans hD
  have k29 : q_kd X21 q1 = 20 := by rw [dX21]; exact q_xg_h
  have n30 : q_ln X21 q1 = kn := by rw [dX21]; exact if_pos rfl
  have x31 := hx0.tr x23 (fun a e => Or.inr (by rw [e]; exact gg_q1))
  have k32 : q_kd X21 h = 0 := x23.k0 h00 (by first | exact (Nat.ne_of_lt hq1) | (omega))
  try clear x23
  obtain ⟨X33, dX33⟩ : ∃ Y, Y = q_xg X21 h 5 0 (fun f => ([q1] : List Nat).getD f 0) := ⟨_, rfl⟩
  obtain ⟨σ34, dσ34⟩ : ∃ τ, τ = q_sg σ22 h (fun f => ([0] : List Int32).getD f 0) (fun f => ([0] : List Int64).getD f 0) 0 := ⟨_, rfl⟩
  have x35 : q_ext (fun a => a = h) X21 X33 σ22 σ34 := by rw [dX33, dσ34]; exact q_ext.add k32
  have hrk : ∀ f, f < 40 → q_rk 5 f ≠ 0 → q_kd X21 (([q1] : List Nat).getD f 0) = q_rk 5 f := fun f h40 hf => match f, h40, hf with | 0, _, _ => k29 | 1, _, hf => absurd rfl hf | 2, _, hf => absurd rfl hf | 3, _, hf => absurd rfl hf | 4, _, hf => absurd rfl hf | 5, _, hf => absurd rfl hf | 6, _, hf => absurd rfl hf | 7, _, hf => absurd rfl hf | 8, _, hf => absurd rfl hf | 9, _, hf => absurd rfl hf | 10, _, hf => absurd rfl hf | 11, _, hf => absurd rfl hf | 12, _, hf => absurd rfl hf | 13, _, hf => absurd rfl hf | 14, _, hf => absurd rfl hf | 15, _, hf => absurd rfl hf | 16, _, hf => absurd rfl hf | 17, _, hf => absurd rfl hf | 18, _, hf => absurd rfl hf | 19, _, hf => absurd rfl hf | 20, _, hf => absurd rfl hf | 21, _, hf => absurd rfl hf | 22, _, hf => absurd rfl hf | 23, _, hf => absurd rfl hf | 24, _, hf => absurd rfl hf | 25, _, hf => absurd rfl hf | 26, _, hf => absurd rfl hf | 27, _, hf => absurd rfl hf | 28, _, hf => absurd rfl hf | 29, _, hf => absurd rfl hf | 30, _, hf => absurd rfl hf | 31, _, hf => absurd rfl hf | 32, _, hf => absurd rfl hf | 33, _, hf => absurd rfl hf | 34, _, hf => absurd rfl hf | 35, _, hf => absurd rfl hf | 36, _, hf => absurd rfl hf | 37, _, hf => absurd rfl hf | 38, _, hf => absurd rfl hf | 39, _, hf => absurd rfl hf | (n + 40), h40, _ => absurd h40 (Nat.not_lt_of_ge (Nat.le_add_left 40 n))
  have hB : ∀ f, f < 40 → (q_bn 5 f).1 ≤ ((([0] : List Int32).getD f 0).toInt) ∧ (([0] : List Int32).getD f 0).toInt ≤ (q_bn 5 f).2 := by decide +kernel
  have y37 : ∀ f, q_rk 5 f ≠ 0 → h < ([q1] : List Nat).getD f 0 := by
    intro f hf
    rcases y_fs5 hf with rfl
    · exact (hq1)
  have y38 : ∀ f, q_rk 5 f ≠ 0 → y_root X21 (([q1] : List Nat).getD f 0) := by
    intro f hf
    rcases y_fs5 hf with rfl
    · exact y26
  try clear y26
  have y39 : ∀ f, q_rk 5 f = 5 → q_ln X21 (q_rf X21 (([q1] : List Nat).getD f 0) 0) = y_rl 5 f := by
    intro f hf
    rcases y_fs5 (show q_rk 5 f ≠ 0 by rw [hf]; decide) with rfl
    · exact absurd hf (by decide)
  have y40 : ∀ f, q_rk 5 f ≠ 0 → ([q1] : List Nat).getD f 0 ≠ h := by
    intro f hf
    rcases y_fs5 hf with rfl
    · exact ((Nat.ne_of_gt hq1))
  have y41 : ∀ f, q_rk 5 f ≠ 0 → q_kd X (([q1] : List Nat).getD f 0) = 0 := by
    intro f hf
    rcases y_fs5 hf with rfl
    · exact hw0.fresh (gg_q1)
  have w36 : q_w X33 σ34 H13 := by
    rw [dX33, dσ34]
    exact w24.add k32 (q_hrk hrk) (fun q => absurd rfl q) (by decide) (fun q => absurd q (by decide)) (q_hB hB (by decide)) (fun q => by rcases q with q | q <;> exact absurd q (by decide)) (q_cfO D28 ⟨rfl, by decide⟩ (show vwCl[4]? = some (RX5, TX5, 1) from rfl) b16 (fun f hf => match f, hf with | 0, _ => rfl | (n + 1), hf => absurd hf (Nat.not_lt_of_ge (Nat.le_add_left 1 n)))) y37 (y_in5 (rf := (fun f => ([q1] : List Nat).getD f 0))) y38 y39 (fun q => absurd q (by decide))
  try clear y39; try clear y38; try clear y37; try clear D28; try clear b16
  have y42 : y_root X33 h := by
    rw [dX33]
    exact (y_root.out w24.1 k32).add y_xg y40
  try clear y40; try clear k32; try clear w24
  have y43 : y_rt X X33 := by
    rw [dX33]
    exact y27.add y_xg y41
  try clear y41; try clear y27
  have k44 : q_kd X33 h = 5 := by rw [dX33]; exact q_xg_h
  have x45 := x31.tr x35 (fun a e => Or.inl e)
  try clear x31
  have k46 := x35.kd k29 (by decide)
  try clear k46
  have hr0 : q_rf X33 h 0 = q1 := by rw [dX33]; exact if_pos rfl
  have hl0 : q_ln X33 (q_rf X33 h 0) = kn := by rw [hr0]; exact (x35.2.2.2.1 q1 (by rw [k29]; decide)).2.1.trans n30
  try clear x35; try clear k29
  exact b_ret E hr hlk S17 x45 k44 ⟨⟨y43, y42⟩, hl0⟩ w36 dX5_init_15

set_option maxRecDepth 100000 in
set_option maxHeartbeats 4000000 in
theorem n_X10 (l : Launch) (D : DW) (X : XW) (σ : ST) (h sz : Nat) : Met l yX10_init (q_ws yX10_init cX10_init 1 none) { frames := 1, cells := 1, slots := 60, locals := 12 } (q_PN D X σ h sz 9 3 (fun k => defaultValue (tyX10 k)) [.ref h]) (q_QN X σ h sz 10 (fun X' σ' => (y_rt X X' ∧ y_root X' h) ∧ σ'.1 h 0 = 0 ∧ σ'.1 h 1 = -1)) 1 60 (q_nw h sz) := by
  refine b_met  (by first | exact rfl | decide +kernel) rfl rfl (Nat.le_of_ble_eq_true rfl) (fun p e s m below meth c E hml hr hlk hnm hsz hD hw0 h00 hob ls hl => ?_)
  subst hsz
  have hxx := E.1
  have hb := E.2.1
  have hl : lv_has ls 1 [(0, .ref h)] := hl
  have hS : va_S (q_nw h s.heap.size) s.heap s.heap [] := va_S.rf
  have hx0 : q_ext (q_nw h s.heap.size) X X σ σ := q_ext.rf
  have hAh : q_nw h s.heap.size h := Or.inl rfl
  have yr0 : y_rt X X := y_rt.rf
  have hlt := t_lt hob
  refine lv_aload_n hxx hb dX10_init_0 rfl (lv_at hl 0 rfl) ?_
  refine W.objInit hxx hb E.2.2.1 (E.2.2.2.1 _ bw_429) (E.2.2.2.1 _ bw_26) (E.2.2.2.1 _ bw_27) rfl (by rw [hml]; exact hl.1) rfl dX10_init_1 (Nat.le_of_ble_eq_true rfl) (Nat.le_of_ble_eq_true rfl) ?_
  refine W.eq (g2 := F0 m 4 ls []) rfl ?_
  refine lv_aload_n hxx hb dX10_init_4 rfl (lv_at hl 0 rfl) ?_
  refine lv_iconst (v := 0) hxx hb dX10_init_5 (by decide) ?_
  refine b_put E hS hAh hnm (f := 0) hob (show vwCl[9]? = some (RX10, TX10, 3) from rfl) q_inX10 tyX10_ok nmX10 (by decide) bw_430 rfl (fun _ => rfl) (tyX10_ok 0 (by decide)) rfl rfl dX10_init_6 (fun H1 locs1 z2 o3 b4 S5 => ?_)
  have w6 : q_w X σ H1 := hw0.kept (fun a ha => o3 a (fun e => ha (by rw [e]; exact h00)))
  try clear o3
  have t7 := t_lt b4
  refine lv_aload_n hxx hb dX10_init_9 rfl (lv_at hl 0 rfl) ?_
  refine lv_iconst (v := (-1)) hxx hb dX10_init_10 (by decide) ?_
  refine b_put E S5 hAh hnm (f := 1) b4 (show vwCl[9]? = some (RX10, TX10, 3) from rfl) q_inX10 tyX10_ok nmX10 (by decide) bw_432 rfl (fun _ => rfl) (tyX10_ok 1 (by decide)) rfl rfl dX10_init_11 (fun H8 locs1 z9 o10 b11 S12 => ?_)
  try clear S5; try clear b4
  have w13 : q_w X σ H8 := w6.kept (fun a ha => o10 a (fun e => ha (by rw [e]; exact h00)))
  try clear o10; try clear w6
  have t14 := t_lt b11
  try clear t7
  refine lv_aload_n hxx hb dX10_init_14 rfl (lv_at hl 0 rfl) ?_
  refine lv_bipush (v := 60) hxx hb dX10_init_15 (by decide) ?_
  refine b_newa E S12 bw_441 (t := 2) rfl (fun _ _ => rfl) (N' := 60) (by decide) (by decide) (by decide) (Nat.le_of_ble_eq_true rfl) (Nat.le_of_ble_eq_true rfl) dX10_init_17 (fun q15 H16 e17 z18 o19 r20 S21 => ?_)
  have hq15 : h < q15 := by first | exact Nat.lt_of_lt_of_eq t14 e17.symm | omega
  have gg_q15 : s.heap.size ≤ q15 := Nat.le_trans S12.1 (Nat.le_of_eq e17.symm)
  have mm_q15 : q15 < H16.size := by rw [z18, e17]; exact Nat.lt_succ_self _
  try clear S12
  have w22 : q_w X σ H16 := w13.kept (fun a ha => o19 a (w13.lt ha))
  have b23 := b11.kept (o19 h t14)
  try clear o19; try clear b11
  have t24 := t_lt b23
  try clear t14
  have k25 : q_kd X q15 = 0 := w13.fresh (Nat.le_of_eq e17.symm)
  try clear w13
  have g26 := S21.1
  refine b_put E S21 hAh hnm (f := 2) b23 (show vwCl[9]? = some (RX10, TX10, 3) from rfl) q_inX10 tyX10_ok nmX10 (by decide) bw_433 rfl (fun _ => rfl) (tyX10_ok 2 (by decide)) rfl rfl dX10_init_19 (fun H27 locs1 z28 o29 b30 S31 => ?_)
  try clear b23; try clear S21
  have w32 : q_w X σ H27 := w22.kept (fun a ha => o29 a (fun e => ha (by rw [e]; exact h00)))
  try clear w22
  have t33 := t_lt b30
  try clear t24
  have r34 := (o29 q15 (by first | exact (Nat.ne_of_gt hq15) | omega)).trans r20
  try clear o29; try clear r20
  have y39 := raw_lt r34
  try clear y39
  obtain ⟨X35, dX35⟩ : ∃ Y, Y = q_xg X q15 21 60 (fun _ => 0) := ⟨_, rfl⟩
  obtain ⟨σ36, dσ36⟩ : ∃ τ, τ = q_sg σ q15 (fun _ => 0) (fun _ => 0) 0 := ⟨_, rfl⟩
  have x37 : q_ext (fun a => a = q15) X X35 σ σ36 := by rw [dX35, dσ36]; exact q_ext.add k25
  have y40 : y_root X35 q15 := by rw [dX35]; exact (y_root.out w32.1 k25).add y_xg (fun f hf => absurd rfl hf)
  have y41 : y_rt X X35 := by rw [dX35]; exact yr0.add y_xg (fun f hf => absurd rfl hf)
  have w38 : q_w X35 σ36 H27 := by
    rw [dX35, dσ36]
    exact w32.add k25 (fun f hf => absurd rfl hf) (fun _ => rfl) (by decide) (fun q => absurd q (by decide)) (fun f => q_inU rfl) (fun q => by rcases q with q | q <;> exact absurd q (by decide)) (q_cfA hD (by decide) (t0 := 2) rfl r34 (fun j => rfl)) (fun f hf => absurd rfl hf) (fun f g hf _ _ => absurd rfl hf) (fun f hf => absurd rfl hf) (fun f hf => absurd (show (0 : Nat) = 5 from hf) (by decide)) (fun q => absurd q (by decide))
  try clear r34; try clear w32; try clear k25; try clear t0
  have D42 : X35.1 = D := x37.1.trans hD
  have k43 : q_kd X35 q15 = 21 := by rw [dX35]; exact q_xg_h
  have n44 : q_ln X35 q15 = 60 := by rw [dX35]; exact if_pos rfl
  have x45 := hx0.tr x37 (fun a e => Or.inr (by rw [e]; exact gg_q15))
  have k46 : q_kd X35 h = 0 := x37.k0 h00 (by first | exact (Nat.ne_of_lt hq15) | (omega))
  try clear x37
  obtain ⟨X47, dX47⟩ : ∃ Y, Y = q_xg X35 h 10 0 (fun f => ([0, 0, q15] : List Nat).getD f 0) := ⟨_, rfl⟩
  obtain ⟨σ48, dσ48⟩ : ∃ τ, τ = q_sg σ36 h (fun f => ([0, (-1), 0] : List Int32).getD f 0) (fun f => ([0, 0, 0] : List Int64).getD f 0) 0 := ⟨_, rfl⟩
  have x49 : q_ext (fun a => a = h) X35 X47 σ36 σ48 := by rw [dX47, dσ48]; exact q_ext.add k46
  have hrk : ∀ f, f < 40 → q_rk 10 f ≠ 0 → q_kd X35 (([0, 0, q15] : List Nat).getD f 0) = q_rk 10 f := fun f h40 hf => match f, h40, hf with | 0, _, hf => absurd rfl hf | 1, _, hf => absurd rfl hf | 2, _, _ => k43 | 3, _, hf => absurd rfl hf | 4, _, hf => absurd rfl hf | 5, _, hf => absurd rfl hf | 6, _, hf => absurd rfl hf | 7, _, hf => absurd rfl hf | 8, _, hf => absurd rfl hf | 9, _, hf => absurd rfl hf | 10, _, hf => absurd rfl hf | 11, _, hf => absurd rfl hf | 12, _, hf => absurd rfl hf | 13, _, hf => absurd rfl hf | 14, _, hf => absurd rfl hf | 15, _, hf => absurd rfl hf | 16, _, hf => absurd rfl hf | 17, _, hf => absurd rfl hf | 18, _, hf => absurd rfl hf | 19, _, hf => absurd rfl hf | 20, _, hf => absurd rfl hf | 21, _, hf => absurd rfl hf | 22, _, hf => absurd rfl hf | 23, _, hf => absurd rfl hf | 24, _, hf => absurd rfl hf | 25, _, hf => absurd rfl hf | 26, _, hf => absurd rfl hf | 27, _, hf => absurd rfl hf | 28, _, hf => absurd rfl hf | 29, _, hf => absurd rfl hf | 30, _, hf => absurd rfl hf | 31, _, hf => absurd rfl hf | 32, _, hf => absurd rfl hf | 33, _, hf => absurd rfl hf | 34, _, hf => absurd rfl hf | 35, _, hf => absurd rfl hf | 36, _, hf => absurd rfl hf | 37, _, hf => absurd rfl hf | 38, _, hf => absurd rfl hf | 39, _, hf => absurd rfl hf | (n + 40), h40, _ => absurd h40 (Nat.not_lt_of_ge (Nat.le_add_left 40 n))
  have hB : ∀ f, f < 40 → (q_bn 10 f).1 ≤ ((([0, (-1), 0] : List Int32).getD f 0).toInt) ∧ (([0, (-1), 0] : List Int32).getD f 0).toInt ≤ (q_bn 10 f).2 := by decide +kernel
  have y51 : ∀ f, q_rk 10 f ≠ 0 → h < ([0, 0, q15] : List Nat).getD f 0 := by
    intro f hf
    rcases y_fs10 hf with rfl
    · exact (hq15)
  have y52 : ∀ f, q_rk 10 f ≠ 0 → y_root X35 (([0, 0, q15] : List Nat).getD f 0) := by
    intro f hf
    rcases y_fs10 hf with rfl
    · exact y40
  try clear y40
  have y53 : ∀ f, q_rk 10 f = 5 → q_ln X35 (q_rf X35 (([0, 0, q15] : List Nat).getD f 0) 0) = y_rl 10 f := by
    intro f hf
    rcases y_fs10 (show q_rk 10 f ≠ 0 by rw [hf]; decide) with rfl
    · exact absurd hf (by decide)
  have y54 : ∀ f, q_rk 10 f ≠ 0 → ([0, 0, q15] : List Nat).getD f 0 ≠ h := by
    intro f hf
    rcases y_fs10 hf with rfl
    · exact ((Nat.ne_of_gt hq15))
  have y55 : ∀ f, q_rk 10 f ≠ 0 → q_kd X (([0, 0, q15] : List Nat).getD f 0) = 0 := by
    intro f hf
    rcases y_fs10 hf with rfl
    · exact hw0.fresh (gg_q15)
  have hIV : ∀ f, f < 60 → ([0, (-1), 0] : List Int32).getD f 0 = y_iv 10 f ∧ ([0, 0, 0] : List Int64).getD f 0 = y_il 10 f := by decide +kernel
  have w50 : q_w X47 σ48 H27 := by
    rw [dX47, dσ48]
    exact w38.add k46 (q_hrk hrk) (fun q => absurd rfl q) (by decide) (fun q => absurd q (by decide)) (q_hB hB (by decide)) (fun q => by rcases q with q | q <;> exact absurd q (by decide)) (q_cfO D42 ⟨rfl, by decide⟩ (show vwCl[9]? = some (RX10, TX10, 3) from rfl) b30 (fun f hf => match f, hf with | 0, _ => rfl | 1, _ => rfl | 2, _ => rfl | (n + 3), hf => absurd hf (Nat.not_lt_of_ge (Nat.le_add_left 3 n)))) y51 (y_in10 (rf := (fun f => ([0, 0, q15] : List Nat).getD f 0))) y52 y53 (fun _ f hf => hIV f (hf.resolve_left (by decide)))
  try clear y53; try clear y52; try clear y51; try clear D42; try clear b30
  have y56 : y_root X47 h := by
    rw [dX47]
    exact (y_root.out w38.1 k46).add y_xg y54
  try clear y54; try clear k46; try clear w38
  have y57 : y_rt X X47 := by
    rw [dX47]
    exact y41.add y_xg y55
  try clear y55; try clear y41
  have k58 : q_kd X47 h = 10 := by rw [dX47]; exact q_xg_h
  have x59 := x45.tr x49 (fun a e => Or.inl e)
  try clear x45
  have k60 := x49.kd k43 (by decide)
  try clear k60; try clear x49; try clear k43
  exact b_ret E hr hlk S31 x59 k58 ⟨⟨y57, y56⟩, ⟨by rw [dσ48]; exact if_pos rfl, by rw [dσ48]; exact if_pos rfl⟩⟩ w50 dX10_init_22

set_option maxRecDepth 100000 in
set_option maxHeartbeats 4000000 in
theorem n_X6 (l : Launch) (D : DW) (X : XW) (σ : ST) (h sz : Nat) : Met l yX6_init (q_ws yX6_init cX6_init 1 none) { frames := 2, cells := 6, slots := 67, locals := 45 } (q_PN D X σ h sz 5 8 (fun k => defaultValue (tyX6 k)) [.ref h]) (q_QN X σ h sz 6 (fun X' _ => (y_rt X X' ∧ y_root X' h) ∧ True)) 6 67 (q_nw h sz) := by
  refine b_met  (by first | exact rfl | decide +kernel) rfl rfl (Nat.le_of_ble_eq_true rfl) (fun p e s m below meth c E hml hr hlk hnm hsz hD hw0 h00 hob ls hl => ?_)
  subst hsz
  have hxx := E.1
  have hb := E.2.1
  have hl : lv_has ls 1 [(0, .ref h)] := hl
  have hS : va_S (q_nw h s.heap.size) s.heap s.heap [] := va_S.rf
  have hx0 : q_ext (q_nw h s.heap.size) X X σ σ := q_ext.rf
  have hAh : q_nw h s.heap.size h := Or.inl rfl
  have yr0 : y_rt X X := y_rt.rf
  have hlt := t_lt hob
  refine lv_aload_n hxx hb dX6_init_0 rfl (lv_at hl 0 rfl) ?_
  refine W.objInit hxx hb E.2.2.1 (E.2.2.2.1 _ bw_41) (E.2.2.2.1 _ bw_26) (E.2.2.2.1 _ bw_27) rfl (by rw [hml]; exact hl.1) rfl dX6_init_1 (Nat.le_of_ble_eq_true rfl) (Nat.le_of_ble_eq_true rfl) ?_
  refine W.eq (g2 := F0 m 4 ls []) rfl ?_
  refine lv_aload_n hxx hb dX6_init_4 rfl (lv_at hl 0 rfl) ?_
  refine lv_iconst (v := 2) hxx hb dX6_init_5 (by decide) ?_
  refine b_put E hS hAh hnm (f := 0) hob (show vwCl[5]? = some (RX6, TX6, 8) from rfl) q_inX6 tyX6_ok nmX6 (by decide) bw_57 rfl (fun _ => rfl) (tyX6_ok 0 (by decide)) rfl rfl dX6_init_6 (fun H1 locs1 z2 o3 b4 S5 => ?_)
  have w6 : q_w X σ H1 := hw0.kept (fun a ha => o3 a (fun e => ha (by rw [e]; exact h00)))
  try clear o3
  have t7 := t_lt b4
  refine lv_aload_n hxx hb dX6_init_9 rfl (lv_at hl 0 rfl) ?_
  refine lv_iconst (v := 1) hxx hb dX6_init_10 (by decide) ?_
  refine b_put E S5 hAh hnm (f := 1) b4 (show vwCl[5]? = some (RX6, TX6, 8) from rfl) q_inX6 tyX6_ok nmX6 (by decide) bw_62 rfl (fun _ => rfl) (tyX6_ok 1 (by decide)) rfl rfl dX6_init_11 (fun H8 locs1 z9 o10 b11 S12 => ?_)
  try clear S5; try clear b4
  have w13 : q_w X σ H8 := w6.kept (fun a ha => o10 a (fun e => ha (by rw [e]; exact h00)))
  try clear o10; try clear w6
  have t14 := t_lt b11
  try clear t7
  refine lv_aload_n hxx hb dX6_init_14 rfl (lv_at hl 0 rfl) ?_
  refine lv_iconst (v := 0) hxx hb dX6_init_15 (by decide) ?_
  refine b_put E S12 hAh hnm (f := 2) b11 (show vwCl[5]? = some (RX6, TX6, 8) from rfl) q_inX6 tyX6_ok nmX6 (by decide) bw_65 rfl (fun _ => rfl) (tyX6_ok 2 (by decide)) rfl rfl dX6_init_16 (fun H15 locs1 z16 o17 b18 S19 => ?_)
  try clear S12; try clear b11
  have w20 : q_w X σ H15 := w13.kept (fun a ha => o17 a (fun e => ha (by rw [e]; exact h00)))
  try clear o17; try clear w13
  have t21 := t_lt b18
  try clear t14
  refine lv_aload_n hxx hb dX6_init_19 rfl (lv_at hl 0 rfl) ?_
  refine lv_iconst (v := 4) hxx hb dX6_init_20 (by decide) ?_
  refine b_put E S19 hAh hnm (f := 3) b18 (show vwCl[5]? = some (RX6, TX6, 8) from rfl) q_inX6 tyX6_ok nmX6 (by decide) bw_68 rfl (fun _ => rfl) (tyX6_ok 3 (by decide)) rfl rfl dX6_init_21 (fun H22 locs1 z23 o24 b25 S26 => ?_)
  try clear S19; try clear b18
  have w27 : q_w X σ H22 := w20.kept (fun a ha => o24 a (fun e => ha (by rw [e]; exact h00)))
  try clear o24; try clear w20
  have t28 := t_lt b25
  try clear t21
  refine lv_aload_n hxx hb dX6_init_24 rfl (lv_at hl 0 rfl) ?_
  refine lv_iconst (v := 0) hxx hb dX6_init_25 (by decide) ?_
  refine b_put E S26 hAh hnm (f := 4) b25 (show vwCl[5]? = some (RX6, TX6, 8) from rfl) q_inX6 tyX6_ok nmX6 (by decide) bw_73 rfl (fun _ => rfl) (tyX6_ok 4 (by decide)) rfl rfl dX6_init_26 (fun H29 locs1 z30 o31 b32 S33 => ?_)
  try clear S26; try clear b25
  have w34 : q_w X σ H29 := w27.kept (fun a ha => o31 a (fun e => ha (by rw [e]; exact h00)))
  try clear o31; try clear w27
  have t35 := t_lt b32
  try clear t28
  refine lv_aload_n hxx hb dX6_init_29 rfl (lv_at hl 0 rfl) ?_
  refine b_new E S33 bw_42 bw_43 bw_4 (show vwCl[4]? = some (RX5, TX5, 1) from rfl) q_inX5 tyX5 tyX5_ok (Nat.le_of_ble_eq_true rfl) (Nat.le_of_ble_eq_true rfl) dX6_init_30 (fun q36 H37 e38 z39 o40 b41 S42 => ?_)
  have hq36 : h < q36 := by first | exact Nat.lt_of_lt_of_eq t35 e38.symm | omega
  have gg_q36 : s.heap.size ≤ q36 := Nat.le_trans S33.1 (Nat.le_of_eq e38.symm)
  have mm_q36 : q36 < H37.size := by rw [z39, e38]; exact Nat.lt_succ_self _
  try clear S33
  have w43 : q_w X σ H37 := w34.kept (fun a ha => o40 a (w34.lt ha))
  have b44 := b32.kept (o40 h t35)
  try clear o40; try clear b32
  have t45 := t_lt b44
  try clear t35
  have k46 : q_kd X q36 = 0 := w34.fresh (Nat.le_of_eq e38.symm)
  try clear w34
  have g47 := S42.1
  refine lv_dup hxx hb dX6_init_33 rfl ?_
  refine lv_bipush (v := 10) hxx hb dX6_init_34 (by decide) ?_
  have a58 : ∀ a, q_nw q36 H37.size a → q_nw h s.heap.size a := nw_in gg_q36 (Nat.le_trans gg_q36 (Nat.le_of_lt mm_q36))
  refine b_cv (b_runI (As := [.int 10]) (rest := [.ref q36, .ref h]) E (hml.trans hl.1.symm) hD w43 k46 b41 rfl (n_X5 l D X σ q36 H37.size 10 10 (by decide) (by decide) (by decide)) bi_X6_29 rfl ⟨Nat.le_of_ble_eq_true rfl, Nat.le_of_ble_eq_true rfl⟩ ⟨Nat.le_of_ble_eq_true rfl, Nat.le_of_ble_eq_true rfl⟩ rfl (Nat.le_of_ble_eq_true rfl) dX6_init_36) S42 rfl a58 (fun X48 σ49 H50 locs1 x51 k52 p53 w54 z55 o56 S57 => ?_)
  try clear k46; try clear w43; try clear S42; try clear b41
  have D59 : X48.1 = D := x51.1.trans hD
  have k60 : q_kd X48 h = 0 := x51.k0 h00 (by first | exact (nw_no hq36 (Nat.lt_trans hq36 mm_q36)) | (rintro (e | e) <;> omega))
  have b61 := b44.kept (o56 h t45 (by first | exact (Nat.ne_of_lt hq36) | omega))
  try clear o56; try clear b44
  have t62 := t_lt b61
  try clear t45
  have y63 := yr0.tr p53.1.1 (fun c hc => by rw [(hx0.2.2.2.1 c hc).1]; exact hc)
  have x64 := hx0.tr x51 a58
  try clear x51
  have y65 := p53.1.2
  have y66 := p53.2
  try clear p53
  refine b_put E S57 hAh hnm (f := 5) b61 (show vwCl[5]? = some (RX6, TX6, 8) from rfl) q_inX6 tyX6_ok nmX6 (by decide) bw_78 rfl (fun _ => rfl) (tyX6_ok 5 (by decide)) rfl rfl dX6_init_39 (fun H67 locs1 z68 o69 b70 S71 => ?_)
  try clear b61; try clear S57
  have w72 : q_w X48 σ49 H67 := w54.kept (fun a ha => o69 a (fun e => ha (by rw [e]; exact k60)))
  try clear o69; try clear w54
  have t73 := t_lt b70
  try clear t62
  refine lv_aload_n hxx hb dX6_init_42 rfl (lv_at hl 0 rfl) ?_
  refine b_new E S71 bw_42 bw_43 bw_4 (show vwCl[4]? = some (RX5, TX5, 1) from rfl) q_inX5 tyX5 tyX5_ok (Nat.le_of_ble_eq_true rfl) (Nat.le_of_ble_eq_true rfl) dX6_init_43 (fun q74 H75 e76 z77 o78 b79 S80 => ?_)
  have hq74 : h < q74 := by first | exact Nat.lt_of_lt_of_eq t73 e76.symm | omega
  have gg_q74 : s.heap.size ≤ q74 := Nat.le_trans S71.1 (Nat.le_of_eq e76.symm)
  have mm_q74 : q74 < H75.size := by rw [z77, e76]; exact Nat.lt_succ_self _
  have cc_q74 : q36 < q74 := by first | exact Nat.lt_of_lt_of_eq (Nat.lt_of_lt_of_le (Nat.lt_of_lt_of_le mm_q36 z55) (Nat.le_of_eq z68.symm)) e76.symm | omega
  try clear S71
  have w81 : q_w X48 σ49 H75 := w72.kept (fun a ha => o78 a (w72.lt ha))
  have b82 := b70.kept (o78 h t73)
  try clear o78; try clear b70
  have t83 := t_lt b82
  try clear t73
  have k84 : q_kd X48 q74 = 0 := w72.fresh (Nat.le_of_eq e76.symm)
  try clear w72
  have g85 := S80.1
  refine lv_dup hxx hb dX6_init_46 rfl ?_
  refine lv_bipush (v := 48) hxx hb dX6_init_47 (by decide) ?_
  have a96 : ∀ a, q_nw q74 H75.size a → q_nw h s.heap.size a := nw_in gg_q74 (Nat.le_trans gg_q74 (Nat.le_of_lt mm_q74))
  refine b_cv (b_runI (As := [.int 48]) (rest := [.ref q74, .ref h]) E (hml.trans hl.1.symm) D59 w81 k84 b79 rfl (n_X5 l D X48 σ49 q74 H75.size 48 48 (by decide) (by decide) (by decide)) bi_X6_29 rfl ⟨Nat.le_of_ble_eq_true rfl, Nat.le_of_ble_eq_true rfl⟩ ⟨Nat.le_of_ble_eq_true rfl, Nat.le_of_ble_eq_true rfl⟩ rfl (Nat.le_of_ble_eq_true rfl) dX6_init_49) S80 rfl a96 (fun X86 σ87 H88 locs1 x89 k90 p91 w92 z93 o94 S95 => ?_)
  try clear k84; try clear S80; try clear b79
  have D97 : X86.1 = D := x89.1.trans D59
  try clear D59
  have k98 : q_kd X86 h = 0 := x89.k0 k60 (by first | exact (nw_no hq74 (Nat.lt_trans hq74 mm_q74)) | (rintro (e | e) <;> omega))
  try clear k60
  have b99 := b82.kept (o94 h t83 (by first | exact (Nat.ne_of_lt hq74) | omega))
  try clear o94; try clear b82
  have t100 := t_lt b99
  try clear t83
  have y101 := y63.tr p91.1.1 (fun c hc => by rw [(x64.2.2.2.1 c hc).1]; exact hc)
  try clear y63
  have x102 := x64.tr x89 a96
  try clear x64
  have k103 := x89.kd k52 (by decide)
  have y104 := p91.1.1 q36 (by rw [k52]; decide) y65
  try clear y65
  have y105 := y_rlx x89 w81.1 k52 y66
  try clear x89; try clear w81; try clear y66; try clear k52
  have y106 := p91.1.2
  have y107 := p91.2
  try clear p91
  refine b_put E S95 hAh hnm (f := 6) b99 (show vwCl[5]? = some (RX6, TX6, 8) from rfl) q_inX6 tyX6_ok nmX6 (by decide) bw_82 rfl (fun _ => rfl) (tyX6_ok 6 (by decide)) rfl rfl dX6_init_52 (fun H108 locs1 z109 o110 b111 S112 => ?_)
  try clear b99; try clear S95
  have w113 : q_w X86 σ87 H108 := w92.kept (fun a ha => o110 a (fun e => ha (by rw [e]; exact k98)))
  try clear o110; try clear w92
  have t114 := t_lt b111
  try clear t100
  refine lv_aload_n hxx hb dX6_init_55 rfl (lv_at hl 0 rfl) ?_
  refine b_new E S112 bw_42 bw_43 bw_4 (show vwCl[4]? = some (RX5, TX5, 1) from rfl) q_inX5 tyX5 tyX5_ok (Nat.le_of_ble_eq_true rfl) (Nat.le_of_ble_eq_true rfl) dX6_init_56 (fun q115 H116 e117 z118 o119 b120 S121 => ?_)
  have hq115 : h < q115 := by first | exact Nat.lt_of_lt_of_eq t114 e117.symm | omega
  have gg_q115 : s.heap.size ≤ q115 := Nat.le_trans S112.1 (Nat.le_of_eq e117.symm)
  have mm_q115 : q115 < H116.size := by rw [z118, e117]; exact Nat.lt_succ_self _
  have cc_q115 : q74 < q115 := by first | exact Nat.lt_of_lt_of_eq (Nat.lt_of_lt_of_le (Nat.lt_of_lt_of_le mm_q74 z93) (Nat.le_of_eq z109.symm)) e117.symm | omega
  try clear S112
  have w122 : q_w X86 σ87 H116 := w113.kept (fun a ha => o119 a (w113.lt ha))
  have b123 := b111.kept (o119 h t114)
  try clear o119; try clear b111
  have t124 := t_lt b123
  try clear t114
  have k125 : q_kd X86 q115 = 0 := w113.fresh (Nat.le_of_eq e117.symm)
  try clear w113
  have g126 := S121.1
  refine lv_dup hxx hb dX6_init_59 rfl ?_
  refine lv_bipush (v := 6) hxx hb dX6_init_60 (by decide) ?_
  have a137 : ∀ a, q_nw q115 H116.size a → q_nw h s.heap.size a := nw_in gg_q115 (Nat.le_trans gg_q115 (Nat.le_of_lt mm_q115))
  refine b_cv (b_runI (As := [.int 6]) (rest := [.ref q115, .ref h]) E (hml.trans hl.1.symm) D97 w122 k125 b120 rfl (n_X5 l D X86 σ87 q115 H116.size 6 6 (by decide) (by decide) (by decide)) bi_X6_29 rfl ⟨Nat.le_of_ble_eq_true rfl, Nat.le_of_ble_eq_true rfl⟩ ⟨Nat.le_of_ble_eq_true rfl, Nat.le_of_ble_eq_true rfl⟩ rfl (Nat.le_of_ble_eq_true rfl) dX6_init_62) S121 rfl a137 (fun X127 σ128 H129 locs1 x130 k131 p132 w133 z134 o135 S136 => ?_)
  try clear k125; try clear S121; try clear b120
  have D138 : X127.1 = D := x130.1.trans D97
  try clear D97
  have k139 : q_kd X127 h = 0 := x130.k0 k98 (by first | exact (nw_no hq115 (Nat.lt_trans hq115 mm_q115)) | (rintro (e | e) <;> omega))
  try clear k98
  have b140 := b123.kept (o135 h t124 (by first | exact (Nat.ne_of_lt hq115) | omega))
  try clear o135; try clear b123
  have t141 := t_lt b140
  try clear t124
  have y142 := y101.tr p132.1.1 (fun c hc => by rw [(x102.2.2.2.1 c hc).1]; exact hc)
  try clear y101
  have x143 := x102.tr x130 a137
  try clear x102
  have k144 := x130.kd k103 (by decide)
  have k145 := x130.kd k90 (by decide)
  have y146 := p132.1.1 q36 (by rw [k103]; decide) y104
  try clear y104
  have y147 := p132.1.1 q74 (by rw [k90]; decide) y106
  try clear y106
  have y148 := y_rlx x130 w122.1 k103 y105
  try clear y105; try clear k103
  have y149 := y_rlx x130 w122.1 k90 y107
  try clear x130; try clear w122; try clear y107; try clear k90
  have y150 := p132.1.2
  have y151 := p132.2
  try clear p132
  refine b_put E S136 hAh hnm (f := 7) b140 (show vwCl[5]? = some (RX6, TX6, 8) from rfl) q_inX6 tyX6_ok nmX6 (by decide) bw_83 rfl (fun _ => rfl) (tyX6_ok 7 (by decide)) rfl rfl dX6_init_65 (fun H152 locs1 z153 o154 b155 S156 => ?_)
  try clear b140; try clear S136
  have w157 : q_w X127 σ128 H152 := w133.kept (fun a ha => o154 a (fun e => ha (by rw [e]; exact k139)))
  try clear o154; try clear w133
  have t158 := t_lt b155
  try clear t141
  obtain ⟨X159, dX159⟩ : ∃ Y, Y = q_xg X127 h 6 0 (fun f => ([0, 0, 0, 0, 0, q36, q74, q115] : List Nat).getD f 0) := ⟨_, rfl⟩
  obtain ⟨σ160, dσ160⟩ : ∃ τ, τ = q_sg σ128 h (fun f => ([2, 1, 0, 4, 0, 0, 0, 0] : List Int32).getD f 0) (fun f => ([0, 0, 0, 0, 0, 0, 0, 0] : List Int64).getD f 0) 0 := ⟨_, rfl⟩
  have x161 : q_ext (fun a => a = h) X127 X159 σ128 σ160 := by rw [dX159, dσ160]; exact q_ext.add k139
  have hrk : ∀ f, f < 40 → q_rk 6 f ≠ 0 → q_kd X127 (([0, 0, 0, 0, 0, q36, q74, q115] : List Nat).getD f 0) = q_rk 6 f := fun f h40 hf => match f, h40, hf with | 0, _, hf => absurd rfl hf | 1, _, hf => absurd rfl hf | 2, _, hf => absurd rfl hf | 3, _, hf => absurd rfl hf | 4, _, hf => absurd rfl hf | 5, _, _ => k144 | 6, _, _ => k145 | 7, _, _ => k131 | 8, _, hf => absurd rfl hf | 9, _, hf => absurd rfl hf | 10, _, hf => absurd rfl hf | 11, _, hf => absurd rfl hf | 12, _, hf => absurd rfl hf | 13, _, hf => absurd rfl hf | 14, _, hf => absurd rfl hf | 15, _, hf => absurd rfl hf | 16, _, hf => absurd rfl hf | 17, _, hf => absurd rfl hf | 18, _, hf => absurd rfl hf | 19, _, hf => absurd rfl hf | 20, _, hf => absurd rfl hf | 21, _, hf => absurd rfl hf | 22, _, hf => absurd rfl hf | 23, _, hf => absurd rfl hf | 24, _, hf => absurd rfl hf | 25, _, hf => absurd rfl hf | 26, _, hf => absurd rfl hf | 27, _, hf => absurd rfl hf | 28, _, hf => absurd rfl hf | 29, _, hf => absurd rfl hf | 30, _, hf => absurd rfl hf | 31, _, hf => absurd rfl hf | 32, _, hf => absurd rfl hf | 33, _, hf => absurd rfl hf | 34, _, hf => absurd rfl hf | 35, _, hf => absurd rfl hf | 36, _, hf => absurd rfl hf | 37, _, hf => absurd rfl hf | 38, _, hf => absurd rfl hf | 39, _, hf => absurd rfl hf | (n + 40), h40, _ => absurd h40 (Nat.not_lt_of_ge (Nat.le_add_left 40 n))
  have hB : ∀ f, f < 40 → (q_bn 6 f).1 ≤ ((([2, 1, 0, 4, 0, 0, 0, 0] : List Int32).getD f 0).toInt) ∧ (([2, 1, 0, 4, 0, 0, 0, 0] : List Int32).getD f 0).toInt ≤ (q_bn 6 f).2 := by decide +kernel
  have y163 : ∀ f, q_rk 6 f ≠ 0 → h < ([0, 0, 0, 0, 0, q36, q74, q115] : List Nat).getD f 0 := by
    intro f hf
    rcases y_fs6 hf with rfl | rfl | rfl
    · exact (hq36)
    · exact (hq74)
    · exact (hq115)
  have y164 : ∀ f, q_rk 6 f ≠ 0 → y_root X127 (([0, 0, 0, 0, 0, q36, q74, q115] : List Nat).getD f 0) := by
    intro f hf
    rcases y_fs6 hf with rfl | rfl | rfl
    · exact y146
    · exact y147
    · exact y150
  try clear y150; try clear y147; try clear y146
  have y165 : ∀ f, q_rk 6 f = 5 → q_ln X127 (q_rf X127 (([0, 0, 0, 0, 0, q36, q74, q115] : List Nat).getD f 0) 0) = y_rl 6 f := by
    intro f hf
    rcases y_fs6 (show q_rk 6 f ≠ 0 by rw [hf]; decide) with rfl | rfl | rfl
    · exact y148
    · exact y149
    · exact y151
  have y166 : ∀ f, q_rk 6 f ≠ 0 → ([0, 0, 0, 0, 0, q36, q74, q115] : List Nat).getD f 0 ≠ h := by
    intro f hf
    rcases y_fs6 hf with rfl | rfl | rfl
    · exact ((Nat.ne_of_gt hq36))
    · exact ((Nat.ne_of_gt hq74))
    · exact ((Nat.ne_of_gt hq115))
  have y167 : ∀ f, q_rk 6 f ≠ 0 → q_kd X (([0, 0, 0, 0, 0, q36, q74, q115] : List Nat).getD f 0) = 0 := by
    intro f hf
    rcases y_fs6 hf with rfl | rfl | rfl
    · exact hw0.fresh (gg_q36)
    · exact hw0.fresh (gg_q74)
    · exact hw0.fresh (gg_q115)
  have hIV : ∀ f, f < 60 → ([2, 1, 0, 4, 0, 0, 0, 0] : List Int32).getD f 0 = y_iv 6 f ∧ ([0, 0, 0, 0, 0, 0, 0, 0] : List Int64).getD f 0 = y_il 6 f := by decide +kernel
  have w162 : q_w X159 σ160 H152 := by
    rw [dX159, dσ160]
    exact w157.add k139 (q_hrk hrk) (fun q => absurd rfl q) (by decide) (fun q => absurd q (by decide)) (q_hB hB (by decide)) (fun q => by rcases q with q | q <;> exact absurd q (by decide)) (q_cfO D138 ⟨rfl, by decide⟩ (show vwCl[5]? = some (RX6, TX6, 8) from rfl) b155 (fun f hf => match f, hf with | 0, _ => rfl | 1, _ => rfl | 2, _ => rfl | 3, _ => rfl | 4, _ => rfl | 5, _ => rfl | 6, _ => rfl | 7, _ => rfl | (n + 8), hf => absurd hf (Nat.not_lt_of_ge (Nat.le_add_left 8 n)))) y163 (y_in6 (rf := (fun f => ([0, 0, 0, 0, 0, q36, q74, q115] : List Nat).getD f 0)) (show q36 < q74 from cc_q74) (show q74 < q115 from cc_q115)) y164 y165 (fun _ f hf => hIV f (hf.resolve_left (by decide)))
  try clear y165; try clear y164; try clear y163; try clear b155; try clear D138
  have y168 : y_root X159 h := by
    rw [dX159]
    exact (y_root.out w157.1 k139).add y_xg y166
  try clear y166; try clear k139
  have y169 : y_rt X X159 := by
    rw [dX159]
    exact y142.add y_xg y167
  try clear y167; try clear y142
  have k170 : q_kd X159 h = 6 := by rw [dX159]; exact q_xg_h
  have x171 := x143.tr x161 (fun a e => Or.inl e)
  try clear x143
  have y172 := y_rlx x161 w157.1 k144 y148
  try clear y172; try clear y148
  have y173 := y_rlx x161 w157.1 k145 y149
  try clear y173; try clear y149
  have y174 := y_rlx x161 w157.1 k131 y151
  try clear y174; try clear w157; try clear y151
  have k175 := x161.kd k144 (by decide)
  try clear k175; try clear k144
  have k176 := x161.kd k145 (by decide)
  try clear k176; try clear k145
  have k177 := x161.kd k131 (by decide)
  try clear k177; try clear x161; try clear k131
  exact b_ret E hr hlk S156 x171 k170 ⟨⟨y169, y168⟩, trivial⟩ w162 dX6_init_68

set_option maxRecDepth 100000 in
set_option maxHeartbeats 4000000 in
theorem n_X1 (l : Launch) (D : DW) (X : XW) (σ : ST) (h sz : Nat) : Met l yX1_init (q_ws yX1_init cX1_init 1 none) { frames := 2, cells := 14, slots := 157, locals := 45 } (q_PN D X σ h sz 1 7 (fun k => defaultValue (tyX1 k)) [.ref h]) (q_QN X σ h sz 2 (fun X' _ => (y_rt X X' ∧ y_root X' h) ∧ True)) 14 157 (q_nw h sz) := by
  refine b_met  (by first | exact rfl | decide +kernel) rfl rfl (Nat.le_of_ble_eq_true rfl) (fun p e s m below meth c E hml hr hlk hnm hsz hD hw0 h00 hob ls hl => ?_)
  subst hsz
  have hxx := E.1
  have hb := E.2.1
  have hl : lv_has ls 1 [(0, .ref h)] := hl
  have hS : va_S (q_nw h s.heap.size) s.heap s.heap [] := va_S.rf
  have hx0 : q_ext (q_nw h s.heap.size) X X σ σ := q_ext.rf
  have hAh : q_nw h s.heap.size h := Or.inl rfl
  have yr0 : y_rt X X := y_rt.rf
  have hlt := t_lt hob
  refine lv_aload_n hxx hb dX1_init_0 rfl (lv_at hl 0 rfl) ?_
  refine W.objInit hxx hb E.2.2.1 (E.2.2.2.1 _ bw_106) (E.2.2.2.1 _ bw_26) (E.2.2.2.1 _ bw_27) rfl (by rw [hml]; exact hl.1) rfl dX1_init_1 (Nat.le_of_ble_eq_true rfl) (Nat.le_of_ble_eq_true rfl) ?_
  refine W.eq (g2 := F0 m 4 ls []) rfl ?_
  refine lv_aload_n hxx hb dX1_init_4 rfl (lv_at hl 0 rfl) ?_
  refine b_new E hS bw_107 bw_43 bw_4 (show vwCl[4]? = some (RX5, TX5, 1) from rfl) q_inX5 tyX5 tyX5_ok (Nat.le_of_ble_eq_true rfl) (Nat.le_of_ble_eq_true rfl) dX1_init_5 (fun q1 H2 e3 z4 o5 b6 S7 => ?_)
  have hq1 : h < q1 := by first | exact Nat.lt_of_lt_of_eq hlt e3.symm | omega
  have gg_q1 : s.heap.size ≤ q1 := Nat.le_trans hS.1 (Nat.le_of_eq e3.symm)
  have mm_q1 : q1 < H2.size := by rw [z4, e3]; exact Nat.lt_succ_self _
  have w8 : q_w X σ H2 := hw0.kept (fun a ha => o5 a (hw0.lt ha))
  have b9 := hob.kept (o5 h hlt)
  try clear o5
  have t10 := t_lt b9
  have k11 : q_kd X q1 = 0 := hw0.fresh (Nat.le_of_eq e3.symm)
  have g12 := S7.1
  refine lv_dup hxx hb dX1_init_8 rfl ?_
  refine lv_bipush (v := 60) hxx hb dX1_init_9 (by decide) ?_
  have a23 : ∀ a, q_nw q1 H2.size a → q_nw h s.heap.size a := nw_in gg_q1 (Nat.le_trans gg_q1 (Nat.le_of_lt mm_q1))
  refine b_cv (b_runI (As := [.int 60]) (rest := [.ref q1, .ref h]) E (hml.trans hl.1.symm) hD w8 k11 b6 rfl (n_X5 l D X σ q1 H2.size 60 60 (by decide) (by decide) (by decide)) bi_X1_11 rfl ⟨Nat.le_of_ble_eq_true rfl, Nat.le_of_ble_eq_true rfl⟩ ⟨Nat.le_of_ble_eq_true rfl, Nat.le_of_ble_eq_true rfl⟩ rfl (Nat.le_of_ble_eq_true rfl) dX1_init_11) S7 rfl a23 (fun X13 σ14 H15 locs1 x16 k17 p18 w19 z20 o21 S22 => ?_)
  try clear k11; try clear w8; try clear S7; try clear b6
  have D24 : X13.1 = D := x16.1.trans hD
  have k25 : q_kd X13 h = 0 := x16.k0 h00 (by first | exact (nw_no hq1 (Nat.lt_trans hq1 mm_q1)) | (rintro (e | e) <;> omega))
  have b26 := b9.kept (o21 h t10 (by first | exact (Nat.ne_of_lt hq1) | omega))
  try clear o21; try clear b9
  have t27 := t_lt b26
  try clear t10
  have y28 := yr0.tr p18.1.1 (fun c hc => by rw [(hx0.2.2.2.1 c hc).1]; exact hc)
  have x29 := hx0.tr x16 a23
  try clear x16
  have y30 := p18.1.2
  have y31 := p18.2
  try clear p18
  refine b_put E S22 hAh hnm (f := 0) b26 (show vwCl[1]? = some (RX1, TX1, 7) from rfl) q_inX1 tyX1_ok nmX1 (by decide) bw_109 rfl (fun _ => rfl) (tyX1_ok 0 (by decide)) rfl rfl dX1_init_14 (fun H32 locs1 z33 o34 b35 S36 => ?_)
  try clear b26; try clear S22
  have w37 : q_w X13 σ14 H32 := w19.kept (fun a ha => o34 a (fun e => ha (by rw [e]; exact k25)))
  try clear o34; try clear w19
  have t38 := t_lt b35
  try clear t27
  refine lv_aload_n hxx hb dX1_init_17 rfl (lv_at hl 0 rfl) ?_
  refine b_new E S36 bw_107 bw_43 bw_4 (show vwCl[4]? = some (RX5, TX5, 1) from rfl) q_inX5 tyX5 tyX5_ok (Nat.le_of_ble_eq_true rfl) (Nat.le_of_ble_eq_true rfl) dX1_init_18 (fun q39 H40 e41 z42 o43 b44 S45 => ?_)
  have hq39 : h < q39 := by first | exact Nat.lt_of_lt_of_eq t38 e41.symm | omega
  have gg_q39 : s.heap.size ≤ q39 := Nat.le_trans S36.1 (Nat.le_of_eq e41.symm)
  have mm_q39 : q39 < H40.size := by rw [z42, e41]; exact Nat.lt_succ_self _
  have cc_q39 : q1 < q39 := by first | exact Nat.lt_of_lt_of_eq (Nat.lt_of_lt_of_le (Nat.lt_of_lt_of_le mm_q1 z20) (Nat.le_of_eq z33.symm)) e41.symm | omega
  try clear S36
  have w46 : q_w X13 σ14 H40 := w37.kept (fun a ha => o43 a (w37.lt ha))
  have b47 := b35.kept (o43 h t38)
  try clear o43; try clear b35
  have t48 := t_lt b47
  try clear t38
  have k49 : q_kd X13 q39 = 0 := w37.fresh (Nat.le_of_eq e41.symm)
  try clear w37
  have g50 := S45.1
  refine lv_dup hxx hb dX1_init_21 rfl ?_
  refine lv_bipush (v := 60) hxx hb dX1_init_22 (by decide) ?_
  have a61 : ∀ a, q_nw q39 H40.size a → q_nw h s.heap.size a := nw_in gg_q39 (Nat.le_trans gg_q39 (Nat.le_of_lt mm_q39))
  refine b_cv (b_runI (As := [.int 60]) (rest := [.ref q39, .ref h]) E (hml.trans hl.1.symm) D24 w46 k49 b44 rfl (n_X5 l D X13 σ14 q39 H40.size 60 60 (by decide) (by decide) (by decide)) bi_X1_11 rfl ⟨Nat.le_of_ble_eq_true rfl, Nat.le_of_ble_eq_true rfl⟩ ⟨Nat.le_of_ble_eq_true rfl, Nat.le_of_ble_eq_true rfl⟩ rfl (Nat.le_of_ble_eq_true rfl) dX1_init_24) S45 rfl a61 (fun X51 σ52 H53 locs1 x54 k55 p56 w57 z58 o59 S60 => ?_)
  try clear k49; try clear S45; try clear b44
  have D62 : X51.1 = D := x54.1.trans D24
  try clear D24
  have k63 : q_kd X51 h = 0 := x54.k0 k25 (by first | exact (nw_no hq39 (Nat.lt_trans hq39 mm_q39)) | (rintro (e | e) <;> omega))
  try clear k25
  have b64 := b47.kept (o59 h t48 (by first | exact (Nat.ne_of_lt hq39) | omega))
  try clear o59; try clear b47
  have t65 := t_lt b64
  try clear t48
  have y66 := y28.tr p56.1.1 (fun c hc => by rw [(x29.2.2.2.1 c hc).1]; exact hc)
  try clear y28
  have x67 := x29.tr x54 a61
  try clear x29
  have k68 := x54.kd k17 (by decide)
  have y69 := p56.1.1 q1 (by rw [k17]; decide) y30
  try clear y30
  have y70 := y_rlx x54 w46.1 k17 y31
  try clear x54; try clear w46; try clear y31; try clear k17
  have y71 := p56.1.2
  have y72 := p56.2
  try clear p56
  refine b_put E S60 hAh hnm (f := 1) b64 (show vwCl[1]? = some (RX1, TX1, 7) from rfl) q_inX1 tyX1_ok nmX1 (by decide) bw_110 rfl (fun _ => rfl) (tyX1_ok 1 (by decide)) rfl rfl dX1_init_27 (fun H73 locs1 z74 o75 b76 S77 => ?_)
  try clear b64; try clear S60
  have w78 : q_w X51 σ52 H73 := w57.kept (fun a ha => o75 a (fun e => ha (by rw [e]; exact k63)))
  try clear o75; try clear w57
  have t79 := t_lt b76
  try clear t65
  refine lv_aload_n hxx hb dX1_init_30 rfl (lv_at hl 0 rfl) ?_
  refine b_new E S77 bw_107 bw_43 bw_4 (show vwCl[4]? = some (RX5, TX5, 1) from rfl) q_inX5 tyX5 tyX5_ok (Nat.le_of_ble_eq_true rfl) (Nat.le_of_ble_eq_true rfl) dX1_init_31 (fun q80 H81 e82 z83 o84 b85 S86 => ?_)
  have hq80 : h < q80 := by first | exact Nat.lt_of_lt_of_eq t79 e82.symm | omega
  have gg_q80 : s.heap.size ≤ q80 := Nat.le_trans S77.1 (Nat.le_of_eq e82.symm)
  have mm_q80 : q80 < H81.size := by rw [z83, e82]; exact Nat.lt_succ_self _
  have cc_q80 : q39 < q80 := by first | exact Nat.lt_of_lt_of_eq (Nat.lt_of_lt_of_le (Nat.lt_of_lt_of_le mm_q39 z58) (Nat.le_of_eq z74.symm)) e82.symm | omega
  try clear S77
  have w87 : q_w X51 σ52 H81 := w78.kept (fun a ha => o84 a (w78.lt ha))
  have b88 := b76.kept (o84 h t79)
  try clear o84; try clear b76
  have t89 := t_lt b88
  try clear t79
  have k90 : q_kd X51 q80 = 0 := w78.fresh (Nat.le_of_eq e82.symm)
  try clear w78
  have g91 := S86.1
  refine lv_dup hxx hb dX1_init_34 rfl ?_
  refine lv_bipush (v := 6) hxx hb dX1_init_35 (by decide) ?_
  have a102 : ∀ a, q_nw q80 H81.size a → q_nw h s.heap.size a := nw_in gg_q80 (Nat.le_trans gg_q80 (Nat.le_of_lt mm_q80))
  refine b_cv (b_runI (As := [.int 6]) (rest := [.ref q80, .ref h]) E (hml.trans hl.1.symm) D62 w87 k90 b85 rfl (n_X5 l D X51 σ52 q80 H81.size 6 6 (by decide) (by decide) (by decide)) bi_X1_11 rfl ⟨Nat.le_of_ble_eq_true rfl, Nat.le_of_ble_eq_true rfl⟩ ⟨Nat.le_of_ble_eq_true rfl, Nat.le_of_ble_eq_true rfl⟩ rfl (Nat.le_of_ble_eq_true rfl) dX1_init_37) S86 rfl a102 (fun X92 σ93 H94 locs1 x95 k96 p97 w98 z99 o100 S101 => ?_)
  try clear k90; try clear S86; try clear b85
  have D103 : X92.1 = D := x95.1.trans D62
  try clear D62
  have k104 : q_kd X92 h = 0 := x95.k0 k63 (by first | exact (nw_no hq80 (Nat.lt_trans hq80 mm_q80)) | (rintro (e | e) <;> omega))
  try clear k63
  have b105 := b88.kept (o100 h t89 (by first | exact (Nat.ne_of_lt hq80) | omega))
  try clear o100; try clear b88
  have t106 := t_lt b105
  try clear t89
  have y107 := y66.tr p97.1.1 (fun c hc => by rw [(x67.2.2.2.1 c hc).1]; exact hc)
  try clear y66
  have x108 := x67.tr x95 a102
  try clear x67
  have k109 := x95.kd k68 (by decide)
  have k110 := x95.kd k55 (by decide)
  have y111 := p97.1.1 q1 (by rw [k68]; decide) y69
  try clear y69
  have y112 := p97.1.1 q39 (by rw [k55]; decide) y71
  try clear y71
  have y113 := y_rlx x95 w87.1 k68 y70
  try clear y70; try clear k68
  have y114 := y_rlx x95 w87.1 k55 y72
  try clear x95; try clear w87; try clear y72; try clear k55
  have y115 := p97.1.2
  have y116 := p97.2
  try clear p97
  refine b_put E S101 hAh hnm (f := 2) b105 (show vwCl[1]? = some (RX1, TX1, 7) from rfl) q_inX1 tyX1_ok nmX1 (by decide) bw_111 rfl (fun _ => rfl) (tyX1_ok 2 (by decide)) rfl rfl dX1_init_40 (fun H117 locs1 z118 o119 b120 S121 => ?_)
  try clear b105; try clear S101
  have w122 : q_w X92 σ93 H117 := w98.kept (fun a ha => o119 a (fun e => ha (by rw [e]; exact k104)))
  try clear o119; try clear w98
  have t123 := t_lt b120
  try clear t106
  refine lv_aload_n hxx hb dX1_init_43 rfl (lv_at hl 0 rfl) ?_
  refine b_new E S121 bw_107 bw_43 bw_4 (show vwCl[4]? = some (RX5, TX5, 1) from rfl) q_inX5 tyX5 tyX5_ok (Nat.le_of_ble_eq_true rfl) (Nat.le_of_ble_eq_true rfl) dX1_init_44 (fun q124 H125 e126 z127 o128 b129 S130 => ?_)
  have hq124 : h < q124 := by first | exact Nat.lt_of_lt_of_eq t123 e126.symm | omega
  have gg_q124 : s.heap.size ≤ q124 := Nat.le_trans S121.1 (Nat.le_of_eq e126.symm)
  have mm_q124 : q124 < H125.size := by rw [z127, e126]; exact Nat.lt_succ_self _
  have cc_q124 : q80 < q124 := by first | exact Nat.lt_of_lt_of_eq (Nat.lt_of_lt_of_le (Nat.lt_of_lt_of_le mm_q80 z99) (Nat.le_of_eq z118.symm)) e126.symm | omega
  try clear S121
  have w131 : q_w X92 σ93 H125 := w122.kept (fun a ha => o128 a (w122.lt ha))
  have b132 := b120.kept (o128 h t123)
  try clear o128; try clear b120
  have t133 := t_lt b132
  try clear t123
  have k134 : q_kd X92 q124 = 0 := w122.fresh (Nat.le_of_eq e126.symm)
  try clear w122
  have g135 := S130.1
  refine lv_dup hxx hb dX1_init_47 rfl ?_
  refine lv_bipush (v := 6) hxx hb dX1_init_48 (by decide) ?_
  have a146 : ∀ a, q_nw q124 H125.size a → q_nw h s.heap.size a := nw_in gg_q124 (Nat.le_trans gg_q124 (Nat.le_of_lt mm_q124))
  refine b_cv (b_runI (As := [.int 6]) (rest := [.ref q124, .ref h]) E (hml.trans hl.1.symm) D103 w131 k134 b129 rfl (n_X5 l D X92 σ93 q124 H125.size 6 6 (by decide) (by decide) (by decide)) bi_X1_11 rfl ⟨Nat.le_of_ble_eq_true rfl, Nat.le_of_ble_eq_true rfl⟩ ⟨Nat.le_of_ble_eq_true rfl, Nat.le_of_ble_eq_true rfl⟩ rfl (Nat.le_of_ble_eq_true rfl) dX1_init_50) S130 rfl a146 (fun X136 σ137 H138 locs1 x139 k140 p141 w142 z143 o144 S145 => ?_)
  try clear k134; try clear S130; try clear b129
  have D147 : X136.1 = D := x139.1.trans D103
  try clear D103
  have k148 : q_kd X136 h = 0 := x139.k0 k104 (by first | exact (nw_no hq124 (Nat.lt_trans hq124 mm_q124)) | (rintro (e | e) <;> omega))
  try clear k104
  have b149 := b132.kept (o144 h t133 (by first | exact (Nat.ne_of_lt hq124) | omega))
  try clear o144; try clear b132
  have t150 := t_lt b149
  try clear t133
  have y151 := y107.tr p141.1.1 (fun c hc => by rw [(x108.2.2.2.1 c hc).1]; exact hc)
  try clear y107
  have x152 := x108.tr x139 a146
  try clear x108
  have k153 := x139.kd k109 (by decide)
  have k154 := x139.kd k110 (by decide)
  have k155 := x139.kd k96 (by decide)
  have y156 := p141.1.1 q1 (by rw [k109]; decide) y111
  try clear y111
  have y157 := p141.1.1 q39 (by rw [k110]; decide) y112
  try clear y112
  have y158 := p141.1.1 q80 (by rw [k96]; decide) y115
  try clear y115
  have y159 := y_rlx x139 w131.1 k109 y113
  try clear y113; try clear k109
  have y160 := y_rlx x139 w131.1 k110 y114
  try clear y114; try clear k110
  have y161 := y_rlx x139 w131.1 k96 y116
  try clear x139; try clear w131; try clear y116; try clear k96
  have y162 := p141.1.2
  have y163 := p141.2
  try clear p141
  refine b_put E S145 hAh hnm (f := 3) b149 (show vwCl[1]? = some (RX1, TX1, 7) from rfl) q_inX1 tyX1_ok nmX1 (by decide) bw_115 rfl (fun _ => rfl) (tyX1_ok 3 (by decide)) rfl rfl dX1_init_53 (fun H164 locs1 z165 o166 b167 S168 => ?_)
  try clear b149; try clear S145
  have w169 : q_w X136 σ137 H164 := w142.kept (fun a ha => o166 a (fun e => ha (by rw [e]; exact k148)))
  try clear o166; try clear w142
  have t170 := t_lt b167
  try clear t150
  refine lv_aload_n hxx hb dX1_init_56 rfl (lv_at hl 0 rfl) ?_
  refine b_new E S168 bw_107 bw_43 bw_4 (show vwCl[4]? = some (RX5, TX5, 1) from rfl) q_inX5 tyX5 tyX5_ok (Nat.le_of_ble_eq_true rfl) (Nat.le_of_ble_eq_true rfl) dX1_init_57 (fun q171 H172 e173 z174 o175 b176 S177 => ?_)
  have hq171 : h < q171 := by first | exact Nat.lt_of_lt_of_eq t170 e173.symm | omega
  have gg_q171 : s.heap.size ≤ q171 := Nat.le_trans S168.1 (Nat.le_of_eq e173.symm)
  have mm_q171 : q171 < H172.size := by rw [z174, e173]; exact Nat.lt_succ_self _
  have cc_q171 : q124 < q171 := by first | exact Nat.lt_of_lt_of_eq (Nat.lt_of_lt_of_le (Nat.lt_of_lt_of_le mm_q124 z143) (Nat.le_of_eq z165.symm)) e173.symm | omega
  try clear S168
  have w178 : q_w X136 σ137 H172 := w169.kept (fun a ha => o175 a (w169.lt ha))
  have b179 := b167.kept (o175 h t170)
  try clear o175; try clear b167
  have t180 := t_lt b179
  try clear t170
  have k181 : q_kd X136 q171 = 0 := w169.fresh (Nat.le_of_eq e173.symm)
  try clear w169
  have g182 := S177.1
  refine lv_dup hxx hb dX1_init_60 rfl ?_
  refine lv_bipush (v := 6) hxx hb dX1_init_61 (by decide) ?_
  have a193 : ∀ a, q_nw q171 H172.size a → q_nw h s.heap.size a := nw_in gg_q171 (Nat.le_trans gg_q171 (Nat.le_of_lt mm_q171))
  refine b_cv (b_runI (As := [.int 6]) (rest := [.ref q171, .ref h]) E (hml.trans hl.1.symm) D147 w178 k181 b176 rfl (n_X5 l D X136 σ137 q171 H172.size 6 6 (by decide) (by decide) (by decide)) bi_X1_11 rfl ⟨Nat.le_of_ble_eq_true rfl, Nat.le_of_ble_eq_true rfl⟩ ⟨Nat.le_of_ble_eq_true rfl, Nat.le_of_ble_eq_true rfl⟩ rfl (Nat.le_of_ble_eq_true rfl) dX1_init_63) S177 rfl a193 (fun X183 σ184 H185 locs1 x186 k187 p188 w189 z190 o191 S192 => ?_)
  try clear k181; try clear S177; try clear b176
  have D194 : X183.1 = D := x186.1.trans D147
  try clear D147
  have k195 : q_kd X183 h = 0 := x186.k0 k148 (by first | exact (nw_no hq171 (Nat.lt_trans hq171 mm_q171)) | (rintro (e | e) <;> omega))
  try clear k148
  have b196 := b179.kept (o191 h t180 (by first | exact (Nat.ne_of_lt hq171) | omega))
  try clear o191; try clear b179
  have t197 := t_lt b196
  try clear t180
  have y198 := y151.tr p188.1.1 (fun c hc => by rw [(x152.2.2.2.1 c hc).1]; exact hc)
  try clear y151
  have x199 := x152.tr x186 a193
  try clear x152
  have k200 := x186.kd k153 (by decide)
  have k201 := x186.kd k154 (by decide)
  have k202 := x186.kd k155 (by decide)
  have k203 := x186.kd k140 (by decide)
  have y204 := p188.1.1 q1 (by rw [k153]; decide) y156
  try clear y156
  have y205 := p188.1.1 q39 (by rw [k154]; decide) y157
  try clear y157
  have y206 := p188.1.1 q80 (by rw [k155]; decide) y158
  try clear y158
  have y207 := p188.1.1 q124 (by rw [k140]; decide) y162
  try clear y162
  have y208 := y_rlx x186 w178.1 k153 y159
  try clear y159; try clear k153
  have y209 := y_rlx x186 w178.1 k154 y160
  try clear y160; try clear k154
  have y210 := y_rlx x186 w178.1 k155 y161
  try clear y161; try clear k155
  have y211 := y_rlx x186 w178.1 k140 y163
  try clear x186; try clear w178; try clear y163; try clear k140
  have y212 := p188.1.2
  have y213 := p188.2
  try clear p188
  refine b_put E S192 hAh hnm (f := 4) b196 (show vwCl[1]? = some (RX1, TX1, 7) from rfl) q_inX1 tyX1_ok nmX1 (by decide) bw_119 rfl (fun _ => rfl) (tyX1_ok 4 (by decide)) rfl rfl dX1_init_66 (fun H214 locs1 z215 o216 b217 S218 => ?_)
  try clear b196; try clear S192
  have w219 : q_w X183 σ184 H214 := w189.kept (fun a ha => o216 a (fun e => ha (by rw [e]; exact k195)))
  try clear o216; try clear w189
  have t220 := t_lt b217
  try clear t197
  refine lv_aload_n hxx hb dX1_init_69 rfl (lv_at hl 0 rfl) ?_
  refine b_new E S218 bw_107 bw_43 bw_4 (show vwCl[4]? = some (RX5, TX5, 1) from rfl) q_inX5 tyX5 tyX5_ok (Nat.le_of_ble_eq_true rfl) (Nat.le_of_ble_eq_true rfl) dX1_init_70 (fun q221 H222 e223 z224 o225 b226 S227 => ?_)
  have hq221 : h < q221 := by first | exact Nat.lt_of_lt_of_eq t220 e223.symm | omega
  have gg_q221 : s.heap.size ≤ q221 := Nat.le_trans S218.1 (Nat.le_of_eq e223.symm)
  have mm_q221 : q221 < H222.size := by rw [z224, e223]; exact Nat.lt_succ_self _
  have cc_q221 : q171 < q221 := by first | exact Nat.lt_of_lt_of_eq (Nat.lt_of_lt_of_le (Nat.lt_of_lt_of_le mm_q171 z190) (Nat.le_of_eq z215.symm)) e223.symm | omega
  try clear S218
  have w228 : q_w X183 σ184 H222 := w219.kept (fun a ha => o225 a (w219.lt ha))
  have b229 := b217.kept (o225 h t220)
  try clear o225; try clear b217
  have t230 := t_lt b229
  try clear t220
  have k231 : q_kd X183 q221 = 0 := w219.fresh (Nat.le_of_eq e223.symm)
  try clear w219
  have g232 := S227.1
  refine lv_dup hxx hb dX1_init_73 rfl ?_
  refine lv_bipush (v := 6) hxx hb dX1_init_74 (by decide) ?_
  have a243 : ∀ a, q_nw q221 H222.size a → q_nw h s.heap.size a := nw_in gg_q221 (Nat.le_trans gg_q221 (Nat.le_of_lt mm_q221))
  refine b_cv (b_runI (As := [.int 6]) (rest := [.ref q221, .ref h]) E (hml.trans hl.1.symm) D194 w228 k231 b226 rfl (n_X5 l D X183 σ184 q221 H222.size 6 6 (by decide) (by decide) (by decide)) bi_X1_11 rfl ⟨Nat.le_of_ble_eq_true rfl, Nat.le_of_ble_eq_true rfl⟩ ⟨Nat.le_of_ble_eq_true rfl, Nat.le_of_ble_eq_true rfl⟩ rfl (Nat.le_of_ble_eq_true rfl) dX1_init_76) S227 rfl a243 (fun X233 σ234 H235 locs1 x236 k237 p238 w239 z240 o241 S242 => ?_)
  try clear k231; try clear S227; try clear b226
  have D244 : X233.1 = D := x236.1.trans D194
  try clear D194
  have k245 : q_kd X233 h = 0 := x236.k0 k195 (by first | exact (nw_no hq221 (Nat.lt_trans hq221 mm_q221)) | (rintro (e | e) <;> omega))
  try clear k195
  have b246 := b229.kept (o241 h t230 (by first | exact (Nat.ne_of_lt hq221) | omega))
  try clear o241; try clear b229
  have t247 := t_lt b246
  try clear t230
  have y248 := y198.tr p238.1.1 (fun c hc => by rw [(x199.2.2.2.1 c hc).1]; exact hc)
  try clear y198
  have x249 := x199.tr x236 a243
  try clear x199
  have k250 := x236.kd k200 (by decide)
  have k251 := x236.kd k201 (by decide)
  have k252 := x236.kd k202 (by decide)
  have k253 := x236.kd k203 (by decide)
  have k254 := x236.kd k187 (by decide)
  have y255 := p238.1.1 q1 (by rw [k200]; decide) y204
  try clear y204
  have y256 := p238.1.1 q39 (by rw [k201]; decide) y205
  try clear y205
  have y257 := p238.1.1 q80 (by rw [k202]; decide) y206
  try clear y206
  have y258 := p238.1.1 q124 (by rw [k203]; decide) y207
  try clear y207
  have y259 := p238.1.1 q171 (by rw [k187]; decide) y212
  try clear y212
  have y260 := y_rlx x236 w228.1 k200 y208
  try clear y208; try clear k200
  have y261 := y_rlx x236 w228.1 k201 y209
  try clear y209; try clear k201
  have y262 := y_rlx x236 w228.1 k202 y210
  try clear y210; try clear k202
  have y263 := y_rlx x236 w228.1 k203 y211
  try clear y211; try clear k203
  have y264 := y_rlx x236 w228.1 k187 y213
  try clear x236; try clear w228; try clear y213; try clear k187
  have y265 := p238.1.2
  have y266 := p238.2
  try clear p238
  refine b_put E S242 hAh hnm (f := 5) b246 (show vwCl[1]? = some (RX1, TX1, 7) from rfl) q_inX1 tyX1_ok nmX1 (by decide) bw_123 rfl (fun _ => rfl) (tyX1_ok 5 (by decide)) rfl rfl dX1_init_79 (fun H267 locs1 z268 o269 b270 S271 => ?_)
  try clear b246; try clear S242
  have w272 : q_w X233 σ234 H267 := w239.kept (fun a ha => o269 a (fun e => ha (by rw [e]; exact k245)))
  try clear o269; try clear w239
  have t273 := t_lt b270
  try clear t247
  refine lv_aload_n hxx hb dX1_init_82 rfl (lv_at hl 0 rfl) ?_
  refine b_new E S271 bw_107 bw_43 bw_4 (show vwCl[4]? = some (RX5, TX5, 1) from rfl) q_inX5 tyX5 tyX5_ok (Nat.le_of_ble_eq_true rfl) (Nat.le_of_ble_eq_true rfl) dX1_init_83 (fun q274 H275 e276 z277 o278 b279 S280 => ?_)
  have hq274 : h < q274 := by first | exact Nat.lt_of_lt_of_eq t273 e276.symm | omega
  have gg_q274 : s.heap.size ≤ q274 := Nat.le_trans S271.1 (Nat.le_of_eq e276.symm)
  have mm_q274 : q274 < H275.size := by rw [z277, e276]; exact Nat.lt_succ_self _
  have cc_q274 : q221 < q274 := by first | exact Nat.lt_of_lt_of_eq (Nat.lt_of_lt_of_le (Nat.lt_of_lt_of_le mm_q221 z240) (Nat.le_of_eq z268.symm)) e276.symm | omega
  try clear S271
  have w281 : q_w X233 σ234 H275 := w272.kept (fun a ha => o278 a (w272.lt ha))
  have b282 := b270.kept (o278 h t273)
  try clear o278; try clear b270
  have t283 := t_lt b282
  try clear t273
  have k284 : q_kd X233 q274 = 0 := w272.fresh (Nat.le_of_eq e276.symm)
  try clear w272
  have g285 := S280.1
  refine lv_dup hxx hb dX1_init_86 rfl ?_
  refine lv_bipush (v := 6) hxx hb dX1_init_87 (by decide) ?_
  have a296 : ∀ a, q_nw q274 H275.size a → q_nw h s.heap.size a := nw_in gg_q274 (Nat.le_trans gg_q274 (Nat.le_of_lt mm_q274))
  refine b_cv (b_runI (As := [.int 6]) (rest := [.ref q274, .ref h]) E (hml.trans hl.1.symm) D244 w281 k284 b279 rfl (n_X5 l D X233 σ234 q274 H275.size 6 6 (by decide) (by decide) (by decide)) bi_X1_11 rfl ⟨Nat.le_of_ble_eq_true rfl, Nat.le_of_ble_eq_true rfl⟩ ⟨Nat.le_of_ble_eq_true rfl, Nat.le_of_ble_eq_true rfl⟩ rfl (Nat.le_of_ble_eq_true rfl) dX1_init_89) S280 rfl a296 (fun X286 σ287 H288 locs1 x289 k290 p291 w292 z293 o294 S295 => ?_)
  try clear k284; try clear S280; try clear b279
  have D297 : X286.1 = D := x289.1.trans D244
  try clear D244
  have k298 : q_kd X286 h = 0 := x289.k0 k245 (by first | exact (nw_no hq274 (Nat.lt_trans hq274 mm_q274)) | (rintro (e | e) <;> omega))
  try clear k245
  have b299 := b282.kept (o294 h t283 (by first | exact (Nat.ne_of_lt hq274) | omega))
  try clear o294; try clear b282
  have t300 := t_lt b299
  try clear t283
  have y301 := y248.tr p291.1.1 (fun c hc => by rw [(x249.2.2.2.1 c hc).1]; exact hc)
  try clear y248
  have x302 := x249.tr x289 a296
  try clear x249
  have k303 := x289.kd k250 (by decide)
  have k304 := x289.kd k251 (by decide)
  have k305 := x289.kd k252 (by decide)
  have k306 := x289.kd k253 (by decide)
  have k307 := x289.kd k254 (by decide)
  have k308 := x289.kd k237 (by decide)
  have y309 := p291.1.1 q1 (by rw [k250]; decide) y255
  try clear y255
  have y310 := p291.1.1 q39 (by rw [k251]; decide) y256
  try clear y256
  have y311 := p291.1.1 q80 (by rw [k252]; decide) y257
  try clear y257
  have y312 := p291.1.1 q124 (by rw [k253]; decide) y258
  try clear y258
  have y313 := p291.1.1 q171 (by rw [k254]; decide) y259
  try clear y259
  have y314 := p291.1.1 q221 (by rw [k237]; decide) y265
  try clear y265
  have y315 := y_rlx x289 w281.1 k250 y260
  try clear y260; try clear k250
  have y316 := y_rlx x289 w281.1 k251 y261
  try clear y261; try clear k251
  have y317 := y_rlx x289 w281.1 k252 y262
  try clear y262; try clear k252
  have y318 := y_rlx x289 w281.1 k253 y263
  try clear y263; try clear k253
  have y319 := y_rlx x289 w281.1 k254 y264
  try clear y264; try clear k254
  have y320 := y_rlx x289 w281.1 k237 y266
  try clear x289; try clear w281; try clear y266; try clear k237
  have y321 := p291.1.2
  have y322 := p291.2
  try clear p291
  refine b_put E S295 hAh hnm (f := 6) b299 (show vwCl[1]? = some (RX1, TX1, 7) from rfl) q_inX1 tyX1_ok nmX1 (by decide) bw_127 rfl (fun _ => rfl) (tyX1_ok 6 (by decide)) rfl rfl dX1_init_92 (fun H323 locs1 z324 o325 b326 S327 => ?_)
  try clear b299; try clear S295
  have w328 : q_w X286 σ287 H323 := w292.kept (fun a ha => o325 a (fun e => ha (by rw [e]; exact k298)))
  try clear o325; try clear w292
  have t329 := t_lt b326
  try clear t300
  obtain ⟨X330, dX330⟩ : ∃ Y, Y = q_xg X286 h 2 0 (fun f => ([q1, q39, q80, q124, q171, q221, q274] : List Nat).getD f 0) := ⟨_, rfl⟩
  obtain ⟨σ331, dσ331⟩ : ∃ τ, τ = q_sg σ287 h (fun f => ([0, 0, 0, 0, 0, 0, 0] : List Int32).getD f 0) (fun f => ([0, 0, 0, 0, 0, 0, 0] : List Int64).getD f 0) 0 := ⟨_, rfl⟩
  have x332 : q_ext (fun a => a = h) X286 X330 σ287 σ331 := by rw [dX330, dσ331]; exact q_ext.add k298
  have hrk : ∀ f, f < 40 → q_rk 2 f ≠ 0 → q_kd X286 (([q1, q39, q80, q124, q171, q221, q274] : List Nat).getD f 0) = q_rk 2 f := fun f h40 hf => match f, h40, hf with | 0, _, _ => k303 | 1, _, _ => k304 | 2, _, _ => k305 | 3, _, _ => k306 | 4, _, _ => k307 | 5, _, _ => k308 | 6, _, _ => k290 | 7, _, hf => absurd rfl hf | 8, _, hf => absurd rfl hf | 9, _, hf => absurd rfl hf | 10, _, hf => absurd rfl hf | 11, _, hf => absurd rfl hf | 12, _, hf => absurd rfl hf | 13, _, hf => absurd rfl hf | 14, _, hf => absurd rfl hf | 15, _, hf => absurd rfl hf | 16, _, hf => absurd rfl hf | 17, _, hf => absurd rfl hf | 18, _, hf => absurd rfl hf | 19, _, hf => absurd rfl hf | 20, _, hf => absurd rfl hf | 21, _, hf => absurd rfl hf | 22, _, hf => absurd rfl hf | 23, _, hf => absurd rfl hf | 24, _, hf => absurd rfl hf | 25, _, hf => absurd rfl hf | 26, _, hf => absurd rfl hf | 27, _, hf => absurd rfl hf | 28, _, hf => absurd rfl hf | 29, _, hf => absurd rfl hf | 30, _, hf => absurd rfl hf | 31, _, hf => absurd rfl hf | 32, _, hf => absurd rfl hf | 33, _, hf => absurd rfl hf | 34, _, hf => absurd rfl hf | 35, _, hf => absurd rfl hf | 36, _, hf => absurd rfl hf | 37, _, hf => absurd rfl hf | 38, _, hf => absurd rfl hf | 39, _, hf => absurd rfl hf | (n + 40), h40, _ => absurd h40 (Nat.not_lt_of_ge (Nat.le_add_left 40 n))
  have hB : ∀ f, f < 40 → (q_bn 2 f).1 ≤ ((([0, 0, 0, 0, 0, 0, 0] : List Int32).getD f 0).toInt) ∧ (([0, 0, 0, 0, 0, 0, 0] : List Int32).getD f 0).toInt ≤ (q_bn 2 f).2 := by decide +kernel
  have y334 : ∀ f, q_rk 2 f ≠ 0 → h < ([q1, q39, q80, q124, q171, q221, q274] : List Nat).getD f 0 := by
    intro f hf
    rcases y_fs2 hf with rfl | rfl | rfl | rfl | rfl | rfl | rfl
    · exact (hq1)
    · exact (hq39)
    · exact (hq80)
    · exact (hq124)
    · exact (hq171)
    · exact (hq221)
    · exact (hq274)
  have y335 : ∀ f, q_rk 2 f ≠ 0 → y_root X286 (([q1, q39, q80, q124, q171, q221, q274] : List Nat).getD f 0) := by
    intro f hf
    rcases y_fs2 hf with rfl | rfl | rfl | rfl | rfl | rfl | rfl
    · exact y309
    · exact y310
    · exact y311
    · exact y312
    · exact y313
    · exact y314
    · exact y321
  try clear y321; try clear y314; try clear y313; try clear y312; try clear y311; try clear y310; try clear y309
  have y336 : ∀ f, q_rk 2 f = 5 → q_ln X286 (q_rf X286 (([q1, q39, q80, q124, q171, q221, q274] : List Nat).getD f 0) 0) = y_rl 2 f := by
    intro f hf
    rcases y_fs2 (show q_rk 2 f ≠ 0 by rw [hf]; decide) with rfl | rfl | rfl | rfl | rfl | rfl | rfl
    · exact y315
    · exact y316
    · exact y317
    · exact y318
    · exact y319
    · exact y320
    · exact y322
  have y337 : ∀ f, q_rk 2 f ≠ 0 → ([q1, q39, q80, q124, q171, q221, q274] : List Nat).getD f 0 ≠ h := by
    intro f hf
    rcases y_fs2 hf with rfl | rfl | rfl | rfl | rfl | rfl | rfl
    · exact ((Nat.ne_of_gt hq1))
    · exact ((Nat.ne_of_gt hq39))
    · exact ((Nat.ne_of_gt hq80))
    · exact ((Nat.ne_of_gt hq124))
    · exact ((Nat.ne_of_gt hq171))
    · exact ((Nat.ne_of_gt hq221))
    · exact ((Nat.ne_of_gt hq274))
  have y338 : ∀ f, q_rk 2 f ≠ 0 → q_kd X (([q1, q39, q80, q124, q171, q221, q274] : List Nat).getD f 0) = 0 := by
    intro f hf
    rcases y_fs2 hf with rfl | rfl | rfl | rfl | rfl | rfl | rfl
    · exact hw0.fresh (gg_q1)
    · exact hw0.fresh (gg_q39)
    · exact hw0.fresh (gg_q80)
    · exact hw0.fresh (gg_q124)
    · exact hw0.fresh (gg_q171)
    · exact hw0.fresh (gg_q221)
    · exact hw0.fresh (gg_q274)
  have w333 : q_w X330 σ331 H323 := by
    rw [dX330, dσ331]
    exact w328.add k298 (q_hrk hrk) (fun q => absurd rfl q) (by decide) (fun q => absurd q (by decide)) (q_hB hB (by decide)) (fun q => by rcases q with q | q <;> exact absurd q (by decide)) (q_cfO D297 ⟨rfl, by decide⟩ (show vwCl[1]? = some (RX1, TX1, 7) from rfl) b326 (fun f hf => match f, hf with | 0, _ => rfl | 1, _ => rfl | 2, _ => rfl | 3, _ => rfl | 4, _ => rfl | 5, _ => rfl | 6, _ => rfl | (n + 7), hf => absurd hf (Nat.not_lt_of_ge (Nat.le_add_left 7 n)))) y334 (y_in2 (rf := (fun f => ([q1, q39, q80, q124, q171, q221, q274] : List Nat).getD f 0)) (show q1 < q39 from cc_q39) (show q39 < q80 from cc_q80) (show q80 < q124 from cc_q124) (show q124 < q171 from cc_q171) (show q171 < q221 from cc_q221) (show q221 < q274 from cc_q274)) y335 y336 (fun q => absurd q (by decide))
  try clear y336; try clear y335; try clear y334; try clear b326; try clear D297
  have y339 : y_root X330 h := by
    rw [dX330]
    exact (y_root.out w328.1 k298).add y_xg y337
  try clear y337; try clear k298
  have y340 : y_rt X X330 := by
    rw [dX330]
    exact y301.add y_xg y338
  try clear y338; try clear y301
  have k341 : q_kd X330 h = 2 := by rw [dX330]; exact q_xg_h
  have x342 := x302.tr x332 (fun a e => Or.inl e)
  try clear x302
  have y343 := y_rlx x332 w328.1 k303 y315
  try clear y343; try clear y315
  have y344 := y_rlx x332 w328.1 k304 y316
  try clear y344; try clear y316
  have y345 := y_rlx x332 w328.1 k305 y317
  try clear y345; try clear y317
  have y346 := y_rlx x332 w328.1 k306 y318
  try clear y346; try clear y318
  have y347 := y_rlx x332 w328.1 k307 y319
  try clear y347; try clear y319
  have y348 := y_rlx x332 w328.1 k308 y320
  try clear y348; try clear y320
  have y349 := y_rlx x332 w328.1 k290 y322
  try clear y349; try clear w328; try clear y322
  have k350 := x332.kd k303 (by decide)
  try clear k350; try clear k303
  have k351 := x332.kd k304 (by decide)
  try clear k351; try clear k304
  have k352 := x332.kd k305 (by decide)
  try clear k352; try clear k305
  have k353 := x332.kd k306 (by decide)
  try clear k353; try clear k306
  have k354 := x332.kd k307 (by decide)
  try clear k354; try clear k307
  have k355 := x332.kd k308 (by decide)
  try clear k355; try clear k308
  have k356 := x332.kd k290 (by decide)
  try clear k356; try clear x332; try clear k290
  exact b_ret E hr hlk S327 x342 k341 ⟨⟨y340, y339⟩, trivial⟩ w333 dX1_init_95

set_option maxRecDepth 100000 in
set_option maxHeartbeats 4000000 in
theorem n_X2 (l : Launch) (D : DW) (X : XW) (σ : ST) (h sz : Nat) : Met l yX2_init (q_ws yX2_init cX2_init 1 none) { frames := 2, cells := 8, slots := 564, locals := 45 } (q_PN D X σ h sz 2 6 (fun k => defaultValue (tyX2 k)) [.ref h]) (q_QN X σ h sz 3 (fun X' _ => (y_rt X X' ∧ y_root X' h) ∧ True)) 8 564 (q_nw h sz) := by
  refine b_met  (by first | exact rfl | decide +kernel) rfl rfl (Nat.le_of_ble_eq_true rfl) (fun p e s m below meth c E hml hr hlk hnm hsz hD hw0 h00 hob ls hl => ?_)
  subst hsz
  have hxx := E.1
  have hb := E.2.1
  have hl : lv_has ls 1 [(0, .ref h)] := hl
  have hS : va_S (q_nw h s.heap.size) s.heap s.heap [] := va_S.rf
  have hx0 : q_ext (q_nw h s.heap.size) X X σ σ := q_ext.rf
  have hAh : q_nw h s.heap.size h := Or.inl rfl
  have yr0 : y_rt X X := y_rt.rf
  have hlt := t_lt hob
  refine lv_aload_n hxx hb dX2_init_0 rfl (lv_at hl 0 rfl) ?_
  refine W.objInit hxx hb E.2.2.1 (E.2.2.2.1 _ bw_150) (E.2.2.2.1 _ bw_26) (E.2.2.2.1 _ bw_27) rfl (by rw [hml]; exact hl.1) rfl dX2_init_1 (Nat.le_of_ble_eq_true rfl) (Nat.le_of_ble_eq_true rfl) ?_
  refine W.eq (g2 := F0 m 4 ls []) rfl ?_
  refine lv_aload_n hxx hb dX2_init_4 rfl (lv_at hl 0 rfl) ?_
  refine lv_iconst (v := 0) hxx hb dX2_init_5 (by decide) ?_
  refine b_put E hS hAh hnm (f := 0) hob (show vwCl[2]? = some (RX2, TX2, 6) from rfl) q_inX2 tyX2_ok nmX2 (by decide) bw_153 rfl (fun _ => rfl) (tyX2_ok 0 (by decide)) rfl rfl dX2_init_6 (fun H1 locs1 z2 o3 b4 S5 => ?_)
  have w6 : q_w X σ H1 := hw0.kept (fun a ha => o3 a (fun e => ha (by rw [e]; exact h00)))
  try clear o3
  have t7 := t_lt b4
  refine lv_aload_n hxx hb dX2_init_9 rfl (lv_at hl 0 rfl) ?_
  refine lv_iconst (v := 0) hxx hb dX2_init_10 (by decide) ?_
  refine b_put E S5 hAh hnm (f := 1) b4 (show vwCl[2]? = some (RX2, TX2, 6) from rfl) q_inX2 tyX2_ok nmX2 (by decide) bw_155 rfl (fun _ => rfl) (tyX2_ok 1 (by decide)) rfl rfl dX2_init_11 (fun H8 locs1 z9 o10 b11 S12 => ?_)
  try clear S5; try clear b4
  have w13 : q_w X σ H8 := w6.kept (fun a ha => o10 a (fun e => ha (by rw [e]; exact h00)))
  try clear o10; try clear w6
  have t14 := t_lt b11
  try clear t7
  refine lv_aload_n hxx hb dX2_init_14 rfl (lv_at hl 0 rfl) ?_
  refine b_new E S12 bw_151 bw_43 bw_4 (show vwCl[4]? = some (RX5, TX5, 1) from rfl) q_inX5 tyX5 tyX5_ok (Nat.le_of_ble_eq_true rfl) (Nat.le_of_ble_eq_true rfl) dX2_init_15 (fun q15 H16 e17 z18 o19 b20 S21 => ?_)
  have hq15 : h < q15 := by first | exact Nat.lt_of_lt_of_eq t14 e17.symm | omega
  have gg_q15 : s.heap.size ≤ q15 := Nat.le_trans S12.1 (Nat.le_of_eq e17.symm)
  have mm_q15 : q15 < H16.size := by rw [z18, e17]; exact Nat.lt_succ_self _
  try clear S12
  have w22 : q_w X σ H16 := w13.kept (fun a ha => o19 a (w13.lt ha))
  have b23 := b11.kept (o19 h t14)
  try clear o19; try clear b11
  have t24 := t_lt b23
  try clear t14
  have k25 : q_kd X q15 = 0 := w13.fresh (Nat.le_of_eq e17.symm)
  try clear w13
  have g26 := S21.1
  refine lv_dup hxx hb dX2_init_18 rfl ?_
  refine lv_bipush (v := 80) hxx hb dX2_init_19 (by decide) ?_
  have a37 : ∀ a, q_nw q15 H16.size a → q_nw h s.heap.size a := nw_in gg_q15 (Nat.le_trans gg_q15 (Nat.le_of_lt mm_q15))
  refine b_cv (b_runI (As := [.int 80]) (rest := [.ref q15, .ref h]) E (hml.trans hl.1.symm) hD w22 k25 b20 rfl (n_X5 l D X σ q15 H16.size 80 80 (by decide) (by decide) (by decide)) bi_X2_20 rfl ⟨Nat.le_of_ble_eq_true rfl, Nat.le_of_ble_eq_true rfl⟩ ⟨Nat.le_of_ble_eq_true rfl, Nat.le_of_ble_eq_true rfl⟩ rfl (Nat.le_of_ble_eq_true rfl) dX2_init_21) S21 rfl a37 (fun X27 σ28 H29 locs1 x30 k31 p32 w33 z34 o35 S36 => ?_)
  try clear k25; try clear w22; try clear S21; try clear b20
  have D38 : X27.1 = D := x30.1.trans hD
  have k39 : q_kd X27 h = 0 := x30.k0 h00 (by first | exact (nw_no hq15 (Nat.lt_trans hq15 mm_q15)) | (rintro (e | e) <;> omega))
  have b40 := b23.kept (o35 h t24 (by first | exact (Nat.ne_of_lt hq15) | omega))
  try clear o35; try clear b23
  have t41 := t_lt b40
  try clear t24
  have y42 := yr0.tr p32.1.1 (fun c hc => by rw [(hx0.2.2.2.1 c hc).1]; exact hc)
  have x43 := hx0.tr x30 a37
  try clear x30
  have y44 := p32.1.2
  have y45 := p32.2
  try clear p32
  refine b_put E S36 hAh hnm (f := 2) b40 (show vwCl[2]? = some (RX2, TX2, 6) from rfl) q_inX2 tyX2_ok nmX2 (by decide) bw_159 rfl (fun _ => rfl) (tyX2_ok 2 (by decide)) rfl rfl dX2_init_24 (fun H46 locs1 z47 o48 b49 S50 => ?_)
  try clear b40; try clear S36
  have w51 : q_w X27 σ28 H46 := w33.kept (fun a ha => o48 a (fun e => ha (by rw [e]; exact k39)))
  try clear o48; try clear w33
  have t52 := t_lt b49
  try clear t41
  refine lv_aload_n hxx hb dX2_init_27 rfl (lv_at hl 0 rfl) ?_
  refine b_new E S50 bw_151 bw_43 bw_4 (show vwCl[4]? = some (RX5, TX5, 1) from rfl) q_inX5 tyX5 tyX5_ok (Nat.le_of_ble_eq_true rfl) (Nat.le_of_ble_eq_true rfl) dX2_init_28 (fun q53 H54 e55 z56 o57 b58 S59 => ?_)
  have hq53 : h < q53 := by first | exact Nat.lt_of_lt_of_eq t52 e55.symm | omega
  have gg_q53 : s.heap.size ≤ q53 := Nat.le_trans S50.1 (Nat.le_of_eq e55.symm)
  have mm_q53 : q53 < H54.size := by rw [z56, e55]; exact Nat.lt_succ_self _
  have cc_q53 : q15 < q53 := by first | exact Nat.lt_of_lt_of_eq (Nat.lt_of_lt_of_le (Nat.lt_of_lt_of_le mm_q15 z34) (Nat.le_of_eq z47.symm)) e55.symm | omega
  try clear S50
  have w60 : q_w X27 σ28 H54 := w51.kept (fun a ha => o57 a (w51.lt ha))
  have b61 := b49.kept (o57 h t52)
  try clear o57; try clear b49
  have t62 := t_lt b61
  try clear t52
  have k63 : q_kd X27 q53 = 0 := w51.fresh (Nat.le_of_eq e55.symm)
  try clear w51
  have g64 := S59.1
  refine lv_dup hxx hb dX2_init_31 rfl ?_
  refine lv_bipush (v := 80) hxx hb dX2_init_32 (by decide) ?_
  have a75 : ∀ a, q_nw q53 H54.size a → q_nw h s.heap.size a := nw_in gg_q53 (Nat.le_trans gg_q53 (Nat.le_of_lt mm_q53))
  refine b_cv (b_runI (As := [.int 80]) (rest := [.ref q53, .ref h]) E (hml.trans hl.1.symm) D38 w60 k63 b58 rfl (n_X5 l D X27 σ28 q53 H54.size 80 80 (by decide) (by decide) (by decide)) bi_X2_20 rfl ⟨Nat.le_of_ble_eq_true rfl, Nat.le_of_ble_eq_true rfl⟩ ⟨Nat.le_of_ble_eq_true rfl, Nat.le_of_ble_eq_true rfl⟩ rfl (Nat.le_of_ble_eq_true rfl) dX2_init_34) S59 rfl a75 (fun X65 σ66 H67 locs1 x68 k69 p70 w71 z72 o73 S74 => ?_)
  try clear k63; try clear S59; try clear b58
  have D76 : X65.1 = D := x68.1.trans D38
  try clear D38
  have k77 : q_kd X65 h = 0 := x68.k0 k39 (by first | exact (nw_no hq53 (Nat.lt_trans hq53 mm_q53)) | (rintro (e | e) <;> omega))
  try clear k39
  have b78 := b61.kept (o73 h t62 (by first | exact (Nat.ne_of_lt hq53) | omega))
  try clear o73; try clear b61
  have t79 := t_lt b78
  try clear t62
  have y80 := y42.tr p70.1.1 (fun c hc => by rw [(x43.2.2.2.1 c hc).1]; exact hc)
  try clear y42
  have x81 := x43.tr x68 a75
  try clear x43
  have k82 := x68.kd k31 (by decide)
  have y83 := p70.1.1 q15 (by rw [k31]; decide) y44
  try clear y44
  have y84 := y_rlx x68 w60.1 k31 y45
  try clear x68; try clear w60; try clear y45; try clear k31
  have y85 := p70.1.2
  have y86 := p70.2
  try clear p70
  refine b_put E S74 hAh hnm (f := 3) b78 (show vwCl[2]? = some (RX2, TX2, 6) from rfl) q_inX2 tyX2_ok nmX2 (by decide) bw_161 rfl (fun _ => rfl) (tyX2_ok 3 (by decide)) rfl rfl dX2_init_37 (fun H87 locs1 z88 o89 b90 S91 => ?_)
  try clear b78; try clear S74
  have w92 : q_w X65 σ66 H87 := w71.kept (fun a ha => o89 a (fun e => ha (by rw [e]; exact k77)))
  try clear o89; try clear w71
  have t93 := t_lt b90
  try clear t79
  refine lv_aload_n hxx hb dX2_init_40 rfl (lv_at hl 0 rfl) ?_
  refine b_new E S91 bw_151 bw_43 bw_4 (show vwCl[4]? = some (RX5, TX5, 1) from rfl) q_inX5 tyX5 tyX5_ok (Nat.le_of_ble_eq_true rfl) (Nat.le_of_ble_eq_true rfl) dX2_init_41 (fun q94 H95 e96 z97 o98 b99 S100 => ?_)
  have hq94 : h < q94 := by first | exact Nat.lt_of_lt_of_eq t93 e96.symm | omega
  have gg_q94 : s.heap.size ≤ q94 := Nat.le_trans S91.1 (Nat.le_of_eq e96.symm)
  have mm_q94 : q94 < H95.size := by rw [z97, e96]; exact Nat.lt_succ_self _
  have cc_q94 : q53 < q94 := by first | exact Nat.lt_of_lt_of_eq (Nat.lt_of_lt_of_le (Nat.lt_of_lt_of_le mm_q53 z72) (Nat.le_of_eq z88.symm)) e96.symm | omega
  try clear S91
  have w101 : q_w X65 σ66 H95 := w92.kept (fun a ha => o98 a (w92.lt ha))
  have b102 := b90.kept (o98 h t93)
  try clear o98; try clear b90
  have t103 := t_lt b102
  try clear t93
  have k104 : q_kd X65 q94 = 0 := w92.fresh (Nat.le_of_eq e96.symm)
  try clear w92
  have g105 := S100.1
  refine lv_dup hxx hb dX2_init_44 rfl ?_
  refine lv_bipush (v := 80) hxx hb dX2_init_45 (by decide) ?_
  have a116 : ∀ a, q_nw q94 H95.size a → q_nw h s.heap.size a := nw_in gg_q94 (Nat.le_trans gg_q94 (Nat.le_of_lt mm_q94))
  refine b_cv (b_runI (As := [.int 80]) (rest := [.ref q94, .ref h]) E (hml.trans hl.1.symm) D76 w101 k104 b99 rfl (n_X5 l D X65 σ66 q94 H95.size 80 80 (by decide) (by decide) (by decide)) bi_X2_20 rfl ⟨Nat.le_of_ble_eq_true rfl, Nat.le_of_ble_eq_true rfl⟩ ⟨Nat.le_of_ble_eq_true rfl, Nat.le_of_ble_eq_true rfl⟩ rfl (Nat.le_of_ble_eq_true rfl) dX2_init_47) S100 rfl a116 (fun X106 σ107 H108 locs1 x109 k110 p111 w112 z113 o114 S115 => ?_)
  try clear k104; try clear S100; try clear b99
  have D117 : X106.1 = D := x109.1.trans D76
  try clear D76
  have k118 : q_kd X106 h = 0 := x109.k0 k77 (by first | exact (nw_no hq94 (Nat.lt_trans hq94 mm_q94)) | (rintro (e | e) <;> omega))
  try clear k77
  have b119 := b102.kept (o114 h t103 (by first | exact (Nat.ne_of_lt hq94) | omega))
  try clear o114; try clear b102
  have t120 := t_lt b119
  try clear t103
  have y121 := y80.tr p111.1.1 (fun c hc => by rw [(x81.2.2.2.1 c hc).1]; exact hc)
  try clear y80
  have x122 := x81.tr x109 a116
  try clear x81
  have k123 := x109.kd k82 (by decide)
  have k124 := x109.kd k69 (by decide)
  have y125 := p111.1.1 q15 (by rw [k82]; decide) y83
  try clear y83
  have y126 := p111.1.1 q53 (by rw [k69]; decide) y85
  try clear y85
  have y127 := y_rlx x109 w101.1 k82 y84
  try clear y84; try clear k82
  have y128 := y_rlx x109 w101.1 k69 y86
  try clear x109; try clear w101; try clear y86; try clear k69
  have y129 := p111.1.2
  have y130 := p111.2
  try clear p111
  refine b_put E S115 hAh hnm (f := 4) b119 (show vwCl[2]? = some (RX2, TX2, 6) from rfl) q_inX2 tyX2_ok nmX2 (by decide) bw_163 rfl (fun _ => rfl) (tyX2_ok 4 (by decide)) rfl rfl dX2_init_50 (fun H131 locs1 z132 o133 b134 S135 => ?_)
  try clear b119; try clear S115
  have w136 : q_w X106 σ107 H131 := w112.kept (fun a ha => o133 a (fun e => ha (by rw [e]; exact k118)))
  try clear o133; try clear w112
  have t137 := t_lt b134
  try clear t120
  refine lv_aload_n hxx hb dX2_init_53 rfl (lv_at hl 0 rfl) ?_
  refine b_new E S135 bw_151 bw_43 bw_4 (show vwCl[4]? = some (RX5, TX5, 1) from rfl) q_inX5 tyX5 tyX5_ok (Nat.le_of_ble_eq_true rfl) (Nat.le_of_ble_eq_true rfl) dX2_init_54 (fun q138 H139 e140 z141 o142 b143 S144 => ?_)
  have hq138 : h < q138 := by first | exact Nat.lt_of_lt_of_eq t137 e140.symm | omega
  have gg_q138 : s.heap.size ≤ q138 := Nat.le_trans S135.1 (Nat.le_of_eq e140.symm)
  have mm_q138 : q138 < H139.size := by rw [z141, e140]; exact Nat.lt_succ_self _
  have cc_q138 : q94 < q138 := by first | exact Nat.lt_of_lt_of_eq (Nat.lt_of_lt_of_le (Nat.lt_of_lt_of_le mm_q94 z113) (Nat.le_of_eq z132.symm)) e140.symm | omega
  try clear S135
  have w145 : q_w X106 σ107 H139 := w136.kept (fun a ha => o142 a (w136.lt ha))
  have b146 := b134.kept (o142 h t137)
  try clear o142; try clear b134
  have t147 := t_lt b146
  try clear t137
  have k148 : q_kd X106 q138 = 0 := w136.fresh (Nat.le_of_eq e140.symm)
  try clear w136
  have g149 := S144.1
  refine lv_dup hxx hb dX2_init_57 rfl ?_
  refine lv_sipush (v := 320) hxx hb dX2_init_58 (by decide) ?_
  have a160 : ∀ a, q_nw q138 H139.size a → q_nw h s.heap.size a := nw_in gg_q138 (Nat.le_trans gg_q138 (Nat.le_of_lt mm_q138))
  refine b_cv (b_runI (As := [.int 320]) (rest := [.ref q138, .ref h]) E (hml.trans hl.1.symm) D117 w145 k148 b143 rfl (n_X5 l D X106 σ107 q138 H139.size 320 320 (by decide) (by decide) (by decide)) bi_X2_20 rfl ⟨Nat.le_of_ble_eq_true rfl, Nat.le_of_ble_eq_true rfl⟩ ⟨Nat.le_of_ble_eq_true rfl, Nat.le_of_ble_eq_true rfl⟩ rfl (Nat.le_of_ble_eq_true rfl) dX2_init_61) S144 rfl a160 (fun X150 σ151 H152 locs1 x153 k154 p155 w156 z157 o158 S159 => ?_)
  try clear k148; try clear S144; try clear b143
  have D161 : X150.1 = D := x153.1.trans D117
  try clear D117
  have k162 : q_kd X150 h = 0 := x153.k0 k118 (by first | exact (nw_no hq138 (Nat.lt_trans hq138 mm_q138)) | (rintro (e | e) <;> omega))
  try clear k118
  have b163 := b146.kept (o158 h t147 (by first | exact (Nat.ne_of_lt hq138) | omega))
  try clear o158; try clear b146
  have t164 := t_lt b163
  try clear t147
  have y165 := y121.tr p155.1.1 (fun c hc => by rw [(x122.2.2.2.1 c hc).1]; exact hc)
  try clear y121
  have x166 := x122.tr x153 a160
  try clear x122
  have k167 := x153.kd k123 (by decide)
  have k168 := x153.kd k124 (by decide)
  have k169 := x153.kd k110 (by decide)
  have y170 := p155.1.1 q15 (by rw [k123]; decide) y125
  try clear y125
  have y171 := p155.1.1 q53 (by rw [k124]; decide) y126
  try clear y126
  have y172 := p155.1.1 q94 (by rw [k110]; decide) y129
  try clear y129
  have y173 := y_rlx x153 w145.1 k123 y127
  try clear y127; try clear k123
  have y174 := y_rlx x153 w145.1 k124 y128
  try clear y128; try clear k124
  have y175 := y_rlx x153 w145.1 k110 y130
  try clear x153; try clear w145; try clear y130; try clear k110
  have y176 := p155.1.2
  have y177 := p155.2
  try clear p155
  refine b_put E S159 hAh hnm (f := 5) b163 (show vwCl[2]? = some (RX2, TX2, 6) from rfl) q_inX2 tyX2_ok nmX2 (by decide) bw_165 rfl (fun _ => rfl) (tyX2_ok 5 (by decide)) rfl rfl dX2_init_64 (fun H178 locs1 z179 o180 b181 S182 => ?_)
  try clear b163; try clear S159
  have w183 : q_w X150 σ151 H178 := w156.kept (fun a ha => o180 a (fun e => ha (by rw [e]; exact k162)))
  try clear o180; try clear w156
  have t184 := t_lt b181
  try clear t164
  obtain ⟨X185, dX185⟩ : ∃ Y, Y = q_xg X150 h 3 0 (fun f => ([0, 0, q15, q53, q94, q138] : List Nat).getD f 0) := ⟨_, rfl⟩
  obtain ⟨σ186, dσ186⟩ : ∃ τ, τ = q_sg σ151 h (fun f => ([0, 0, 0, 0, 0, 0] : List Int32).getD f 0) (fun f => ([0, 0, 0, 0, 0, 0] : List Int64).getD f 0) 0 := ⟨_, rfl⟩
  have x187 : q_ext (fun a => a = h) X150 X185 σ151 σ186 := by rw [dX185, dσ186]; exact q_ext.add k162
  have hrk : ∀ f, f < 40 → q_rk 3 f ≠ 0 → q_kd X150 (([0, 0, q15, q53, q94, q138] : List Nat).getD f 0) = q_rk 3 f := fun f h40 hf => match f, h40, hf with | 0, _, hf => absurd rfl hf | 1, _, hf => absurd rfl hf | 2, _, _ => k167 | 3, _, _ => k168 | 4, _, _ => k169 | 5, _, _ => k154 | 6, _, hf => absurd rfl hf | 7, _, hf => absurd rfl hf | 8, _, hf => absurd rfl hf | 9, _, hf => absurd rfl hf | 10, _, hf => absurd rfl hf | 11, _, hf => absurd rfl hf | 12, _, hf => absurd rfl hf | 13, _, hf => absurd rfl hf | 14, _, hf => absurd rfl hf | 15, _, hf => absurd rfl hf | 16, _, hf => absurd rfl hf | 17, _, hf => absurd rfl hf | 18, _, hf => absurd rfl hf | 19, _, hf => absurd rfl hf | 20, _, hf => absurd rfl hf | 21, _, hf => absurd rfl hf | 22, _, hf => absurd rfl hf | 23, _, hf => absurd rfl hf | 24, _, hf => absurd rfl hf | 25, _, hf => absurd rfl hf | 26, _, hf => absurd rfl hf | 27, _, hf => absurd rfl hf | 28, _, hf => absurd rfl hf | 29, _, hf => absurd rfl hf | 30, _, hf => absurd rfl hf | 31, _, hf => absurd rfl hf | 32, _, hf => absurd rfl hf | 33, _, hf => absurd rfl hf | 34, _, hf => absurd rfl hf | 35, _, hf => absurd rfl hf | 36, _, hf => absurd rfl hf | 37, _, hf => absurd rfl hf | 38, _, hf => absurd rfl hf | 39, _, hf => absurd rfl hf | (n + 40), h40, _ => absurd h40 (Nat.not_lt_of_ge (Nat.le_add_left 40 n))
  have hB : ∀ f, f < 40 → (q_bn 3 f).1 ≤ ((([0, 0, 0, 0, 0, 0] : List Int32).getD f 0).toInt) ∧ (([0, 0, 0, 0, 0, 0] : List Int32).getD f 0).toInt ≤ (q_bn 3 f).2 := by decide +kernel
  have y189 : ∀ f, q_rk 3 f ≠ 0 → h < ([0, 0, q15, q53, q94, q138] : List Nat).getD f 0 := by
    intro f hf
    rcases y_fs3 hf with rfl | rfl | rfl | rfl
    · exact (hq15)
    · exact (hq53)
    · exact (hq94)
    · exact (hq138)
  have y190 : ∀ f, q_rk 3 f ≠ 0 → y_root X150 (([0, 0, q15, q53, q94, q138] : List Nat).getD f 0) := by
    intro f hf
    rcases y_fs3 hf with rfl | rfl | rfl | rfl
    · exact y170
    · exact y171
    · exact y172
    · exact y176
  try clear y176; try clear y172; try clear y171; try clear y170
  have y191 : ∀ f, q_rk 3 f = 5 → q_ln X150 (q_rf X150 (([0, 0, q15, q53, q94, q138] : List Nat).getD f 0) 0) = y_rl 3 f := by
    intro f hf
    rcases y_fs3 (show q_rk 3 f ≠ 0 by rw [hf]; decide) with rfl | rfl | rfl | rfl
    · exact y173
    · exact y174
    · exact y175
    · exact y177
  have y192 : ∀ f, q_rk 3 f ≠ 0 → ([0, 0, q15, q53, q94, q138] : List Nat).getD f 0 ≠ h := by
    intro f hf
    rcases y_fs3 hf with rfl | rfl | rfl | rfl
    · exact ((Nat.ne_of_gt hq15))
    · exact ((Nat.ne_of_gt hq53))
    · exact ((Nat.ne_of_gt hq94))
    · exact ((Nat.ne_of_gt hq138))
  have y193 : ∀ f, q_rk 3 f ≠ 0 → q_kd X (([0, 0, q15, q53, q94, q138] : List Nat).getD f 0) = 0 := by
    intro f hf
    rcases y_fs3 hf with rfl | rfl | rfl | rfl
    · exact hw0.fresh (gg_q15)
    · exact hw0.fresh (gg_q53)
    · exact hw0.fresh (gg_q94)
    · exact hw0.fresh (gg_q138)
  have hIV : ∀ f, f < 60 → ([0, 0, 0, 0, 0, 0] : List Int32).getD f 0 = y_iv 3 f ∧ ([0, 0, 0, 0, 0, 0] : List Int64).getD f 0 = y_il 3 f := by decide +kernel
  have w188 : q_w X185 σ186 H178 := by
    rw [dX185, dσ186]
    exact w183.add k162 (q_hrk hrk) (fun q => absurd rfl q) (by decide) (fun q => absurd q (by decide)) (q_hB hB (by decide)) (fun q => by rcases q with q | q <;> exact absurd q (by decide)) (q_cfO D161 ⟨rfl, by decide⟩ (show vwCl[2]? = some (RX2, TX2, 6) from rfl) b181 (fun f hf => match f, hf with | 0, _ => rfl | 1, _ => rfl | 2, _ => rfl | 3, _ => rfl | 4, _ => rfl | 5, _ => rfl | (n + 6), hf => absurd hf (Nat.not_lt_of_ge (Nat.le_add_left 6 n)))) y189 (y_in3 (rf := (fun f => ([0, 0, q15, q53, q94, q138] : List Nat).getD f 0)) (show q15 < q53 from cc_q53) (show q53 < q94 from cc_q94) (show q94 < q138 from cc_q138)) y190 y191 (fun _ f hf => hIV f (hf.resolve_left (by decide)))
  try clear y191; try clear y190; try clear y189; try clear b181; try clear D161
  have y194 : y_root X185 h := by
    rw [dX185]
    exact (y_root.out w183.1 k162).add y_xg y192
  try clear y192; try clear k162
  have y195 : y_rt X X185 := by
    rw [dX185]
    exact y165.add y_xg y193
  try clear y193; try clear y165
  have k196 : q_kd X185 h = 3 := by rw [dX185]; exact q_xg_h
  have x197 := x166.tr x187 (fun a e => Or.inl e)
  try clear x166
  have y198 := y_rlx x187 w183.1 k167 y173
  try clear y198; try clear y173
  have y199 := y_rlx x187 w183.1 k168 y174
  try clear y199; try clear y174
  have y200 := y_rlx x187 w183.1 k169 y175
  try clear y200; try clear y175
  have y201 := y_rlx x187 w183.1 k154 y177
  try clear y201; try clear w183; try clear y177
  have k202 := x187.kd k167 (by decide)
  try clear k202; try clear k167
  have k203 := x187.kd k168 (by decide)
  try clear k203; try clear k168
  have k204 := x187.kd k169 (by decide)
  try clear k204; try clear k169
  have k205 := x187.kd k154 (by decide)
  try clear k205; try clear x187; try clear k154
  exact b_ret E hr hlk S182 x197 k196 ⟨⟨y195, y194⟩, trivial⟩ w188 dX2_init_67

set_option maxRecDepth 100000 in
set_option maxHeartbeats 4000000 in
theorem n_X8 (l : Launch) (D : DW) (X : XW) (σ : ST) (h sz : Nat) : Met l yX8_init (q_ws yX8_init cX8_init 1 none) { frames := 2, cells := 10, slots := 305, locals := 45 } (q_PN D X σ h sz 7 8 (fun k => defaultValue (tyX8 k)) [.ref h]) (q_QN X σ h sz 8 (fun X' _ => (y_rt X X' ∧ y_root X' h) ∧ True)) 10 305 (q_nw h sz) := by
  refine b_met  (by first | exact rfl | decide +kernel) rfl rfl (Nat.le_of_ble_eq_true rfl) (fun p e s m below meth c E hml hr hlk hnm hsz hD hw0 h00 hob ls hl => ?_)
  subst hsz
  have hxx := E.1
  have hb := E.2.1
  have hl : lv_has ls 1 [(0, .ref h)] := hl
  have hS : va_S (q_nw h s.heap.size) s.heap s.heap [] := va_S.rf
  have hx0 : q_ext (q_nw h s.heap.size) X X σ σ := q_ext.rf
  have hAh : q_nw h s.heap.size h := Or.inl rfl
  have yr0 : y_rt X X := y_rt.rf
  have hlt := t_lt hob
  refine lv_aload_n hxx hb dX8_init_0 rfl (lv_at hl 0 rfl) ?_
  refine W.objInit hxx hb E.2.2.1 (E.2.2.2.1 _ bw_184) (E.2.2.2.1 _ bw_26) (E.2.2.2.1 _ bw_27) rfl (by rw [hml]; exact hl.1) rfl dX8_init_1 (Nat.le_of_ble_eq_true rfl) (Nat.le_of_ble_eq_true rfl) ?_
  refine W.eq (g2 := F0 m 4 ls []) rfl ?_
  refine lv_aload_n hxx hb dX8_init_4 rfl (lv_at hl 0 rfl) ?_
  refine lv_iconst (v := 0) hxx hb dX8_init_5 (by decide) ?_
  refine b_put E hS hAh hnm (f := 0) hob (show vwCl[7]? = some (RX8, TX8, 8) from rfl) q_inX8 tyX8_ok nmX8 (by decide) bw_187 rfl (fun _ => rfl) (tyX8_ok 0 (by decide)) rfl rfl dX8_init_6 (fun H1 locs1 z2 o3 b4 S5 => ?_)
  have w6 : q_w X σ H1 := hw0.kept (fun a ha => o3 a (fun e => ha (by rw [e]; exact h00)))
  try clear o3
  have t7 := t_lt b4
  refine lv_aload_n hxx hb dX8_init_9 rfl (lv_at hl 0 rfl) ?_
  refine lv_iconst (v := 0) hxx hb dX8_init_10 (by decide) ?_
  refine b_put E S5 hAh hnm (f := 1) b4 (show vwCl[7]? = some (RX8, TX8, 8) from rfl) q_inX8 tyX8_ok nmX8 (by decide) bw_190 rfl (fun _ => rfl) (tyX8_ok 1 (by decide)) rfl rfl dX8_init_11 (fun H8 locs1 z9 o10 b11 S12 => ?_)
  try clear S5; try clear b4
  have w13 : q_w X σ H8 := w6.kept (fun a ha => o10 a (fun e => ha (by rw [e]; exact h00)))
  try clear o10; try clear w6
  have t14 := t_lt b11
  try clear t7
  refine lv_aload_n hxx hb dX8_init_14 rfl (lv_at hl 0 rfl) ?_
  refine lv_iconst (v := 0) hxx hb dX8_init_15 (by decide) ?_
  refine b_put E S12 hAh hnm (f := 2) b11 (show vwCl[7]? = some (RX8, TX8, 8) from rfl) q_inX8 tyX8_ok nmX8 (by decide) bw_193 rfl (fun _ => rfl) (tyX8_ok 2 (by decide)) rfl rfl dX8_init_16 (fun H15 locs1 z16 o17 b18 S19 => ?_)
  try clear S12; try clear b11
  have w20 : q_w X σ H15 := w13.kept (fun a ha => o17 a (fun e => ha (by rw [e]; exact h00)))
  try clear o17; try clear w13
  have t21 := t_lt b18
  try clear t14
  refine lv_aload_n hxx hb dX8_init_19 rfl (lv_at hl 0 rfl) ?_
  refine b_new E S19 bw_185 bw_43 bw_4 (show vwCl[4]? = some (RX5, TX5, 1) from rfl) q_inX5 tyX5 tyX5_ok (Nat.le_of_ble_eq_true rfl) (Nat.le_of_ble_eq_true rfl) dX8_init_20 (fun q22 H23 e24 z25 o26 b27 S28 => ?_)
  have hq22 : h < q22 := by first | exact Nat.lt_of_lt_of_eq t21 e24.symm | omega
  have gg_q22 : s.heap.size ≤ q22 := Nat.le_trans S19.1 (Nat.le_of_eq e24.symm)
  have mm_q22 : q22 < H23.size := by rw [z25, e24]; exact Nat.lt_succ_self _
  try clear S19
  have w29 : q_w X σ H23 := w20.kept (fun a ha => o26 a (w20.lt ha))
  have b30 := b18.kept (o26 h t21)
  try clear o26; try clear b18
  have t31 := t_lt b30
  try clear t21
  have k32 : q_kd X q22 = 0 := w20.fresh (Nat.le_of_eq e24.symm)
  try clear w20
  have g33 := S28.1
  refine lv_dup hxx hb dX8_init_23 rfl ?_
  refine lv_bipush (v := 60) hxx hb dX8_init_24 (by decide) ?_
  have a44 : ∀ a, q_nw q22 H23.size a → q_nw h s.heap.size a := nw_in gg_q22 (Nat.le_trans gg_q22 (Nat.le_of_lt mm_q22))
  refine b_cv (b_runI (As := [.int 60]) (rest := [.ref q22, .ref h]) E (hml.trans hl.1.symm) hD w29 k32 b27 rfl (n_X5 l D X σ q22 H23.size 60 60 (by decide) (by decide) (by decide)) bi_X8_24 rfl ⟨Nat.le_of_ble_eq_true rfl, Nat.le_of_ble_eq_true rfl⟩ ⟨Nat.le_of_ble_eq_true rfl, Nat.le_of_ble_eq_true rfl⟩ rfl (Nat.le_of_ble_eq_true rfl) dX8_init_26) S28 rfl a44 (fun X34 σ35 H36 locs1 x37 k38 p39 w40 z41 o42 S43 => ?_)
  try clear k32; try clear w29; try clear S28; try clear b27
  have D45 : X34.1 = D := x37.1.trans hD
  have k46 : q_kd X34 h = 0 := x37.k0 h00 (by first | exact (nw_no hq22 (Nat.lt_trans hq22 mm_q22)) | (rintro (e | e) <;> omega))
  have b47 := b30.kept (o42 h t31 (by first | exact (Nat.ne_of_lt hq22) | omega))
  try clear o42; try clear b30
  have t48 := t_lt b47
  try clear t31
  have y49 := yr0.tr p39.1.1 (fun c hc => by rw [(hx0.2.2.2.1 c hc).1]; exact hc)
  have x50 := hx0.tr x37 a44
  try clear x37
  have y51 := p39.1.2
  have y52 := p39.2
  try clear p39
  refine b_put E S43 hAh hnm (f := 3) b47 (show vwCl[7]? = some (RX8, TX8, 8) from rfl) q_inX8 tyX8_ok nmX8 (by decide) bw_195 rfl (fun _ => rfl) (tyX8_ok 3 (by decide)) rfl rfl dX8_init_29 (fun H53 locs1 z54 o55 b56 S57 => ?_)
  try clear b47; try clear S43
  have w58 : q_w X34 σ35 H53 := w40.kept (fun a ha => o55 a (fun e => ha (by rw [e]; exact k46)))
  try clear o55; try clear w40
  have t59 := t_lt b56
  try clear t48
  refine lv_aload_n hxx hb dX8_init_32 rfl (lv_at hl 0 rfl) ?_
  refine b_new E S57 bw_185 bw_43 bw_4 (show vwCl[4]? = some (RX5, TX5, 1) from rfl) q_inX5 tyX5 tyX5_ok (Nat.le_of_ble_eq_true rfl) (Nat.le_of_ble_eq_true rfl) dX8_init_33 (fun q60 H61 e62 z63 o64 b65 S66 => ?_)
  have hq60 : h < q60 := by first | exact Nat.lt_of_lt_of_eq t59 e62.symm | omega
  have gg_q60 : s.heap.size ≤ q60 := Nat.le_trans S57.1 (Nat.le_of_eq e62.symm)
  have mm_q60 : q60 < H61.size := by rw [z63, e62]; exact Nat.lt_succ_self _
  have cc_q60 : q22 < q60 := by first | exact Nat.lt_of_lt_of_eq (Nat.lt_of_lt_of_le (Nat.lt_of_lt_of_le mm_q22 z41) (Nat.le_of_eq z54.symm)) e62.symm | omega
  try clear S57
  have w67 : q_w X34 σ35 H61 := w58.kept (fun a ha => o64 a (w58.lt ha))
  have b68 := b56.kept (o64 h t59)
  try clear o64; try clear b56
  have t69 := t_lt b68
  try clear t59
  have k70 : q_kd X34 q60 = 0 := w58.fresh (Nat.le_of_eq e62.symm)
  try clear w58
  have g71 := S66.1
  refine lv_dup hxx hb dX8_init_36 rfl ?_
  refine lv_bipush (v := 60) hxx hb dX8_init_37 (by decide) ?_
  have a82 : ∀ a, q_nw q60 H61.size a → q_nw h s.heap.size a := nw_in gg_q60 (Nat.le_trans gg_q60 (Nat.le_of_lt mm_q60))
  refine b_cv (b_runI (As := [.int 60]) (rest := [.ref q60, .ref h]) E (hml.trans hl.1.symm) D45 w67 k70 b65 rfl (n_X5 l D X34 σ35 q60 H61.size 60 60 (by decide) (by decide) (by decide)) bi_X8_24 rfl ⟨Nat.le_of_ble_eq_true rfl, Nat.le_of_ble_eq_true rfl⟩ ⟨Nat.le_of_ble_eq_true rfl, Nat.le_of_ble_eq_true rfl⟩ rfl (Nat.le_of_ble_eq_true rfl) dX8_init_39) S66 rfl a82 (fun X72 σ73 H74 locs1 x75 k76 p77 w78 z79 o80 S81 => ?_)
  try clear k70; try clear S66; try clear b65
  have D83 : X72.1 = D := x75.1.trans D45
  try clear D45
  have k84 : q_kd X72 h = 0 := x75.k0 k46 (by first | exact (nw_no hq60 (Nat.lt_trans hq60 mm_q60)) | (rintro (e | e) <;> omega))
  try clear k46
  have b85 := b68.kept (o80 h t69 (by first | exact (Nat.ne_of_lt hq60) | omega))
  try clear o80; try clear b68
  have t86 := t_lt b85
  try clear t69
  have y87 := y49.tr p77.1.1 (fun c hc => by rw [(x50.2.2.2.1 c hc).1]; exact hc)
  try clear y49
  have x88 := x50.tr x75 a82
  try clear x50
  have k89 := x75.kd k38 (by decide)
  have y90 := p77.1.1 q22 (by rw [k38]; decide) y51
  try clear y51
  have y91 := y_rlx x75 w67.1 k38 y52
  try clear x75; try clear w67; try clear y52; try clear k38
  have y92 := p77.1.2
  have y93 := p77.2
  try clear p77
  refine b_put E S81 hAh hnm (f := 4) b85 (show vwCl[7]? = some (RX8, TX8, 8) from rfl) q_inX8 tyX8_ok nmX8 (by decide) bw_198 rfl (fun _ => rfl) (tyX8_ok 4 (by decide)) rfl rfl dX8_init_42 (fun H94 locs1 z95 o96 b97 S98 => ?_)
  try clear b85; try clear S81
  have w99 : q_w X72 σ73 H94 := w78.kept (fun a ha => o96 a (fun e => ha (by rw [e]; exact k84)))
  try clear o96; try clear w78
  have t100 := t_lt b97
  try clear t86
  refine lv_aload_n hxx hb dX8_init_45 rfl (lv_at hl 0 rfl) ?_
  refine b_new E S98 bw_185 bw_43 bw_4 (show vwCl[4]? = some (RX5, TX5, 1) from rfl) q_inX5 tyX5 tyX5_ok (Nat.le_of_ble_eq_true rfl) (Nat.le_of_ble_eq_true rfl) dX8_init_46 (fun q101 H102 e103 z104 o105 b106 S107 => ?_)
  have hq101 : h < q101 := by first | exact Nat.lt_of_lt_of_eq t100 e103.symm | omega
  have gg_q101 : s.heap.size ≤ q101 := Nat.le_trans S98.1 (Nat.le_of_eq e103.symm)
  have mm_q101 : q101 < H102.size := by rw [z104, e103]; exact Nat.lt_succ_self _
  have cc_q101 : q60 < q101 := by first | exact Nat.lt_of_lt_of_eq (Nat.lt_of_lt_of_le (Nat.lt_of_lt_of_le mm_q60 z79) (Nat.le_of_eq z95.symm)) e103.symm | omega
  try clear S98
  have w108 : q_w X72 σ73 H102 := w99.kept (fun a ha => o105 a (w99.lt ha))
  have b109 := b97.kept (o105 h t100)
  try clear o105; try clear b97
  have t110 := t_lt b109
  try clear t100
  have k111 : q_kd X72 q101 = 0 := w99.fresh (Nat.le_of_eq e103.symm)
  try clear w99
  have g112 := S107.1
  refine lv_dup hxx hb dX8_init_49 rfl ?_
  refine lv_bipush (v := 60) hxx hb dX8_init_50 (by decide) ?_
  have a123 : ∀ a, q_nw q101 H102.size a → q_nw h s.heap.size a := nw_in gg_q101 (Nat.le_trans gg_q101 (Nat.le_of_lt mm_q101))
  refine b_cv (b_runI (As := [.int 60]) (rest := [.ref q101, .ref h]) E (hml.trans hl.1.symm) D83 w108 k111 b106 rfl (n_X5 l D X72 σ73 q101 H102.size 60 60 (by decide) (by decide) (by decide)) bi_X8_24 rfl ⟨Nat.le_of_ble_eq_true rfl, Nat.le_of_ble_eq_true rfl⟩ ⟨Nat.le_of_ble_eq_true rfl, Nat.le_of_ble_eq_true rfl⟩ rfl (Nat.le_of_ble_eq_true rfl) dX8_init_52) S107 rfl a123 (fun X113 σ114 H115 locs1 x116 k117 p118 w119 z120 o121 S122 => ?_)
  try clear k111; try clear S107; try clear b106
  have D124 : X113.1 = D := x116.1.trans D83
  try clear D83
  have k125 : q_kd X113 h = 0 := x116.k0 k84 (by first | exact (nw_no hq101 (Nat.lt_trans hq101 mm_q101)) | (rintro (e | e) <;> omega))
  try clear k84
  have b126 := b109.kept (o121 h t110 (by first | exact (Nat.ne_of_lt hq101) | omega))
  try clear o121; try clear b109
  have t127 := t_lt b126
  try clear t110
  have y128 := y87.tr p118.1.1 (fun c hc => by rw [(x88.2.2.2.1 c hc).1]; exact hc)
  try clear y87
  have x129 := x88.tr x116 a123
  try clear x88
  have k130 := x116.kd k89 (by decide)
  have k131 := x116.kd k76 (by decide)
  have y132 := p118.1.1 q22 (by rw [k89]; decide) y90
  try clear y90
  have y133 := p118.1.1 q60 (by rw [k76]; decide) y92
  try clear y92
  have y134 := y_rlx x116 w108.1 k89 y91
  try clear y91; try clear k89
  have y135 := y_rlx x116 w108.1 k76 y93
  try clear x116; try clear w108; try clear y93; try clear k76
  have y136 := p118.1.2
  have y137 := p118.2
  try clear p118
  refine b_put E S122 hAh hnm (f := 5) b126 (show vwCl[7]? = some (RX8, TX8, 8) from rfl) q_inX8 tyX8_ok nmX8 (by decide) bw_201 rfl (fun _ => rfl) (tyX8_ok 5 (by decide)) rfl rfl dX8_init_55 (fun H138 locs1 z139 o140 b141 S142 => ?_)
  try clear b126; try clear S122
  have w143 : q_w X113 σ114 H138 := w119.kept (fun a ha => o140 a (fun e => ha (by rw [e]; exact k125)))
  try clear o140; try clear w119
  have t144 := t_lt b141
  try clear t127
  refine lv_aload_n hxx hb dX8_init_58 rfl (lv_at hl 0 rfl) ?_
  refine b_new E S142 bw_185 bw_43 bw_4 (show vwCl[4]? = some (RX5, TX5, 1) from rfl) q_inX5 tyX5 tyX5_ok (Nat.le_of_ble_eq_true rfl) (Nat.le_of_ble_eq_true rfl) dX8_init_59 (fun q145 H146 e147 z148 o149 b150 S151 => ?_)
  have hq145 : h < q145 := by first | exact Nat.lt_of_lt_of_eq t144 e147.symm | omega
  have gg_q145 : s.heap.size ≤ q145 := Nat.le_trans S142.1 (Nat.le_of_eq e147.symm)
  have mm_q145 : q145 < H146.size := by rw [z148, e147]; exact Nat.lt_succ_self _
  have cc_q145 : q101 < q145 := by first | exact Nat.lt_of_lt_of_eq (Nat.lt_of_lt_of_le (Nat.lt_of_lt_of_le mm_q101 z120) (Nat.le_of_eq z139.symm)) e147.symm | omega
  try clear S142
  have w152 : q_w X113 σ114 H146 := w143.kept (fun a ha => o149 a (w143.lt ha))
  have b153 := b141.kept (o149 h t144)
  try clear o149; try clear b141
  have t154 := t_lt b153
  try clear t144
  have k155 : q_kd X113 q145 = 0 := w143.fresh (Nat.le_of_eq e147.symm)
  try clear w143
  have g156 := S151.1
  refine lv_dup hxx hb dX8_init_62 rfl ?_
  refine lv_bipush (v := 60) hxx hb dX8_init_63 (by decide) ?_
  have a167 : ∀ a, q_nw q145 H146.size a → q_nw h s.heap.size a := nw_in gg_q145 (Nat.le_trans gg_q145 (Nat.le_of_lt mm_q145))
  refine b_cv (b_runI (As := [.int 60]) (rest := [.ref q145, .ref h]) E (hml.trans hl.1.symm) D124 w152 k155 b150 rfl (n_X5 l D X113 σ114 q145 H146.size 60 60 (by decide) (by decide) (by decide)) bi_X8_24 rfl ⟨Nat.le_of_ble_eq_true rfl, Nat.le_of_ble_eq_true rfl⟩ ⟨Nat.le_of_ble_eq_true rfl, Nat.le_of_ble_eq_true rfl⟩ rfl (Nat.le_of_ble_eq_true rfl) dX8_init_65) S151 rfl a167 (fun X157 σ158 H159 locs1 x160 k161 p162 w163 z164 o165 S166 => ?_)
  try clear k155; try clear S151; try clear b150
  have D168 : X157.1 = D := x160.1.trans D124
  try clear D124
  have k169 : q_kd X157 h = 0 := x160.k0 k125 (by first | exact (nw_no hq145 (Nat.lt_trans hq145 mm_q145)) | (rintro (e | e) <;> omega))
  try clear k125
  have b170 := b153.kept (o165 h t154 (by first | exact (Nat.ne_of_lt hq145) | omega))
  try clear o165; try clear b153
  have t171 := t_lt b170
  try clear t154
  have y172 := y128.tr p162.1.1 (fun c hc => by rw [(x129.2.2.2.1 c hc).1]; exact hc)
  try clear y128
  have x173 := x129.tr x160 a167
  try clear x129
  have k174 := x160.kd k130 (by decide)
  have k175 := x160.kd k131 (by decide)
  have k176 := x160.kd k117 (by decide)
  have y177 := p162.1.1 q22 (by rw [k130]; decide) y132
  try clear y132
  have y178 := p162.1.1 q60 (by rw [k131]; decide) y133
  try clear y133
  have y179 := p162.1.1 q101 (by rw [k117]; decide) y136
  try clear y136
  have y180 := y_rlx x160 w152.1 k130 y134
  try clear y134; try clear k130
  have y181 := y_rlx x160 w152.1 k131 y135
  try clear y135; try clear k131
  have y182 := y_rlx x160 w152.1 k117 y137
  try clear x160; try clear w152; try clear y137; try clear k117
  have y183 := p162.1.2
  have y184 := p162.2
  try clear p162
  refine b_put E S166 hAh hnm (f := 6) b170 (show vwCl[7]? = some (RX8, TX8, 8) from rfl) q_inX8 tyX8_ok nmX8 (by decide) bw_204 rfl (fun _ => rfl) (tyX8_ok 6 (by decide)) rfl rfl dX8_init_68 (fun H185 locs1 z186 o187 b188 S189 => ?_)
  try clear b170; try clear S166
  have w190 : q_w X157 σ158 H185 := w163.kept (fun a ha => o187 a (fun e => ha (by rw [e]; exact k169)))
  try clear o187; try clear w163
  have t191 := t_lt b188
  try clear t171
  refine lv_aload_n hxx hb dX8_init_71 rfl (lv_at hl 0 rfl) ?_
  refine b_new E S189 bw_185 bw_43 bw_4 (show vwCl[4]? = some (RX5, TX5, 1) from rfl) q_inX5 tyX5 tyX5_ok (Nat.le_of_ble_eq_true rfl) (Nat.le_of_ble_eq_true rfl) dX8_init_72 (fun q192 H193 e194 z195 o196 b197 S198 => ?_)
  have hq192 : h < q192 := by first | exact Nat.lt_of_lt_of_eq t191 e194.symm | omega
  have gg_q192 : s.heap.size ≤ q192 := Nat.le_trans S189.1 (Nat.le_of_eq e194.symm)
  have mm_q192 : q192 < H193.size := by rw [z195, e194]; exact Nat.lt_succ_self _
  have cc_q192 : q145 < q192 := by first | exact Nat.lt_of_lt_of_eq (Nat.lt_of_lt_of_le (Nat.lt_of_lt_of_le mm_q145 z164) (Nat.le_of_eq z186.symm)) e194.symm | omega
  try clear S189
  have w199 : q_w X157 σ158 H193 := w190.kept (fun a ha => o196 a (w190.lt ha))
  have b200 := b188.kept (o196 h t191)
  try clear o196; try clear b188
  have t201 := t_lt b200
  try clear t191
  have k202 : q_kd X157 q192 = 0 := w190.fresh (Nat.le_of_eq e194.symm)
  try clear w190
  have g203 := S198.1
  refine lv_dup hxx hb dX8_init_75 rfl ?_
  refine lv_bipush (v := 60) hxx hb dX8_init_76 (by decide) ?_
  have a214 : ∀ a, q_nw q192 H193.size a → q_nw h s.heap.size a := nw_in gg_q192 (Nat.le_trans gg_q192 (Nat.le_of_lt mm_q192))
  refine b_cv (b_runI (As := [.int 60]) (rest := [.ref q192, .ref h]) E (hml.trans hl.1.symm) D168 w199 k202 b197 rfl (n_X5 l D X157 σ158 q192 H193.size 60 60 (by decide) (by decide) (by decide)) bi_X8_24 rfl ⟨Nat.le_of_ble_eq_true rfl, Nat.le_of_ble_eq_true rfl⟩ ⟨Nat.le_of_ble_eq_true rfl, Nat.le_of_ble_eq_true rfl⟩ rfl (Nat.le_of_ble_eq_true rfl) dX8_init_78) S198 rfl a214 (fun X204 σ205 H206 locs1 x207 k208 p209 w210 z211 o212 S213 => ?_)
  try clear k202; try clear S198; try clear b197
  have D215 : X204.1 = D := x207.1.trans D168
  try clear D168
  have k216 : q_kd X204 h = 0 := x207.k0 k169 (by first | exact (nw_no hq192 (Nat.lt_trans hq192 mm_q192)) | (rintro (e | e) <;> omega))
  try clear k169
  have b217 := b200.kept (o212 h t201 (by first | exact (Nat.ne_of_lt hq192) | omega))
  try clear o212; try clear b200
  have t218 := t_lt b217
  try clear t201
  have y219 := y172.tr p209.1.1 (fun c hc => by rw [(x173.2.2.2.1 c hc).1]; exact hc)
  try clear y172
  have x220 := x173.tr x207 a214
  try clear x173
  have k221 := x207.kd k174 (by decide)
  have k222 := x207.kd k175 (by decide)
  have k223 := x207.kd k176 (by decide)
  have k224 := x207.kd k161 (by decide)
  have y225 := p209.1.1 q22 (by rw [k174]; decide) y177
  try clear y177
  have y226 := p209.1.1 q60 (by rw [k175]; decide) y178
  try clear y178
  have y227 := p209.1.1 q101 (by rw [k176]; decide) y179
  try clear y179
  have y228 := p209.1.1 q145 (by rw [k161]; decide) y183
  try clear y183
  have y229 := y_rlx x207 w199.1 k174 y180
  try clear y180; try clear k174
  have y230 := y_rlx x207 w199.1 k175 y181
  try clear y181; try clear k175
  have y231 := y_rlx x207 w199.1 k176 y182
  try clear y182; try clear k176
  have y232 := y_rlx x207 w199.1 k161 y184
  try clear x207; try clear w199; try clear y184; try clear k161
  have y233 := p209.1.2
  have y234 := p209.2
  try clear p209
  refine b_put E S213 hAh hnm (f := 7) b217 (show vwCl[7]? = some (RX8, TX8, 8) from rfl) q_inX8 tyX8_ok nmX8 (by decide) bw_206 rfl (fun _ => rfl) (tyX8_ok 7 (by decide)) rfl rfl dX8_init_81 (fun H235 locs1 z236 o237 b238 S239 => ?_)
  try clear b217; try clear S213
  have w240 : q_w X204 σ205 H235 := w210.kept (fun a ha => o237 a (fun e => ha (by rw [e]; exact k216)))
  try clear o237; try clear w210
  have t241 := t_lt b238
  try clear t218
  obtain ⟨X242, dX242⟩ : ∃ Y, Y = q_xg X204 h 8 0 (fun f => ([0, 0, 0, q22, q60, q101, q145, q192] : List Nat).getD f 0) := ⟨_, rfl⟩
  obtain ⟨σ243, dσ243⟩ : ∃ τ, τ = q_sg σ205 h (fun f => ([0, 0, 0, 0, 0, 0, 0, 0] : List Int32).getD f 0) (fun f => ([0, 0, 0, 0, 0, 0, 0, 0] : List Int64).getD f 0) 0 := ⟨_, rfl⟩
  have x244 : q_ext (fun a => a = h) X204 X242 σ205 σ243 := by rw [dX242, dσ243]; exact q_ext.add k216
  have hrk : ∀ f, f < 40 → q_rk 8 f ≠ 0 → q_kd X204 (([0, 0, 0, q22, q60, q101, q145, q192] : List Nat).getD f 0) = q_rk 8 f := fun f h40 hf => match f, h40, hf with | 0, _, hf => absurd rfl hf | 1, _, hf => absurd rfl hf | 2, _, hf => absurd rfl hf | 3, _, _ => k221 | 4, _, _ => k222 | 5, _, _ => k223 | 6, _, _ => k224 | 7, _, _ => k208 | 8, _, hf => absurd rfl hf | 9, _, hf => absurd rfl hf | 10, _, hf => absurd rfl hf | 11, _, hf => absurd rfl hf | 12, _, hf => absurd rfl hf | 13, _, hf => absurd rfl hf | 14, _, hf => absurd rfl hf | 15, _, hf => absurd rfl hf | 16, _, hf => absurd rfl hf | 17, _, hf => absurd rfl hf | 18, _, hf => absurd rfl hf | 19, _, hf => absurd rfl hf | 20, _, hf => absurd rfl hf | 21, _, hf => absurd rfl hf | 22, _, hf => absurd rfl hf | 23, _, hf => absurd rfl hf | 24, _, hf => absurd rfl hf | 25, _, hf => absurd rfl hf | 26, _, hf => absurd rfl hf | 27, _, hf => absurd rfl hf | 28, _, hf => absurd rfl hf | 29, _, hf => absurd rfl hf | 30, _, hf => absurd rfl hf | 31, _, hf => absurd rfl hf | 32, _, hf => absurd rfl hf | 33, _, hf => absurd rfl hf | 34, _, hf => absurd rfl hf | 35, _, hf => absurd rfl hf | 36, _, hf => absurd rfl hf | 37, _, hf => absurd rfl hf | 38, _, hf => absurd rfl hf | 39, _, hf => absurd rfl hf | (n + 40), h40, _ => absurd h40 (Nat.not_lt_of_ge (Nat.le_add_left 40 n))
  have hB : ∀ f, f < 40 → (q_bn 8 f).1 ≤ ((([0, 0, 0, 0, 0, 0, 0, 0] : List Int32).getD f 0).toInt) ∧ (([0, 0, 0, 0, 0, 0, 0, 0] : List Int32).getD f 0).toInt ≤ (q_bn 8 f).2 := by decide +kernel
  have y246 : ∀ f, q_rk 8 f ≠ 0 → h < ([0, 0, 0, q22, q60, q101, q145, q192] : List Nat).getD f 0 := by
    intro f hf
    rcases y_fs8 hf with rfl | rfl | rfl | rfl | rfl
    · exact (hq22)
    · exact (hq60)
    · exact (hq101)
    · exact (hq145)
    · exact (hq192)
  have y247 : ∀ f, q_rk 8 f ≠ 0 → y_root X204 (([0, 0, 0, q22, q60, q101, q145, q192] : List Nat).getD f 0) := by
    intro f hf
    rcases y_fs8 hf with rfl | rfl | rfl | rfl | rfl
    · exact y225
    · exact y226
    · exact y227
    · exact y228
    · exact y233
  try clear y233; try clear y228; try clear y227; try clear y226; try clear y225
  have y248 : ∀ f, q_rk 8 f = 5 → q_ln X204 (q_rf X204 (([0, 0, 0, q22, q60, q101, q145, q192] : List Nat).getD f 0) 0) = y_rl 8 f := by
    intro f hf
    rcases y_fs8 (show q_rk 8 f ≠ 0 by rw [hf]; decide) with rfl | rfl | rfl | rfl | rfl
    · exact y229
    · exact y230
    · exact y231
    · exact y232
    · exact y234
  have y249 : ∀ f, q_rk 8 f ≠ 0 → ([0, 0, 0, q22, q60, q101, q145, q192] : List Nat).getD f 0 ≠ h := by
    intro f hf
    rcases y_fs8 hf with rfl | rfl | rfl | rfl | rfl
    · exact ((Nat.ne_of_gt hq22))
    · exact ((Nat.ne_of_gt hq60))
    · exact ((Nat.ne_of_gt hq101))
    · exact ((Nat.ne_of_gt hq145))
    · exact ((Nat.ne_of_gt hq192))
  have y250 : ∀ f, q_rk 8 f ≠ 0 → q_kd X (([0, 0, 0, q22, q60, q101, q145, q192] : List Nat).getD f 0) = 0 := by
    intro f hf
    rcases y_fs8 hf with rfl | rfl | rfl | rfl | rfl
    · exact hw0.fresh (gg_q22)
    · exact hw0.fresh (gg_q60)
    · exact hw0.fresh (gg_q101)
    · exact hw0.fresh (gg_q145)
    · exact hw0.fresh (gg_q192)
  have hIV : ∀ f, f < 60 → ([0, 0, 0, 0, 0, 0, 0, 0] : List Int32).getD f 0 = y_iv 8 f ∧ ([0, 0, 0, 0, 0, 0, 0, 0] : List Int64).getD f 0 = y_il 8 f := by decide +kernel
  have w245 : q_w X242 σ243 H235 := by
    rw [dX242, dσ243]
    exact w240.add k216 (q_hrk hrk) (fun q => absurd rfl q) (by decide) (fun q => absurd q (by decide)) (q_hB hB (by decide)) (fun q => by rcases q with q | q <;> exact absurd q (by decide)) (q_cfO D215 ⟨rfl, by decide⟩ (show vwCl[7]? = some (RX8, TX8, 8) from rfl) b238 (fun f hf => match f, hf with | 0, _ => rfl | 1, _ => rfl | 2, _ => rfl | 3, _ => rfl | 4, _ => rfl | 5, _ => rfl | 6, _ => rfl | 7, _ => rfl | (n + 8), hf => absurd hf (Nat.not_lt_of_ge (Nat.le_add_left 8 n)))) y246 (y_in8 (rf := (fun f => ([0, 0, 0, q22, q60, q101, q145, q192] : List Nat).getD f 0)) (show q22 < q60 from cc_q60) (show q60 < q101 from cc_q101) (show q101 < q145 from cc_q145) (show q145 < q192 from cc_q192)) y247 y248 (fun _ f hf => hIV f (hf.resolve_left (by decide)))
  try clear y248; try clear y247; try clear y246; try clear b238; try clear D215
  have y251 : y_root X242 h := by
    rw [dX242]
    exact (y_root.out w240.1 k216).add y_xg y249
  try clear y249; try clear k216
  have y252 : y_rt X X242 := by
    rw [dX242]
    exact y219.add y_xg y250
  try clear y250; try clear y219
  have k253 : q_kd X242 h = 8 := by rw [dX242]; exact q_xg_h
  have x254 := x220.tr x244 (fun a e => Or.inl e)
  try clear x220
  have y255 := y_rlx x244 w240.1 k221 y229
  try clear y255; try clear y229
  have y256 := y_rlx x244 w240.1 k222 y230
  try clear y256; try clear y230
  have y257 := y_rlx x244 w240.1 k223 y231
  try clear y257; try clear y231
  have y258 := y_rlx x244 w240.1 k224 y232
  try clear y258; try clear y232
  have y259 := y_rlx x244 w240.1 k208 y234
  try clear y259; try clear w240; try clear y234
  have k260 := x244.kd k221 (by decide)
  try clear k260; try clear k221
  have k261 := x244.kd k222 (by decide)
  try clear k261; try clear k222
  have k262 := x244.kd k223 (by decide)
  try clear k262; try clear k223
  have k263 := x244.kd k224 (by decide)
  try clear k263; try clear k224
  have k264 := x244.kd k208 (by decide)
  try clear k264; try clear x244; try clear k208
  exact b_ret E hr hlk S239 x254 k253 ⟨⟨y252, y251⟩, trivial⟩ w245 dX8_init_84

set_option maxRecDepth 100000 in
set_option maxHeartbeats 4000000 in
theorem n_X7 (l : Launch) (D : DW) (X : XW) (σ : ST) (h sz : Nat) : Met l yX7_init (q_ws yX7_init cX7_init 1 none) { frames := 2, cells := 2, slots := 61, locals := 45 } (q_PN D X σ h sz 6 8 (fun k => defaultValue (tyX7 k)) [.ref h]) (q_QN X σ h sz 7 (fun X' _ => (y_rt X X' ∧ y_root X' h) ∧ True)) 2 61 (q_nw h sz) := by
  refine b_met  (by first | exact rfl | decide +kernel) rfl rfl (Nat.le_of_ble_eq_true rfl) (fun p e s m below meth c E hml hr hlk hnm hsz hD hw0 h00 hob ls hl => ?_)
  subst hsz
  have hxx := E.1
  have hb := E.2.1
  have hl : lv_has ls 1 [(0, .ref h)] := hl
  have hS : va_S (q_nw h s.heap.size) s.heap s.heap [] := va_S.rf
  have hx0 : q_ext (q_nw h s.heap.size) X X σ σ := q_ext.rf
  have hAh : q_nw h s.heap.size h := Or.inl rfl
  have yr0 : y_rt X X := y_rt.rf
  have hlt := t_lt hob
  refine lv_aload_n hxx hb dX7_init_0 rfl (lv_at hl 0 rfl) ?_
  refine W.objInit hxx hb E.2.2.1 (E.2.2.2.1 _ bw_391) (E.2.2.2.1 _ bw_26) (E.2.2.2.1 _ bw_27) rfl (by rw [hml]; exact hl.1) rfl dX7_init_1 (Nat.le_of_ble_eq_true rfl) (Nat.le_of_ble_eq_true rfl) ?_
  refine W.eq (g2 := F0 m 4 ls []) rfl ?_
  refine lv_aload_n hxx hb dX7_init_4 rfl (lv_at hl 0 rfl) ?_
  refine lv_iconst (v := 0) hxx hb dX7_init_5 (by decide) ?_
  refine b_put E hS hAh hnm (f := 0) hob (show vwCl[6]? = some (RX7, TX7, 8) from rfl) q_inX7 tyX7_ok nmX7 (by decide) bw_394 rfl (fun _ => rfl) (tyX7_ok 0 (by decide)) rfl rfl dX7_init_6 (fun H1 locs1 z2 o3 b4 S5 => ?_)
  have w6 : q_w X σ H1 := hw0.kept (fun a ha => o3 a (fun e => ha (by rw [e]; exact h00)))
  try clear o3
  have t7 := t_lt b4
  refine lv_aload_n hxx hb dX7_init_9 rfl (lv_at hl 0 rfl) ?_
  refine lv_iconst (v := 0) hxx hb dX7_init_10 (by decide) ?_
  refine b_put E S5 hAh hnm (f := 1) b4 (show vwCl[6]? = some (RX7, TX7, 8) from rfl) q_inX7 tyX7_ok nmX7 (by decide) bw_396 rfl (fun _ => rfl) (tyX7_ok 1 (by decide)) rfl rfl dX7_init_11 (fun H8 locs1 z9 o10 b11 S12 => ?_)
  try clear S5; try clear b4
  have w13 : q_w X σ H8 := w6.kept (fun a ha => o10 a (fun e => ha (by rw [e]; exact h00)))
  try clear o10; try clear w6
  have t14 := t_lt b11
  try clear t7
  refine lv_aload_n hxx hb dX7_init_14 rfl (lv_at hl 0 rfl) ?_
  refine lv_iconst (v := 0) hxx hb dX7_init_15 (by decide) ?_
  refine b_put E S12 hAh hnm (f := 2) b11 (show vwCl[6]? = some (RX7, TX7, 8) from rfl) q_inX7 tyX7_ok nmX7 (by decide) bw_398 rfl (fun _ => rfl) (tyX7_ok 2 (by decide)) rfl rfl dX7_init_16 (fun H15 locs1 z16 o17 b18 S19 => ?_)
  try clear S12; try clear b11
  have w20 : q_w X σ H15 := w13.kept (fun a ha => o17 a (fun e => ha (by rw [e]; exact h00)))
  try clear o17; try clear w13
  have t21 := t_lt b18
  try clear t14
  refine lv_aload_n hxx hb dX7_init_19 rfl (lv_at hl 0 rfl) ?_
  refine lv_iconst (v := 0) hxx hb dX7_init_20 (by decide) ?_
  refine b_put E S19 hAh hnm (f := 3) b18 (show vwCl[6]? = some (RX7, TX7, 8) from rfl) q_inX7 tyX7_ok nmX7 (by decide) bw_400 rfl (fun _ => rfl) (tyX7_ok 3 (by decide)) rfl rfl dX7_init_21 (fun H22 locs1 z23 o24 b25 S26 => ?_)
  try clear S19; try clear b18
  have w27 : q_w X σ H22 := w20.kept (fun a ha => o24 a (fun e => ha (by rw [e]; exact h00)))
  try clear o24; try clear w20
  have t28 := t_lt b25
  try clear t21
  refine lv_aload_n hxx hb dX7_init_24 rfl (lv_at hl 0 rfl) ?_
  refine lv_iconst (v := 0) hxx hb dX7_init_25 (by decide) ?_
  refine b_put E S26 hAh hnm (f := 4) b25 (show vwCl[6]? = some (RX7, TX7, 8) from rfl) q_inX7 tyX7_ok nmX7 (by decide) bw_402 rfl (fun _ => rfl) (tyX7_ok 4 (by decide)) rfl rfl dX7_init_26 (fun H29 locs1 z30 o31 b32 S33 => ?_)
  try clear S26; try clear b25
  have w34 : q_w X σ H29 := w27.kept (fun a ha => o31 a (fun e => ha (by rw [e]; exact h00)))
  try clear o31; try clear w27
  have t35 := t_lt b32
  try clear t28
  refine lv_aload_n hxx hb dX7_init_29 rfl (lv_at hl 0 rfl) ?_
  refine lv_iconst (v := 0) hxx hb dX7_init_30 (by decide) ?_
  refine b_put E S33 hAh hnm (f := 5) b32 (show vwCl[6]? = some (RX7, TX7, 8) from rfl) q_inX7 tyX7_ok nmX7 (by decide) bw_404 rfl (fun _ => rfl) (tyX7_ok 5 (by decide)) rfl rfl dX7_init_31 (fun H36 locs1 z37 o38 b39 S40 => ?_)
  try clear S33; try clear b32
  have w41 : q_w X σ H36 := w34.kept (fun a ha => o38 a (fun e => ha (by rw [e]; exact h00)))
  try clear o38; try clear w34
  have t42 := t_lt b39
  try clear t35
  refine lv_aload_n hxx hb dX7_init_34 rfl (lv_at hl 0 rfl) ?_
  refine lv_iconst (v := 0) hxx hb dX7_init_35 (by decide) ?_
  refine b_put E S40 hAh hnm (f := 6) b39 (show vwCl[6]? = some (RX7, TX7, 8) from rfl) q_inX7 tyX7_ok nmX7 (by decide) bw_406 rfl (fun _ => rfl) (tyX7_ok 6 (by decide)) rfl rfl dX7_init_36 (fun H43 locs1 z44 o45 b46 S47 => ?_)
  try clear S40; try clear b39
  have w48 : q_w X σ H43 := w41.kept (fun a ha => o45 a (fun e => ha (by rw [e]; exact h00)))
  try clear o45; try clear w41
  have t49 := t_lt b46
  try clear t42
  refine lv_aload_n hxx hb dX7_init_39 rfl (lv_at hl 0 rfl) ?_
  refine b_new E S47 bw_392 bw_43 bw_4 (show vwCl[4]? = some (RX5, TX5, 1) from rfl) q_inX5 tyX5 tyX5_ok (Nat.le_of_ble_eq_true rfl) (Nat.le_of_ble_eq_true rfl) dX7_init_40 (fun q50 H51 e52 z53 o54 b55 S56 => ?_)
  have hq50 : h < q50 := by first | exact Nat.lt_of_lt_of_eq t49 e52.symm | omega
  have gg_q50 : s.heap.size ≤ q50 := Nat.le_trans S47.1 (Nat.le_of_eq e52.symm)
  have mm_q50 : q50 < H51.size := by rw [z53, e52]; exact Nat.lt_succ_self _
  try clear S47
  have w57 : q_w X σ H51 := w48.kept (fun a ha => o54 a (w48.lt ha))
  have b58 := b46.kept (o54 h t49)
  try clear o54; try clear b46
  have t59 := t_lt b58
  try clear t49
  have k60 : q_kd X q50 = 0 := w48.fresh (Nat.le_of_eq e52.symm)
  try clear w48
  have g61 := S56.1
  refine lv_dup hxx hb dX7_init_43 rfl ?_
  refine lv_bipush (v := 60) hxx hb dX7_init_44 (by decide) ?_
  have a72 : ∀ a, q_nw q50 H51.size a → q_nw h s.heap.size a := nw_in gg_q50 (Nat.le_trans gg_q50 (Nat.le_of_lt mm_q50))
  refine b_cv (b_runI (As := [.int 60]) (rest := [.ref q50, .ref h]) E (hml.trans hl.1.symm) hD w57 k60 b55 rfl (n_X5 l D X σ q50 H51.size 60 60 (by decide) (by decide) (by decide)) bi_X7_38 rfl ⟨Nat.le_of_ble_eq_true rfl, Nat.le_of_ble_eq_true rfl⟩ ⟨Nat.le_of_ble_eq_true rfl, Nat.le_of_ble_eq_true rfl⟩ rfl (Nat.le_of_ble_eq_true rfl) dX7_init_46) S56 rfl a72 (fun X62 σ63 H64 locs1 x65 k66 p67 w68 z69 o70 S71 => ?_)
  try clear k60; try clear w57; try clear S56; try clear b55
  have D73 : X62.1 = D := x65.1.trans hD
  have k74 : q_kd X62 h = 0 := x65.k0 h00 (by first | exact (nw_no hq50 (Nat.lt_trans hq50 mm_q50)) | (rintro (e | e) <;> omega))
  have b75 := b58.kept (o70 h t59 (by first | exact (Nat.ne_of_lt hq50) | omega))
  try clear o70; try clear b58
  have t76 := t_lt b75
  try clear t59
  have y77 := yr0.tr p67.1.1 (fun c hc => by rw [(hx0.2.2.2.1 c hc).1]; exact hc)
  have x78 := hx0.tr x65 a72
  try clear x65
  have y79 := p67.1.2
  have y80 := p67.2
  try clear p67
  refine b_put E S71 hAh hnm (f := 7) b75 (show vwCl[6]? = some (RX7, TX7, 8) from rfl) q_inX7 tyX7_ok nmX7 (by decide) bw_407 rfl (fun _ => rfl) (tyX7_ok 7 (by decide)) rfl rfl dX7_init_49 (fun H81 locs1 z82 o83 b84 S85 => ?_)
  try clear b75; try clear S71
  have w86 : q_w X62 σ63 H81 := w68.kept (fun a ha => o83 a (fun e => ha (by rw [e]; exact k74)))
  try clear o83; try clear w68
  have t87 := t_lt b84
  try clear t76
  obtain ⟨X88, dX88⟩ : ∃ Y, Y = q_xg X62 h 7 0 (fun f => ([0, 0, 0, 0, 0, 0, 0, q50] : List Nat).getD f 0) := ⟨_, rfl⟩
  obtain ⟨σ89, dσ89⟩ : ∃ τ, τ = q_sg σ63 h (fun f => ([0, 0, 0, 0, 0, 0, 0, 0] : List Int32).getD f 0) (fun f => ([0, 0, 0, 0, 0, 0, 0, 0] : List Int64).getD f 0) 0 := ⟨_, rfl⟩
  have x90 : q_ext (fun a => a = h) X62 X88 σ63 σ89 := by rw [dX88, dσ89]; exact q_ext.add k74
  have hrk : ∀ f, f < 40 → q_rk 7 f ≠ 0 → q_kd X62 (([0, 0, 0, 0, 0, 0, 0, q50] : List Nat).getD f 0) = q_rk 7 f := fun f h40 hf => match f, h40, hf with | 0, _, hf => absurd rfl hf | 1, _, hf => absurd rfl hf | 2, _, hf => absurd rfl hf | 3, _, hf => absurd rfl hf | 4, _, hf => absurd rfl hf | 5, _, hf => absurd rfl hf | 6, _, hf => absurd rfl hf | 7, _, _ => k66 | 8, _, hf => absurd rfl hf | 9, _, hf => absurd rfl hf | 10, _, hf => absurd rfl hf | 11, _, hf => absurd rfl hf | 12, _, hf => absurd rfl hf | 13, _, hf => absurd rfl hf | 14, _, hf => absurd rfl hf | 15, _, hf => absurd rfl hf | 16, _, hf => absurd rfl hf | 17, _, hf => absurd rfl hf | 18, _, hf => absurd rfl hf | 19, _, hf => absurd rfl hf | 20, _, hf => absurd rfl hf | 21, _, hf => absurd rfl hf | 22, _, hf => absurd rfl hf | 23, _, hf => absurd rfl hf | 24, _, hf => absurd rfl hf | 25, _, hf => absurd rfl hf | 26, _, hf => absurd rfl hf | 27, _, hf => absurd rfl hf | 28, _, hf => absurd rfl hf | 29, _, hf => absurd rfl hf | 30, _, hf => absurd rfl hf | 31, _, hf => absurd rfl hf | 32, _, hf => absurd rfl hf | 33, _, hf => absurd rfl hf | 34, _, hf => absurd rfl hf | 35, _, hf => absurd rfl hf | 36, _, hf => absurd rfl hf | 37, _, hf => absurd rfl hf | 38, _, hf => absurd rfl hf | 39, _, hf => absurd rfl hf | (n + 40), h40, _ => absurd h40 (Nat.not_lt_of_ge (Nat.le_add_left 40 n))
  have hB : ∀ f, f < 40 → (q_bn 7 f).1 ≤ ((([0, 0, 0, 0, 0, 0, 0, 0] : List Int32).getD f 0).toInt) ∧ (([0, 0, 0, 0, 0, 0, 0, 0] : List Int32).getD f 0).toInt ≤ (q_bn 7 f).2 := by decide +kernel
  have y92 : ∀ f, q_rk 7 f ≠ 0 → h < ([0, 0, 0, 0, 0, 0, 0, q50] : List Nat).getD f 0 := by
    intro f hf
    rcases y_fs7 hf with rfl
    · exact (hq50)
  have y93 : ∀ f, q_rk 7 f ≠ 0 → y_root X62 (([0, 0, 0, 0, 0, 0, 0, q50] : List Nat).getD f 0) := by
    intro f hf
    rcases y_fs7 hf with rfl
    · exact y79
  try clear y79
  have y94 : ∀ f, q_rk 7 f = 5 → q_ln X62 (q_rf X62 (([0, 0, 0, 0, 0, 0, 0, q50] : List Nat).getD f 0) 0) = y_rl 7 f := by
    intro f hf
    rcases y_fs7 (show q_rk 7 f ≠ 0 by rw [hf]; decide) with rfl
    · exact y80
  have y95 : ∀ f, q_rk 7 f ≠ 0 → ([0, 0, 0, 0, 0, 0, 0, q50] : List Nat).getD f 0 ≠ h := by
    intro f hf
    rcases y_fs7 hf with rfl
    · exact ((Nat.ne_of_gt hq50))
  have y96 : ∀ f, q_rk 7 f ≠ 0 → q_kd X (([0, 0, 0, 0, 0, 0, 0, q50] : List Nat).getD f 0) = 0 := by
    intro f hf
    rcases y_fs7 hf with rfl
    · exact hw0.fresh (gg_q50)
  have hIV : ∀ f, f < 60 → ([0, 0, 0, 0, 0, 0, 0, 0] : List Int32).getD f 0 = y_iv 7 f ∧ ([0, 0, 0, 0, 0, 0, 0, 0] : List Int64).getD f 0 = y_il 7 f := by decide +kernel
  have w91 : q_w X88 σ89 H81 := by
    rw [dX88, dσ89]
    exact w86.add k74 (q_hrk hrk) (fun q => absurd rfl q) (by decide) (fun q => absurd q (by decide)) (q_hB hB (by decide)) (fun q => by rcases q with q | q <;> exact absurd q (by decide)) (q_cfO D73 ⟨rfl, by decide⟩ (show vwCl[6]? = some (RX7, TX7, 8) from rfl) b84 (fun f hf => match f, hf with | 0, _ => rfl | 1, _ => rfl | 2, _ => rfl | 3, _ => rfl | 4, _ => rfl | 5, _ => rfl | 6, _ => rfl | 7, _ => rfl | (n + 8), hf => absurd hf (Nat.not_lt_of_ge (Nat.le_add_left 8 n)))) y92 (y_in7 (rf := (fun f => ([0, 0, 0, 0, 0, 0, 0, q50] : List Nat).getD f 0))) y93 y94 (fun _ f hf => hIV f (hf.resolve_left (by decide)))
  try clear y94; try clear y93; try clear y92; try clear b84; try clear D73
  have y97 : y_root X88 h := by
    rw [dX88]
    exact (y_root.out w86.1 k74).add y_xg y95
  try clear y95; try clear k74
  have y98 : y_rt X X88 := by
    rw [dX88]
    exact y77.add y_xg y96
  try clear y96; try clear y77
  have k99 : q_kd X88 h = 7 := by rw [dX88]; exact q_xg_h
  have x100 := x78.tr x90 (fun a e => Or.inl e)
  try clear x78
  have y101 := y_rlx x90 w86.1 k66 y80
  try clear y101; try clear w86; try clear y80
  have k102 := x90.kd k66 (by decide)
  try clear k102; try clear x90; try clear k66
  exact b_ret E hr hlk S85 x100 k99 ⟨⟨y98, y97⟩, trivial⟩ w91 dX7_init_52

set_option maxRecDepth 100000 in
set_option maxHeartbeats 4000000 in
theorem n_X0 (l : Launch) (D : DW) (X : XW) (σ : ST) (h sz : Nat) : Met l yX0_init (q_ws yX0_init cX0_init 1 none) { frames := 3, cells := 46, slots := 1144, locals := 65 } (q_PN D X σ h sz 0 15 (fun k => defaultValue (tyX0 k)) [.ref h]) (q_QN X σ h sz 1 (fun X' _ => (y_rt X X' ∧ y_root X' h) ∧ True)) 46 1144 (q_nw h sz) := by
  refine b_met  (by first | exact rfl | decide +kernel) rfl rfl (Nat.le_of_ble_eq_true rfl) (fun p e s m below meth c E hml hr hlk hnm hsz hD hw0 h00 hob ls hl => ?_)
  subst hsz
  have hxx := E.1
  have hb := E.2.1
  have hl : lv_has ls 1 [(0, .ref h)] := hl
  have hS : va_S (q_nw h s.heap.size) s.heap s.heap [] := va_S.rf
  have hx0 : q_ext (q_nw h s.heap.size) X X σ σ := q_ext.rf
  have hAh : q_nw h s.heap.size h := Or.inl rfl
  have yr0 : y_rt X X := y_rt.rf
  have hlt := t_lt hob
  refine lv_aload_n hxx hb dX0_init_0 rfl (lv_at hl 0 rfl) ?_
  refine W.objInit hxx hb E.2.2.1 (E.2.2.2.1 _ bw_35) (E.2.2.2.1 _ bw_26) (E.2.2.2.1 _ bw_27) rfl (by rw [hml]; exact hl.1) rfl dX0_init_1 (Nat.le_of_ble_eq_true rfl) (Nat.le_of_ble_eq_true rfl) ?_
  refine W.eq (g2 := F0 m 4 ls []) rfl ?_
  refine lv_aload_n hxx hb dX0_init_4 rfl (lv_at hl 0 rfl) ?_
  refine b_new E hS bw_36 bw_37 bw_3 (show vwCl[5]? = some (RX6, TX6, 8) from rfl) q_inX6 tyX6 tyX6_ok (Nat.le_of_ble_eq_true rfl) (Nat.le_of_ble_eq_true rfl) dX0_init_5 (fun q1 H2 e3 z4 o5 b6 S7 => ?_)
  have hq1 : h < q1 := by first | exact Nat.lt_of_lt_of_eq hlt e3.symm | omega
  have gg_q1 : s.heap.size ≤ q1 := Nat.le_trans hS.1 (Nat.le_of_eq e3.symm)
  have mm_q1 : q1 < H2.size := by rw [z4, e3]; exact Nat.lt_succ_self _
  have w8 : q_w X σ H2 := hw0.kept (fun a ha => o5 a (hw0.lt ha))
  have b9 := hob.kept (o5 h hlt)
  try clear o5
  have t10 := t_lt b9
  have k11 : q_kd X q1 = 0 := hw0.fresh (Nat.le_of_eq e3.symm)
  have g12 := S7.1
  refine lv_dup hxx hb dX0_init_8 rfl ?_
  have a23 : ∀ a, q_nw q1 H2.size a → q_nw h s.heap.size a := nw_in gg_q1 (Nat.le_trans gg_q1 (Nat.le_of_lt mm_q1))
  refine b_cv (b_runN (As := []) (rest := [.ref q1, .ref h]) E (hml.trans hl.1.symm) hD w8 k11 b6 rfl (n_X6 l D X σ q1 H2.size) bi_X0_11 rfl ⟨Nat.le_of_ble_eq_true rfl, Nat.le_of_ble_eq_true rfl⟩ ⟨Nat.le_of_ble_eq_true rfl, Nat.le_of_ble_eq_true rfl⟩ rfl (Nat.le_of_ble_eq_true rfl) dX0_init_9) S7 rfl a23 (fun X13 σ14 H15 locs1 x16 k17 p18 w19 z20 o21 S22 => ?_)
  try clear k11; try clear w8; try clear S7; try clear b6
  have D24 : X13.1 = D := x16.1.trans hD
  have k25 : q_kd X13 h = 0 := x16.k0 h00 (by first | exact (nw_no hq1 (Nat.lt_trans hq1 mm_q1)) | (rintro (e | e) <;> omega))
  have b26 := b9.kept (o21 h t10 (by first | exact (Nat.ne_of_lt hq1) | omega))
  try clear o21; try clear b9
  have t27 := t_lt b26
  try clear t10
  have y28 := yr0.tr p18.1.1 (fun c hc => by rw [(hx0.2.2.2.1 c hc).1]; exact hc)
  have x29 := hx0.tr x16 a23
  try clear x16
  have y30 := p18.1.2
  try clear p18
  refine b_put E S22 hAh hnm (f := 0) b26 (show vwCl[0]? = some (RX0, TX0, 15) from rfl) q_inX0 tyX0_ok nmX0 (by decide) bw_228 rfl (fun _ => rfl) (tyX0_ok 0 (by decide)) rfl rfl dX0_init_12 (fun H31 locs1 z32 o33 b34 S35 => ?_)
  try clear b26; try clear S22
  have w36 : q_w X13 σ14 H31 := w19.kept (fun a ha => o33 a (fun e => ha (by rw [e]; exact k25)))
  try clear o33; try clear w19
  have t37 := t_lt b34
  try clear t27
  refine lv_aload_n hxx hb dX0_init_15 rfl (lv_at hl 0 rfl) ?_
  refine b_new E S35 bw_101 bw_102 bw_6 (show vwCl[1]? = some (RX1, TX1, 7) from rfl) q_inX1 tyX1 tyX1_ok (Nat.le_of_ble_eq_true rfl) (Nat.le_of_ble_eq_true rfl) dX0_init_16 (fun q38 H39 e40 z41 o42 b43 S44 => ?_)
  have hq38 : h < q38 := by first | exact Nat.lt_of_lt_of_eq t37 e40.symm | omega
  have gg_q38 : s.heap.size ≤ q38 := Nat.le_trans S35.1 (Nat.le_of_eq e40.symm)
  have mm_q38 : q38 < H39.size := by rw [z41, e40]; exact Nat.lt_succ_self _
  have cc_q38 : q1 < q38 := by first | exact Nat.lt_of_lt_of_eq (Nat.lt_of_lt_of_le (Nat.lt_of_lt_of_le mm_q1 z20) (Nat.le_of_eq z32.symm)) e40.symm | omega
  try clear S35
  have w45 : q_w X13 σ14 H39 := w36.kept (fun a ha => o42 a (w36.lt ha))
  have b46 := b34.kept (o42 h t37)
  try clear o42; try clear b34
  have t47 := t_lt b46
  try clear t37
  have k48 : q_kd X13 q38 = 0 := w36.fresh (Nat.le_of_eq e40.symm)
  try clear w36
  have g49 := S44.1
  refine lv_dup hxx hb dX0_init_19 rfl ?_
  have a60 : ∀ a, q_nw q38 H39.size a → q_nw h s.heap.size a := nw_in gg_q38 (Nat.le_trans gg_q38 (Nat.le_of_lt mm_q38))
  refine b_cv (b_runN (As := []) (rest := [.ref q38, .ref h]) E (hml.trans hl.1.symm) D24 w45 k48 b43 rfl (n_X1 l D X13 σ14 q38 H39.size) bi_X0_20 rfl ⟨Nat.le_of_ble_eq_true rfl, Nat.le_of_ble_eq_true rfl⟩ ⟨Nat.le_of_ble_eq_true rfl, Nat.le_of_ble_eq_true rfl⟩ rfl (Nat.le_of_ble_eq_true rfl) dX0_init_20) S44 rfl a60 (fun X50 σ51 H52 locs1 x53 k54 p55 w56 z57 o58 S59 => ?_)
  try clear k48; try clear w45; try clear S44; try clear b43
  have D61 : X50.1 = D := x53.1.trans D24
  try clear D24
  have k62 : q_kd X50 h = 0 := x53.k0 k25 (by first | exact (nw_no hq38 (Nat.lt_trans hq38 mm_q38)) | (rintro (e | e) <;> omega))
  try clear k25
  have b63 := b46.kept (o58 h t47 (by first | exact (Nat.ne_of_lt hq38) | omega))
  try clear o58; try clear b46
  have t64 := t_lt b63
  try clear t47
  have y65 := y28.tr p55.1.1 (fun c hc => by rw [(x29.2.2.2.1 c hc).1]; exact hc)
  try clear y28
  have x66 := x29.tr x53 a60
  try clear x29
  have k67 := x53.kd k17 (by decide)
  try clear x53
  have y68 := p55.1.1 q1 (by rw [k17]; decide) y30
  try clear y30; try clear k17
  have y69 := p55.1.2
  try clear p55
  refine b_put E S59 hAh hnm (f := 1) b63 (show vwCl[0]? = some (RX0, TX0, 15) from rfl) q_inX0 tyX0_ok nmX0 (by decide) bw_232 rfl (fun _ => rfl) (tyX0_ok 1 (by decide)) rfl rfl dX0_init_23 (fun H70 locs1 z71 o72 b73 S74 => ?_)
  try clear b63; try clear S59
  have w75 : q_w X50 σ51 H70 := w56.kept (fun a ha => o72 a (fun e => ha (by rw [e]; exact k62)))
  try clear o72; try clear w56
  have t76 := t_lt b73
  try clear t64
  refine lv_aload_n hxx hb dX0_init_26 rfl (lv_at hl 0 rfl) ?_
  refine b_new E S74 bw_145 bw_146 bw_7 (show vwCl[2]? = some (RX2, TX2, 6) from rfl) q_inX2 tyX2 tyX2_ok (Nat.le_of_ble_eq_true rfl) (Nat.le_of_ble_eq_true rfl) dX0_init_27 (fun q77 H78 e79 z80 o81 b82 S83 => ?_)
  have hq77 : h < q77 := by first | exact Nat.lt_of_lt_of_eq t76 e79.symm | omega
  have gg_q77 : s.heap.size ≤ q77 := Nat.le_trans S74.1 (Nat.le_of_eq e79.symm)
  have mm_q77 : q77 < H78.size := by rw [z80, e79]; exact Nat.lt_succ_self _
  have cc_q77 : q38 < q77 := by first | exact Nat.lt_of_lt_of_eq (Nat.lt_of_lt_of_le (Nat.lt_of_lt_of_le mm_q38 z57) (Nat.le_of_eq z71.symm)) e79.symm | omega
  try clear S74
  have w84 : q_w X50 σ51 H78 := w75.kept (fun a ha => o81 a (w75.lt ha))
  have b85 := b73.kept (o81 h t76)
  try clear o81; try clear b73
  have t86 := t_lt b85
  try clear t76
  have k87 : q_kd X50 q77 = 0 := w75.fresh (Nat.le_of_eq e79.symm)
  try clear w75
  have g88 := S83.1
  refine lv_dup hxx hb dX0_init_30 rfl ?_
  have a99 : ∀ a, q_nw q77 H78.size a → q_nw h s.heap.size a := nw_in gg_q77 (Nat.le_trans gg_q77 (Nat.le_of_lt mm_q77))
  refine b_cv (b_runN (As := []) (rest := [.ref q77, .ref h]) E (hml.trans hl.1.symm) D61 w84 k87 b82 rfl (n_X2 l D X50 σ51 q77 H78.size) bi_X0_27 rfl ⟨Nat.le_of_ble_eq_true rfl, Nat.le_of_ble_eq_true rfl⟩ ⟨Nat.le_of_ble_eq_true rfl, Nat.le_of_ble_eq_true rfl⟩ rfl (Nat.le_of_ble_eq_true rfl) dX0_init_31) S83 rfl a99 (fun X89 σ90 H91 locs1 x92 k93 p94 w95 z96 o97 S98 => ?_)
  try clear k87; try clear w84; try clear S83; try clear b82
  have D100 : X89.1 = D := x92.1.trans D61
  try clear D61
  have k101 : q_kd X89 h = 0 := x92.k0 k62 (by first | exact (nw_no hq77 (Nat.lt_trans hq77 mm_q77)) | (rintro (e | e) <;> omega))
  try clear k62
  have b102 := b85.kept (o97 h t86 (by first | exact (Nat.ne_of_lt hq77) | omega))
  try clear o97; try clear b85
  have t103 := t_lt b102
  try clear t86
  have y104 := y65.tr p94.1.1 (fun c hc => by rw [(x66.2.2.2.1 c hc).1]; exact hc)
  try clear y65
  have x105 := x66.tr x92 a99
  try clear x66
  have k106 := x92.kd k67 (by decide)
  have k107 := x92.kd k54 (by decide)
  try clear x92
  have y108 := p94.1.1 q1 (by rw [k67]; decide) y68
  try clear y68; try clear k67
  have y109 := p94.1.1 q38 (by rw [k54]; decide) y69
  try clear y69; try clear k54
  have y110 := p94.1.2
  try clear p94
  refine b_put E S98 hAh hnm (f := 2) b102 (show vwCl[0]? = some (RX0, TX0, 15) from rfl) q_inX0 tyX0_ok nmX0 (by decide) bw_236 rfl (fun _ => rfl) (tyX0_ok 2 (by decide)) rfl rfl dX0_init_34 (fun H111 locs1 z112 o113 b114 S115 => ?_)
  try clear b102; try clear S98
  have w116 : q_w X89 σ90 H111 := w95.kept (fun a ha => o113 a (fun e => ha (by rw [e]; exact k101)))
  try clear o113; try clear w95
  have t117 := t_lt b114
  try clear t103
  refine lv_aload_n hxx hb dX0_init_37 rfl (lv_at hl 0 rfl) ?_
  refine b_new E S115 bw_179 bw_180 bw_8 (show vwCl[7]? = some (RX8, TX8, 8) from rfl) q_inX8 tyX8 tyX8_ok (Nat.le_of_ble_eq_true rfl) (Nat.le_of_ble_eq_true rfl) dX0_init_38 (fun q118 H119 e120 z121 o122 b123 S124 => ?_)
  have hq118 : h < q118 := by first | exact Nat.lt_of_lt_of_eq t117 e120.symm | omega
  have gg_q118 : s.heap.size ≤ q118 := Nat.le_trans S115.1 (Nat.le_of_eq e120.symm)
  have mm_q118 : q118 < H119.size := by rw [z121, e120]; exact Nat.lt_succ_self _
  have cc_q118 : q77 < q118 := by first | exact Nat.lt_of_lt_of_eq (Nat.lt_of_lt_of_le (Nat.lt_of_lt_of_le mm_q77 z96) (Nat.le_of_eq z112.symm)) e120.symm | omega
  try clear S115
  have w125 : q_w X89 σ90 H119 := w116.kept (fun a ha => o122 a (w116.lt ha))
  have b126 := b114.kept (o122 h t117)
  try clear o122; try clear b114
  have t127 := t_lt b126
  try clear t117
  have k128 : q_kd X89 q118 = 0 := w116.fresh (Nat.le_of_eq e120.symm)
  try clear w116
  have g129 := S124.1
  refine lv_dup hxx hb dX0_init_41 rfl ?_
  have a140 : ∀ a, q_nw q118 H119.size a → q_nw h s.heap.size a := nw_in gg_q118 (Nat.le_trans gg_q118 (Nat.le_of_lt mm_q118))
  refine b_cv (b_runN (As := []) (rest := [.ref q118, .ref h]) E (hml.trans hl.1.symm) D100 w125 k128 b123 rfl (n_X8 l D X89 σ90 q118 H119.size) bi_X0_34 rfl ⟨Nat.le_of_ble_eq_true rfl, Nat.le_of_ble_eq_true rfl⟩ ⟨Nat.le_of_ble_eq_true rfl, Nat.le_of_ble_eq_true rfl⟩ rfl (Nat.le_of_ble_eq_true rfl) dX0_init_42) S124 rfl a140 (fun X130 σ131 H132 locs1 x133 k134 p135 w136 z137 o138 S139 => ?_)
  try clear k128; try clear w125; try clear S124; try clear b123
  have D141 : X130.1 = D := x133.1.trans D100
  try clear D100
  have k142 : q_kd X130 h = 0 := x133.k0 k101 (by first | exact (nw_no hq118 (Nat.lt_trans hq118 mm_q118)) | (rintro (e | e) <;> omega))
  try clear k101
  have b143 := b126.kept (o138 h t127 (by first | exact (Nat.ne_of_lt hq118) | omega))
  try clear o138; try clear b126
  have t144 := t_lt b143
  try clear t127
  have y145 := y104.tr p135.1.1 (fun c hc => by rw [(x105.2.2.2.1 c hc).1]; exact hc)
  try clear y104
  have x146 := x105.tr x133 a140
  try clear x105
  have k147 := x133.kd k106 (by decide)
  have k148 := x133.kd k107 (by decide)
  have k149 := x133.kd k93 (by decide)
  try clear x133
  have y150 := p135.1.1 q1 (by rw [k106]; decide) y108
  try clear y108; try clear k106
  have y151 := p135.1.1 q38 (by rw [k107]; decide) y109
  try clear y109; try clear k107
  have y152 := p135.1.1 q77 (by rw [k93]; decide) y110
  try clear y110; try clear k93
  have y153 := p135.1.2
  try clear p135
  refine b_put E S139 hAh hnm (f := 3) b143 (show vwCl[0]? = some (RX0, TX0, 15) from rfl) q_inX0 tyX0_ok nmX0 (by decide) bw_239 rfl (fun _ => rfl) (tyX0_ok 3 (by decide)) rfl rfl dX0_init_45 (fun H154 locs1 z155 o156 b157 S158 => ?_)
  try clear b143; try clear S139
  have w159 : q_w X130 σ131 H154 := w136.kept (fun a ha => o156 a (fun e => ha (by rw [e]; exact k142)))
  try clear o156; try clear w136
  have t160 := t_lt b157
  try clear t144
  refine lv_aload_n hxx hb dX0_init_48 rfl (lv_at hl 0 rfl) ?_
  refine lv_iconst (v := 0) hxx hb dX0_init_49 (by decide) ?_
  refine b_put E S158 hAh hnm (f := 4) b157 (show vwCl[0]? = some (RX0, TX0, 15) from rfl) q_inX0 tyX0_ok nmX0 (by decide) bw_242 rfl (fun _ => rfl) (tyX0_ok 4 (by decide)) rfl rfl dX0_init_50 (fun H161 locs1 z162 o163 b164 S165 => ?_)
  try clear S158; try clear b157
  have w166 : q_w X130 σ131 H161 := w159.kept (fun a ha => o163 a (fun e => ha (by rw [e]; exact k142)))
  try clear o163; try clear w159
  have t167 := t_lt b164
  try clear t160
  refine lv_aload_n hxx hb dX0_init_53 rfl (lv_at hl 0 rfl) ?_
  refine lv_iconst (v := 0) hxx hb dX0_init_54 (by decide) ?_
  refine b_put E S165 hAh hnm (f := 5) b164 (show vwCl[0]? = some (RX0, TX0, 15) from rfl) q_inX0 tyX0_ok nmX0 (by decide) bw_245 rfl (fun _ => rfl) (tyX0_ok 5 (by decide)) rfl rfl dX0_init_55 (fun H168 locs1 z169 o170 b171 S172 => ?_)
  try clear S165; try clear b164
  have w173 : q_w X130 σ131 H168 := w166.kept (fun a ha => o170 a (fun e => ha (by rw [e]; exact k142)))
  try clear o170; try clear w166
  have t174 := t_lt b171
  try clear t167
  refine lv_aload_n hxx hb dX0_init_58 rfl (lv_at hl 0 rfl) ?_
  refine lv_iconst (v := (-1)) hxx hb dX0_init_59 (by decide) ?_
  refine b_put E S172 hAh hnm (f := 6) b171 (show vwCl[0]? = some (RX0, TX0, 15) from rfl) q_inX0 tyX0_ok nmX0 (by decide) bw_248 rfl (fun _ => rfl) (tyX0_ok 6 (by decide)) rfl rfl dX0_init_60 (fun H175 locs1 z176 o177 b178 S179 => ?_)
  try clear S172; try clear b171
  have w180 : q_w X130 σ131 H175 := w173.kept (fun a ha => o177 a (fun e => ha (by rw [e]; exact k142)))
  try clear o177; try clear w173
  have t181 := t_lt b178
  try clear t174
  refine lv_aload_n hxx hb dX0_init_63 rfl (lv_at hl 0 rfl) ?_
  refine lv_iconst (v := 0) hxx hb dX0_init_64 (by decide) ?_
  refine b_put E S179 hAh hnm (f := 7) b178 (show vwCl[0]? = some (RX0, TX0, 15) from rfl) q_inX0 tyX0_ok nmX0 (by decide) bw_251 rfl (fun _ => rfl) (tyX0_ok 7 (by decide)) rfl rfl dX0_init_65 (fun H182 locs1 z183 o184 b185 S186 => ?_)
  try clear S179; try clear b178
  have w187 : q_w X130 σ131 H182 := w180.kept (fun a ha => o184 a (fun e => ha (by rw [e]; exact k142)))
  try clear o184; try clear w180
  have t188 := t_lt b185
  try clear t181
  refine lv_aload_n hxx hb dX0_init_68 rfl (lv_at hl 0 rfl) ?_
  refine b_new E S186 bw_226 bw_43 bw_4 (show vwCl[4]? = some (RX5, TX5, 1) from rfl) q_inX5 tyX5 tyX5_ok (Nat.le_of_ble_eq_true rfl) (Nat.le_of_ble_eq_true rfl) dX0_init_69 (fun q189 H190 e191 z192 o193 b194 S195 => ?_)
  have hq189 : h < q189 := by first | exact Nat.lt_of_lt_of_eq t188 e191.symm | omega
  have gg_q189 : s.heap.size ≤ q189 := Nat.le_trans S186.1 (Nat.le_of_eq e191.symm)
  have mm_q189 : q189 < H190.size := by rw [z192, e191]; exact Nat.lt_succ_self _
  have cc_q189 : q118 < q189 := by first | exact Nat.lt_of_lt_of_eq (Nat.lt_of_lt_of_le (Nat.lt_of_lt_of_le (Nat.lt_of_lt_of_le (Nat.lt_of_lt_of_le (Nat.lt_of_lt_of_le (Nat.lt_of_lt_of_le mm_q118 z137) (Nat.le_of_eq z155.symm)) (Nat.le_of_eq z162.symm)) (Nat.le_of_eq z169.symm)) (Nat.le_of_eq z176.symm)) (Nat.le_of_eq z183.symm)) e191.symm | omega
  try clear S186
  have w196 : q_w X130 σ131 H190 := w187.kept (fun a ha => o193 a (w187.lt ha))
  have b197 := b185.kept (o193 h t188)
  try clear o193; try clear b185
  have t198 := t_lt b197
  try clear t188
  have k199 : q_kd X130 q189 = 0 := w187.fresh (Nat.le_of_eq e191.symm)
  try clear w187
  have g200 := S195.1
  refine lv_dup hxx hb dX0_init_72 rfl ?_
  refine lv_bipush (v := 10) hxx hb dX0_init_73 (by decide) ?_
  have a211 : ∀ a, q_nw q189 H190.size a → q_nw h s.heap.size a := nw_in gg_q189 (Nat.le_trans gg_q189 (Nat.le_of_lt mm_q189))
  refine b_cv (b_runI (As := [.int 10]) (rest := [.ref q189, .ref h]) E (hml.trans hl.1.symm) D141 w196 k199 b194 rfl (n_X5 l D X130 σ131 q189 H190.size 10 10 (by decide) (by decide) (by decide)) bi_X0_55 rfl ⟨Nat.le_of_ble_eq_true rfl, Nat.le_of_ble_eq_true rfl⟩ ⟨Nat.le_of_ble_eq_true rfl, Nat.le_of_ble_eq_true rfl⟩ rfl (Nat.le_of_ble_eq_true rfl) dX0_init_75) S195 rfl a211 (fun X201 σ202 H203 locs1 x204 k205 p206 w207 z208 o209 S210 => ?_)
  try clear k199; try clear w196; try clear S195; try clear b194
  have D212 : X201.1 = D := x204.1.trans D141
  try clear D141
  have k213 : q_kd X201 h = 0 := x204.k0 k142 (by first | exact (nw_no hq189 (Nat.lt_trans hq189 mm_q189)) | (rintro (e | e) <;> omega))
  try clear k142
  have b214 := b197.kept (o209 h t198 (by first | exact (Nat.ne_of_lt hq189) | omega))
  try clear o209; try clear b197
  have t215 := t_lt b214
  try clear t198
  have y216 := y145.tr p206.1.1 (fun c hc => by rw [(x146.2.2.2.1 c hc).1]; exact hc)
  try clear y145
  have x217 := x146.tr x204 a211
  try clear x146
  have k218 := x204.kd k147 (by decide)
  have k219 := x204.kd k148 (by decide)
  have k220 := x204.kd k149 (by decide)
  have k221 := x204.kd k134 (by decide)
  try clear x204
  have y222 := p206.1.1 q1 (by rw [k147]; decide) y150
  try clear y150; try clear k147
  have y223 := p206.1.1 q38 (by rw [k148]; decide) y151
  try clear y151; try clear k148
  have y224 := p206.1.1 q77 (by rw [k149]; decide) y152
  try clear y152; try clear k149
  have y225 := p206.1.1 q118 (by rw [k134]; decide) y153
  try clear y153; try clear k134
  have y226 := p206.1.2
  have y227 := p206.2
  try clear p206
  refine b_put E S210 hAh hnm (f := 8) b214 (show vwCl[0]? = some (RX0, TX0, 15) from rfl) q_inX0 tyX0_ok nmX0 (by decide) bw_254 rfl (fun _ => rfl) (tyX0_ok 8 (by decide)) rfl rfl dX0_init_78 (fun H228 locs1 z229 o230 b231 S232 => ?_)
  try clear b214; try clear S210
  have w233 : q_w X201 σ202 H228 := w207.kept (fun a ha => o230 a (fun e => ha (by rw [e]; exact k213)))
  try clear o230; try clear w207
  have t234 := t_lt b231
  try clear t215
  refine lv_aload_n hxx hb dX0_init_81 rfl (lv_at hl 0 rfl) ?_
  refine lv_iconst (v := 0) hxx hb dX0_init_82 (by decide) ?_
  refine b_put E S232 hAh hnm (f := 9) b231 (show vwCl[0]? = some (RX0, TX0, 15) from rfl) q_inX0 tyX0_ok nmX0 (by decide) bw_255 rfl (fun _ => rfl) (tyX0_ok 9 (by decide)) rfl rfl dX0_init_83 (fun H235 locs1 z236 o237 b238 S239 => ?_)
  try clear S232; try clear b231
  have w240 : q_w X201 σ202 H235 := w233.kept (fun a ha => o237 a (fun e => ha (by rw [e]; exact k213)))
  try clear o237; try clear w233
  have t241 := t_lt b238
  try clear t234
  refine lv_aload_n hxx hb dX0_init_86 rfl (lv_at hl 0 rfl) ?_
  refine b_new E S239 bw_226 bw_43 bw_4 (show vwCl[4]? = some (RX5, TX5, 1) from rfl) q_inX5 tyX5 tyX5_ok (Nat.le_of_ble_eq_true rfl) (Nat.le_of_ble_eq_true rfl) dX0_init_87 (fun q242 H243 e244 z245 o246 b247 S248 => ?_)
  have hq242 : h < q242 := by first | exact Nat.lt_of_lt_of_eq t241 e244.symm | omega
  have gg_q242 : s.heap.size ≤ q242 := Nat.le_trans S239.1 (Nat.le_of_eq e244.symm)
  have mm_q242 : q242 < H243.size := by rw [z245, e244]; exact Nat.lt_succ_self _
  have cc_q242 : q189 < q242 := by first | exact Nat.lt_of_lt_of_eq (Nat.lt_of_lt_of_le (Nat.lt_of_lt_of_le (Nat.lt_of_lt_of_le mm_q189 z208) (Nat.le_of_eq z229.symm)) (Nat.le_of_eq z236.symm)) e244.symm | omega
  try clear S239
  have w249 : q_w X201 σ202 H243 := w240.kept (fun a ha => o246 a (w240.lt ha))
  have b250 := b238.kept (o246 h t241)
  try clear o246; try clear b238
  have t251 := t_lt b250
  try clear t241
  have k252 : q_kd X201 q242 = 0 := w240.fresh (Nat.le_of_eq e244.symm)
  try clear w240
  have g253 := S248.1
  refine lv_dup hxx hb dX0_init_90 rfl ?_
  refine lv_bipush (v := 10) hxx hb dX0_init_91 (by decide) ?_
  have a264 : ∀ a, q_nw q242 H243.size a → q_nw h s.heap.size a := nw_in gg_q242 (Nat.le_trans gg_q242 (Nat.le_of_lt mm_q242))
  refine b_cv (b_runI (As := [.int 10]) (rest := [.ref q242, .ref h]) E (hml.trans hl.1.symm) D212 w249 k252 b247 rfl (n_X5 l D X201 σ202 q242 H243.size 10 10 (by decide) (by decide) (by decide)) bi_X0_55 rfl ⟨Nat.le_of_ble_eq_true rfl, Nat.le_of_ble_eq_true rfl⟩ ⟨Nat.le_of_ble_eq_true rfl, Nat.le_of_ble_eq_true rfl⟩ rfl (Nat.le_of_ble_eq_true rfl) dX0_init_93) S248 rfl a264 (fun X254 σ255 H256 locs1 x257 k258 p259 w260 z261 o262 S263 => ?_)
  try clear k252; try clear S248; try clear b247
  have D265 : X254.1 = D := x257.1.trans D212
  try clear D212
  have k266 : q_kd X254 h = 0 := x257.k0 k213 (by first | exact (nw_no hq242 (Nat.lt_trans hq242 mm_q242)) | (rintro (e | e) <;> omega))
  try clear k213
  have b267 := b250.kept (o262 h t251 (by first | exact (Nat.ne_of_lt hq242) | omega))
  try clear o262; try clear b250
  have t268 := t_lt b267
  try clear t251
  have y269 := y216.tr p259.1.1 (fun c hc => by rw [(x217.2.2.2.1 c hc).1]; exact hc)
  try clear y216
  have x270 := x217.tr x257 a264
  try clear x217
  have k271 := x257.kd k218 (by decide)
  have k272 := x257.kd k219 (by decide)
  have k273 := x257.kd k220 (by decide)
  have k274 := x257.kd k221 (by decide)
  have k275 := x257.kd k205 (by decide)
  have y276 := p259.1.1 q1 (by rw [k218]; decide) y222
  try clear y222; try clear k218
  have y277 := p259.1.1 q38 (by rw [k219]; decide) y223
  try clear y223; try clear k219
  have y278 := p259.1.1 q77 (by rw [k220]; decide) y224
  try clear y224; try clear k220
  have y279 := p259.1.1 q118 (by rw [k221]; decide) y225
  try clear y225; try clear k221
  have y280 := p259.1.1 q189 (by rw [k205]; decide) y226
  try clear y226
  have y281 := y_rlx x257 w249.1 k205 y227
  try clear x257; try clear w249; try clear y227; try clear k205
  have y282 := p259.1.2
  have y283 := p259.2
  try clear p259
  refine b_put E S263 hAh hnm (f := 10) b267 (show vwCl[0]? = some (RX0, TX0, 15) from rfl) q_inX0 tyX0_ok nmX0 (by decide) bw_257 rfl (fun _ => rfl) (tyX0_ok 10 (by decide)) rfl rfl dX0_init_96 (fun H284 locs1 z285 o286 b287 S288 => ?_)
  try clear b267; try clear S263
  have w289 : q_w X254 σ255 H284 := w260.kept (fun a ha => o286 a (fun e => ha (by rw [e]; exact k266)))
  try clear o286; try clear w260
  have t290 := t_lt b287
  try clear t268
  refine lv_aload_n hxx hb dX0_init_99 rfl (lv_at hl 0 rfl) ?_
  refine lv_iconst (v := 0) hxx hb dX0_init_100 (by decide) ?_
  refine b_put E S288 hAh hnm (f := 11) b287 (show vwCl[0]? = some (RX0, TX0, 15) from rfl) q_inX0 tyX0_ok nmX0 (by decide) bw_258 rfl (fun _ => rfl) (tyX0_ok 11 (by decide)) rfl rfl dX0_init_101 (fun H291 locs1 z292 o293 b294 S295 => ?_)
  try clear S288; try clear b287
  have w296 : q_w X254 σ255 H291 := w289.kept (fun a ha => o293 a (fun e => ha (by rw [e]; exact k266)))
  try clear o293; try clear w289
  have t297 := t_lt b294
  try clear t290
  refine lv_aload_n hxx hb dX0_init_104 rfl (lv_at hl 0 rfl) ?_
  refine lv_iconst (v := (-1)) hxx hb dX0_init_105 (by decide) ?_
  refine b_put E S295 hAh hnm (f := 12) b294 (show vwCl[0]? = some (RX0, TX0, 15) from rfl) q_inX0 tyX0_ok nmX0 (by decide) bw_260 rfl (fun _ => rfl) (tyX0_ok 12 (by decide)) rfl rfl dX0_init_106 (fun H298 locs1 z299 o300 b301 S302 => ?_)
  try clear S295; try clear b294
  have w303 : q_w X254 σ255 H298 := w296.kept (fun a ha => o300 a (fun e => ha (by rw [e]; exact k266)))
  try clear o300; try clear w296
  have t304 := t_lt b301
  try clear t297
  refine lv_aload_n hxx hb dX0_init_109 rfl (lv_at hl 0 rfl) ?_
  refine lv_iconst (v := (-1)) hxx hb dX0_init_110 (by decide) ?_
  refine b_put E S302 hAh hnm (f := 13) b301 (show vwCl[0]? = some (RX0, TX0, 15) from rfl) q_inX0 tyX0_ok nmX0 (by decide) bw_262 rfl (fun _ => rfl) (tyX0_ok 13 (by decide)) rfl rfl dX0_init_111 (fun H305 locs1 z306 o307 b308 S309 => ?_)
  try clear S302; try clear b301
  have w310 : q_w X254 σ255 H305 := w303.kept (fun a ha => o307 a (fun e => ha (by rw [e]; exact k266)))
  try clear o307; try clear w303
  have t311 := t_lt b308
  try clear t304
  refine lv_aload_n hxx hb dX0_init_114 rfl (lv_at hl 0 rfl) ?_
  refine lv_iconst (v := (-1)) hxx hb dX0_init_115 (by decide) ?_
  refine b_put E S309 hAh hnm (f := 14) b308 (show vwCl[0]? = some (RX0, TX0, 15) from rfl) q_inX0 tyX0_ok nmX0 (by decide) bw_264 rfl (fun _ => rfl) (tyX0_ok 14 (by decide)) rfl rfl dX0_init_116 (fun H312 locs1 z313 o314 b315 S316 => ?_)
  try clear S309; try clear b308
  have w317 : q_w X254 σ255 H312 := w310.kept (fun a ha => o314 a (fun e => ha (by rw [e]; exact k266)))
  try clear o314; try clear w310
  have t318 := t_lt b315
  try clear t311
  obtain ⟨X319, dX319⟩ : ∃ Y, Y = q_xg X254 h 1 0 (fun f => ([q1, q38, q77, q118, 0, 0, 0, 0, q189, 0, q242, 0, 0, 0, 0] : List Nat).getD f 0) := ⟨_, rfl⟩
  obtain ⟨σ320, dσ320⟩ : ∃ τ, τ = q_sg σ255 h (fun f => ([0, 0, 0, 0, 0, 0, (-1), 0, 0, 0, 0, 0, (-1), (-1), (-1)] : List Int32).getD f 0) (fun f => ([0, 0, 0, 0, 0, 0, 0, 0, 0, 0, 0, 0, 0, 0, 0] : List Int64).getD f 0) 0 := ⟨_, rfl⟩
  have x321 : q_ext (fun a => a = h) X254 X319 σ255 σ320 := by rw [dX319, dσ320]; exact q_ext.add k266
  have hrk : ∀ f, f < 40 → q_rk 1 f ≠ 0 → q_kd X254 (([q1, q38, q77, q118, 0, 0, 0, 0, q189, 0, q242, 0, 0, 0, 0] : List Nat).getD f 0) = q_rk 1 f := fun f h40 hf => match f, h40, hf with | 0, _, _ => k271 | 1, _, _ => k272 | 2, _, _ => k273 | 3, _, _ => k274 | 4, _, hf => absurd rfl hf | 5, _, hf => absurd rfl hf | 6, _, hf => absurd rfl hf | 7, _, hf => absurd rfl hf | 8, _, _ => k275 | 9, _, hf => absurd rfl hf | 10, _, _ => k258 | 11, _, hf => absurd rfl hf | 12, _, hf => absurd rfl hf | 13, _, hf => absurd rfl hf | 14, _, hf => absurd rfl hf | 15, _, hf => absurd rfl hf | 16, _, hf => absurd rfl hf | 17, _, hf => absurd rfl hf | 18, _, hf => absurd rfl hf | 19, _, hf => absurd rfl hf | 20, _, hf => absurd rfl hf | 21, _, hf => absurd rfl hf | 22, _, hf => absurd rfl hf | 23, _, hf => absurd rfl hf | 24, _, hf => absurd rfl hf | 25, _, hf => absurd rfl hf | 26, _, hf => absurd rfl hf | 27, _, hf => absurd rfl hf | 28, _, hf => absurd rfl hf | 29, _, hf => absurd rfl hf | 30, _, hf => absurd rfl hf | 31, _, hf => absurd rfl hf | 32, _, hf => absurd rfl hf | 33, _, hf => absurd rfl hf | 34, _, hf => absurd rfl hf | 35, _, hf => absurd rfl hf | 36, _, hf => absurd rfl hf | 37, _, hf => absurd rfl hf | 38, _, hf => absurd rfl hf | 39, _, hf => absurd rfl hf | (n + 40), h40, _ => absurd h40 (Nat.not_lt_of_ge (Nat.le_add_left 40 n))
  have hB : ∀ f, f < 40 → (q_bn 1 f).1 ≤ ((([0, 0, 0, 0, 0, 0, (-1), 0, 0, 0, 0, 0, (-1), (-1), (-1)] : List Int32).getD f 0).toInt) ∧ (([0, 0, 0, 0, 0, 0, (-1), 0, 0, 0, 0, 0, (-1), (-1), (-1)] : List Int32).getD f 0).toInt ≤ (q_bn 1 f).2 := by decide +kernel
  have y323 : ∀ f, q_rk 1 f ≠ 0 → h < ([q1, q38, q77, q118, 0, 0, 0, 0, q189, 0, q242, 0, 0, 0, 0] : List Nat).getD f 0 := by
    intro f hf
    rcases y_fs1 hf with rfl | rfl | rfl | rfl | rfl | rfl
    · exact (hq1)
    · exact (hq38)
    · exact (hq77)
    · exact (hq118)
    · exact (hq189)
    · exact (hq242)
  have y324 : ∀ f, q_rk 1 f ≠ 0 → y_root X254 (([q1, q38, q77, q118, 0, 0, 0, 0, q189, 0, q242, 0, 0, 0, 0] : List Nat).getD f 0) := by
    intro f hf
    rcases y_fs1 hf with rfl | rfl | rfl | rfl | rfl | rfl
    · exact y276
    · exact y277
    · exact y278
    · exact y279
    · exact y280
    · exact y282
  try clear y282; try clear y280; try clear y279; try clear y278; try clear y277; try clear y276
  have y325 : ∀ f, q_rk 1 f = 5 → q_ln X254 (q_rf X254 (([q1, q38, q77, q118, 0, 0, 0, 0, q189, 0, q242, 0, 0, 0, 0] : List Nat).getD f 0) 0) = y_rl 1 f := by
    intro f hf
    rcases y_fs1 (show q_rk 1 f ≠ 0 by rw [hf]; decide) with rfl | rfl | rfl | rfl | rfl | rfl
    · exact absurd hf (by decide)
    · exact absurd hf (by decide)
    · exact absurd hf (by decide)
    · exact absurd hf (by decide)
    · exact y281
    · exact y283
  have y326 : ∀ f, q_rk 1 f ≠ 0 → ([q1, q38, q77, q118, 0, 0, 0, 0, q189, 0, q242, 0, 0, 0, 0] : List Nat).getD f 0 ≠ h := by
    intro f hf
    rcases y_fs1 hf with rfl | rfl | rfl | rfl | rfl | rfl
    · exact ((Nat.ne_of_gt hq1))
    · exact ((Nat.ne_of_gt hq38))
    · exact ((Nat.ne_of_gt hq77))
    · exact ((Nat.ne_of_gt hq118))
    · exact ((Nat.ne_of_gt hq189))
    · exact ((Nat.ne_of_gt hq242))
  have y327 : ∀ f, q_rk 1 f ≠ 0 → q_kd X (([q1, q38, q77, q118, 0, 0, 0, 0, q189, 0, q242, 0, 0, 0, 0] : List Nat).getD f 0) = 0 := by
    intro f hf
    rcases y_fs1 hf with rfl | rfl | rfl | rfl | rfl | rfl
    · exact hw0.fresh (gg_q1)
    · exact hw0.fresh (gg_q38)
    · exact hw0.fresh (gg_q77)
    · exact hw0.fresh (gg_q118)
    · exact hw0.fresh (gg_q189)
    · exact hw0.fresh (gg_q242)
  have hIV : ∀ f, f < 60 → ([0, 0, 0, 0, 0, 0, (-1), 0, 0, 0, 0, 0, (-1), (-1), (-1)] : List Int32).getD f 0 = y_iv 1 f ∧ ([0, 0, 0, 0, 0, 0, 0, 0, 0, 0, 0, 0, 0, 0, 0] : List Int64).getD f 0 = y_il 1 f := by decide +kernel
  have w322 : q_w X319 σ320 H312 := by
    rw [dX319, dσ320]
    exact w317.add k266 (q_hrk hrk) (fun q => absurd rfl q) (by decide) (fun q => absurd q (by decide)) (q_hB hB (by decide)) (fun q => by rcases q with q | q <;> exact absurd q (by decide)) (q_cfO D265 ⟨rfl, by decide⟩ (show vwCl[0]? = some (RX0, TX0, 15) from rfl) b315 (fun f hf => match f, hf with | 0, _ => rfl | 1, _ => rfl | 2, _ => rfl | 3, _ => rfl | 4, _ => rfl | 5, _ => rfl | 6, _ => rfl | 7, _ => rfl | 8, _ => rfl | 9, _ => rfl | 10, _ => rfl | 11, _ => rfl | 12, _ => rfl | 13, _ => rfl | 14, _ => rfl | (n + 15), hf => absurd hf (Nat.not_lt_of_ge (Nat.le_add_left 15 n)))) y323 (y_in1 (rf := (fun f => ([q1, q38, q77, q118, 0, 0, 0, 0, q189, 0, q242, 0, 0, 0, 0] : List Nat).getD f 0)) (show q1 < q38 from cc_q38) (show q38 < q77 from cc_q77) (show q77 < q118 from cc_q118) (show q118 < q189 from cc_q189) (show q189 < q242 from cc_q242)) y324 y325 (fun _ f hf => hIV f (hf.resolve_left (by decide)))
  try clear y325; try clear y324; try clear y323; try clear b315; try clear D265
  have y328 : y_root X319 h := by
    rw [dX319]
    exact (y_root.out w317.1 k266).add y_xg y326
  try clear y326; try clear k266
  have y329 : y_rt X X319 := by
    rw [dX319]
    exact y269.add y_xg y327
  try clear y327; try clear y269
  have k330 : q_kd X319 h = 1 := by rw [dX319]; exact q_xg_h
  have x331 := x270.tr x321 (fun a e => Or.inl e)
  try clear x270
  have y332 := y_rlx x321 w317.1 k275 y281
  try clear y332; try clear y281
  have y333 := y_rlx x321 w317.1 k258 y283
  try clear y333; try clear w317; try clear y283
  have k334 := x321.kd k271 (by decide)
  try clear k334; try clear k271
  have k335 := x321.kd k272 (by decide)
  try clear k335; try clear k272
  have k336 := x321.kd k273 (by decide)
  try clear k336; try clear k273
  have k337 := x321.kd k274 (by decide)
  try clear k337; try clear k274
  have k338 := x321.kd k275 (by decide)
  try clear k338; try clear k275
  have k339 := x321.kd k258 (by decide)
  try clear k339; try clear x321; try clear k258
  exact b_ret E hr hlk S316 x331 k330 ⟨⟨y329, y328⟩, trivial⟩ w322 dX0_init_119
end
/-! FROM 53.born.lean.txt -/
section
set_option maxRecDepth 100000 in
set_option maxHeartbeats 4000000 in
theorem n_X3_k9 (l : Launch) (D : DW) (X : XW) (σ : ST) (h sz : Nat) : Met l yX3_init (q_ws yX3_init cX3_init 1 none) { frames := 1, cells := 1, slots := 0, locals := 12 } (q_PN D X σ h sz 8 12 (fun k => defaultValue (tyX9 k)) [.ref h]) (va_Qv (S := XW × ST × Nat) (fun u => q_ext (q_nw h sz) X u.1 σ u.2.1 ∧ q_kd u.1 h = 0 ∧ q_kd u.1 u.2.2 = 22 ∧ y_rt X u.1) (fun u t => q_w u.1 u.2.1 t.heap ∧ t_OB h (D.1.1 8) 12 (D.1.2 8) t.heap (updV (updV (updV (updV (updV (updV (updV (updV (fun k => defaultValue (tyX9 k)) 0 (.ref u.2.2)) 1 (.int 0)) 2 (.int 0)) 3 (.int 0)) 4 (.int 0)) 5 (.int 0)) 6 (.int 0)) 7 (.int (-1)))) (q_nw h sz)) 1 0 (q_nw h sz) := by
  refine b_met  (by first | exact rfl | decide +kernel) rfl rfl (Nat.le_of_ble_eq_true rfl) (fun p e s m below meth c E hml hr hlk hnm hsz hD hw0 h00 hob ls hl => ?_)
  subst hsz
  have hxx := E.1
  have hb := E.2.1
  have hl : lv_has ls 1 [(0, .ref h)] := hl
  have hS : va_S (q_nw h s.heap.size) s.heap s.heap [] := va_S.rf
  have hx0 : q_ext (q_nw h s.heap.size) X X σ σ := q_ext.rf
  have hAh : q_nw h s.heap.size h := Or.inl rfl
  have yr0 : y_rt X X := y_rt.rf
  have hlt := t_lt hob
  refine lv_aload_n hxx hb dX3_init_0 rfl (lv_at hl 0 rfl) ?_
  refine W.objInit hxx hb E.2.2.1 (E.2.2.2.1 _ bw_306) (E.2.2.2.1 _ bw_26) (E.2.2.2.1 _ bw_27) rfl (by rw [hml]; exact hl.1) rfl dX3_init_1 (Nat.le_of_ble_eq_true rfl) (Nat.le_of_ble_eq_true rfl) ?_
  refine W.eq (g2 := F0 m 4 ls []) rfl ?_
  refine lv_aload_n hxx hb dX3_init_4 rfl (lv_at hl 0 rfl) ?_
  refine lv_iconst (v := 0) hxx hb dX3_init_5 (by decide) ?_
  refine b_newa E hS bw_55 (t := 0) rfl (fun _ _ => rfl) (N' := 0) (by decide) (by decide) (by decide) (Nat.le_of_ble_eq_true rfl) (Nat.le_of_ble_eq_true rfl) dX3_init_6 (fun q1 H2 e3 z4 o5 r6 S7 => ?_)
  have hq1 : h < q1 := by first | exact Nat.lt_of_lt_of_eq hlt e3.symm | omega
  have gg_q1 : s.heap.size ≤ q1 := Nat.le_trans hS.1 (Nat.le_of_eq e3.symm)
  have mm_q1 : q1 < H2.size := by rw [z4, e3]; exact Nat.lt_succ_self _
  have w8 : q_w X σ H2 := hw0.kept (fun a ha => o5 a (hw0.lt ha))
  have b9 := hob.kept (o5 h hlt)
  try clear o5
  have t10 := t_lt b9
  have k11 : q_kd X q1 = 0 := hw0.fresh (Nat.le_of_eq e3.symm)
  have g12 := S7.1
  refine b_put E S7 hAh hnm (f := 0) b9 (show vwCl[8]? = some (RX9, TX9, 12) from rfl) q_inX9 tyX9_ok nmX9 (by decide) bw_316 rfl (fun _ => rfl) (tyX9_ok 0 (by decide)) rfl rfl dX3_init_8 (fun H13 locs1 z14 o15 b16 S17 => ?_)
  try clear b9; try clear S7
  have w18 : q_w X σ H13 := w8.kept (fun a ha => o15 a (fun e => ha (by rw [e]; exact h00)))
  try clear w8
  have t19 := t_lt b16
  try clear t10
  have r20 := (o15 q1 (by first | exact (Nat.ne_of_gt hq1) | omega)).trans r6
  try clear o15; try clear r6
  refine lv_aload_n hxx hb dX3_init_11 rfl (lv_at hl 0 rfl) ?_
  refine lv_iconst (v := 0) hxx hb dX3_init_12 (by decide) ?_
  refine b_put E S17 hAh hnm (f := 1) b16 (show vwCl[8]? = some (RX9, TX9, 12) from rfl) q_inX9 tyX9_ok nmX9 (by decide) bw_317 rfl (fun _ => rfl) (tyX9_ok 1 (by decide)) rfl rfl dX3_init_13 (fun H21 locs1 z22 o23 b24 S25 => ?_)
  try clear S17; try clear b16
  have w26 : q_w X σ H21 := w18.kept (fun a ha => o23 a (fun e => ha (by rw [e]; exact h00)))
  try clear w18
  have t27 := t_lt b24
  try clear t19
  have r28 := (o23 q1 (by first | exact (Nat.ne_of_gt hq1) | omega)).trans r20
  try clear o23; try clear r20
  refine lv_aload_n hxx hb dX3_init_16 rfl (lv_at hl 0 rfl) ?_
  refine lv_iconst (v := 0) hxx hb dX3_init_17 (by decide) ?_
  refine b_put E S25 hAh hnm (f := 2) b24 (show vwCl[8]? = some (RX9, TX9, 12) from rfl) q_inX9 tyX9_ok nmX9 (by decide) bw_318 rfl (fun _ => rfl) (tyX9_ok 2 (by decide)) rfl rfl dX3_init_18 (fun H29 locs1 z30 o31 b32 S33 => ?_)
  try clear S25; try clear b24
  have w34 : q_w X σ H29 := w26.kept (fun a ha => o31 a (fun e => ha (by rw [e]; exact h00)))
  try clear w26
  have t35 := t_lt b32
  try clear t27
  have r36 := (o31 q1 (by first | exact (Nat.ne_of_gt hq1) | omega)).trans r28
  try clear o31; try clear r28
  refine lv_aload_n hxx hb dX3_init_21 rfl (lv_at hl 0 rfl) ?_
  refine lv_iconst (v := 0) hxx hb dX3_init_22 (by decide) ?_
  refine b_put E S33 hAh hnm (f := 3) b32 (show vwCl[8]? = some (RX9, TX9, 12) from rfl) q_inX9 tyX9_ok nmX9 (by decide) bw_319 rfl (fun _ => rfl) (tyX9_ok 3 (by decide)) rfl rfl dX3_init_23 (fun H37 locs1 z38 o39 b40 S41 => ?_)
  try clear S33; try clear b32
  have w42 : q_w X σ H37 := w34.kept (fun a ha => o39 a (fun e => ha (by rw [e]; exact h00)))
  try clear w34
  have t43 := t_lt b40
  try clear t35
  have r44 := (o39 q1 (by first | exact (Nat.ne_of_gt hq1) | omega)).trans r36
  try clear o39; try clear r36
  refine lv_aload_n hxx hb dX3_init_26 rfl (lv_at hl 0 rfl) ?_
  refine lv_iconst (v := 0) hxx hb dX3_init_27 (by decide) ?_
  refine b_put E S41 hAh hnm (f := 4) b40 (show vwCl[8]? = some (RX9, TX9, 12) from rfl) q_inX9 tyX9_ok nmX9 (by decide) bw_320 rfl (fun _ => rfl) (tyX9_ok 4 (by decide)) rfl rfl dX3_init_28 (fun H45 locs1 z46 o47 b48 S49 => ?_)
  try clear S41; try clear b40
  have w50 : q_w X σ H45 := w42.kept (fun a ha => o47 a (fun e => ha (by rw [e]; exact h00)))
  try clear w42
  have t51 := t_lt b48
  try clear t43
  have r52 := (o47 q1 (by first | exact (Nat.ne_of_gt hq1) | omega)).trans r44
  try clear o47; try clear r44
  refine lv_aload_n hxx hb dX3_init_31 rfl (lv_at hl 0 rfl) ?_
  refine lv_iconst (v := 0) hxx hb dX3_init_32 (by decide) ?_
  refine b_put E S49 hAh hnm (f := 5) b48 (show vwCl[8]? = some (RX9, TX9, 12) from rfl) q_inX9 tyX9_ok nmX9 (by decide) bw_325 rfl (fun _ => rfl) (tyX9_ok 5 (by decide)) rfl rfl dX3_init_33 (fun H53 locs1 z54 o55 b56 S57 => ?_)
  try clear S49; try clear b48
  have w58 : q_w X σ H53 := w50.kept (fun a ha => o55 a (fun e => ha (by rw [e]; exact h00)))
  try clear w50
  have t59 := t_lt b56
  try clear t51
  have r60 := (o55 q1 (by first | exact (Nat.ne_of_gt hq1) | omega)).trans r52
  try clear o55; try clear r52
  refine lv_aload_n hxx hb dX3_init_36 rfl (lv_at hl 0 rfl) ?_
  refine lv_iconst (v := 0) hxx hb dX3_init_37 (by decide) ?_
  refine b_put E S57 hAh hnm (f := 6) b56 (show vwCl[8]? = some (RX9, TX9, 12) from rfl) q_inX9 tyX9_ok nmX9 (by decide) bw_328 rfl (fun _ => rfl) (tyX9_ok 6 (by decide)) rfl rfl dX3_init_38 (fun H61 locs1 z62 o63 b64 S65 => ?_)
  try clear S57; try clear b56
  have w66 : q_w X σ H61 := w58.kept (fun a ha => o63 a (fun e => ha (by rw [e]; exact h00)))
  try clear w58
  have t67 := t_lt b64
  try clear t59
  have r68 := (o63 q1 (by first | exact (Nat.ne_of_gt hq1) | omega)).trans r60
  try clear o63; try clear r60
  refine lv_aload_n hxx hb dX3_init_41 rfl (lv_at hl 0 rfl) ?_
  refine lv_iconst (v := (-1)) hxx hb dX3_init_42 (by decide) ?_
  refine b_put E S65 hAh hnm (f := 7) b64 (show vwCl[8]? = some (RX9, TX9, 12) from rfl) q_inX9 tyX9_ok nmX9 (by decide) bw_330 rfl (fun _ => rfl) (tyX9_ok 7 (by decide)) rfl rfl dX3_init_43 (fun H69 locs1 z70 o71 b72 S73 => ?_)
  try clear S65; try clear b64
  have w74 : q_w X σ H69 := w66.kept (fun a ha => o71 a (fun e => ha (by rw [e]; exact h00)))
  try clear w66
  have t75 := t_lt b72
  try clear t67
  have r76 := (o71 q1 (by first | exact (Nat.ne_of_gt hq1) | omega)).trans r68
  try clear o71; try clear r68
  have y81 := raw_lt r76
  try clear y81
  obtain ⟨X77, dX77⟩ : ∃ Y, Y = q_xg X q1 22 0 (fun _ => 0) := ⟨_, rfl⟩
  obtain ⟨σ78, dσ78⟩ : ∃ τ, τ = q_sg σ q1 (fun _ => 0 : Nat → Int32) (fun _ => 0) 0 := ⟨_, rfl⟩
  have x79 : q_ext (fun a => a = q1) X X77 σ σ78 := by rw [dX77, dσ78]; exact q_ext.add k11
  have y82 : y_root X77 q1 := by rw [dX77]; exact (y_root.out w74.1 k11).add y_xg (fun f hf => absurd rfl hf)
  try clear y82
  have y83 : y_rt X X77 := by rw [dX77]; exact yr0.add y_xg (fun f hf => absurd rfl hf)
  have w80 : q_w X77 σ78 H69 := by
    rw [dX77, dσ78]
    exact w74.add k11 (fun f hf => absurd rfl hf) (fun q => absurd rfl q) (by decide) (fun q => absurd q (by decide)) (fun f => q_inU rfl) (fun q => by rcases q with q | q <;> exact absurd q (by decide)) (q_cfA hD (by decide) (t0 := 0) rfl r76 (fun j => rfl)) (fun f hf => absurd rfl hf) (fun f g hf _ _ => absurd rfl hf) (fun f hf => absurd rfl hf) (fun f hf => absurd (show (0 : Nat) = 5 from hf) (by decide)) (fun q => absurd q (by decide))
  try clear r76; try clear w74; try clear k11; try clear t0
  have D84 : X77.1 = D := x79.1.trans hD
  try clear D84
  have k85 : q_kd X77 q1 = 22 := by rw [dX77]; exact q_xg_h
  have n86 : q_ln X77 q1 = 0 := by rw [dX77]; exact if_pos rfl
  have x87 := hx0.tr x79 (fun a e => Or.inr (by rw [e]; exact gg_q1))
  have k88 : q_kd X77 h = 0 := x79.k0 h00 (by first | exact (Nat.ne_of_lt hq1) | (omega))
  try clear x79
  exact W.vret E.1 E.2.1 hr (fun t ht _ => ⟨⟨(X77, σ78, q1), rfl, ⟨x87, k88, k85, y83⟩, by show q_w X77 σ78 t.heap ∧ _; rw [ht]; exact ⟨w80, b72⟩⟩, S73.F ht⟩) S73.2.2 dX3_init_46 hlk

set_option maxRecDepth 100000 in
set_option maxHeartbeats 4000000 in
theorem n_X9 (l : Launch) (D : DW) (X : XW) (σ : ST) (h sz : Nat) : Met l yX9_init (q_ws yX9_init cX9_init 1 none) { frames := 4, cells := 50, slots := 1166, locals := 85 } (q_PN D X σ h sz 8 12 (fun k => defaultValue (tyX9 k)) [.ref h]) (q_QN X σ h sz 9 (fun X' _ => (y_rt X X' ∧ y_root X' h) ∧ True)) 50 1166 (q_nw h sz) := by
  refine b_met  (by first | exact rfl | decide +kernel) rfl rfl (Nat.le_of_ble_eq_true rfl) (fun p e s m below meth c E hml hr hlk hnm hsz hD hw0 h00 hob ls hl => ?_)
  subst hsz
  have hxx := E.1
  have hb := E.2.1
  have hl : lv_has ls 1 [(0, .ref h)] := hl
  have hS : va_S (q_nw h s.heap.size) s.heap s.heap [] := va_S.rf
  have hx0 : q_ext (q_nw h s.heap.size) X X σ σ := q_ext.rf
  have hAh : q_nw h s.heap.size h := Or.inl rfl
  have yr0 : y_rt X X := y_rt.rf
  have hlt := t_lt hob
  refine lv_aload_n hxx hb dX9_init_0 rfl (lv_at hl 0 rfl) ?_
  refine va_callv (b_runN (rest := []) E (hml.trans hl.1.symm) hD hw0 h00 hob rfl (n_X3_k9 l D X σ h s.heap.size) bi_X9_3 rfl ⟨Nat.le_of_ble_eq_true rfl, Nat.le_of_ble_eq_true rfl⟩ ⟨Nat.le_of_ble_eq_true rfl, Nat.le_of_ble_eq_true rfl⟩ rfl (Nat.le_of_ble_eq_true rfl) dX9_init_1) hS (fun a _ qa => qa) (fun a qa => qa) (fun u3 t H4 locs1 e1 _ hp hbb hz2 hk2 S2 => ?_)
  obtain ⟨X1, σ2, rt⟩ := u3
  obtain ⟨x5, hkh, hkt, hyr⟩ := hp
  obtain ⟨w2, b2⟩ := hbb
  rw [e1] at w2 b2
  have hD2 : X1.1 = D := x5.1.trans hD
  have yr2 := yr0.tr hyr (fun c hc => by rw [(hx0.2.2.2.1 c hc).1]; exact hc)
  have x2 := hx0.tr x5 (fun a qa => qa)
  try clear x5
  have lt2 := t_lt b2
  refine lv_aload_n hxx hb dX9_init_4 rfl (lv_at hl 0 rfl) ?_
  refine b_new E S2 bw_307 bw_31 bw_2 (show vwCl[0]? = some (RX0, TX0, 15) from rfl) q_inX0 tyX0 tyX0_ok (Nat.le_of_ble_eq_true rfl) (Nat.le_of_ble_eq_true rfl) dX9_init_5 (fun q6 H7 e8 z9 o10 b11 S12 => ?_)
  have hq6 : h < q6 := by first | exact Nat.lt_of_lt_of_eq lt2 e8.symm | omega
  have gg_q6 : s.heap.size ≤ q6 := Nat.le_trans S2.1 (Nat.le_of_eq e8.symm)
  have mm_q6 : q6 < H7.size := by rw [z9, e8]; exact Nat.lt_succ_self _
  try clear S2
  have w13 : q_w X1 σ2 H7 := w2.kept (fun a ha => o10 a (w2.lt ha))
  have b14 := b2.kept (o10 h lt2)
  try clear o10; try clear b2
  have t15 := t_lt b14
  have k16 : q_kd X1 q6 = 0 := w2.fresh (Nat.le_of_eq e8.symm)
  try clear w2
  have g17 := S12.1
  refine lv_dup hxx hb dX9_init_8 rfl ?_
  have a28 : ∀ a, q_nw q6 H7.size a → q_nw h s.heap.size a := nw_in gg_q6 (Nat.le_trans gg_q6 (Nat.le_of_lt mm_q6))
  refine b_cv (b_runN (As := []) (rest := [.ref q6, .ref h]) E (hml.trans hl.1.symm) hD2 w13 k16 b11 rfl (n_X0 l D X1 σ2 q6 H7.size) bi_X9_11 rfl ⟨Nat.le_of_ble_eq_true rfl, Nat.le_of_ble_eq_true rfl⟩ ⟨Nat.le_of_ble_eq_true rfl, Nat.le_of_ble_eq_true rfl⟩ rfl (Nat.le_of_ble_eq_true rfl) dX9_init_9) S12 rfl a28 (fun X18 σ19 H20 locs1 x21 k22 p23 w24 z25 o26 S27 => ?_)
  try clear k16; try clear w13; try clear S12; try clear b11
  have D29 : X18.1 = D := x21.1.trans hD2
  have k30 : q_kd X18 h = 0 := x21.k0 hkh (by first | exact (nw_no hq6 (Nat.lt_trans hq6 mm_q6)) | (rintro (e | e) <;> omega))
  have b31 := b14.kept (o26 h t15 (by first | exact (Nat.ne_of_lt hq6) | omega))
  try clear o26; try clear b14
  have t32 := t_lt b31
  try clear t15
  have y33 := yr2.tr p23.1.1 (fun c hc => by rw [(x2.2.2.2.1 c hc).1]; exact hc)
  have x34 := x2.tr x21 a28
  try clear x2
  have k35 := x21.kd hkt (by decide)
  try clear x21
  have y36 := p23.1.2
  try clear p23
  refine b_put E S27 hAh hnm (f := 8) b31 (show vwCl[8]? = some (RX9, TX9, 12) from rfl) q_inX9 tyX9_ok nmX9 (by decide) bw_311 rfl (fun _ => rfl) (tyX9_ok 8 (by decide)) rfl rfl dX9_init_12 (fun H37 locs1 z38 o39 b40 S41 => ?_)
  try clear b31; try clear S27
  have w42 : q_w X18 σ19 H37 := w24.kept (fun a ha => o39 a (fun e => ha (by rw [e]; exact k30)))
  try clear o39; try clear w24
  have t43 := t_lt b40
  try clear t32
  refine lv_aload_n hxx hb dX9_init_15 rfl (lv_at hl 0 rfl) ?_
  refine lv_iconst (v := 0) hxx hb dX9_init_16 (by decide) ?_
  refine b_put E S41 hAh hnm (f := 9) b40 (show vwCl[8]? = some (RX9, TX9, 12) from rfl) q_inX9 tyX9_ok nmX9 (by decide) bw_313 rfl (fun _ => rfl) (tyX9_ok 9 (by decide)) rfl rfl dX9_init_17 (fun H44 locs1 z45 o46 b47 S48 => ?_)
  try clear S41; try clear b40
  have w49 : q_w X18 σ19 H44 := w42.kept (fun a ha => o46 a (fun e => ha (by rw [e]; exact k30)))
  try clear o46; try clear w42
  have t50 := t_lt b47
  try clear t43
  refine lv_aload_n hxx hb dX9_init_20 rfl (lv_at hl 0 rfl) ?_
  refine lv_iconst (v := 0) hxx hb dX9_init_21 (by decide) ?_
  refine b_put E S48 hAh hnm (f := 10) b47 (show vwCl[8]? = some (RX9, TX9, 12) from rfl) q_inX9 tyX9_ok nmX9 (by decide) bw_314 rfl (fun _ => rfl) (tyX9_ok 10 (by decide)) rfl rfl dX9_init_22 (fun H51 locs1 z52 o53 b54 S55 => ?_)
  try clear S48; try clear b47
  have w56 : q_w X18 σ19 H51 := w49.kept (fun a ha => o53 a (fun e => ha (by rw [e]; exact k30)))
  try clear o53; try clear w49
  have t57 := t_lt b54
  try clear t50
  refine lv_aload_n hxx hb dX9_init_25 rfl (lv_at hl 0 rfl) ?_
  refine b_new E S55 bw_309 bw_43 bw_4 (show vwCl[4]? = some (RX5, TX5, 1) from rfl) q_inX5 tyX5 tyX5_ok (Nat.le_of_ble_eq_true rfl) (Nat.le_of_ble_eq_true rfl) dX9_init_26 (fun q58 H59 e60 z61 o62 b63 S64 => ?_)
  have hq58 : h < q58 := by first | exact Nat.lt_of_lt_of_eq t57 e60.symm | omega
  have gg_q58 : s.heap.size ≤ q58 := Nat.le_trans S55.1 (Nat.le_of_eq e60.symm)
  have mm_q58 : q58 < H59.size := by rw [z61, e60]; exact Nat.lt_succ_self _
  have cc_q58 : q6 < q58 := by first | exact Nat.lt_of_lt_of_eq (Nat.lt_of_lt_of_le (Nat.lt_of_lt_of_le (Nat.lt_of_lt_of_le (Nat.lt_of_lt_of_le mm_q6 z25) (Nat.le_of_eq z38.symm)) (Nat.le_of_eq z45.symm)) (Nat.le_of_eq z52.symm)) e60.symm | omega
  try clear S55
  have w65 : q_w X18 σ19 H59 := w56.kept (fun a ha => o62 a (w56.lt ha))
  have b66 := b54.kept (o62 h t57)
  try clear o62; try clear b54
  have t67 := t_lt b66
  try clear t57
  have k68 : q_kd X18 q58 = 0 := w56.fresh (Nat.le_of_eq e60.symm)
  try clear w56
  have g69 := S64.1
  refine lv_dup hxx hb dX9_init_29 rfl ?_
  refine lv_bipush (v := 6) hxx hb dX9_init_30 (by decide) ?_
  have a80 : ∀ a, q_nw q58 H59.size a → q_nw h s.heap.size a := nw_in gg_q58 (Nat.le_trans gg_q58 (Nat.le_of_lt mm_q58))
  refine b_cv (b_runI (As := [.int 6]) (rest := [.ref q58, .ref h]) E (hml.trans hl.1.symm) D29 w65 k68 b63 rfl (n_X5 l D X18 σ19 q58 H59.size 6 6 (by decide) (by decide) (by decide)) bi_X9_27 rfl ⟨Nat.le_of_ble_eq_true rfl, Nat.le_of_ble_eq_true rfl⟩ ⟨Nat.le_of_ble_eq_true rfl, Nat.le_of_ble_eq_true rfl⟩ rfl (Nat.le_of_ble_eq_true rfl) dX9_init_32) S64 rfl a80 (fun X70 σ71 H72 locs1 x73 k74 p75 w76 z77 o78 S79 => ?_)
  try clear k68; try clear w65; try clear S64; try clear b63
  have D81 : X70.1 = D := x73.1.trans D29
  try clear D29
  have k82 : q_kd X70 h = 0 := x73.k0 k30 (by first | exact (nw_no hq58 (Nat.lt_trans hq58 mm_q58)) | (rintro (e | e) <;> omega))
  try clear k30
  have b83 := b66.kept (o78 h t67 (by first | exact (Nat.ne_of_lt hq58) | omega))
  try clear o78; try clear b66
  have t84 := t_lt b83
  try clear t67
  have y85 := y33.tr p75.1.1 (fun c hc => by rw [(x34.2.2.2.1 c hc).1]; exact hc)
  try clear y33
  have x86 := x34.tr x73 a80
  try clear x34
  have k87 := x73.kd k35 (by decide)
  try clear k35
  have k88 := x73.kd k22 (by decide)
  try clear x73
  have y89 := p75.1.1 q6 (by rw [k22]; decide) y36
  try clear y36; try clear k22
  have y90 := p75.1.2
  have y91 := p75.2
  try clear p75
  refine b_put E S79 hAh hnm (f := 11) b83 (show vwCl[8]? = some (RX9, TX9, 12) from rfl) q_inX9 tyX9_ok nmX9 (by decide) bw_315 rfl (fun _ => rfl) (tyX9_ok 11 (by decide)) rfl rfl dX9_init_35 (fun H92 locs1 z93 o94 b95 S96 => ?_)
  try clear b83; try clear S79
  have w97 : q_w X70 σ71 H92 := w76.kept (fun a ha => o94 a (fun e => ha (by rw [e]; exact k82)))
  try clear o94; try clear w76
  have t98 := t_lt b95
  try clear t84
  obtain ⟨X99, dX99⟩ : ∃ Y, Y = q_xg X70 h 9 0 (fun f => ([0, 0, 0, 0, 0, 0, 0, 0, q6, 0, 0, q58] : List Nat).getD f 0) := ⟨_, rfl⟩
  obtain ⟨σ100, dσ100⟩ : ∃ τ, τ = q_sg σ71 h (fun f => ([0, 0, 0, 0, 0, 0, 0, (-1), 0, 0, 0, 0] : List Int32).getD f 0) (fun f => ([0, 0, 0, 0, 0, 0, 0, 0, 0, 0, 0, 0] : List Int64).getD f 0) rt := ⟨_, rfl⟩
  have x101 : q_ext (fun a => a = h) X70 X99 σ71 σ100 := by rw [dX99, dσ100]; exact q_ext.add k82
  have hrk : ∀ f, f < 40 → q_rk 9 f ≠ 0 → q_kd X70 (([0, 0, 0, 0, 0, 0, 0, 0, q6, 0, 0, q58] : List Nat).getD f 0) = q_rk 9 f := fun f h40 hf => match f, h40, hf with | 0, _, hf => absurd rfl hf | 1, _, hf => absurd rfl hf | 2, _, hf => absurd rfl hf | 3, _, hf => absurd rfl hf | 4, _, hf => absurd rfl hf | 5, _, hf => absurd rfl hf | 6, _, hf => absurd rfl hf | 7, _, hf => absurd rfl hf | 8, _, _ => k88 | 9, _, hf => absurd rfl hf | 10, _, hf => absurd rfl hf | 11, _, _ => k74 | 12, _, hf => absurd rfl hf | 13, _, hf => absurd rfl hf | 14, _, hf => absurd rfl hf | 15, _, hf => absurd rfl hf | 16, _, hf => absurd rfl hf | 17, _, hf => absurd rfl hf | 18, _, hf => absurd rfl hf | 19, _, hf => absurd rfl hf | 20, _, hf => absurd rfl hf | 21, _, hf => absurd rfl hf | 22, _, hf => absurd rfl hf | 23, _, hf => absurd rfl hf | 24, _, hf => absurd rfl hf | 25, _, hf => absurd rfl hf | 26, _, hf => absurd rfl hf | 27, _, hf => absurd rfl hf | 28, _, hf => absurd rfl hf | 29, _, hf => absurd rfl hf | 30, _, hf => absurd rfl hf | 31, _, hf => absurd rfl hf | 32, _, hf => absurd rfl hf | 33, _, hf => absurd rfl hf | 34, _, hf => absurd rfl hf | 35, _, hf => absurd rfl hf | 36, _, hf => absurd rfl hf | 37, _, hf => absurd rfl hf | 38, _, hf => absurd rfl hf | 39, _, hf => absurd rfl hf | (n + 40), h40, _ => absurd h40 (Nat.not_lt_of_ge (Nat.le_add_left 40 n))
  have hB : ∀ f, f < 40 → (q_bn 9 f).1 ≤ ((([0, 0, 0, 0, 0, 0, 0, (-1), 0, 0, 0, 0] : List Int32).getD f 0).toInt) ∧ (([0, 0, 0, 0, 0, 0, 0, (-1), 0, 0, 0, 0] : List Int32).getD f 0).toInt ≤ (q_bn 9 f).2 := by decide +kernel
  have y103 : ∀ f, q_rk 9 f ≠ 0 → h < ([0, 0, 0, 0, 0, 0, 0, 0, q6, 0, 0, q58] : List Nat).getD f 0 := by
    intro f hf
    rcases y_fs9 hf with rfl | rfl
    · exact (hq6)
    · exact (hq58)
  have y104 : ∀ f, q_rk 9 f ≠ 0 → y_root X70 (([0, 0, 0, 0, 0, 0, 0, 0, q6, 0, 0, q58] : List Nat).getD f 0) := by
    intro f hf
    rcases y_fs9 hf with rfl | rfl
    · exact y89
    · exact y90
  try clear y90; try clear y89
  have y105 : ∀ f, q_rk 9 f = 5 → q_ln X70 (q_rf X70 (([0, 0, 0, 0, 0, 0, 0, 0, q6, 0, 0, q58] : List Nat).getD f 0) 0) = y_rl 9 f := by
    intro f hf
    rcases y_fs9 (show q_rk 9 f ≠ 0 by rw [hf]; decide) with rfl | rfl
    · exact absurd hf (by decide)
    · exact y91
  have y106 : ∀ f, q_rk 9 f ≠ 0 → ([0, 0, 0, 0, 0, 0, 0, 0, q6, 0, 0, q58] : List Nat).getD f 0 ≠ h := by
    intro f hf
    rcases y_fs9 hf with rfl | rfl
    · exact ((Nat.ne_of_gt hq6))
    · exact ((Nat.ne_of_gt hq58))
  have y107 : ∀ f, q_rk 9 f ≠ 0 → q_kd X (([0, 0, 0, 0, 0, 0, 0, 0, q6, 0, 0, q58] : List Nat).getD f 0) = 0 := by
    intro f hf
    rcases y_fs9 hf with rfl | rfl
    · exact hw0.fresh (gg_q6)
    · exact hw0.fresh (gg_q58)
  have w102 : q_w X99 σ100 H92 := by
    rw [dX99, dσ100]
    exact w97.add k82 (q_hrk hrk) (fun q => absurd rfl q) (by decide) (fun q => absurd q (by decide)) (q_hB hB (by decide)) (fun _ => k87) (q_cfO D81 ⟨rfl, by decide⟩ (show vwCl[8]? = some (RX9, TX9, 12) from rfl) b95 (fun f hf => match f, hf with | 0, _ => rfl | 1, _ => rfl | 2, _ => rfl | 3, _ => rfl | 4, _ => rfl | 5, _ => rfl | 6, _ => rfl | 7, _ => rfl | 8, _ => rfl | 9, _ => rfl | 10, _ => rfl | 11, _ => rfl | (n + 12), hf => absurd hf (Nat.not_lt_of_ge (Nat.le_add_left 12 n)))) y103 (y_in9 (rf := (fun f => ([0, 0, 0, 0, 0, 0, 0, 0, q6, 0, 0, q58] : List Nat).getD f 0)) (show q6 < q58 from cc_q58)) y104 y105 (fun q => absurd q (by decide))
  try clear y105; try clear y104; try clear y103; try clear b95; try clear D81
  have y108 : y_root X99 h := by
    rw [dX99]
    exact (y_root.out w97.1 k82).add y_xg y106
  try clear y106; try clear k82
  have y109 : y_rt X X99 := by
    rw [dX99]
    exact y85.add y_xg y107
  try clear y107; try clear y85
  have k110 : q_kd X99 h = 9 := by rw [dX99]; exact q_xg_h
  have x111 := x86.tr x101 (fun a e => Or.inl e)
  try clear x86
  have y112 := y_rlx x101 w97.1 k74 y91
  try clear y112; try clear w97; try clear y91
  have k113 := x101.kd k87 (by decide)
  try clear k113; try clear k87
  have k114 := x101.kd k88 (by decide)
  try clear k114; try clear k88
  have k115 := x101.kd k74 (by decide)
  try clear k115; try clear x101; try clear k74
  exact b_ret E hr hlk S96 x111 k110 ⟨⟨y109, y108⟩, trivial⟩ w102 dX9_init_38

set_option maxRecDepth 100000 in
set_option maxHeartbeats 4000000 in
theorem n_X3_k4 (l : Launch) (D : DW) (X : XW) (σ : ST) (h sz : Nat) : Met l yX3_init (q_ws yX3_init cX3_init 1 none) { frames := 1, cells := 1, slots := 0, locals := 12 } (q_PN D X σ h sz 3 11 (fun k => defaultValue (tyX4 k)) [.ref h]) (va_Qv (S := XW × ST × Nat) (fun u => q_ext (q_nw h sz) X u.1 σ u.2.1 ∧ q_kd u.1 h = 0 ∧ q_kd u.1 u.2.2 = 22 ∧ y_rt X u.1) (fun u t => q_w u.1 u.2.1 t.heap ∧ t_OB h (D.1.1 3) 11 (D.1.2 3) t.heap (updV (updV (updV (updV (updV (updV (updV (updV (fun k => defaultValue (tyX4 k)) 0 (.ref u.2.2)) 1 (.int 0)) 2 (.int 0)) 3 (.int 0)) 4 (.int 0)) 5 (.int 0)) 6 (.int 0)) 7 (.int (-1)))) (q_nw h sz)) 1 0 (q_nw h sz) := by
  refine b_met  (by first | exact rfl | decide +kernel) rfl rfl (Nat.le_of_ble_eq_true rfl) (fun p e s m below meth c E hml hr hlk hnm hsz hD hw0 h00 hob ls hl => ?_)
  subst hsz
  have hxx := E.1
  have hb := E.2.1
  have hl : lv_has ls 1 [(0, .ref h)] := hl
  have hS : va_S (q_nw h s.heap.size) s.heap s.heap [] := va_S.rf
  have hx0 : q_ext (q_nw h s.heap.size) X X σ σ := q_ext.rf
  have hAh : q_nw h s.heap.size h := Or.inl rfl
  have yr0 : y_rt X X := y_rt.rf
  have hlt := t_lt hob
  refine lv_aload_n hxx hb dX3_init_0 rfl (lv_at hl 0 rfl) ?_
  refine W.objInit hxx hb E.2.2.1 (E.2.2.2.1 _ bw_306) (E.2.2.2.1 _ bw_26) (E.2.2.2.1 _ bw_27) rfl (by rw [hml]; exact hl.1) rfl dX3_init_1 (Nat.le_of_ble_eq_true rfl) (Nat.le_of_ble_eq_true rfl) ?_
  refine W.eq (g2 := F0 m 4 ls []) rfl ?_
  refine lv_aload_n hxx hb dX3_init_4 rfl (lv_at hl 0 rfl) ?_
  refine lv_iconst (v := 0) hxx hb dX3_init_5 (by decide) ?_
  refine b_newa E hS bw_55 (t := 0) rfl (fun _ _ => rfl) (N' := 0) (by decide) (by decide) (by decide) (Nat.le_of_ble_eq_true rfl) (Nat.le_of_ble_eq_true rfl) dX3_init_6 (fun q1 H2 e3 z4 o5 r6 S7 => ?_)
  have hq1 : h < q1 := by first | exact Nat.lt_of_lt_of_eq hlt e3.symm | omega
  have gg_q1 : s.heap.size ≤ q1 := Nat.le_trans hS.1 (Nat.le_of_eq e3.symm)
  have mm_q1 : q1 < H2.size := by rw [z4, e3]; exact Nat.lt_succ_self _
  have w8 : q_w X σ H2 := hw0.kept (fun a ha => o5 a (hw0.lt ha))
  have b9 := hob.kept (o5 h hlt)
  try clear o5
  have t10 := t_lt b9
  have k11 : q_kd X q1 = 0 := hw0.fresh (Nat.le_of_eq e3.symm)
  have g12 := S7.1
  refine b_put E S7 hAh hnm (f := 0) b9 (show vwCl[3]? = some (RX4, TX4, 11) from rfl) q_inX4 tyX4_ok nmX4 (by decide) bw_316 rfl (fun _ => rfl) (tyX4_ok 0 (by decide)) rfl rfl dX3_init_8 (fun H13 locs1 z14 o15 b16 S17 => ?_)
  try clear b9; try clear S7
  have w18 : q_w X σ H13 := w8.kept (fun a ha => o15 a (fun e => ha (by rw [e]; exact h00)))
  try clear w8
  have t19 := t_lt b16
  try clear t10
  have r20 := (o15 q1 (by first | exact (Nat.ne_of_gt hq1) | omega)).trans r6
  try clear o15; try clear r6
  refine lv_aload_n hxx hb dX3_init_11 rfl (lv_at hl 0 rfl) ?_
  refine lv_iconst (v := 0) hxx hb dX3_init_12 (by decide) ?_
  refine b_put E S17 hAh hnm (f := 1) b16 (show vwCl[3]? = some (RX4, TX4, 11) from rfl) q_inX4 tyX4_ok nmX4 (by decide) bw_317 rfl (fun _ => rfl) (tyX4_ok 1 (by decide)) rfl rfl dX3_init_13 (fun H21 locs1 z22 o23 b24 S25 => ?_)
  try clear S17; try clear b16
  have w26 : q_w X σ H21 := w18.kept (fun a ha => o23 a (fun e => ha (by rw [e]; exact h00)))
  try clear w18
  have t27 := t_lt b24
  try clear t19
  have r28 := (o23 q1 (by first | exact (Nat.ne_of_gt hq1) | omega)).trans r20
  try clear o23; try clear r20
  refine lv_aload_n hxx hb dX3_init_16 rfl (lv_at hl 0 rfl) ?_
  refine lv_iconst (v := 0) hxx hb dX3_init_17 (by decide) ?_
  refine b_put E S25 hAh hnm (f := 2) b24 (show vwCl[3]? = some (RX4, TX4, 11) from rfl) q_inX4 tyX4_ok nmX4 (by decide) bw_318 rfl (fun _ => rfl) (tyX4_ok 2 (by decide)) rfl rfl dX3_init_18 (fun H29 locs1 z30 o31 b32 S33 => ?_)
  try clear S25; try clear b24
  have w34 : q_w X σ H29 := w26.kept (fun a ha => o31 a (fun e => ha (by rw [e]; exact h00)))
  try clear w26
  have t35 := t_lt b32
  try clear t27
  have r36 := (o31 q1 (by first | exact (Nat.ne_of_gt hq1) | omega)).trans r28
  try clear o31; try clear r28
  refine lv_aload_n hxx hb dX3_init_21 rfl (lv_at hl 0 rfl) ?_
  refine lv_iconst (v := 0) hxx hb dX3_init_22 (by decide) ?_
  refine b_put E S33 hAh hnm (f := 3) b32 (show vwCl[3]? = some (RX4, TX4, 11) from rfl) q_inX4 tyX4_ok nmX4 (by decide) bw_319 rfl (fun _ => rfl) (tyX4_ok 3 (by decide)) rfl rfl dX3_init_23 (fun H37 locs1 z38 o39 b40 S41 => ?_)
  try clear S33; try clear b32
  have w42 : q_w X σ H37 := w34.kept (fun a ha => o39 a (fun e => ha (by rw [e]; exact h00)))
  try clear w34
  have t43 := t_lt b40
  try clear t35
  have r44 := (o39 q1 (by first | exact (Nat.ne_of_gt hq1) | omega)).trans r36
  try clear o39; try clear r36
  refine lv_aload_n hxx hb dX3_init_26 rfl (lv_at hl 0 rfl) ?_
  refine lv_iconst (v := 0) hxx hb dX3_init_27 (by decide) ?_
  refine b_put E S41 hAh hnm (f := 4) b40 (show vwCl[3]? = some (RX4, TX4, 11) from rfl) q_inX4 tyX4_ok nmX4 (by decide) bw_320 rfl (fun _ => rfl) (tyX4_ok 4 (by decide)) rfl rfl dX3_init_28 (fun H45 locs1 z46 o47 b48 S49 => ?_)
  try clear S41; try clear b40
  have w50 : q_w X σ H45 := w42.kept (fun a ha => o47 a (fun e => ha (by rw [e]; exact h00)))
  try clear w42
  have t51 := t_lt b48
  try clear t43
  have r52 := (o47 q1 (by first | exact (Nat.ne_of_gt hq1) | omega)).trans r44
  try clear o47; try clear r44
  refine lv_aload_n hxx hb dX3_init_31 rfl (lv_at hl 0 rfl) ?_
  refine lv_iconst (v := 0) hxx hb dX3_init_32 (by decide) ?_
  refine b_put E S49 hAh hnm (f := 5) b48 (show vwCl[3]? = some (RX4, TX4, 11) from rfl) q_inX4 tyX4_ok nmX4 (by decide) bw_325 rfl (fun _ => rfl) (tyX4_ok 5 (by decide)) rfl rfl dX3_init_33 (fun H53 locs1 z54 o55 b56 S57 => ?_)
  try clear S49; try clear b48
  have w58 : q_w X σ H53 := w50.kept (fun a ha => o55 a (fun e => ha (by rw [e]; exact h00)))
  try clear w50
  have t59 := t_lt b56
  try clear t51
  have r60 := (o55 q1 (by first | exact (Nat.ne_of_gt hq1) | omega)).trans r52
  try clear o55; try clear r52
  refine lv_aload_n hxx hb dX3_init_36 rfl (lv_at hl 0 rfl) ?_
  refine lv_iconst (v := 0) hxx hb dX3_init_37 (by decide) ?_
  refine b_put E S57 hAh hnm (f := 6) b56 (show vwCl[3]? = some (RX4, TX4, 11) from rfl) q_inX4 tyX4_ok nmX4 (by decide) bw_328 rfl (fun _ => rfl) (tyX4_ok 6 (by decide)) rfl rfl dX3_init_38 (fun H61 locs1 z62 o63 b64 S65 => ?_)
  try clear S57; try clear b56
  have w66 : q_w X σ H61 := w58.kept (fun a ha => o63 a (fun e => ha (by rw [e]; exact h00)))
  try clear w58
  have t67 := t_lt b64
  try clear t59
  have r68 := (o63 q1 (by first | exact (Nat.ne_of_gt hq1) | omega)).trans r60
  try clear o63; try clear r60
  refine lv_aload_n hxx hb dX3_init_41 rfl (lv_at hl 0 rfl) ?_
  refine lv_iconst (v := (-1)) hxx hb dX3_init_42 (by decide) ?_
  refine b_put E S65 hAh hnm (f := 7) b64 (show vwCl[3]? = some (RX4, TX4, 11) from rfl) q_inX4 tyX4_ok nmX4 (by decide) bw_330 rfl (fun _ => rfl) (tyX4_ok 7 (by decide)) rfl rfl dX3_init_43 (fun H69 locs1 z70 o71 b72 S73 => ?_)
  try clear S65; try clear b64
  have w74 : q_w X σ H69 := w66.kept (fun a ha => o71 a (fun e => ha (by rw [e]; exact h00)))
  try clear w66
  have t75 := t_lt b72
  try clear t67
  have r76 := (o71 q1 (by first | exact (Nat.ne_of_gt hq1) | omega)).trans r68
  try clear o71; try clear r68
  have y81 := raw_lt r76
  try clear y81
  obtain ⟨X77, dX77⟩ : ∃ Y, Y = q_xg X q1 22 0 (fun _ => 0) := ⟨_, rfl⟩
  obtain ⟨σ78, dσ78⟩ : ∃ τ, τ = q_sg σ q1 (fun _ => 0 : Nat → Int32) (fun _ => 0) 0 := ⟨_, rfl⟩
  have x79 : q_ext (fun a => a = q1) X X77 σ σ78 := by rw [dX77, dσ78]; exact q_ext.add k11
  have y82 : y_root X77 q1 := by rw [dX77]; exact (y_root.out w74.1 k11).add y_xg (fun f hf => absurd rfl hf)
  try clear y82
  have y83 : y_rt X X77 := by rw [dX77]; exact yr0.add y_xg (fun f hf => absurd rfl hf)
  have w80 : q_w X77 σ78 H69 := by
    rw [dX77, dσ78]
    exact w74.add k11 (fun f hf => absurd rfl hf) (fun q => absurd rfl q) (by decide) (fun q => absurd q (by decide)) (fun f => q_inU rfl) (fun q => by rcases q with q | q <;> exact absurd q (by decide)) (q_cfA hD (by decide) (t0 := 0) rfl r76 (fun j => rfl)) (fun f hf => absurd rfl hf) (fun f g hf _ _ => absurd rfl hf) (fun f hf => absurd rfl hf) (fun f hf => absurd (show (0 : Nat) = 5 from hf) (by decide)) (fun q => absurd q (by decide))
  try clear r76; try clear w74; try clear k11; try clear t0
  have D84 : X77.1 = D := x79.1.trans hD
  try clear D84
  have k85 : q_kd X77 q1 = 22 := by rw [dX77]; exact q_xg_h
  have n86 : q_ln X77 q1 = 0 := by rw [dX77]; exact if_pos rfl
  have x87 := hx0.tr x79 (fun a e => Or.inr (by rw [e]; exact gg_q1))
  have k88 : q_kd X77 h = 0 := x79.k0 h00 (by first | exact (Nat.ne_of_lt hq1) | (omega))
  try clear x79
  exact W.vret E.1 E.2.1 hr (fun t ht _ => ⟨⟨(X77, σ78, q1), rfl, ⟨x87, k88, k85, y83⟩, by show q_w X77 σ78 t.heap ∧ _; rw [ht]; exact ⟨w80, b72⟩⟩, S73.F ht⟩) S73.2.2 dX3_init_46 hlk

set_option maxRecDepth 100000 in
set_option maxHeartbeats 4000000 in
theorem n_X4 (l : Launch) (D : DW) (X : XW) (σ : ST) (h sz : Nat) : Met l yX4_init (q_ws yX4_init cX4_init 1 none) { frames := 3, cells := 14, slots := 317, locals := 65 } (q_PN D X σ h sz 3 11 (fun k => defaultValue (tyX4 k)) [.ref h]) (q_QN X σ h sz 4 (fun X' _ => (y_rt X X' ∧ y_root X' h) ∧ True)) 14 317 (q_nw h sz) := by
  refine b_met  (by first | exact rfl | decide +kernel) rfl rfl (Nat.le_of_ble_eq_true rfl) (fun p e s m below meth c E hml hr hlk hnm hsz hD hw0 h00 hob ls hl => ?_)
  subst hsz
  have hxx := E.1
  have hb := E.2.1
  have hl : lv_has ls 1 [(0, .ref h)] := hl
  have hS : va_S (q_nw h s.heap.size) s.heap s.heap [] := va_S.rf
  have hx0 : q_ext (q_nw h s.heap.size) X X σ σ := q_ext.rf
  have hAh : q_nw h s.heap.size h := Or.inl rfl
  have yr0 : y_rt X X := y_rt.rf
  have hlt := t_lt hob
  refine lv_aload_n hxx hb dX4_init_0 rfl (lv_at hl 0 rfl) ?_
  refine va_callv (b_runN (rest := []) E (hml.trans hl.1.symm) hD hw0 h00 hob rfl (n_X3_k4 l D X σ h s.heap.size) bi_X4_3 rfl ⟨Nat.le_of_ble_eq_true rfl, Nat.le_of_ble_eq_true rfl⟩ ⟨Nat.le_of_ble_eq_true rfl, Nat.le_of_ble_eq_true rfl⟩ rfl (Nat.le_of_ble_eq_true rfl) dX4_init_1) hS (fun a _ qa => qa) (fun a qa => qa) (fun u3 t H4 locs1 e1 _ hp hbb hz2 hk2 S2 => ?_)
  obtain ⟨X1, σ2, rt⟩ := u3
  obtain ⟨x5, hkh, hkt, hyr⟩ := hp
  obtain ⟨w2, b2⟩ := hbb
  rw [e1] at w2 b2
  have hD2 : X1.1 = D := x5.1.trans hD
  have yr2 := yr0.tr hyr (fun c hc => by rw [(hx0.2.2.2.1 c hc).1]; exact hc)
  have x2 := hx0.tr x5 (fun a qa => qa)
  try clear x5
  have lt2 := t_lt b2
  refine lv_aload_n hxx hb dX4_init_4 rfl (lv_at hl 0 rfl) ?_
  refine b_new E S2 bw_363 bw_180 bw_8 (show vwCl[7]? = some (RX8, TX8, 8) from rfl) q_inX8 tyX8 tyX8_ok (Nat.le_of_ble_eq_true rfl) (Nat.le_of_ble_eq_true rfl) dX4_init_5 (fun q6 H7 e8 z9 o10 b11 S12 => ?_)
  have hq6 : h < q6 := by first | exact Nat.lt_of_lt_of_eq lt2 e8.symm | omega
  have gg_q6 : s.heap.size ≤ q6 := Nat.le_trans S2.1 (Nat.le_of_eq e8.symm)
  have mm_q6 : q6 < H7.size := by rw [z9, e8]; exact Nat.lt_succ_self _
  try clear S2
  have w13 : q_w X1 σ2 H7 := w2.kept (fun a ha => o10 a (w2.lt ha))
  have b14 := b2.kept (o10 h lt2)
  try clear o10; try clear b2
  have t15 := t_lt b14
  have k16 : q_kd X1 q6 = 0 := w2.fresh (Nat.le_of_eq e8.symm)
  try clear w2
  have g17 := S12.1
  refine lv_dup hxx hb dX4_init_8 rfl ?_
  have a28 : ∀ a, q_nw q6 H7.size a → q_nw h s.heap.size a := nw_in gg_q6 (Nat.le_trans gg_q6 (Nat.le_of_lt mm_q6))
  refine b_cv (b_runN (As := []) (rest := [.ref q6, .ref h]) E (hml.trans hl.1.symm) hD2 w13 k16 b11 rfl (n_X8 l D X1 σ2 q6 H7.size) bi_X4_11 rfl ⟨Nat.le_of_ble_eq_true rfl, Nat.le_of_ble_eq_true rfl⟩ ⟨Nat.le_of_ble_eq_true rfl, Nat.le_of_ble_eq_true rfl⟩ rfl (Nat.le_of_ble_eq_true rfl) dX4_init_9) S12 rfl a28 (fun X18 σ19 H20 locs1 x21 k22 p23 w24 z25 o26 S27 => ?_)
  try clear k16; try clear w13; try clear S12; try clear b11
  have D29 : X18.1 = D := x21.1.trans hD2
  have k30 : q_kd X18 h = 0 := x21.k0 hkh (by first | exact (nw_no hq6 (Nat.lt_trans hq6 mm_q6)) | (rintro (e | e) <;> omega))
  have b31 := b14.kept (o26 h t15 (by first | exact (Nat.ne_of_lt hq6) | omega))
  try clear o26; try clear b14
  have t32 := t_lt b31
  try clear t15
  have y33 := yr2.tr p23.1.1 (fun c hc => by rw [(x2.2.2.2.1 c hc).1]; exact hc)
  have x34 := x2.tr x21 a28
  try clear x2
  have k35 := x21.kd hkt (by decide)
  try clear x21
  have y36 := p23.1.2
  try clear p23
  refine b_put E S27 hAh hnm (f := 8) b31 (show vwCl[3]? = some (RX4, TX4, 11) from rfl) q_inX4 tyX4_ok nmX4 (by decide) bw_367 rfl (fun _ => rfl) (tyX4_ok 8 (by decide)) rfl rfl dX4_init_12 (fun H37 locs1 z38 o39 b40 S41 => ?_)
  try clear b31; try clear S27
  have w42 : q_w X18 σ19 H37 := w24.kept (fun a ha => o39 a (fun e => ha (by rw [e]; exact k30)))
  try clear o39; try clear w24
  have t43 := t_lt b40
  try clear t32
  refine lv_aload_n hxx hb dX4_init_15 rfl (lv_at hl 0 rfl) ?_
  refine b_new E S41 bw_365 bw_43 bw_4 (show vwCl[4]? = some (RX5, TX5, 1) from rfl) q_inX5 tyX5 tyX5_ok (Nat.le_of_ble_eq_true rfl) (Nat.le_of_ble_eq_true rfl) dX4_init_16 (fun q44 H45 e46 z47 o48 b49 S50 => ?_)
  have hq44 : h < q44 := by first | exact Nat.lt_of_lt_of_eq t43 e46.symm | omega
  have gg_q44 : s.heap.size ≤ q44 := Nat.le_trans S41.1 (Nat.le_of_eq e46.symm)
  have mm_q44 : q44 < H45.size := by rw [z47, e46]; exact Nat.lt_succ_self _
  have cc_q44 : q6 < q44 := by first | exact Nat.lt_of_lt_of_eq (Nat.lt_of_lt_of_le (Nat.lt_of_lt_of_le mm_q6 z25) (Nat.le_of_eq z38.symm)) e46.symm | omega
  try clear S41
  have w51 : q_w X18 σ19 H45 := w42.kept (fun a ha => o48 a (w42.lt ha))
  have b52 := b40.kept (o48 h t43)
  try clear o48; try clear b40
  have t53 := t_lt b52
  try clear t43
  have k54 : q_kd X18 q44 = 0 := w42.fresh (Nat.le_of_eq e46.symm)
  try clear w42
  have g55 := S50.1
  refine lv_dup hxx hb dX4_init_19 rfl ?_
  refine lv_iconst (v := 3) hxx hb dX4_init_20 (by decide) ?_
  have a66 : ∀ a, q_nw q44 H45.size a → q_nw h s.heap.size a := nw_in gg_q44 (Nat.le_trans gg_q44 (Nat.le_of_lt mm_q44))
  refine b_cv (b_runI (As := [.int 3]) (rest := [.ref q44, .ref h]) E (hml.trans hl.1.symm) D29 w51 k54 b49 rfl (n_X5 l D X18 σ19 q44 H45.size 3 3 (by decide) (by decide) (by decide)) bi_X4_20 rfl ⟨Nat.le_of_ble_eq_true rfl, Nat.le_of_ble_eq_true rfl⟩ ⟨Nat.le_of_ble_eq_true rfl, Nat.le_of_ble_eq_true rfl⟩ rfl (Nat.le_of_ble_eq_true rfl) dX4_init_21) S50 rfl a66 (fun X56 σ57 H58 locs1 x59 k60 p61 w62 z63 o64 S65 => ?_)
  try clear k54; try clear w51; try clear S50; try clear b49
  have D67 : X56.1 = D := x59.1.trans D29
  try clear D29
  have k68 : q_kd X56 h = 0 := x59.k0 k30 (by first | exact (nw_no hq44 (Nat.lt_trans hq44 mm_q44)) | (rintro (e | e) <;> omega))
  try clear k30
  have b69 := b52.kept (o64 h t53 (by first | exact (Nat.ne_of_lt hq44) | omega))
  try clear o64; try clear b52
  have t70 := t_lt b69
  try clear t53
  have y71 := y33.tr p61.1.1 (fun c hc => by rw [(x34.2.2.2.1 c hc).1]; exact hc)
  try clear y33
  have x72 := x34.tr x59 a66
  try clear x34
  have k73 := x59.kd k35 (by decide)
  try clear k35
  have k74 := x59.kd k22 (by decide)
  try clear x59
  have y75 := p61.1.1 q6 (by rw [k22]; decide) y36
  try clear y36; try clear k22
  have y76 := p61.1.2
  have y77 := p61.2
  try clear p61
  refine b_put E S65 hAh hnm (f := 9) b69 (show vwCl[3]? = some (RX4, TX4, 11) from rfl) q_inX4 tyX4_ok nmX4 (by decide) bw_369 rfl (fun _ => rfl) (tyX4_ok 9 (by decide)) rfl rfl dX4_init_24 (fun H78 locs1 z79 o80 b81 S82 => ?_)
  try clear b69; try clear S65
  have w83 : q_w X56 σ57 H78 := w62.kept (fun a ha => o80 a (fun e => ha (by rw [e]; exact k68)))
  try clear o80; try clear w62
  have t84 := t_lt b81
  try clear t70
  refine lv_aload_n hxx hb dX4_init_27 rfl (lv_at hl 0 rfl) ?_
  refine lv_iconst (v := 0) hxx hb dX4_init_28 (by decide) ?_
  refine b_put E S82 hAh hnm (f := 10) b81 (show vwCl[3]? = some (RX4, TX4, 11) from rfl) q_inX4 tyX4_ok nmX4 (by decide) bw_370 rfl (fun _ => rfl) (tyX4_ok 10 (by decide)) rfl rfl dX4_init_29 (fun H85 locs1 z86 o87 b88 S89 => ?_)
  try clear S82; try clear b81
  have w90 : q_w X56 σ57 H85 := w83.kept (fun a ha => o87 a (fun e => ha (by rw [e]; exact k68)))
  try clear o87; try clear w83
  have t91 := t_lt b88
  try clear t84
  obtain ⟨X92, dX92⟩ : ∃ Y, Y = q_xg X56 h 4 0 (fun f => ([0, 0, 0, 0, 0, 0, 0, 0, q6, q44, 0] : List Nat).getD f 0) := ⟨_, rfl⟩
  obtain ⟨σ93, dσ93⟩ : ∃ τ, τ = q_sg σ57 h (fun f => ([0, 0, 0, 0, 0, 0, 0, (-1), 0, 0, 0] : List Int32).getD f 0) (fun f => ([0, 0, 0, 0, 0, 0, 0, 0, 0, 0, 0] : List Int64).getD f 0) rt := ⟨_, rfl⟩
  have x94 : q_ext (fun a => a = h) X56 X92 σ57 σ93 := by rw [dX92, dσ93]; exact q_ext.add k68
  have hrk : ∀ f, f < 40 → q_rk 4 f ≠ 0 → q_kd X56 (([0, 0, 0, 0, 0, 0, 0, 0, q6, q44, 0] : List Nat).getD f 0) = q_rk 4 f := fun f h40 hf => match f, h40, hf with | 0, _, hf => absurd rfl hf | 1, _, hf => absurd rfl hf | 2, _, hf => absurd rfl hf | 3, _, hf => absurd rfl hf | 4, _, hf => absurd rfl hf | 5, _, hf => absurd rfl hf | 6, _, hf => absurd rfl hf | 7, _, hf => absurd rfl hf | 8, _, _ => k74 | 9, _, _ => k60 | 10, _, hf => absurd rfl hf | 11, _, hf => absurd rfl hf | 12, _, hf => absurd rfl hf | 13, _, hf => absurd rfl hf | 14, _, hf => absurd rfl hf | 15, _, hf => absurd rfl hf | 16, _, hf => absurd rfl hf | 17, _, hf => absurd rfl hf | 18, _, hf => absurd rfl hf | 19, _, hf => absurd rfl hf | 20, _, hf => absurd rfl hf | 21, _, hf => absurd rfl hf | 22, _, hf => absurd rfl hf | 23, _, hf => absurd rfl hf | 24, _, hf => absurd rfl hf | 25, _, hf => absurd rfl hf | 26, _, hf => absurd rfl hf | 27, _, hf => absurd rfl hf | 28, _, hf => absurd rfl hf | 29, _, hf => absurd rfl hf | 30, _, hf => absurd rfl hf | 31, _, hf => absurd rfl hf | 32, _, hf => absurd rfl hf | 33, _, hf => absurd rfl hf | 34, _, hf => absurd rfl hf | 35, _, hf => absurd rfl hf | 36, _, hf => absurd rfl hf | 37, _, hf => absurd rfl hf | 38, _, hf => absurd rfl hf | 39, _, hf => absurd rfl hf | (n + 40), h40, _ => absurd h40 (Nat.not_lt_of_ge (Nat.le_add_left 40 n))
  have hB : ∀ f, f < 40 → (q_bn 4 f).1 ≤ ((([0, 0, 0, 0, 0, 0, 0, (-1), 0, 0, 0] : List Int32).getD f 0).toInt) ∧ (([0, 0, 0, 0, 0, 0, 0, (-1), 0, 0, 0] : List Int32).getD f 0).toInt ≤ (q_bn 4 f).2 := by decide +kernel
  have y96 : ∀ f, q_rk 4 f ≠ 0 → h < ([0, 0, 0, 0, 0, 0, 0, 0, q6, q44, 0] : List Nat).getD f 0 := by
    intro f hf
    rcases y_fs4 hf with rfl | rfl
    · exact (hq6)
    · exact (hq44)
  have y97 : ∀ f, q_rk 4 f ≠ 0 → y_root X56 (([0, 0, 0, 0, 0, 0, 0, 0, q6, q44, 0] : List Nat).getD f 0) := by
    intro f hf
    rcases y_fs4 hf with rfl | rfl
    · exact y75
    · exact y76
  try clear y76; try clear y75
  have y98 : ∀ f, q_rk 4 f = 5 → q_ln X56 (q_rf X56 (([0, 0, 0, 0, 0, 0, 0, 0, q6, q44, 0] : List Nat).getD f 0) 0) = y_rl 4 f := by
    intro f hf
    rcases y_fs4 (show q_rk 4 f ≠ 0 by rw [hf]; decide) with rfl | rfl
    · exact absurd hf (by decide)
    · exact y77
  have y99 : ∀ f, q_rk 4 f ≠ 0 → ([0, 0, 0, 0, 0, 0, 0, 0, q6, q44, 0] : List Nat).getD f 0 ≠ h := by
    intro f hf
    rcases y_fs4 hf with rfl | rfl
    · exact ((Nat.ne_of_gt hq6))
    · exact ((Nat.ne_of_gt hq44))
  have y100 : ∀ f, q_rk 4 f ≠ 0 → q_kd X (([0, 0, 0, 0, 0, 0, 0, 0, q6, q44, 0] : List Nat).getD f 0) = 0 := by
    intro f hf
    rcases y_fs4 hf with rfl | rfl
    · exact hw0.fresh (gg_q6)
    · exact hw0.fresh (gg_q44)
  have w95 : q_w X92 σ93 H85 := by
    rw [dX92, dσ93]
    exact w90.add k68 (q_hrk hrk) (fun q => absurd rfl q) (by decide) (fun q => absurd q (by decide)) (q_hB hB (by decide)) (fun _ => k73) (q_cfO D67 ⟨rfl, by decide⟩ (show vwCl[3]? = some (RX4, TX4, 11) from rfl) b88 (fun f hf => match f, hf with | 0, _ => rfl | 1, _ => rfl | 2, _ => rfl | 3, _ => rfl | 4, _ => rfl | 5, _ => rfl | 6, _ => rfl | 7, _ => rfl | 8, _ => rfl | 9, _ => rfl | 10, _ => rfl | (n + 11), hf => absurd hf (Nat.not_lt_of_ge (Nat.le_add_left 11 n)))) y96 (y_in4 (rf := (fun f => ([0, 0, 0, 0, 0, 0, 0, 0, q6, q44, 0] : List Nat).getD f 0)) (show q6 < q44 from cc_q44)) y97 y98 (fun q => absurd q (by decide))
  try clear y98; try clear y97; try clear y96; try clear b88; try clear D67
  have y101 : y_root X92 h := by
    rw [dX92]
    exact (y_root.out w90.1 k68).add y_xg y99
  try clear y99; try clear k68
  have y102 : y_rt X X92 := by
    rw [dX92]
    exact y71.add y_xg y100
  try clear y100; try clear y71
  have k103 : q_kd X92 h = 4 := by rw [dX92]; exact q_xg_h
  have x104 := x72.tr x94 (fun a e => Or.inl e)
  try clear x72
  have y105 := y_rlx x94 w90.1 k60 y77
  try clear y105; try clear w90; try clear y77
  have k106 := x94.kd k73 (by decide)
  try clear k106; try clear k73
  have k107 := x94.kd k74 (by decide)
  try clear k107; try clear k74
  have k108 := x94.kd k60 (by decide)
  try clear k108; try clear x94; try clear k60
  exact b_ret E hr hlk S89 x104 k103 ⟨⟨y102, y101⟩, trivial⟩ w95 dX4_init_32
end
/-! FROM 54.born.lean.txt -/
section
set_option maxRecDepth 100000 in
set_option maxHeartbeats 4000000 in
theorem n_X11 (l : Launch) (D : DW) (X : XW) (σ : ST) (h sz : Nat) : Met l yX11_init (q_ws yX11_init cX11_init 2 none) { frames := 5, cells := 318, slots := 8598, locals := 105 } (q_PN D X σ h sz 10 17 (fun k => defaultValue (tyX11 k)) [.ref h]) (q_QN X σ h sz 11 (fun X' σ' => (y_rt X X' ∧ y_root X' h) ∧ (σ'.1 h 5 = 0 ∧ σ'.1 h 11 = 0) ∧ ∀ i, i < 4 → σ'.1 (q_rf X' (q_rf X' h 3) i) 0 = 0 ∧ σ'.1 (q_rf X' (q_rf X' h 3) i) 1 = -1)) 318 8598 (q_nw h sz) := by
  refine b_met  (by first | exact rfl | decide +kernel) rfl rfl (Nat.le_of_ble_eq_true rfl) (fun p e s m below meth c E hml hr hlk hnm hsz hD hw0 h00 hob ls hl => ?_)
  subst hsz
  have hxx := E.1
  have hb := E.2.1
  have hl : lv_has ls 2 [(0, .ref h)] := hl
  have hS : va_S (q_nw h s.heap.size) s.heap s.heap [] := va_S.rf
  have hx0 : q_ext (q_nw h s.heap.size) X X σ σ := q_ext.rf
  have hAh : q_nw h s.heap.size h := Or.inl rfl
  have yr0 : y_rt X X := y_rt.rf
  have hlt := t_lt hob
  refine lv_aload_n hxx hb dX11_init_0 rfl (lv_at hl 0 rfl) ?_
  refine W.objInit hxx hb E.2.2.1 (E.2.2.2.1 _ bw_25) (E.2.2.2.1 _ bw_26) (E.2.2.2.1 _ bw_27) rfl (by rw [hml]; exact hl.1) rfl dX11_init_1 (Nat.le_of_ble_eq_true rfl) (Nat.le_of_ble_eq_true rfl) ?_
  refine W.eq (g2 := F0 m 4 ls []) rfl ?_
  refine lv_aload_n hxx hb dX11_init_4 rfl (lv_at hl 0 rfl) ?_
  refine lv_iconst (v := 0) hxx hb dX11_init_5 (by decide) ?_
  refine b_put E hS hAh hnm (f := 0) hob (show vwCl[10]? = some (RX11, TX11, 17) from rfl) q_inX11 tyX11_ok nmX11 (by decide) bw_442 rfl (fun _ => rfl) (tyX11_ok 0 (by decide)) rfl rfl dX11_init_6 (fun H1 locs1 z2 o3 b4 S5 => ?_)
  have w6 : q_w X σ H1 := hw0.kept (fun a ha => o3 a (fun e => ha (by rw [e]; exact h00)))
  try clear o3
  have t7 := t_lt b4
  refine lv_aload_n hxx hb dX11_init_9 rfl (lv_at hl 0 rfl) ?_
  refine lv_lconst (v := 0) hxx hb dX11_init_10 (by decide) ?_
  refine b_put E S5 hAh hnm (f := 1) b4 (show vwCl[10]? = some (RX11, TX11, 17) from rfl) q_inX11 tyX11_ok nmX11 (by decide) bw_443 rfl (fun _ => rfl) (tyX11_ok 1 (by decide)) rfl rfl dX11_init_11 (fun H8 locs1 z9 o10 b11 S12 => ?_)
  try clear S5; try clear b4
  have w13 : q_w X σ H8 := w6.kept (fun a ha => o10 a (fun e => ha (by rw [e]; exact h00)))
  try clear o10; try clear w6
  have t14 := t_lt b11
  try clear t7
  refine lv_aload_n hxx hb dX11_init_14 rfl (lv_at hl 0 rfl) ?_
  refine lv_lconst (v := 1) hxx hb dX11_init_15 (by decide) ?_
  refine b_put E S12 hAh hnm (f := 2) b11 (show vwCl[10]? = some (RX11, TX11, 17) from rfl) q_inX11 tyX11_ok nmX11 (by decide) bw_444 rfl (fun _ => rfl) (tyX11_ok 2 (by decide)) rfl rfl dX11_init_16 (fun H15 locs1 z16 o17 b18 S19 => ?_)
  try clear S12; try clear b11
  have w20 : q_w X σ H15 := w13.kept (fun a ha => o17 a (fun e => ha (by rw [e]; exact h00)))
  try clear o17; try clear w13
  have t21 := t_lt b18
  try clear t14
  refine lv_aload_n hxx hb dX11_init_19 rfl (lv_at hl 0 rfl) ?_
  refine lv_iconst (v := 4) hxx hb dX11_init_20 (by decide) ?_
  refine b_newq E S19 bw_28 E.2.2.2.2.2.2.1 (t := 3) rfl (N' := 4) (by decide) (by decide) (by decide) (Nat.le_of_ble_eq_true rfl) (Nat.le_of_ble_eq_true rfl) dX11_init_21 (fun q22 H23 e24 z25 o26 r27 S28 => ?_)
  have hq22 : h < q22 := by first | exact Nat.lt_of_lt_of_eq t21 e24.symm | omega
  have gg_q22 : s.heap.size ≤ q22 := Nat.le_trans S19.1 (Nat.le_of_eq e24.symm)
  have mm_q22 : q22 < H23.size := by rw [z25, e24]; exact Nat.lt_succ_self _
  try clear S19
  have w29 : q_w X σ H23 := w20.kept (fun a ha => o26 a (w20.lt ha))
  have b30 := b18.kept (o26 h t21)
  try clear o26; try clear b18
  have t31 := t_lt b30
  try clear t21
  have k32 : q_kd X q22 = 0 := w20.fresh (Nat.le_of_eq e24.symm)
  try clear w20
  have g33 := S28.1
  refine b_put E S28 hAh hnm (f := 3) b30 (show vwCl[10]? = some (RX11, TX11, 17) from rfl) q_inX11 tyX11_ok nmX11 (by decide) bw_445 rfl (fun _ => rfl) (tyX11_ok 3 (by decide)) rfl rfl dX11_init_24 (fun H34 locs1 z35 o36 b37 S38 => ?_)
  try clear b30; try clear S28
  have w39 : q_w X σ H34 := w29.kept (fun a ha => o36 a (fun e => ha (by rw [e]; exact h00)))
  try clear w29
  have t40 := t_lt b37
  try clear t31
  have r41 := (o36 q22 (by first | exact (Nat.ne_of_gt hq22) | omega)).trans r27
  try clear o36; try clear r27
  refine lv_aload_n hxx hb dX11_init_27 rfl (lv_at hl 0 rfl) ?_
  refine lv_sipush (v := 900) hxx hb dX11_init_28 (by decide) ?_
  refine b_newa E S38 bw_55 (t := 0) rfl (fun _ _ => rfl) (N' := 900) (by decide) (by decide) (by decide) (Nat.le_of_ble_eq_true rfl) (Nat.le_of_ble_eq_true rfl) dX11_init_31 (fun q42 H43 e44 z45 o46 r47 S48 => ?_)
  have hq42 : h < q42 := by first | exact Nat.lt_of_lt_of_eq t40 e44.symm | omega
  have gg_q42 : s.heap.size ≤ q42 := Nat.le_trans S38.1 (Nat.le_of_eq e44.symm)
  have mm_q42 : q42 < H43.size := by rw [z45, e44]; exact Nat.lt_succ_self _
  have cc_q42 : q22 < q42 := by first | exact Nat.lt_of_lt_of_eq (Nat.lt_of_lt_of_le mm_q22 (Nat.le_of_eq z35.symm)) e44.symm | omega
  try clear S38
  have w49 : q_w X σ H43 := w39.kept (fun a ha => o46 a (w39.lt ha))
  have b50 := b37.kept (o46 h t40)
  try clear b37
  have t51 := t_lt b50
  try clear t40
  have r52 := (o46 q22 (raw_lt r41)).trans r41
  try clear o46; try clear r41
  have k53 : q_kd X q42 = 0 := w39.fresh (Nat.le_of_eq e44.symm)
  try clear w39
  have g54 := S48.1
  refine b_put E S48 hAh hnm (f := 4) b50 (show vwCl[10]? = some (RX11, TX11, 17) from rfl) q_inX11 tyX11_ok nmX11 (by decide) bw_446 rfl (fun _ => rfl) (tyX11_ok 4 (by decide)) rfl rfl dX11_init_33 (fun H55 locs1 z56 o57 b58 S59 => ?_)
  try clear b50; try clear S48
  have w60 : q_w X σ H55 := w49.kept (fun a ha => o57 a (fun e => ha (by rw [e]; exact h00)))
  try clear w49
  have t61 := t_lt b58
  try clear t51
  have r62 := (o57 q22 (by first | exact (Nat.ne_of_gt hq22) | omega)).trans r52
  try clear r52
  have r63 := (o57 q42 (by first | exact (Nat.ne_of_gt hq42) | omega)).trans r47
  try clear o57; try clear r47
  refine lv_aload_n hxx hb dX11_init_36 rfl (lv_at hl 0 rfl) ?_
  refine lv_iconst (v := 0) hxx hb dX11_init_37 (by decide) ?_
  refine b_put E S59 hAh hnm (f := 5) b58 (show vwCl[10]? = some (RX11, TX11, 17) from rfl) q_inX11 tyX11_ok nmX11 (by decide) bw_447 rfl (fun _ => rfl) (tyX11_ok 5 (by decide)) rfl rfl dX11_init_38 (fun H64 locs1 z65 o66 b67 S68 => ?_)
  try clear S59; try clear b58
  have w69 : q_w X σ H64 := w60.kept (fun a ha => o66 a (fun e => ha (by rw [e]; exact h00)))
  try clear w60
  have t70 := t_lt b67
  try clear t61
  have r71 := (o66 q22 (by first | exact (Nat.ne_of_gt hq22) | omega)).trans r62
  try clear r62
  have r72 := (o66 q42 (by first | exact (Nat.ne_of_gt hq42) | omega)).trans r63
  try clear o66; try clear r63
  refine lv_aload_n hxx hb dX11_init_41 rfl (lv_at hl 0 rfl) ?_
  refine lv_iconst (v := (-1)) hxx hb dX11_init_42 (by decide) ?_
  refine b_put E S68 hAh hnm (f := 6) b67 (show vwCl[10]? = some (RX11, TX11, 17) from rfl) q_inX11 tyX11_ok nmX11 (by decide) bw_448 rfl (fun _ => rfl) (tyX11_ok 6 (by decide)) rfl rfl dX11_init_43 (fun H73 locs1 z74 o75 b76 S77 => ?_)
  try clear S68; try clear b67
  have w78 : q_w X σ H73 := w69.kept (fun a ha => o75 a (fun e => ha (by rw [e]; exact h00)))
  try clear w69
  have t79 := t_lt b76
  try clear t70
  have r80 := (o75 q22 (by first | exact (Nat.ne_of_gt hq22) | omega)).trans r71
  try clear r71
  have r81 := (o75 q42 (by first | exact (Nat.ne_of_gt hq42) | omega)).trans r72
  try clear o75; try clear r72
  refine lv_aload_n hxx hb dX11_init_46 rfl (lv_at hl 0 rfl) ?_
  refine lv_iconst (v := (-1)) hxx hb dX11_init_47 (by decide) ?_
  refine b_put E S77 hAh hnm (f := 7) b76 (show vwCl[10]? = some (RX11, TX11, 17) from rfl) q_inX11 tyX11_ok nmX11 (by decide) bw_449 rfl (fun _ => rfl) (tyX11_ok 7 (by decide)) rfl rfl dX11_init_48 (fun H82 locs1 z83 o84 b85 S86 => ?_)
  try clear S77; try clear b76
  have w87 : q_w X σ H82 := w78.kept (fun a ha => o84 a (fun e => ha (by rw [e]; exact h00)))
  try clear w78
  have t88 := t_lt b85
  try clear t79
  have r89 := (o84 q22 (by first | exact (Nat.ne_of_gt hq22) | omega)).trans r80
  try clear r80
  have r90 := (o84 q42 (by first | exact (Nat.ne_of_gt hq42) | omega)).trans r81
  try clear o84; try clear r81
  refine lv_aload_n hxx hb dX11_init_51 rfl (lv_at hl 0 rfl) ?_
  refine b_new E S86 bw_30 bw_31 bw_2 (show vwCl[0]? = some (RX0, TX0, 15) from rfl) q_inX0 tyX0 tyX0_ok (Nat.le_of_ble_eq_true rfl) (Nat.le_of_ble_eq_true rfl) dX11_init_52 (fun q91 H92 e93 z94 o95 b96 S97 => ?_)
  have hq91 : h < q91 := by first | exact Nat.lt_of_lt_of_eq t88 e93.symm | omega
  have gg_q91 : s.heap.size ≤ q91 := Nat.le_trans S86.1 (Nat.le_of_eq e93.symm)
  have mm_q91 : q91 < H92.size := by rw [z94, e93]; exact Nat.lt_succ_self _
  have cc_q91 : q42 < q91 := by first | exact Nat.lt_of_lt_of_eq (Nat.lt_of_lt_of_le (Nat.lt_of_lt_of_le (Nat.lt_of_lt_of_le (Nat.lt_of_lt_of_le mm_q42 (Nat.le_of_eq z56.symm)) (Nat.le_of_eq z65.symm)) (Nat.le_of_eq z74.symm)) (Nat.le_of_eq z83.symm)) e93.symm | omega
  try clear S86
  have w98 : q_w X σ H92 := w87.kept (fun a ha => o95 a (w87.lt ha))
  have b99 := b85.kept (o95 h t88)
  try clear b85
  have t100 := t_lt b99
  try clear t88
  have r101 := (o95 q22 (raw_lt r89)).trans r89
  try clear r89
  have r102 := (o95 q42 (raw_lt r90)).trans r90
  try clear o95; try clear r90
  have k103 : q_kd X q91 = 0 := w87.fresh (Nat.le_of_eq e93.symm)
  try clear w87
  have g104 := S97.1
  refine lv_dup hxx hb dX11_init_55 rfl ?_
  have a115 : ∀ a, q_nw q91 H92.size a → q_nw h s.heap.size a := nw_in gg_q91 (Nat.le_trans gg_q91 (Nat.le_of_lt mm_q91))
  refine b_cv (b_runN (As := []) (rest := [.ref q91, .ref h]) E (hml.trans hl.1.symm) hD w98 k103 b96 rfl (n_X0 l D X σ q91 H92.size) bi_X11_41 rfl ⟨Nat.le_of_ble_eq_true rfl, Nat.le_of_ble_eq_true rfl⟩ ⟨Nat.le_of_ble_eq_true rfl, Nat.le_of_ble_eq_true rfl⟩ rfl (Nat.le_of_ble_eq_true rfl) dX11_init_56) S97 rfl a115 (fun X105 σ106 H107 locs1 x108 k109 p110 w111 z112 o113 S114 => ?_)
  try clear k103; try clear w98; try clear S97; try clear b96
  have D116 : X105.1 = D := x108.1.trans hD
  have k117 : q_kd X105 h = 0 := x108.k0 h00 (by first | exact (nw_no hq91 (Nat.lt_trans hq91 mm_q91)) | (rintro (e | e) <;> omega))
  have b118 := b99.kept (o113 h t100 (by first | exact (Nat.ne_of_lt hq91) | omega))
  try clear b99
  have t119 := t_lt b118
  try clear t100
  have y120 := yr0.tr p110.1.1 (fun c hc => by rw [(hx0.2.2.2.1 c hc).1]; exact hc)
  have x121 := hx0.tr x108 a115
  have r122 := (o113 q22 (raw_lt r101) (by first | exact (Nat.ne_of_lt (Nat.lt_trans cc_q42 cc_q91)) | omega)).trans r101
  have k123 : q_kd X105 q22 = 0 := x108.k0 k32 (by first | exact (nw_no (Nat.lt_trans cc_q42 cc_q91) (Nat.lt_trans (Nat.lt_trans cc_q42 cc_q91) mm_q91)) | (have := raw_lt r101; rintro (e | e) <;> omega))
  try clear r101; try clear k32
  have r124 := (o113 q42 (raw_lt r102) (by first | exact (Nat.ne_of_lt cc_q91) | omega)).trans r102
  try clear o113
  have k125 : q_kd X105 q42 = 0 := x108.k0 k53 (by first | exact (nw_no cc_q91 (Nat.lt_trans cc_q91 mm_q91)) | (have := raw_lt r102; rintro (e | e) <;> omega))
  try clear x108; try clear r102; try clear k53
  have y126 := p110.1.2
  try clear p110
  refine b_put E S114 hAh hnm (f := 8) b118 (show vwCl[10]? = some (RX11, TX11, 17) from rfl) q_inX11 tyX11_ok nmX11 (by decide) bw_450 rfl (fun _ => rfl) (tyX11_ok 8 (by decide)) rfl rfl dX11_init_59 (fun H127 locs1 z128 o129 b130 S131 => ?_)
  try clear b118; try clear S114
  have w132 : q_w X105 σ106 H127 := w111.kept (fun a ha => o129 a (fun e => ha (by rw [e]; exact k117)))
  try clear w111
  have t133 := t_lt b130
  try clear t119
  have r134 := (o129 q22 (by first | exact (Nat.ne_of_gt hq22) | omega)).trans r122
  try clear r122
  have r135 := (o129 q42 (by first | exact (Nat.ne_of_gt hq42) | omega)).trans r124
  try clear o129; try clear r124
  refine lv_aload_n hxx hb dX11_init_62 rfl (lv_at hl 0 rfl) ?_
  refine b_new E S131 bw_30 bw_31 bw_2 (show vwCl[0]? = some (RX0, TX0, 15) from rfl) q_inX0 tyX0 tyX0_ok (Nat.le_of_ble_eq_true rfl) (Nat.le_of_ble_eq_true rfl) dX11_init_63 (fun q136 H137 e138 z139 o140 b141 S142 => ?_)
  have hq136 : h < q136 := by first | exact Nat.lt_of_lt_of_eq t133 e138.symm | omega
  have gg_q136 : s.heap.size ≤ q136 := Nat.le_trans S131.1 (Nat.le_of_eq e138.symm)
  have mm_q136 : q136 < H137.size := by rw [z139, e138]; exact Nat.lt_succ_self _
  have cc_q136 : q91 < q136 := by first | exact Nat.lt_of_lt_of_eq (Nat.lt_of_lt_of_le (Nat.lt_of_lt_of_le mm_q91 z112) (Nat.le_of_eq z128.symm)) e138.symm | omega
  try clear S131
  have w143 : q_w X105 σ106 H137 := w132.kept (fun a ha => o140 a (w132.lt ha))
  have b144 := b130.kept (o140 h t133)
  try clear b130
  have t145 := t_lt b144
  try clear t133
  have r146 := (o140 q22 (raw_lt r134)).trans r134
  try clear r134
  have r147 := (o140 q42 (raw_lt r135)).trans r135
  try clear o140; try clear r135
  have k148 : q_kd X105 q136 = 0 := w132.fresh (Nat.le_of_eq e138.symm)
  try clear w132
  have g149 := S142.1
  refine lv_dup hxx hb dX11_init_66 rfl ?_
  have a160 : ∀ a, q_nw q136 H137.size a → q_nw h s.heap.size a := nw_in gg_q136 (Nat.le_trans gg_q136 (Nat.le_of_lt mm_q136))
  refine b_cv (b_runN (As := []) (rest := [.ref q136, .ref h]) E (hml.trans hl.1.symm) D116 w143 k148 b141 rfl (n_X0 l D X105 σ106 q136 H137.size) bi_X11_41 rfl ⟨Nat.le_of_ble_eq_true rfl, Nat.le_of_ble_eq_true rfl⟩ ⟨Nat.le_of_ble_eq_true rfl, Nat.le_of_ble_eq_true rfl⟩ rfl (Nat.le_of_ble_eq_true rfl) dX11_init_67) S142 rfl a160 (fun X150 σ151 H152 locs1 x153 k154 p155 w156 z157 o158 S159 => ?_)
  try clear k148; try clear w143; try clear S142; try clear b141
  have D161 : X150.1 = D := x153.1.trans D116
  try clear D116
  have k162 : q_kd X150 h = 0 := x153.k0 k117 (by first | exact (nw_no hq136 (Nat.lt_trans hq136 mm_q136)) | (rintro (e | e) <;> omega))
  try clear k117
  have b163 := b144.kept (o158 h t145 (by first | exact (Nat.ne_of_lt hq136) | omega))
  try clear b144
  have t164 := t_lt b163
  try clear t145
  have y165 := y120.tr p155.1.1 (fun c hc => by rw [(x121.2.2.2.1 c hc).1]; exact hc)
  try clear y120
  have x166 := x121.tr x153 a160
  try clear x121
  have r167 := (o158 q22 (raw_lt r146) (by first | exact (Nat.ne_of_lt (Nat.lt_trans (Nat.lt_trans cc_q42 cc_q91) cc_q136)) | omega)).trans r146
  have k168 : q_kd X150 q22 = 0 := x153.k0 k123 (by first | exact (nw_no (Nat.lt_trans (Nat.lt_trans cc_q42 cc_q91) cc_q136) (Nat.lt_trans (Nat.lt_trans (Nat.lt_trans cc_q42 cc_q91) cc_q136) mm_q136)) | (have := raw_lt r146; rintro (e | e) <;> omega))
  try clear r146; try clear k123
  have r169 := (o158 q42 (raw_lt r147) (by first | exact (Nat.ne_of_lt (Nat.lt_trans cc_q91 cc_q136)) | omega)).trans r147
  try clear o158
  have k170 : q_kd X150 q42 = 0 := x153.k0 k125 (by first | exact (nw_no (Nat.lt_trans cc_q91 cc_q136) (Nat.lt_trans (Nat.lt_trans cc_q91 cc_q136) mm_q136)) | (have := raw_lt r147; rintro (e | e) <;> omega))
  try clear r147; try clear k125
  have k171 := x153.kd k109 (by decide)
  try clear x153
  have y172 := p155.1.1 q91 (by rw [k109]; decide) y126
  try clear y126; try clear k109
  have y173 := p155.1.2
  try clear p155
  refine b_put E S159 hAh hnm (f := 9) b163 (show vwCl[10]? = some (RX11, TX11, 17) from rfl) q_inX11 tyX11_ok nmX11 (by decide) bw_451 rfl (fun _ => rfl) (tyX11_ok 9 (by decide)) rfl rfl dX11_init_70 (fun H174 locs1 z175 o176 b177 S178 => ?_)
  try clear b163; try clear S159
  have w179 : q_w X150 σ151 H174 := w156.kept (fun a ha => o176 a (fun e => ha (by rw [e]; exact k162)))
  try clear w156
  have t180 := t_lt b177
  try clear t164
  have r181 := (o176 q22 (by first | exact (Nat.ne_of_gt hq22) | omega)).trans r167
  try clear r167
  have r182 := (o176 q42 (by first | exact (Nat.ne_of_gt hq42) | omega)).trans r169
  try clear o176; try clear r169
  refine lv_aload_n hxx hb dX11_init_73 rfl (lv_at hl 0 rfl) ?_
  refine lv_iconst (v := 3) hxx hb dX11_init_74 (by decide) ?_
  refine b_newq E S178 bw_30 E.2.2.2.2.2.2.2 (t := 4) rfl (N' := 3) (by decide) (by decide) (by decide) (Nat.le_of_ble_eq_true rfl) (Nat.le_of_ble_eq_true rfl) dX11_init_75 (fun q183 H184 e185 z186 o187 r188 S189 => ?_)
  have hq183 : h < q183 := by first | exact Nat.lt_of_lt_of_eq t180 e185.symm | omega
  have gg_q183 : s.heap.size ≤ q183 := Nat.le_trans S178.1 (Nat.le_of_eq e185.symm)
  have mm_q183 : q183 < H184.size := by rw [z186, e185]; exact Nat.lt_succ_self _
  have cc_q183 : q136 < q183 := by first | exact Nat.lt_of_lt_of_eq (Nat.lt_of_lt_of_le (Nat.lt_of_lt_of_le mm_q136 z157) (Nat.le_of_eq z175.symm)) e185.symm | omega
  try clear S178
  have w190 : q_w X150 σ151 H184 := w179.kept (fun a ha => o187 a (w179.lt ha))
  have b191 := b177.kept (o187 h t180)
  try clear b177
  have t192 := t_lt b191
  try clear t180
  have r193 := (o187 q22 (raw_lt r181)).trans r181
  try clear r181
  have r194 := (o187 q42 (raw_lt r182)).trans r182
  try clear o187; try clear r182
  have k195 : q_kd X150 q183 = 0 := w179.fresh (Nat.le_of_eq e185.symm)
  try clear w179
  have g196 := S189.1
  refine b_put E S189 hAh hnm (f := 10) b191 (show vwCl[10]? = some (RX11, TX11, 17) from rfl) q_inX11 tyX11_ok nmX11 (by decide) bw_452 rfl (fun _ => rfl) (tyX11_ok 10 (by decide)) rfl rfl dX11_init_78 (fun H197 locs1 z198 o199 b200 S201 => ?_)
  try clear b191; try clear S189
  have w202 : q_w X150 σ151 H197 := w190.kept (fun a ha => o199 a (fun e => ha (by rw [e]; exact k162)))
  try clear w190
  have t203 := t_lt b200
  try clear t192
  have r204 := (o199 q22 (by first | exact (Nat.ne_of_gt hq22) | omega)).trans r193
  try clear r193
  have r205 := (o199 q42 (by first | exact (Nat.ne_of_gt hq42) | omega)).trans r194
  try clear r194
  have r206 := (o199 q183 (by first | exact (Nat.ne_of_gt hq183) | omega)).trans r188
  try clear o199; try clear r188
  refine lv_aload_n hxx hb dX11_init_81 rfl (lv_at hl 0 rfl) ?_
  refine lv_iconst (v := 0) hxx hb dX11_init_82 (by decide) ?_
  refine b_put E S201 hAh hnm (f := 11) b200 (show vwCl[10]? = some (RX11, TX11, 17) from rfl) q_inX11 tyX11_ok nmX11 (by decide) bw_453 rfl (fun _ => rfl) (tyX11_ok 11 (by decide)) rfl rfl dX11_init_83 (fun H207 locs1 z208 o209 b210 S211 => ?_)
  try clear S201; try clear b200
  have w212 : q_w X150 σ151 H207 := w202.kept (fun a ha => o209 a (fun e => ha (by rw [e]; exact k162)))
  try clear w202
  have t213 := t_lt b210
  try clear t203
  have r214 := (o209 q22 (by first | exact (Nat.ne_of_gt hq22) | omega)).trans r204
  try clear r204
  have r215 := (o209 q42 (by first | exact (Nat.ne_of_gt hq42) | omega)).trans r205
  try clear r205
  have r216 := (o209 q183 (by first | exact (Nat.ne_of_gt hq183) | omega)).trans r206
  try clear o209; try clear r206
  refine lv_aload_n hxx hb dX11_init_86 rfl (lv_at hl 0 rfl) ?_
  refine b_new E S211 bw_298 bw_299 bw_10 (show vwCl[8]? = some (RX9, TX9, 12) from rfl) q_inX9 tyX9 tyX9_ok (Nat.le_of_ble_eq_true rfl) (Nat.le_of_ble_eq_true rfl) dX11_init_87 (fun q217 H218 e219 z220 o221 b222 S223 => ?_)
  have hq217 : h < q217 := by first | exact Nat.lt_of_lt_of_eq t213 e219.symm | omega
  have gg_q217 : s.heap.size ≤ q217 := Nat.le_trans S211.1 (Nat.le_of_eq e219.symm)
  have mm_q217 : q217 < H218.size := by rw [z220, e219]; exact Nat.lt_succ_self _
  have cc_q217 : q183 < q217 := by first | exact Nat.lt_of_lt_of_eq (Nat.lt_of_lt_of_le (Nat.lt_of_lt_of_le mm_q183 (Nat.le_of_eq z198.symm)) (Nat.le_of_eq z208.symm)) e219.symm | omega
  try clear S211
  have w224 : q_w X150 σ151 H218 := w212.kept (fun a ha => o221 a (w212.lt ha))
  have b225 := b210.kept (o221 h t213)
  try clear b210
  have t226 := t_lt b225
  try clear t213
  have r227 := (o221 q22 (raw_lt r214)).trans r214
  try clear r214
  have r228 := (o221 q42 (raw_lt r215)).trans r215
  try clear r215
  have r229 := (o221 q183 (raw_lt r216)).trans r216
  try clear o221; try clear r216
  have k230 : q_kd X150 q217 = 0 := w212.fresh (Nat.le_of_eq e219.symm)
  try clear w212
  have g231 := S223.1
  refine lv_dup hxx hb dX11_init_90 rfl ?_
  have a242 : ∀ a, q_nw q217 H218.size a → q_nw h s.heap.size a := nw_in gg_q217 (Nat.le_trans gg_q217 (Nat.le_of_lt mm_q217))
  refine b_cv (b_runN (As := []) (rest := [.ref q217, .ref h]) E (hml.trans hl.1.symm) D161 w224 k230 b222 rfl (n_X9 l D X150 σ151 q217 H218.size) bi_X11_58 rfl ⟨Nat.le_of_ble_eq_true rfl, Nat.le_of_ble_eq_true rfl⟩ ⟨Nat.le_of_ble_eq_true rfl, Nat.le_of_ble_eq_true rfl⟩ rfl (Nat.le_of_ble_eq_true rfl) dX11_init_91) S223 rfl a242 (fun X232 σ233 H234 locs1 x235 k236 p237 w238 z239 o240 S241 => ?_)
  try clear k230; try clear w224; try clear S223; try clear b222
  have D243 : X232.1 = D := x235.1.trans D161
  try clear D161
  have k244 : q_kd X232 h = 0 := x235.k0 k162 (by first | exact (nw_no hq217 (Nat.lt_trans hq217 mm_q217)) | (rintro (e | e) <;> omega))
  try clear k162
  have b245 := b225.kept (o240 h t226 (by first | exact (Nat.ne_of_lt hq217) | omega))
  try clear b225
  have t246 := t_lt b245
  try clear t226
  have y247 := y165.tr p237.1.1 (fun c hc => by rw [(x166.2.2.2.1 c hc).1]; exact hc)
  try clear y165
  have x248 := x166.tr x235 a242
  try clear x166
  have r249 := (o240 q22 (raw_lt r227) (by first | exact (Nat.ne_of_lt (Nat.lt_trans (Nat.lt_trans (Nat.lt_trans (Nat.lt_trans cc_q42 cc_q91) cc_q136) cc_q183) cc_q217)) | omega)).trans r227
  have k250 : q_kd X232 q22 = 0 := x235.k0 k168 (by first | exact (nw_no (Nat.lt_trans (Nat.lt_trans (Nat.lt_trans (Nat.lt_trans cc_q42 cc_q91) cc_q136) cc_q183) cc_q217) (Nat.lt_trans (Nat.lt_trans (Nat.lt_trans (Nat.lt_trans (Nat.lt_trans cc_q42 cc_q91) cc_q136) cc_q183) cc_q217) mm_q217)) | (have := raw_lt r227; rintro (e | e) <;> omega))
  try clear r227; try clear k168
  have r251 := (o240 q42 (raw_lt r228) (by first | exact (Nat.ne_of_lt (Nat.lt_trans (Nat.lt_trans (Nat.lt_trans cc_q91 cc_q136) cc_q183) cc_q217)) | omega)).trans r228
  have k252 : q_kd X232 q42 = 0 := x235.k0 k170 (by first | exact (nw_no (Nat.lt_trans (Nat.lt_trans (Nat.lt_trans cc_q91 cc_q136) cc_q183) cc_q217) (Nat.lt_trans (Nat.lt_trans (Nat.lt_trans (Nat.lt_trans cc_q91 cc_q136) cc_q183) cc_q217) mm_q217)) | (have := raw_lt r228; rintro (e | e) <;> omega))
  try clear r228; try clear k170
  have r253 := (o240 q183 (raw_lt r229) (by first | exact (Nat.ne_of_lt cc_q217) | omega)).trans r229
  try clear o240
  have k254 : q_kd X232 q183 = 0 := x235.k0 k195 (by first | exact (nw_no cc_q217 (Nat.lt_trans cc_q217 mm_q217)) | (have := raw_lt r229; rintro (e | e) <;> omega))
  try clear r229; try clear k195
  have k255 := x235.kd k171 (by decide)
  have k256 := x235.kd k154 (by decide)
  try clear x235
  have y257 := p237.1.1 q91 (by rw [k171]; decide) y172
  try clear y172; try clear k171
  have y258 := p237.1.1 q136 (by rw [k154]; decide) y173
  try clear y173; try clear k154
  have y259 := p237.1.2
  try clear p237
  refine b_put E S241 hAh hnm (f := 12) b245 (show vwCl[10]? = some (RX11, TX11, 17) from rfl) q_inX11 tyX11_ok nmX11 (by decide) bw_454 rfl (fun _ => rfl) (tyX11_ok 12 (by decide)) rfl rfl dX11_init_94 (fun H260 locs1 z261 o262 b263 S264 => ?_)
  try clear b245; try clear S241
  have w265 : q_w X232 σ233 H260 := w238.kept (fun a ha => o262 a (fun e => ha (by rw [e]; exact k244)))
  try clear w238
  have t266 := t_lt b263
  try clear t246
  have r267 := (o262 q22 (by first | exact (Nat.ne_of_gt hq22) | omega)).trans r249
  try clear r249
  have r268 := (o262 q42 (by first | exact (Nat.ne_of_gt hq42) | omega)).trans r251
  try clear r251
  have r269 := (o262 q183 (by first | exact (Nat.ne_of_gt hq183) | omega)).trans r253
  try clear o262; try clear r253
  refine lv_aload_n hxx hb dX11_init_97 rfl (lv_at hl 0 rfl) ?_
  refine b_new E S264 bw_357 bw_358 bw_11 (show vwCl[3]? = some (RX4, TX4, 11) from rfl) q_inX4 tyX4 tyX4_ok (Nat.le_of_ble_eq_true rfl) (Nat.le_of_ble_eq_true rfl) dX11_init_98 (fun q270 H271 e272 z273 o274 b275 S276 => ?_)
  have hq270 : h < q270 := by first | exact Nat.lt_of_lt_of_eq t266 e272.symm | omega
  have gg_q270 : s.heap.size ≤ q270 := Nat.le_trans S264.1 (Nat.le_of_eq e272.symm)
  have mm_q270 : q270 < H271.size := by rw [z273, e272]; exact Nat.lt_succ_self _
  have cc_q270 : q217 < q270 := by first | exact Nat.lt_of_lt_of_eq (Nat.lt_of_lt_of_le (Nat.lt_of_lt_of_le mm_q217 z239) (Nat.le_of_eq z261.symm)) e272.symm | omega
  try clear S264
  have w277 : q_w X232 σ233 H271 := w265.kept (fun a ha => o274 a (w265.lt ha))
  have b278 := b263.kept (o274 h t266)
  try clear b263
  have t279 := t_lt b278
  try clear t266
  have r280 := (o274 q22 (raw_lt r267)).trans r267
  try clear r267
  have r281 := (o274 q42 (raw_lt r268)).trans r268
  try clear r268
  have r282 := (o274 q183 (raw_lt r269)).trans r269
  try clear o274; try clear r269
  have k283 : q_kd X232 q270 = 0 := w265.fresh (Nat.le_of_eq e272.symm)
  try clear w265
  have g284 := S276.1
  refine lv_dup hxx hb dX11_init_101 rfl ?_
  have a295 : ∀ a, q_nw q270 H271.size a → q_nw h s.heap.size a := nw_in gg_q270 (Nat.le_trans gg_q270 (Nat.le_of_lt mm_q270))
  refine b_cv (b_runN (As := []) (rest := [.ref q270, .ref h]) E (hml.trans hl.1.symm) D243 w277 k283 b275 rfl (n_X4 l D X232 σ233 q270 H271.size) bi_X11_65 rfl ⟨Nat.le_of_ble_eq_true rfl, Nat.le_of_ble_eq_true rfl⟩ ⟨Nat.le_of_ble_eq_true rfl, Nat.le_of_ble_eq_true rfl⟩ rfl (Nat.le_of_ble_eq_true rfl) dX11_init_102) S276 rfl a295 (fun X285 σ286 H287 locs1 x288 k289 p290 w291 z292 o293 S294 => ?_)
  try clear k283; try clear w277; try clear S276; try clear b275
  have D296 : X285.1 = D := x288.1.trans D243
  try clear D243
  have k297 : q_kd X285 h = 0 := x288.k0 k244 (by first | exact (nw_no hq270 (Nat.lt_trans hq270 mm_q270)) | (rintro (e | e) <;> omega))
  try clear k244
  have b298 := b278.kept (o293 h t279 (by first | exact (Nat.ne_of_lt hq270) | omega))
  try clear b278
  have t299 := t_lt b298
  try clear t279
  have y300 := y247.tr p290.1.1 (fun c hc => by rw [(x248.2.2.2.1 c hc).1]; exact hc)
  try clear y247
  have x301 := x248.tr x288 a295
  try clear x248
  have r302 := (o293 q22 (raw_lt r280) (by first | exact (Nat.ne_of_lt (Nat.lt_trans (Nat.lt_trans (Nat.lt_trans (Nat.lt_trans (Nat.lt_trans cc_q42 cc_q91) cc_q136) cc_q183) cc_q217) cc_q270)) | omega)).trans r280
  have k303 : q_kd X285 q22 = 0 := x288.k0 k250 (by first | exact (nw_no (Nat.lt_trans (Nat.lt_trans (Nat.lt_trans (Nat.lt_trans (Nat.lt_trans cc_q42 cc_q91) cc_q136) cc_q183) cc_q217) cc_q270) (Nat.lt_trans (Nat.lt_trans (Nat.lt_trans (Nat.lt_trans (Nat.lt_trans (Nat.lt_trans cc_q42 cc_q91) cc_q136) cc_q183) cc_q217) cc_q270) mm_q270)) | (have := raw_lt r280; rintro (e | e) <;> omega))
  try clear r280; try clear k250
  have r304 := (o293 q42 (raw_lt r281) (by first | exact (Nat.ne_of_lt (Nat.lt_trans (Nat.lt_trans (Nat.lt_trans (Nat.lt_trans cc_q91 cc_q136) cc_q183) cc_q217) cc_q270)) | omega)).trans r281
  have k305 : q_kd X285 q42 = 0 := x288.k0 k252 (by first | exact (nw_no (Nat.lt_trans (Nat.lt_trans (Nat.lt_trans (Nat.lt_trans cc_q91 cc_q136) cc_q183) cc_q217) cc_q270) (Nat.lt_trans (Nat.lt_trans (Nat.lt_trans (Nat.lt_trans (Nat.lt_trans cc_q91 cc_q136) cc_q183) cc_q217) cc_q270) mm_q270)) | (have := raw_lt r281; rintro (e | e) <;> omega))
  try clear r281; try clear k252
  have r306 := (o293 q183 (raw_lt r282) (by first | exact (Nat.ne_of_lt (Nat.lt_trans cc_q217 cc_q270)) | omega)).trans r282
  try clear o293
  have k307 : q_kd X285 q183 = 0 := x288.k0 k254 (by first | exact (nw_no (Nat.lt_trans cc_q217 cc_q270) (Nat.lt_trans (Nat.lt_trans cc_q217 cc_q270) mm_q270)) | (have := raw_lt r282; rintro (e | e) <;> omega))
  try clear r282; try clear k254
  have k308 := x288.kd k255 (by decide)
  have k309 := x288.kd k256 (by decide)
  have k310 := x288.kd k236 (by decide)
  try clear x288
  have y311 := p290.1.1 q91 (by rw [k255]; decide) y257
  try clear y257; try clear k255
  have y312 := p290.1.1 q136 (by rw [k256]; decide) y258
  try clear y258; try clear k256
  have y313 := p290.1.1 q217 (by rw [k236]; decide) y259
  try clear y259; try clear k236
  have y314 := p290.1.2
  try clear p290
  refine b_put E S294 hAh hnm (f := 13) b298 (show vwCl[10]? = some (RX11, TX11, 17) from rfl) q_inX11 tyX11_ok nmX11 (by decide) bw_455 rfl (fun _ => rfl) (tyX11_ok 13 (by decide)) rfl rfl dX11_init_105 (fun H315 locs1 z316 o317 b318 S319 => ?_)
  try clear b298; try clear S294
  have w320 : q_w X285 σ286 H315 := w291.kept (fun a ha => o317 a (fun e => ha (by rw [e]; exact k297)))
  try clear w291
  have t321 := t_lt b318
  try clear t299
  have r322 := (o317 q22 (by first | exact (Nat.ne_of_gt hq22) | omega)).trans r302
  try clear r302
  have r323 := (o317 q42 (by first | exact (Nat.ne_of_gt hq42) | omega)).trans r304
  try clear r304
  have r324 := (o317 q183 (by first | exact (Nat.ne_of_gt hq183) | omega)).trans r306
  try clear o317; try clear r306
  refine lv_aload_n hxx hb dX11_init_108 rfl (lv_at hl 0 rfl) ?_
  refine b_new E S319 bw_386 bw_387 bw_12 (show vwCl[6]? = some (RX7, TX7, 8) from rfl) q_inX7 tyX7 tyX7_ok (Nat.le_of_ble_eq_true rfl) (Nat.le_of_ble_eq_true rfl) dX11_init_109 (fun q325 H326 e327 z328 o329 b330 S331 => ?_)
  have hq325 : h < q325 := by first | exact Nat.lt_of_lt_of_eq t321 e327.symm | omega
  have gg_q325 : s.heap.size ≤ q325 := Nat.le_trans S319.1 (Nat.le_of_eq e327.symm)
  have mm_q325 : q325 < H326.size := by rw [z328, e327]; exact Nat.lt_succ_self _
  have cc_q325 : q270 < q325 := by first | exact Nat.lt_of_lt_of_eq (Nat.lt_of_lt_of_le (Nat.lt_of_lt_of_le mm_q270 z292) (Nat.le_of_eq z316.symm)) e327.symm | omega
  try clear S319
  have w332 : q_w X285 σ286 H326 := w320.kept (fun a ha => o329 a (w320.lt ha))
  have b333 := b318.kept (o329 h t321)
  try clear b318
  have t334 := t_lt b333
  try clear t321
  have r335 := (o329 q22 (raw_lt r322)).trans r322
  try clear r322
  have r336 := (o329 q42 (raw_lt r323)).trans r323
  try clear r323
  have r337 := (o329 q183 (raw_lt r324)).trans r324
  try clear o329; try clear r324
  have k338 : q_kd X285 q325 = 0 := w320.fresh (Nat.le_of_eq e327.symm)
  try clear w320
  have g339 := S331.1
  refine lv_dup hxx hb dX11_init_112 rfl ?_
  have a350 : ∀ a, q_nw q325 H326.size a → q_nw h s.heap.size a := nw_in gg_q325 (Nat.le_trans gg_q325 (Nat.le_of_lt mm_q325))
  refine b_cv (b_runN (As := []) (rest := [.ref q325, .ref h]) E (hml.trans hl.1.symm) D296 w332 k338 b330 rfl (n_X7 l D X285 σ286 q325 H326.size) bi_X11_72 rfl ⟨Nat.le_of_ble_eq_true rfl, Nat.le_of_ble_eq_true rfl⟩ ⟨Nat.le_of_ble_eq_true rfl, Nat.le_of_ble_eq_true rfl⟩ rfl (Nat.le_of_ble_eq_true rfl) dX11_init_113) S331 rfl a350 (fun X340 σ341 H342 locs1 x343 k344 p345 w346 z347 o348 S349 => ?_)
  try clear k338; try clear w332; try clear S331; try clear b330
  have D351 : X340.1 = D := x343.1.trans D296
  try clear D296
  have k352 : q_kd X340 h = 0 := x343.k0 k297 (by first | exact (nw_no hq325 (Nat.lt_trans hq325 mm_q325)) | (rintro (e | e) <;> omega))
  try clear k297
  have b353 := b333.kept (o348 h t334 (by first | exact (Nat.ne_of_lt hq325) | omega))
  try clear b333
  have t354 := t_lt b353
  try clear t334
  have y355 := y300.tr p345.1.1 (fun c hc => by rw [(x301.2.2.2.1 c hc).1]; exact hc)
  try clear y300
  have x356 := x301.tr x343 a350
  try clear x301
  have r357 := (o348 q22 (raw_lt r335) (by first | exact (Nat.ne_of_lt (Nat.lt_trans (Nat.lt_trans (Nat.lt_trans (Nat.lt_trans (Nat.lt_trans (Nat.lt_trans cc_q42 cc_q91) cc_q136) cc_q183) cc_q217) cc_q270) cc_q325)) | omega)).trans r335
  have k358 : q_kd X340 q22 = 0 := x343.k0 k303 (by first | exact (nw_no (Nat.lt_trans (Nat.lt_trans (Nat.lt_trans (Nat.lt_trans (Nat.lt_trans (Nat.lt_trans cc_q42 cc_q91) cc_q136) cc_q183) cc_q217) cc_q270) cc_q325) (Nat.lt_trans (Nat.lt_trans (Nat.lt_trans (Nat.lt_trans (Nat.lt_trans (Nat.lt_trans (Nat.lt_trans cc_q42 cc_q91) cc_q136) cc_q183) cc_q217) cc_q270) cc_q325) mm_q325)) | (have := raw_lt r335; rintro (e | e) <;> omega))
  try clear r335; try clear k303
  have r359 := (o348 q42 (raw_lt r336) (by first | exact (Nat.ne_of_lt (Nat.lt_trans (Nat.lt_trans (Nat.lt_trans (Nat.lt_trans (Nat.lt_trans cc_q91 cc_q136) cc_q183) cc_q217) cc_q270) cc_q325)) | omega)).trans r336
  have k360 : q_kd X340 q42 = 0 := x343.k0 k305 (by first | exact (nw_no (Nat.lt_trans (Nat.lt_trans (Nat.lt_trans (Nat.lt_trans (Nat.lt_trans cc_q91 cc_q136) cc_q183) cc_q217) cc_q270) cc_q325) (Nat.lt_trans (Nat.lt_trans (Nat.lt_trans (Nat.lt_trans (Nat.lt_trans (Nat.lt_trans cc_q91 cc_q136) cc_q183) cc_q217) cc_q270) cc_q325) mm_q325)) | (have := raw_lt r336; rintro (e | e) <;> omega))
  try clear r336; try clear k305
  have r361 := (o348 q183 (raw_lt r337) (by first | exact (Nat.ne_of_lt (Nat.lt_trans (Nat.lt_trans cc_q217 cc_q270) cc_q325)) | omega)).trans r337
  try clear o348
  have k362 : q_kd X340 q183 = 0 := x343.k0 k307 (by first | exact (nw_no (Nat.lt_trans (Nat.lt_trans cc_q217 cc_q270) cc_q325) (Nat.lt_trans (Nat.lt_trans (Nat.lt_trans cc_q217 cc_q270) cc_q325) mm_q325)) | (have := raw_lt r337; rintro (e | e) <;> omega))
  try clear r337; try clear k307
  have k363 := x343.kd k308 (by decide)
  have k364 := x343.kd k309 (by decide)
  have k365 := x343.kd k310 (by decide)
  have k366 := x343.kd k289 (by decide)
  try clear x343
  have y367 := p345.1.1 q91 (by rw [k308]; decide) y311
  try clear y311; try clear k308
  have y368 := p345.1.1 q136 (by rw [k309]; decide) y312
  try clear y312; try clear k309
  have y369 := p345.1.1 q217 (by rw [k310]; decide) y313
  try clear y313; try clear k310
  have y370 := p345.1.1 q270 (by rw [k289]; decide) y314
  try clear y314; try clear k289
  have y371 := p345.1.2
  try clear p345
  refine b_put E S349 hAh hnm (f := 14) b353 (show vwCl[10]? = some (RX11, TX11, 17) from rfl) q_inX11 tyX11_ok nmX11 (by decide) bw_456 rfl (fun _ => rfl) (tyX11_ok 14 (by decide)) rfl rfl dX11_init_116 (fun H372 locs1 z373 o374 b375 S376 => ?_)
  try clear b353; try clear S349
  have w377 : q_w X340 σ341 H372 := w346.kept (fun a ha => o374 a (fun e => ha (by rw [e]; exact k352)))
  try clear w346
  have t378 := t_lt b375
  try clear t354
  have r379 := (o374 q22 (by first | exact (Nat.ne_of_gt hq22) | omega)).trans r357
  try clear r357
  have r380 := (o374 q42 (by first | exact (Nat.ne_of_gt hq42) | omega)).trans r359
  try clear r359
  have r381 := (o374 q183 (by first | exact (Nat.ne_of_gt hq183) | omega)).trans r361
  try clear o374; try clear r361
  refine lv_aload_n hxx hb dX11_init_119 rfl (lv_at hl 0 rfl) ?_
  refine b_new E S376 bw_386 bw_387 bw_12 (show vwCl[6]? = some (RX7, TX7, 8) from rfl) q_inX7 tyX7 tyX7_ok (Nat.le_of_ble_eq_true rfl) (Nat.le_of_ble_eq_true rfl) dX11_init_120 (fun q382 H383 e384 z385 o386 b387 S388 => ?_)
  have hq382 : h < q382 := by first | exact Nat.lt_of_lt_of_eq t378 e384.symm | omega
  have gg_q382 : s.heap.size ≤ q382 := Nat.le_trans S376.1 (Nat.le_of_eq e384.symm)
  have mm_q382 : q382 < H383.size := by rw [z385, e384]; exact Nat.lt_succ_self _
  have cc_q382 : q325 < q382 := by first | exact Nat.lt_of_lt_of_eq (Nat.lt_of_lt_of_le (Nat.lt_of_lt_of_le mm_q325 z347) (Nat.le_of_eq z373.symm)) e384.symm | omega
  try clear S376
  have w389 : q_w X340 σ341 H383 := w377.kept (fun a ha => o386 a (w377.lt ha))
  have b390 := b375.kept (o386 h t378)
  try clear b375
  have t391 := t_lt b390
  try clear t378
  have r392 := (o386 q22 (raw_lt r379)).trans r379
  try clear r379
  have r393 := (o386 q42 (raw_lt r380)).trans r380
  try clear r380
  have r394 := (o386 q183 (raw_lt r381)).trans r381
  try clear o386; try clear r381
  have k395 : q_kd X340 q382 = 0 := w377.fresh (Nat.le_of_eq e384.symm)
  try clear w377
  have g396 := S388.1
  refine lv_dup hxx hb dX11_init_123 rfl ?_
  have a407 : ∀ a, q_nw q382 H383.size a → q_nw h s.heap.size a := nw_in gg_q382 (Nat.le_trans gg_q382 (Nat.le_of_lt mm_q382))
  refine b_cv (b_runN (As := []) (rest := [.ref q382, .ref h]) E (hml.trans hl.1.symm) D351 w389 k395 b387 rfl (n_X7 l D X340 σ341 q382 H383.size) bi_X11_72 rfl ⟨Nat.le_of_ble_eq_true rfl, Nat.le_of_ble_eq_true rfl⟩ ⟨Nat.le_of_ble_eq_true rfl, Nat.le_of_ble_eq_true rfl⟩ rfl (Nat.le_of_ble_eq_true rfl) dX11_init_124) S388 rfl a407 (fun X397 σ398 H399 locs1 x400 k401 p402 w403 z404 o405 S406 => ?_)
  try clear k395; try clear w389; try clear S388; try clear b387
  have D408 : X397.1 = D := x400.1.trans D351
  try clear D351
  have k409 : q_kd X397 h = 0 := x400.k0 k352 (by first | exact (nw_no hq382 (Nat.lt_trans hq382 mm_q382)) | (rintro (e | e) <;> omega))
  try clear k352
  have b410 := b390.kept (o405 h t391 (by first | exact (Nat.ne_of_lt hq382) | omega))
  try clear b390
  have t411 := t_lt b410
  try clear t391
  have y412 := y355.tr p402.1.1 (fun c hc => by rw [(x356.2.2.2.1 c hc).1]; exact hc)
  try clear y355
  have x413 := x356.tr x400 a407
  try clear x356
  have r414 := (o405 q22 (raw_lt r392) (by first | exact (Nat.ne_of_lt (Nat.lt_trans (Nat.lt_trans (Nat.lt_trans (Nat.lt_trans (Nat.lt_trans (Nat.lt_trans (Nat.lt_trans cc_q42 cc_q91) cc_q136) cc_q183) cc_q217) cc_q270) cc_q325) cc_q382)) | omega)).trans r392
  have k415 : q_kd X397 q22 = 0 := x400.k0 k358 (by first | exact (nw_no (Nat.lt_trans (Nat.lt_trans (Nat.lt_trans (Nat.lt_trans (Nat.lt_trans (Nat.lt_trans (Nat.lt_trans cc_q42 cc_q91) cc_q136) cc_q183) cc_q217) cc_q270) cc_q325) cc_q382) (Nat.lt_trans (Nat.lt_trans (Nat.lt_trans (Nat.lt_trans (Nat.lt_trans (Nat.lt_trans (Nat.lt_trans (Nat.lt_trans cc_q42 cc_q91) cc_q136) cc_q183) cc_q217) cc_q270) cc_q325) cc_q382) mm_q382)) | (have := raw_lt r392; rintro (e | e) <;> omega))
  try clear r392; try clear k358
  have r416 := (o405 q42 (raw_lt r393) (by first | exact (Nat.ne_of_lt (Nat.lt_trans (Nat.lt_trans (Nat.lt_trans (Nat.lt_trans (Nat.lt_trans (Nat.lt_trans cc_q91 cc_q136) cc_q183) cc_q217) cc_q270) cc_q325) cc_q382)) | omega)).trans r393
  have k417 : q_kd X397 q42 = 0 := x400.k0 k360 (by first | exact (nw_no (Nat.lt_trans (Nat.lt_trans (Nat.lt_trans (Nat.lt_trans (Nat.lt_trans (Nat.lt_trans cc_q91 cc_q136) cc_q183) cc_q217) cc_q270) cc_q325) cc_q382) (Nat.lt_trans (Nat.lt_trans (Nat.lt_trans (Nat.lt_trans (Nat.lt_trans (Nat.lt_trans (Nat.lt_trans cc_q91 cc_q136) cc_q183) cc_q217) cc_q270) cc_q325) cc_q382) mm_q382)) | (have := raw_lt r393; rintro (e | e) <;> omega))
  try clear r393; try clear k360
  have r418 := (o405 q183 (raw_lt r394) (by first | exact (Nat.ne_of_lt (Nat.lt_trans (Nat.lt_trans (Nat.lt_trans cc_q217 cc_q270) cc_q325) cc_q382)) | omega)).trans r394
  try clear o405
  have k419 : q_kd X397 q183 = 0 := x400.k0 k362 (by first | exact (nw_no (Nat.lt_trans (Nat.lt_trans (Nat.lt_trans cc_q217 cc_q270) cc_q325) cc_q382) (Nat.lt_trans (Nat.lt_trans (Nat.lt_trans (Nat.lt_trans cc_q217 cc_q270) cc_q325) cc_q382) mm_q382)) | (have := raw_lt r394; rintro (e | e) <;> omega))
  try clear r394; try clear k362
  have k420 := x400.kd k363 (by decide)
  have k421 := x400.kd k364 (by decide)
  have k422 := x400.kd k365 (by decide)
  have k423 := x400.kd k366 (by decide)
  have k424 := x400.kd k344 (by decide)
  try clear x400
  have y425 := p402.1.1 q91 (by rw [k363]; decide) y367
  try clear y367; try clear k363
  have y426 := p402.1.1 q136 (by rw [k364]; decide) y368
  try clear y368; try clear k364
  have y427 := p402.1.1 q217 (by rw [k365]; decide) y369
  try clear y369; try clear k365
  have y428 := p402.1.1 q270 (by rw [k366]; decide) y370
  try clear y370; try clear k366
  have y429 := p402.1.1 q325 (by rw [k344]; decide) y371
  try clear y371; try clear k344
  have y430 := p402.1.2
  try clear p402
  refine b_put E S406 hAh hnm (f := 15) b410 (show vwCl[10]? = some (RX11, TX11, 17) from rfl) q_inX11 tyX11_ok nmX11 (by decide) bw_457 rfl (fun _ => rfl) (tyX11_ok 15 (by decide)) rfl rfl dX11_init_127 (fun H431 locs1 z432 o433 b434 S435 => ?_)
  try clear b410; try clear S406
  have w436 : q_w X397 σ398 H431 := w403.kept (fun a ha => o433 a (fun e => ha (by rw [e]; exact k409)))
  try clear w403
  have t437 := t_lt b434
  try clear t411
  have r438 := (o433 q22 (by first | exact (Nat.ne_of_gt hq22) | omega)).trans r414
  try clear r414
  have r439 := (o433 q42 (by first | exact (Nat.ne_of_gt hq42) | omega)).trans r416
  try clear r416
  have r440 := (o433 q183 (by first | exact (Nat.ne_of_gt hq183) | omega)).trans r418
  try clear o433; try clear r418
  refine lv_aload_n hxx hb dX11_init_130 rfl (lv_at hl 0 rfl) ?_
  refine lv_iconst (v := 0) hxx hb dX11_init_131 (by decide) ?_
  refine b_put E S435 hAh hnm (f := 16) b434 (show vwCl[10]? = some (RX11, TX11, 17) from rfl) q_inX11 tyX11_ok nmX11 (by decide) bw_458 rfl (fun _ => rfl) (tyX11_ok 16 (by decide)) rfl rfl dX11_init_132 (fun H441 locs1 z442 o443 b444 S445 => ?_)
  try clear S435; try clear b434
  have w446 : q_w X397 σ398 H441 := w436.kept (fun a ha => o443 a (fun e => ha (by rw [e]; exact k409)))
  try clear w436
  have t447 := t_lt b444
  try clear t437
  have r448 := (o443 q22 (by first | exact (Nat.ne_of_gt hq22) | omega)).trans r438
  try clear r438
  have r449 := (o443 q42 (by first | exact (Nat.ne_of_gt hq42) | omega)).trans r439
  try clear r439
  have r450 := (o443 q183 (by first | exact (Nat.ne_of_gt hq183) | omega)).trans r440
  try clear o443; try clear r440
  refine lv_iconst (v := 0) hxx hb dX11_init_135 (by decide) ?_
  refine lv_istore_n (lv' := [(1, .int 0), (0, .ref h)]) hxx hb dX11_init_136 rfl hl (by decide) rfl (fun ls hl => ?_)
  refine lv_iload_n hxx hb dX11_init_137 rfl (lv_at hl 0 rfl) ?_
  refine lv_iconst (v := 4) hxx hb dX11_init_138 (by decide) ?_
  refine lv_icmp_ge hxx hb dX11_init_139 (tgt := 161) (by decide) (fun q => absurd q (by decide)) (fun _ => ?_)
  refine lv_aload_n hxx hb dX11_init_142 rfl (lv_at hl 1 rfl) ?_
  refine b_get E (f := 3) b444 (show vwCl[10]? = some (RX11, TX11, 17) from rfl) q_inX11 (by decide) bw_445 rfl (v := .ref q22) rfl dX11_init_143 ?_
  refine lv_iload_n hxx hb dX11_init_146 rfl (lv_at hl 0 rfl) ?_
  refine b_new E S445 bw_28 bw_425 bw_13 (show vwCl[9]? = some (RX10, TX10, 3) from rfl) q_inX10 tyX10 tyX10_ok (Nat.le_of_ble_eq_true rfl) (Nat.le_of_ble_eq_true rfl) dX11_init_147 (fun q451 H452 e453 z454 o455 b456 S457 => ?_)
  have hq451 : h < q451 := by first | exact Nat.lt_of_lt_of_eq t447 e453.symm | omega
  have gg_q451 : s.heap.size ≤ q451 := Nat.le_trans S445.1 (Nat.le_of_eq e453.symm)
  have mm_q451 : q451 < H452.size := by rw [z454, e453]; exact Nat.lt_succ_self _
  have cc_q451 : q382 < q451 := by first | exact Nat.lt_of_lt_of_eq (Nat.lt_of_lt_of_le (Nat.lt_of_lt_of_le (Nat.lt_of_lt_of_le mm_q382 z404) (Nat.le_of_eq z432.symm)) (Nat.le_of_eq z442.symm)) e453.symm | omega
  try clear S445
  have w458 : q_w X397 σ398 H452 := w446.kept (fun a ha => o455 a (w446.lt ha))
  have b459 := b444.kept (o455 h t447)
  try clear b444
  have t460 := t_lt b459
  try clear t447
  have r461 := (o455 q22 (raw_lt r448)).trans r448
  try clear r448
  have r462 := (o455 q42 (raw_lt r449)).trans r449
  try clear r449
  have r463 := (o455 q183 (raw_lt r450)).trans r450
  try clear o455; try clear r450
  have k464 : q_kd X397 q451 = 0 := w446.fresh (Nat.le_of_eq e453.symm)
  try clear w446
  have g465 := S457.1
  refine lv_dup hxx hb dX11_init_150 rfl ?_
  have a476 : ∀ a, q_nw q451 H452.size a → q_nw h s.heap.size a := nw_in gg_q451 (Nat.le_trans gg_q451 (Nat.le_of_lt mm_q451))
  refine b_cv (b_runN (As := []) (rest := [.ref q451, .int 0, .ref q22]) E (hml.trans hl.1.symm) D408 w458 k464 b456 rfl (n_X10 l D X397 σ398 q451 H452.size) bi_X11_84 rfl ⟨Nat.le_of_ble_eq_true rfl, Nat.le_of_ble_eq_true rfl⟩ ⟨Nat.le_of_ble_eq_true rfl, Nat.le_of_ble_eq_true rfl⟩ rfl (Nat.le_of_ble_eq_true rfl) dX11_init_151) S457 rfl a476 (fun X466 σ467 H468 locs1 x469 k470 p471 w472 z473 o474 S475 => ?_)
  try clear k464; try clear w458; try clear S457; try clear b456
  have D477 : X466.1 = D := x469.1.trans D408
  try clear D408
  have k478 : q_kd X466 h = 0 := x469.k0 k409 (by first | exact (nw_no hq451 (Nat.lt_trans hq451 mm_q451)) | (rintro (e | e) <;> omega))
  try clear k409
  have b479 := b459.kept (o474 h t460 (by first | exact (Nat.ne_of_lt hq451) | omega))
  try clear b459
  have t480 := t_lt b479
  try clear t460
  have y481 := y412.tr p471.1.1 (fun c hc => by rw [(x413.2.2.2.1 c hc).1]; exact hc)
  try clear y412
  have x482 := x413.tr x469 a476
  try clear x413
  have r483 := (o474 q22 (raw_lt r461) (by first | exact (Nat.ne_of_lt (Nat.lt_trans (Nat.lt_trans (Nat.lt_trans (Nat.lt_trans (Nat.lt_trans (Nat.lt_trans (Nat.lt_trans (Nat.lt_trans cc_q42 cc_q91) cc_q136) cc_q183) cc_q217) cc_q270) cc_q325) cc_q382) cc_q451)) | omega)).trans r461
  have k484 : q_kd X466 q22 = 0 := x469.k0 k415 (by first | exact (nw_no (Nat.lt_trans (Nat.lt_trans (Nat.lt_trans (Nat.lt_trans (Nat.lt_trans (Nat.lt_trans (Nat.lt_trans (Nat.lt_trans cc_q42 cc_q91) cc_q136) cc_q183) cc_q217) cc_q270) cc_q325) cc_q382) cc_q451) (Nat.lt_trans (Nat.lt_trans (Nat.lt_trans (Nat.lt_trans (Nat.lt_trans (Nat.lt_trans (Nat.lt_trans (Nat.lt_trans (Nat.lt_trans cc_q42 cc_q91) cc_q136) cc_q183) cc_q217) cc_q270) cc_q325) cc_q382) cc_q451) mm_q451)) | (have := raw_lt r461; rintro (e | e) <;> omega))
  try clear r461; try clear k415
  have r485 := (o474 q42 (raw_lt r462) (by first | exact (Nat.ne_of_lt (Nat.lt_trans (Nat.lt_trans (Nat.lt_trans (Nat.lt_trans (Nat.lt_trans (Nat.lt_trans (Nat.lt_trans cc_q91 cc_q136) cc_q183) cc_q217) cc_q270) cc_q325) cc_q382) cc_q451)) | omega)).trans r462
  have k486 : q_kd X466 q42 = 0 := x469.k0 k417 (by first | exact (nw_no (Nat.lt_trans (Nat.lt_trans (Nat.lt_trans (Nat.lt_trans (Nat.lt_trans (Nat.lt_trans (Nat.lt_trans cc_q91 cc_q136) cc_q183) cc_q217) cc_q270) cc_q325) cc_q382) cc_q451) (Nat.lt_trans (Nat.lt_trans (Nat.lt_trans (Nat.lt_trans (Nat.lt_trans (Nat.lt_trans (Nat.lt_trans (Nat.lt_trans cc_q91 cc_q136) cc_q183) cc_q217) cc_q270) cc_q325) cc_q382) cc_q451) mm_q451)) | (have := raw_lt r462; rintro (e | e) <;> omega))
  try clear r462; try clear k417
  have r487 := (o474 q183 (raw_lt r463) (by first | exact (Nat.ne_of_lt (Nat.lt_trans (Nat.lt_trans (Nat.lt_trans (Nat.lt_trans cc_q217 cc_q270) cc_q325) cc_q382) cc_q451)) | omega)).trans r463
  try clear o474
  have k488 : q_kd X466 q183 = 0 := x469.k0 k419 (by first | exact (nw_no (Nat.lt_trans (Nat.lt_trans (Nat.lt_trans (Nat.lt_trans cc_q217 cc_q270) cc_q325) cc_q382) cc_q451) (Nat.lt_trans (Nat.lt_trans (Nat.lt_trans (Nat.lt_trans (Nat.lt_trans cc_q217 cc_q270) cc_q325) cc_q382) cc_q451) mm_q451)) | (have := raw_lt r463; rintro (e | e) <;> omega))
  try clear r463; try clear k419
  have k489 := x469.kd k420 (by decide)
  have k490 := x469.kd k421 (by decide)
  have k491 := x469.kd k422 (by decide)
  have k492 := x469.kd k423 (by decide)
  have k493 := x469.kd k424 (by decide)
  have k494 := x469.kd k401 (by decide)
  try clear x469
  have y495 := p471.1.1 q91 (by rw [k420]; decide) y425
  try clear y425; try clear k420
  have y496 := p471.1.1 q136 (by rw [k421]; decide) y426
  try clear y426; try clear k421
  have y497 := p471.1.1 q217 (by rw [k422]; decide) y427
  try clear y427; try clear k422
  have y498 := p471.1.1 q270 (by rw [k423]; decide) y428
  try clear y428; try clear k423
  have y499 := p471.1.1 q325 (by rw [k424]; decide) y429
  try clear y429; try clear k424
  have y500 := p471.1.1 q382 (by rw [k401]; decide) y430
  try clear y430; try clear k401
  have y501 := p471.1.2
  have i502 : σ467.1 q451 0 = 0 := p471.2.1
  have i503 : σ467.1 q451 1 = -1 := p471.2.2
  try clear p471
  refine b_aast E S475 (t := 3) (Or.inr gg_q22) rfl (show vwCl[9]? = some (RX10, TX10, 3) from rfl) r483 (q_wcell D477 w472 k470 ⟨rfl, by decide⟩ (show vwCl[9]? = some (RX10, TX10, 3) from rfl)) (by decide) (by decide) dX11_init_154 (fun H504 locs1 z505 o506 r507 S508 => ?_)
  try clear r483; try clear S475
  have w509 : q_w X466 σ467 H504 := w472.kept (fun a ha => o506 a (fun e => ha (by rw [e]; exact k484)))
  try clear w472
  have b510 := b479.kept (o506 h (by first | exact (Nat.ne_of_lt hq22) | omega))
  try clear b479
  have t511 := t_lt b510
  try clear t480
  have r512 := (o506 q42 (by first | exact (Nat.ne_of_gt cc_q42) | omega)).trans r485
  try clear r485
  have r513 := (o506 q183 (by first | exact (Nat.ne_of_gt (Nat.lt_trans (Nat.lt_trans (Nat.lt_trans cc_q42 cc_q91) cc_q136) cc_q183)) | omega)).trans r487
  try clear o506; try clear r487
  refine lv_iinc (v := 1) (lv' := [(1, .int 1), (0, .ref h)]) hxx hb dX11_init_155 hl (k := 0) rfl (by decide) (by decide) rfl (fun ls hl => ?_)
  refine lv_goto (tgt := 137) hxx hb dX11_init_158 (by decide) ?_
  refine lv_iload_n hxx hb dX11_init_137 rfl (lv_at hl 0 rfl) ?_
  refine lv_iconst (v := 4) hxx hb dX11_init_138 (by decide) ?_
  refine lv_icmp_ge hxx hb dX11_init_139 (tgt := 161) (by decide) (fun q => absurd q (by decide)) (fun _ => ?_)
  refine lv_aload_n hxx hb dX11_init_142 rfl (lv_at hl 1 rfl) ?_
  refine b_get E (f := 3) b510 (show vwCl[10]? = some (RX11, TX11, 17) from rfl) q_inX11 (by decide) bw_445 rfl (v := .ref q22) rfl dX11_init_143 ?_
  refine lv_iload_n hxx hb dX11_init_146 rfl (lv_at hl 0 rfl) ?_
  refine b_new E S508 bw_28 bw_425 bw_13 (show vwCl[9]? = some (RX10, TX10, 3) from rfl) q_inX10 tyX10 tyX10_ok (Nat.le_of_ble_eq_true rfl) (Nat.le_of_ble_eq_true rfl) dX11_init_147 (fun q514 H515 e516 z517 o518 b519 S520 => ?_)
  have hq514 : h < q514 := by first | exact Nat.lt_of_lt_of_eq t511 e516.symm | omega
  have gg_q514 : s.heap.size ≤ q514 := Nat.le_trans S508.1 (Nat.le_of_eq e516.symm)
  have mm_q514 : q514 < H515.size := by rw [z517, e516]; exact Nat.lt_succ_self _
  have cc_q514 : q451 < q514 := by first | exact Nat.lt_of_lt_of_eq (Nat.lt_of_lt_of_le (Nat.lt_of_lt_of_le mm_q451 z473) (Nat.le_of_eq z505.symm)) e516.symm | omega
  try clear S508
  have w521 : q_w X466 σ467 H515 := w509.kept (fun a ha => o518 a (w509.lt ha))
  have b522 := b510.kept (o518 h t511)
  try clear b510
  have t523 := t_lt b522
  try clear t511
  have r524 := (o518 q22 (raw_lt r507)).trans r507
  try clear r507
  have r525 := (o518 q42 (raw_lt r512)).trans r512
  try clear r512
  have r526 := (o518 q183 (raw_lt r513)).trans r513
  try clear o518; try clear r513
  have k527 : q_kd X466 q514 = 0 := w509.fresh (Nat.le_of_eq e516.symm)
  try clear w509
  have g528 := S520.1
  refine lv_dup hxx hb dX11_init_150 rfl ?_
  have a539 : ∀ a, q_nw q514 H515.size a → q_nw h s.heap.size a := nw_in gg_q514 (Nat.le_trans gg_q514 (Nat.le_of_lt mm_q514))
  refine b_cv (b_runN (As := []) (rest := [.ref q514, .int 1, .ref q22]) E (hml.trans hl.1.symm) D477 w521 k527 b519 rfl (n_X10 l D X466 σ467 q514 H515.size) bi_X11_84 rfl ⟨Nat.le_of_ble_eq_true rfl, Nat.le_of_ble_eq_true rfl⟩ ⟨Nat.le_of_ble_eq_true rfl, Nat.le_of_ble_eq_true rfl⟩ rfl (Nat.le_of_ble_eq_true rfl) dX11_init_151) S520 rfl a539 (fun X529 σ530 H531 locs1 x532 k533 p534 w535 z536 o537 S538 => ?_)
  try clear k527; try clear w521; try clear S520; try clear b519
  have D540 : X529.1 = D := x532.1.trans D477
  try clear D477
  have k541 : q_kd X529 h = 0 := x532.k0 k478 (by first | exact (nw_no hq514 (Nat.lt_trans hq514 mm_q514)) | (rintro (e | e) <;> omega))
  try clear k478
  have b542 := b522.kept (o537 h t523 (by first | exact (Nat.ne_of_lt hq514) | omega))
  try clear b522
  have t543 := t_lt b542
  try clear t523
  have y544 := y481.tr p534.1.1 (fun c hc => by rw [(x482.2.2.2.1 c hc).1]; exact hc)
  try clear y481
  have x545 := x482.tr x532 a539
  try clear x482
  have r546 := (o537 q22 (raw_lt r524) (by first | exact (Nat.ne_of_lt (Nat.lt_trans (Nat.lt_trans (Nat.lt_trans (Nat.lt_trans (Nat.lt_trans (Nat.lt_trans (Nat.lt_trans (Nat.lt_trans (Nat.lt_trans cc_q42 cc_q91) cc_q136) cc_q183) cc_q217) cc_q270) cc_q325) cc_q382) cc_q451) cc_q514)) | omega)).trans r524
  have k547 : q_kd X529 q22 = 0 := x532.k0 k484 (by first | exact (nw_no (Nat.lt_trans (Nat.lt_trans (Nat.lt_trans (Nat.lt_trans (Nat.lt_trans (Nat.lt_trans (Nat.lt_trans (Nat.lt_trans (Nat.lt_trans cc_q42 cc_q91) cc_q136) cc_q183) cc_q217) cc_q270) cc_q325) cc_q382) cc_q451) cc_q514) (Nat.lt_trans (Nat.lt_trans (Nat.lt_trans (Nat.lt_trans (Nat.lt_trans (Nat.lt_trans (Nat.lt_trans (Nat.lt_trans (Nat.lt_trans (Nat.lt_trans cc_q42 cc_q91) cc_q136) cc_q183) cc_q217) cc_q270) cc_q325) cc_q382) cc_q451) cc_q514) mm_q514)) | (have := raw_lt r524; rintro (e | e) <;> omega))
  try clear r524; try clear k484
  have r548 := (o537 q42 (raw_lt r525) (by first | exact (Nat.ne_of_lt (Nat.lt_trans (Nat.lt_trans (Nat.lt_trans (Nat.lt_trans (Nat.lt_trans (Nat.lt_trans (Nat.lt_trans (Nat.lt_trans cc_q91 cc_q136) cc_q183) cc_q217) cc_q270) cc_q325) cc_q382) cc_q451) cc_q514)) | omega)).trans r525
  have k549 : q_kd X529 q42 = 0 := x532.k0 k486 (by first | exact (nw_no (Nat.lt_trans (Nat.lt_trans (Nat.lt_trans (Nat.lt_trans (Nat.lt_trans (Nat.lt_trans (Nat.lt_trans (Nat.lt_trans cc_q91 cc_q136) cc_q183) cc_q217) cc_q270) cc_q325) cc_q382) cc_q451) cc_q514) (Nat.lt_trans (Nat.lt_trans (Nat.lt_trans (Nat.lt_trans (Nat.lt_trans (Nat.lt_trans (Nat.lt_trans (Nat.lt_trans (Nat.lt_trans cc_q91 cc_q136) cc_q183) cc_q217) cc_q270) cc_q325) cc_q382) cc_q451) cc_q514) mm_q514)) | (have := raw_lt r525; rintro (e | e) <;> omega))
  try clear r525; try clear k486
  have r550 := (o537 q183 (raw_lt r526) (by first | exact (Nat.ne_of_lt (Nat.lt_trans (Nat.lt_trans (Nat.lt_trans (Nat.lt_trans (Nat.lt_trans cc_q217 cc_q270) cc_q325) cc_q382) cc_q451) cc_q514)) | omega)).trans r526
  try clear o537
  have k551 : q_kd X529 q183 = 0 := x532.k0 k488 (by first | exact (nw_no (Nat.lt_trans (Nat.lt_trans (Nat.lt_trans (Nat.lt_trans (Nat.lt_trans cc_q217 cc_q270) cc_q325) cc_q382) cc_q451) cc_q514) (Nat.lt_trans (Nat.lt_trans (Nat.lt_trans (Nat.lt_trans (Nat.lt_trans (Nat.lt_trans cc_q217 cc_q270) cc_q325) cc_q382) cc_q451) cc_q514) mm_q514)) | (have := raw_lt r526; rintro (e | e) <;> omega))
  try clear r526; try clear k488
  have k552 := x532.kd k489 (by decide)
  have k553 := x532.kd k490 (by decide)
  have k554 := x532.kd k491 (by decide)
  have k555 := x532.kd k492 (by decide)
  have k556 := x532.kd k493 (by decide)
  have k557 := x532.kd k494 (by decide)
  have k558 := x532.kd k470 (by decide)
  have y559 := p534.1.1 q91 (by rw [k489]; decide) y495
  try clear y495; try clear k489
  have y560 := p534.1.1 q136 (by rw [k490]; decide) y496
  try clear y496; try clear k490
  have y561 := p534.1.1 q217 (by rw [k491]; decide) y497
  try clear y497; try clear k491
  have y562 := p534.1.1 q270 (by rw [k492]; decide) y498
  try clear y498; try clear k492
  have y563 := p534.1.1 q325 (by rw [k493]; decide) y499
  try clear y499; try clear k493
  have y564 := p534.1.1 q382 (by rw [k494]; decide) y500
  try clear y500; try clear k494
  have y565 := p534.1.1 q451 (by rw [k470]; decide) y501
  try clear y501
  have y566 := p534.1.2
  have i567 : σ530.1 q451 0 = 0 := (q_exi x532 (by rw [k470]; decide)).trans i502
  try clear i502
  have i568 : σ530.1 q451 1 = -1 := (q_exi x532 (by rw [k470]; decide)).trans i503
  try clear x532; try clear i503; try clear k470
  have i569 : σ530.1 q514 0 = 0 := p534.2.1
  have i570 : σ530.1 q514 1 = -1 := p534.2.2
  try clear p534
  refine b_aast E S538 (t := 3) (Or.inr gg_q22) rfl (show vwCl[9]? = some (RX10, TX10, 3) from rfl) r546 (q_wcell D540 w535 k533 ⟨rfl, by decide⟩ (show vwCl[9]? = some (RX10, TX10, 3) from rfl)) (by decide) (by decide) dX11_init_154 (fun H571 locs1 z572 o573 r574 S575 => ?_)
  try clear r546; try clear S538
  have w576 : q_w X529 σ530 H571 := w535.kept (fun a ha => o573 a (fun e => ha (by rw [e]; exact k547)))
  try clear w535
  have b577 := b542.kept (o573 h (by first | exact (Nat.ne_of_lt hq22) | omega))
  try clear b542
  have t578 := t_lt b577
  try clear t543
  have r579 := (o573 q42 (by first | exact (Nat.ne_of_gt cc_q42) | omega)).trans r548
  try clear r548
  have r580 := (o573 q183 (by first | exact (Nat.ne_of_gt (Nat.lt_trans (Nat.lt_trans (Nat.lt_trans cc_q42 cc_q91) cc_q136) cc_q183)) | omega)).trans r550
  try clear o573; try clear r550
  refine lv_iinc (v := 2) (lv' := [(1, .int 2), (0, .ref h)]) hxx hb dX11_init_155 hl (k := 0) rfl (by decide) (by decide) rfl (fun ls hl => ?_)
  refine lv_goto (tgt := 137) hxx hb dX11_init_158 (by decide) ?_
  refine lv_iload_n hxx hb dX11_init_137 rfl (lv_at hl 0 rfl) ?_
  refine lv_iconst (v := 4) hxx hb dX11_init_138 (by decide) ?_
  refine lv_icmp_ge hxx hb dX11_init_139 (tgt := 161) (by decide) (fun q => absurd q (by decide)) (fun _ => ?_)
  refine lv_aload_n hxx hb dX11_init_142 rfl (lv_at hl 1 rfl) ?_
  refine b_get E (f := 3) b577 (show vwCl[10]? = some (RX11, TX11, 17) from rfl) q_inX11 (by decide) bw_445 rfl (v := .ref q22) rfl dX11_init_143 ?_
  refine lv_iload_n hxx hb dX11_init_146 rfl (lv_at hl 0 rfl) ?_
  refine b_new E S575 bw_28 bw_425 bw_13 (show vwCl[9]? = some (RX10, TX10, 3) from rfl) q_inX10 tyX10 tyX10_ok (Nat.le_of_ble_eq_true rfl) (Nat.le_of_ble_eq_true rfl) dX11_init_147 (fun q581 H582 e583 z584 o585 b586 S587 => ?_)
  have hq581 : h < q581 := by first | exact Nat.lt_of_lt_of_eq t578 e583.symm | omega
  have gg_q581 : s.heap.size ≤ q581 := Nat.le_trans S575.1 (Nat.le_of_eq e583.symm)
  have mm_q581 : q581 < H582.size := by rw [z584, e583]; exact Nat.lt_succ_self _
  have cc_q581 : q514 < q581 := by first | exact Nat.lt_of_lt_of_eq (Nat.lt_of_lt_of_le (Nat.lt_of_lt_of_le mm_q514 z536) (Nat.le_of_eq z572.symm)) e583.symm | omega
  try clear S575
  have w588 : q_w X529 σ530 H582 := w576.kept (fun a ha => o585 a (w576.lt ha))
  have b589 := b577.kept (o585 h t578)
  try clear b577
  have t590 := t_lt b589
  try clear t578
  have r591 := (o585 q22 (raw_lt r574)).trans r574
  try clear r574
  have r592 := (o585 q42 (raw_lt r579)).trans r579
  try clear r579
  have r593 := (o585 q183 (raw_lt r580)).trans r580
  try clear o585; try clear r580
  have k594 : q_kd X529 q581 = 0 := w576.fresh (Nat.le_of_eq e583.symm)
  try clear w576
  have g595 := S587.1
  refine lv_dup hxx hb dX11_init_150 rfl ?_
  have a606 : ∀ a, q_nw q581 H582.size a → q_nw h s.heap.size a := nw_in gg_q581 (Nat.le_trans gg_q581 (Nat.le_of_lt mm_q581))
  refine b_cv (b_runN (As := []) (rest := [.ref q581, .int 2, .ref q22]) E (hml.trans hl.1.symm) D540 w588 k594 b586 rfl (n_X10 l D X529 σ530 q581 H582.size) bi_X11_84 rfl ⟨Nat.le_of_ble_eq_true rfl, Nat.le_of_ble_eq_true rfl⟩ ⟨Nat.le_of_ble_eq_true rfl, Nat.le_of_ble_eq_true rfl⟩ rfl (Nat.le_of_ble_eq_true rfl) dX11_init_151) S587 rfl a606 (fun X596 σ597 H598 locs1 x599 k600 p601 w602 z603 o604 S605 => ?_)
  try clear k594; try clear w588; try clear S587; try clear b586
  have D607 : X596.1 = D := x599.1.trans D540
  try clear D540
  have k608 : q_kd X596 h = 0 := x599.k0 k541 (by first | exact (nw_no hq581 (Nat.lt_trans hq581 mm_q581)) | (rintro (e | e) <;> omega))
  try clear k541
  have b609 := b589.kept (o604 h t590 (by first | exact (Nat.ne_of_lt hq581) | omega))
  try clear b589
  have t610 := t_lt b609
  try clear t590
  have y611 := y544.tr p601.1.1 (fun c hc => by rw [(x545.2.2.2.1 c hc).1]; exact hc)
  try clear y544
  have x612 := x545.tr x599 a606
  try clear x545
  have r613 := (o604 q22 (raw_lt r591) (by first | exact (Nat.ne_of_lt (Nat.lt_trans (Nat.lt_trans (Nat.lt_trans (Nat.lt_trans (Nat.lt_trans (Nat.lt_trans (Nat.lt_trans (Nat.lt_trans (Nat.lt_trans (Nat.lt_trans cc_q42 cc_q91) cc_q136) cc_q183) cc_q217) cc_q270) cc_q325) cc_q382) cc_q451) cc_q514) cc_q581)) | omega)).trans r591
  have k614 : q_kd X596 q22 = 0 := x599.k0 k547 (by first | exact (nw_no (Nat.lt_trans (Nat.lt_trans (Nat.lt_trans (Nat.lt_trans (Nat.lt_trans (Nat.lt_trans (Nat.lt_trans (Nat.lt_trans (Nat.lt_trans (Nat.lt_trans cc_q42 cc_q91) cc_q136) cc_q183) cc_q217) cc_q270) cc_q325) cc_q382) cc_q451) cc_q514) cc_q581) (Nat.lt_trans (Nat.lt_trans (Nat.lt_trans (Nat.lt_trans (Nat.lt_trans (Nat.lt_trans (Nat.lt_trans (Nat.lt_trans (Nat.lt_trans (Nat.lt_trans (Nat.lt_trans cc_q42 cc_q91) cc_q136) cc_q183) cc_q217) cc_q270) cc_q325) cc_q382) cc_q451) cc_q514) cc_q581) mm_q581)) | (have := raw_lt r591; rintro (e | e) <;> omega))
  try clear r591; try clear k547
  have r615 := (o604 q42 (raw_lt r592) (by first | exact (Nat.ne_of_lt (Nat.lt_trans (Nat.lt_trans (Nat.lt_trans (Nat.lt_trans (Nat.lt_trans (Nat.lt_trans (Nat.lt_trans (Nat.lt_trans (Nat.lt_trans cc_q91 cc_q136) cc_q183) cc_q217) cc_q270) cc_q325) cc_q382) cc_q451) cc_q514) cc_q581)) | omega)).trans r592
  have k616 : q_kd X596 q42 = 0 := x599.k0 k549 (by first | exact (nw_no (Nat.lt_trans (Nat.lt_trans (Nat.lt_trans (Nat.lt_trans (Nat.lt_trans (Nat.lt_trans (Nat.lt_trans (Nat.lt_trans (Nat.lt_trans cc_q91 cc_q136) cc_q183) cc_q217) cc_q270) cc_q325) cc_q382) cc_q451) cc_q514) cc_q581) (Nat.lt_trans (Nat.lt_trans (Nat.lt_trans (Nat.lt_trans (Nat.lt_trans (Nat.lt_trans (Nat.lt_trans (Nat.lt_trans (Nat.lt_trans (Nat.lt_trans cc_q91 cc_q136) cc_q183) cc_q217) cc_q270) cc_q325) cc_q382) cc_q451) cc_q514) cc_q581) mm_q581)) | (have := raw_lt r592; rintro (e | e) <;> omega))
  try clear r592; try clear k549
  have r617 := (o604 q183 (raw_lt r593) (by first | exact (Nat.ne_of_lt (Nat.lt_trans (Nat.lt_trans (Nat.lt_trans (Nat.lt_trans (Nat.lt_trans (Nat.lt_trans cc_q217 cc_q270) cc_q325) cc_q382) cc_q451) cc_q514) cc_q581)) | omega)).trans r593
  try clear o604
  have k618 : q_kd X596 q183 = 0 := x599.k0 k551 (by first | exact (nw_no (Nat.lt_trans (Nat.lt_trans (Nat.lt_trans (Nat.lt_trans (Nat.lt_trans (Nat.lt_trans cc_q217 cc_q270) cc_q325) cc_q382) cc_q451) cc_q514) cc_q581) (Nat.lt_trans (Nat.lt_trans (Nat.lt_trans (Nat.lt_trans (Nat.lt_trans (Nat.lt_trans (Nat.lt_trans cc_q217 cc_q270) cc_q325) cc_q382) cc_q451) cc_q514) cc_q581) mm_q581)) | (have := raw_lt r593; rintro (e | e) <;> omega))
  try clear r593; try clear k551
  have k619 := x599.kd k552 (by decide)
  have k620 := x599.kd k553 (by decide)
  have k621 := x599.kd k554 (by decide)
  have k622 := x599.kd k555 (by decide)
  have k623 := x599.kd k556 (by decide)
  have k624 := x599.kd k557 (by decide)
  have k625 := x599.kd k558 (by decide)
  have k626 := x599.kd k533 (by decide)
  have y627 := p601.1.1 q91 (by rw [k552]; decide) y559
  try clear y559; try clear k552
  have y628 := p601.1.1 q136 (by rw [k553]; decide) y560
  try clear y560; try clear k553
  have y629 := p601.1.1 q217 (by rw [k554]; decide) y561
  try clear y561; try clear k554
  have y630 := p601.1.1 q270 (by rw [k555]; decide) y562
  try clear y562; try clear k555
  have y631 := p601.1.1 q325 (by rw [k556]; decide) y563
  try clear y563; try clear k556
  have y632 := p601.1.1 q382 (by rw [k557]; decide) y564
  try clear y564; try clear k557
  have y633 := p601.1.1 q451 (by rw [k558]; decide) y565
  try clear y565
  have y634 := p601.1.1 q514 (by rw [k533]; decide) y566
  try clear y566
  have y635 := p601.1.2
  have i636 : σ597.1 q451 0 = 0 := (q_exi x599 (by rw [k558]; decide)).trans i567
  try clear i567
  have i637 : σ597.1 q451 1 = -1 := (q_exi x599 (by rw [k558]; decide)).trans i568
  try clear i568; try clear k558
  have i638 : σ597.1 q514 0 = 0 := (q_exi x599 (by rw [k533]; decide)).trans i569
  try clear i569
  have i639 : σ597.1 q514 1 = -1 := (q_exi x599 (by rw [k533]; decide)).trans i570
  try clear x599; try clear i570; try clear k533
  have i640 : σ597.1 q581 0 = 0 := p601.2.1
  have i641 : σ597.1 q581 1 = -1 := p601.2.2
  try clear p601
  refine b_aast E S605 (t := 3) (Or.inr gg_q22) rfl (show vwCl[9]? = some (RX10, TX10, 3) from rfl) r613 (q_wcell D607 w602 k600 ⟨rfl, by decide⟩ (show vwCl[9]? = some (RX10, TX10, 3) from rfl)) (by decide) (by decide) dX11_init_154 (fun H642 locs1 z643 o644 r645 S646 => ?_)
  try clear r613; try clear S605
  have w647 : q_w X596 σ597 H642 := w602.kept (fun a ha => o644 a (fun e => ha (by rw [e]; exact k614)))
  try clear w602
  have b648 := b609.kept (o644 h (by first | exact (Nat.ne_of_lt hq22) | omega))
  try clear b609
  have t649 := t_lt b648
  try clear t610
  have r650 := (o644 q42 (by first | exact (Nat.ne_of_gt cc_q42) | omega)).trans r615
  try clear r615
  have r651 := (o644 q183 (by first | exact (Nat.ne_of_gt (Nat.lt_trans (Nat.lt_trans (Nat.lt_trans cc_q42 cc_q91) cc_q136) cc_q183)) | omega)).trans r617
  try clear o644; try clear r617
  refine lv_iinc (v := 3) (lv' := [(1, .int 3), (0, .ref h)]) hxx hb dX11_init_155 hl (k := 0) rfl (by decide) (by decide) rfl (fun ls hl => ?_)
  refine lv_goto (tgt := 137) hxx hb dX11_init_158 (by decide) ?_
  refine lv_iload_n hxx hb dX11_init_137 rfl (lv_at hl 0 rfl) ?_
  refine lv_iconst (v := 4) hxx hb dX11_init_138 (by decide) ?_
  refine lv_icmp_ge hxx hb dX11_init_139 (tgt := 161) (by decide) (fun q => absurd q (by decide)) (fun _ => ?_)
  refine lv_aload_n hxx hb dX11_init_142 rfl (lv_at hl 1 rfl) ?_
  refine b_get E (f := 3) b648 (show vwCl[10]? = some (RX11, TX11, 17) from rfl) q_inX11 (by decide) bw_445 rfl (v := .ref q22) rfl dX11_init_143 ?_
  refine lv_iload_n hxx hb dX11_init_146 rfl (lv_at hl 0 rfl) ?_
  refine b_new E S646 bw_28 bw_425 bw_13 (show vwCl[9]? = some (RX10, TX10, 3) from rfl) q_inX10 tyX10 tyX10_ok (Nat.le_of_ble_eq_true rfl) (Nat.le_of_ble_eq_true rfl) dX11_init_147 (fun q652 H653 e654 z655 o656 b657 S658 => ?_)
  have hq652 : h < q652 := by first | exact Nat.lt_of_lt_of_eq t649 e654.symm | omega
  have gg_q652 : s.heap.size ≤ q652 := Nat.le_trans S646.1 (Nat.le_of_eq e654.symm)
  have mm_q652 : q652 < H653.size := by rw [z655, e654]; exact Nat.lt_succ_self _
  have cc_q652 : q581 < q652 := by first | exact Nat.lt_of_lt_of_eq (Nat.lt_of_lt_of_le (Nat.lt_of_lt_of_le mm_q581 z603) (Nat.le_of_eq z643.symm)) e654.symm | omega
  try clear S646
  have w659 : q_w X596 σ597 H653 := w647.kept (fun a ha => o656 a (w647.lt ha))
  have b660 := b648.kept (o656 h t649)
  try clear b648
  have t661 := t_lt b660
  try clear t649
  have r662 := (o656 q22 (raw_lt r645)).trans r645
  try clear r645
  have r663 := (o656 q42 (raw_lt r650)).trans r650
  try clear r650
  have r664 := (o656 q183 (raw_lt r651)).trans r651
  try clear o656; try clear r651
  have k665 : q_kd X596 q652 = 0 := w647.fresh (Nat.le_of_eq e654.symm)
  try clear w647
  have g666 := S658.1
  refine lv_dup hxx hb dX11_init_150 rfl ?_
  have a677 : ∀ a, q_nw q652 H653.size a → q_nw h s.heap.size a := nw_in gg_q652 (Nat.le_trans gg_q652 (Nat.le_of_lt mm_q652))
  refine b_cv (b_runN (As := []) (rest := [.ref q652, .int 3, .ref q22]) E (hml.trans hl.1.symm) D607 w659 k665 b657 rfl (n_X10 l D X596 σ597 q652 H653.size) bi_X11_84 rfl ⟨Nat.le_of_ble_eq_true rfl, Nat.le_of_ble_eq_true rfl⟩ ⟨Nat.le_of_ble_eq_true rfl, Nat.le_of_ble_eq_true rfl⟩ rfl (Nat.le_of_ble_eq_true rfl) dX11_init_151) S658 rfl a677 (fun X667 σ668 H669 locs1 x670 k671 p672 w673 z674 o675 S676 => ?_)
  try clear k665; try clear w659; try clear S658; try clear b657
  have D678 : X667.1 = D := x670.1.trans D607
  try clear D607
  have k679 : q_kd X667 h = 0 := x670.k0 k608 (by first | exact (nw_no hq652 (Nat.lt_trans hq652 mm_q652)) | (rintro (e | e) <;> omega))
  try clear k608
  have b680 := b660.kept (o675 h t661 (by first | exact (Nat.ne_of_lt hq652) | omega))
  try clear b660
  have t681 := t_lt b680
  try clear t661
  have y682 := y611.tr p672.1.1 (fun c hc => by rw [(x612.2.2.2.1 c hc).1]; exact hc)
  try clear y611
  have x683 := x612.tr x670 a677
  try clear x612
  have r684 := (o675 q22 (raw_lt r662) (by first | exact (Nat.ne_of_lt (Nat.lt_trans (Nat.lt_trans (Nat.lt_trans (Nat.lt_trans (Nat.lt_trans (Nat.lt_trans (Nat.lt_trans (Nat.lt_trans (Nat.lt_trans (Nat.lt_trans (Nat.lt_trans cc_q42 cc_q91) cc_q136) cc_q183) cc_q217) cc_q270) cc_q325) cc_q382) cc_q451) cc_q514) cc_q581) cc_q652)) | omega)).trans r662
  have k685 : q_kd X667 q22 = 0 := x670.k0 k614 (by first | exact (nw_no (Nat.lt_trans (Nat.lt_trans (Nat.lt_trans (Nat.lt_trans (Nat.lt_trans (Nat.lt_trans (Nat.lt_trans (Nat.lt_trans (Nat.lt_trans (Nat.lt_trans (Nat.lt_trans cc_q42 cc_q91) cc_q136) cc_q183) cc_q217) cc_q270) cc_q325) cc_q382) cc_q451) cc_q514) cc_q581) cc_q652) (Nat.lt_trans (Nat.lt_trans (Nat.lt_trans (Nat.lt_trans (Nat.lt_trans (Nat.lt_trans (Nat.lt_trans (Nat.lt_trans (Nat.lt_trans (Nat.lt_trans (Nat.lt_trans (Nat.lt_trans cc_q42 cc_q91) cc_q136) cc_q183) cc_q217) cc_q270) cc_q325) cc_q382) cc_q451) cc_q514) cc_q581) cc_q652) mm_q652)) | (have := raw_lt r662; rintro (e | e) <;> omega))
  try clear r662; try clear k614
  have r686 := (o675 q42 (raw_lt r663) (by first | exact (Nat.ne_of_lt (Nat.lt_trans (Nat.lt_trans (Nat.lt_trans (Nat.lt_trans (Nat.lt_trans (Nat.lt_trans (Nat.lt_trans (Nat.lt_trans (Nat.lt_trans (Nat.lt_trans cc_q91 cc_q136) cc_q183) cc_q217) cc_q270) cc_q325) cc_q382) cc_q451) cc_q514) cc_q581) cc_q652)) | omega)).trans r663
  have k687 : q_kd X667 q42 = 0 := x670.k0 k616 (by first | exact (nw_no (Nat.lt_trans (Nat.lt_trans (Nat.lt_trans (Nat.lt_trans (Nat.lt_trans (Nat.lt_trans (Nat.lt_trans (Nat.lt_trans (Nat.lt_trans (Nat.lt_trans cc_q91 cc_q136) cc_q183) cc_q217) cc_q270) cc_q325) cc_q382) cc_q451) cc_q514) cc_q581) cc_q652) (Nat.lt_trans (Nat.lt_trans (Nat.lt_trans (Nat.lt_trans (Nat.lt_trans (Nat.lt_trans (Nat.lt_trans (Nat.lt_trans (Nat.lt_trans (Nat.lt_trans (Nat.lt_trans cc_q91 cc_q136) cc_q183) cc_q217) cc_q270) cc_q325) cc_q382) cc_q451) cc_q514) cc_q581) cc_q652) mm_q652)) | (have := raw_lt r663; rintro (e | e) <;> omega))
  try clear r663; try clear k616
  have r688 := (o675 q183 (raw_lt r664) (by first | exact (Nat.ne_of_lt (Nat.lt_trans (Nat.lt_trans (Nat.lt_trans (Nat.lt_trans (Nat.lt_trans (Nat.lt_trans (Nat.lt_trans cc_q217 cc_q270) cc_q325) cc_q382) cc_q451) cc_q514) cc_q581) cc_q652)) | omega)).trans r664
  try clear o675
  have k689 : q_kd X667 q183 = 0 := x670.k0 k618 (by first | exact (nw_no (Nat.lt_trans (Nat.lt_trans (Nat.lt_trans (Nat.lt_trans (Nat.lt_trans (Nat.lt_trans (Nat.lt_trans cc_q217 cc_q270) cc_q325) cc_q382) cc_q451) cc_q514) cc_q581) cc_q652) (Nat.lt_trans (Nat.lt_trans (Nat.lt_trans (Nat.lt_trans (Nat.lt_trans (Nat.lt_trans (Nat.lt_trans (Nat.lt_trans cc_q217 cc_q270) cc_q325) cc_q382) cc_q451) cc_q514) cc_q581) cc_q652) mm_q652)) | (have := raw_lt r664; rintro (e | e) <;> omega))
  try clear r664; try clear k618
  have k690 := x670.kd k619 (by decide)
  have k691 := x670.kd k620 (by decide)
  have k692 := x670.kd k621 (by decide)
  have k693 := x670.kd k622 (by decide)
  have k694 := x670.kd k623 (by decide)
  have k695 := x670.kd k624 (by decide)
  have k696 := x670.kd k625 (by decide)
  have k697 := x670.kd k626 (by decide)
  have k698 := x670.kd k600 (by decide)
  have y699 := p672.1.1 q91 (by rw [k619]; decide) y627
  try clear y627; try clear k619
  have y700 := p672.1.1 q136 (by rw [k620]; decide) y628
  try clear y628; try clear k620
  have y701 := p672.1.1 q217 (by rw [k621]; decide) y629
  try clear y629; try clear k621
  have y702 := p672.1.1 q270 (by rw [k622]; decide) y630
  try clear y630; try clear k622
  have y703 := p672.1.1 q325 (by rw [k623]; decide) y631
  try clear y631; try clear k623
  have y704 := p672.1.1 q382 (by rw [k624]; decide) y632
  try clear y632; try clear k624
  have y705 := p672.1.1 q451 (by rw [k625]; decide) y633
  try clear y633
  have y706 := p672.1.1 q514 (by rw [k626]; decide) y634
  try clear y634
  have y707 := p672.1.1 q581 (by rw [k600]; decide) y635
  try clear y635
  have y708 := p672.1.2
  have i709 : σ668.1 q451 0 = 0 := (q_exi x670 (by rw [k625]; decide)).trans i636
  try clear i636
  have i710 : σ668.1 q451 1 = -1 := (q_exi x670 (by rw [k625]; decide)).trans i637
  try clear i637; try clear k625
  have i711 : σ668.1 q514 0 = 0 := (q_exi x670 (by rw [k626]; decide)).trans i638
  try clear i638
  have i712 : σ668.1 q514 1 = -1 := (q_exi x670 (by rw [k626]; decide)).trans i639
  try clear i639; try clear k626
  have i713 : σ668.1 q581 0 = 0 := (q_exi x670 (by rw [k600]; decide)).trans i640
  try clear i640
  have i714 : σ668.1 q581 1 = -1 := (q_exi x670 (by rw [k600]; decide)).trans i641
  try clear x670; try clear i641; try clear k600
  have i715 : σ668.1 q652 0 = 0 := p672.2.1
  have i716 : σ668.1 q652 1 = -1 := p672.2.2
  try clear p672
  refine b_aast E S676 (t := 3) (Or.inr gg_q22) rfl (show vwCl[9]? = some (RX10, TX10, 3) from rfl) r684 (q_wcell D678 w673 k671 ⟨rfl, by decide⟩ (show vwCl[9]? = some (RX10, TX10, 3) from rfl)) (by decide) (by decide) dX11_init_154 (fun H717 locs1 z718 o719 r720 S721 => ?_)
  try clear r684; try clear S676
  have w722 : q_w X667 σ668 H717 := w673.kept (fun a ha => o719 a (fun e => ha (by rw [e]; exact k685)))
  try clear w673
  have b723 := b680.kept (o719 h (by first | exact (Nat.ne_of_lt hq22) | omega))
  try clear b680
  have t724 := t_lt b723
  try clear t681
  have r725 := (o719 q42 (by first | exact (Nat.ne_of_gt cc_q42) | omega)).trans r686
  try clear r686
  have r726 := (o719 q183 (by first | exact (Nat.ne_of_gt (Nat.lt_trans (Nat.lt_trans (Nat.lt_trans cc_q42 cc_q91) cc_q136) cc_q183)) | omega)).trans r688
  try clear o719; try clear r688
  refine lv_iinc (v := 4) (lv' := [(1, .int 4), (0, .ref h)]) hxx hb dX11_init_155 hl (k := 0) rfl (by decide) (by decide) rfl (fun ls hl => ?_)
  refine lv_goto (tgt := 137) hxx hb dX11_init_158 (by decide) ?_
  refine lv_iload_n hxx hb dX11_init_137 rfl (lv_at hl 0 rfl) ?_
  refine lv_iconst (v := 4) hxx hb dX11_init_138 (by decide) ?_
  refine lv_icmp_ge hxx hb dX11_init_139 (tgt := 161) (by decide) (fun _ => ?_) (fun q => absurd (by decide) q)
  refine lv_iconst (v := 0) hxx hb dX11_init_161 (by decide) ?_
  refine lv_istore_n (lv' := [(1, .int 0), (0, .ref h)]) hxx hb dX11_init_162 rfl hl (by decide) rfl (fun ls hl => ?_)
  refine lv_iload_n hxx hb dX11_init_163 rfl (lv_at hl 0 rfl) ?_
  refine lv_iconst (v := 3) hxx hb dX11_init_164 (by decide) ?_
  refine lv_icmp_ge hxx hb dX11_init_165 (tgt := 187) (by decide) (fun q => absurd q (by decide)) (fun _ => ?_)
  refine lv_aload_n hxx hb dX11_init_168 rfl (lv_at hl 1 rfl) ?_
  refine b_get E (f := 10) b723 (show vwCl[10]? = some (RX11, TX11, 17) from rfl) q_inX11 (by decide) bw_452 rfl (v := .ref q183) rfl dX11_init_169 ?_
  refine lv_iload_n hxx hb dX11_init_172 rfl (lv_at hl 0 rfl) ?_
  refine b_new E S721 bw_30 bw_31 bw_2 (show vwCl[0]? = some (RX0, TX0, 15) from rfl) q_inX0 tyX0 tyX0_ok (Nat.le_of_ble_eq_true rfl) (Nat.le_of_ble_eq_true rfl) dX11_init_173 (fun q727 H728 e729 z730 o731 b732 S733 => ?_)
  have hq727 : h < q727 := by first | exact Nat.lt_of_lt_of_eq t724 e729.symm | omega
  have gg_q727 : s.heap.size ≤ q727 := Nat.le_trans S721.1 (Nat.le_of_eq e729.symm)
  have mm_q727 : q727 < H728.size := by rw [z730, e729]; exact Nat.lt_succ_self _
  have cc_q727 : q652 < q727 := by first | exact Nat.lt_of_lt_of_eq (Nat.lt_of_lt_of_le (Nat.lt_of_lt_of_le mm_q652 z674) (Nat.le_of_eq z718.symm)) e729.symm | omega
  try clear S721
  have w734 : q_w X667 σ668 H728 := w722.kept (fun a ha => o731 a (w722.lt ha))
  have b735 := b723.kept (o731 h t724)
  try clear b723
  have t736 := t_lt b735
  try clear t724
  have r737 := (o731 q22 (raw_lt r720)).trans r720
  try clear r720
  have r738 := (o731 q42 (raw_lt r725)).trans r725
  try clear r725
  have r739 := (o731 q183 (raw_lt r726)).trans r726
  try clear o731; try clear r726
  have k740 : q_kd X667 q727 = 0 := w722.fresh (Nat.le_of_eq e729.symm)
  try clear w722
  have g741 := S733.1
  refine lv_dup hxx hb dX11_init_176 rfl ?_
  have a752 : ∀ a, q_nw q727 H728.size a → q_nw h s.heap.size a := nw_in gg_q727 (Nat.le_trans gg_q727 (Nat.le_of_lt mm_q727))
  refine b_cv (b_runN (As := []) (rest := [.ref q727, .int 0, .ref q183]) E (hml.trans hl.1.symm) D678 w734 k740 b732 rfl (n_X0 l D X667 σ668 q727 H728.size) bi_X11_41 rfl ⟨Nat.le_of_ble_eq_true rfl, Nat.le_of_ble_eq_true rfl⟩ ⟨Nat.le_of_ble_eq_true rfl, Nat.le_of_ble_eq_true rfl⟩ rfl (Nat.le_of_ble_eq_true rfl) dX11_init_177) S733 rfl a752 (fun X742 σ743 H744 locs1 x745 k746 p747 w748 z749 o750 S751 => ?_)
  try clear k740; try clear w734; try clear S733; try clear b732
  have D753 : X742.1 = D := x745.1.trans D678
  try clear D678
  have k754 : q_kd X742 h = 0 := x745.k0 k679 (by first | exact (nw_no hq727 (Nat.lt_trans hq727 mm_q727)) | (rintro (e | e) <;> omega))
  try clear k679
  have b755 := b735.kept (o750 h t736 (by first | exact (Nat.ne_of_lt hq727) | omega))
  try clear b735
  have t756 := t_lt b755
  try clear t736
  have y757 := y682.tr p747.1.1 (fun c hc => by rw [(x683.2.2.2.1 c hc).1]; exact hc)
  try clear y682
  have x758 := x683.tr x745 a752
  try clear x683
  have r759 := (o750 q22 (raw_lt r737) (by first | exact (Nat.ne_of_lt (Nat.lt_trans (Nat.lt_trans (Nat.lt_trans (Nat.lt_trans (Nat.lt_trans (Nat.lt_trans (Nat.lt_trans (Nat.lt_trans (Nat.lt_trans (Nat.lt_trans (Nat.lt_trans (Nat.lt_trans cc_q42 cc_q91) cc_q136) cc_q183) cc_q217) cc_q270) cc_q325) cc_q382) cc_q451) cc_q514) cc_q581) cc_q652) cc_q727)) | omega)).trans r737
  have k760 : q_kd X742 q22 = 0 := x745.k0 k685 (by first | exact (nw_no (Nat.lt_trans (Nat.lt_trans (Nat.lt_trans (Nat.lt_trans (Nat.lt_trans (Nat.lt_trans (Nat.lt_trans (Nat.lt_trans (Nat.lt_trans (Nat.lt_trans (Nat.lt_trans (Nat.lt_trans cc_q42 cc_q91) cc_q136) cc_q183) cc_q217) cc_q270) cc_q325) cc_q382) cc_q451) cc_q514) cc_q581) cc_q652) cc_q727) (Nat.lt_trans (Nat.lt_trans (Nat.lt_trans (Nat.lt_trans (Nat.lt_trans (Nat.lt_trans (Nat.lt_trans (Nat.lt_trans (Nat.lt_trans (Nat.lt_trans (Nat.lt_trans (Nat.lt_trans (Nat.lt_trans cc_q42 cc_q91) cc_q136) cc_q183) cc_q217) cc_q270) cc_q325) cc_q382) cc_q451) cc_q514) cc_q581) cc_q652) cc_q727) mm_q727)) | (have := raw_lt r737; rintro (e | e) <;> omega))
  try clear r737; try clear k685
  have r761 := (o750 q42 (raw_lt r738) (by first | exact (Nat.ne_of_lt (Nat.lt_trans (Nat.lt_trans (Nat.lt_trans (Nat.lt_trans (Nat.lt_trans (Nat.lt_trans (Nat.lt_trans (Nat.lt_trans (Nat.lt_trans (Nat.lt_trans (Nat.lt_trans cc_q91 cc_q136) cc_q183) cc_q217) cc_q270) cc_q325) cc_q382) cc_q451) cc_q514) cc_q581) cc_q652) cc_q727)) | omega)).trans r738
  have k762 : q_kd X742 q42 = 0 := x745.k0 k687 (by first | exact (nw_no (Nat.lt_trans (Nat.lt_trans (Nat.lt_trans (Nat.lt_trans (Nat.lt_trans (Nat.lt_trans (Nat.lt_trans (Nat.lt_trans (Nat.lt_trans (Nat.lt_trans (Nat.lt_trans cc_q91 cc_q136) cc_q183) cc_q217) cc_q270) cc_q325) cc_q382) cc_q451) cc_q514) cc_q581) cc_q652) cc_q727) (Nat.lt_trans (Nat.lt_trans (Nat.lt_trans (Nat.lt_trans (Nat.lt_trans (Nat.lt_trans (Nat.lt_trans (Nat.lt_trans (Nat.lt_trans (Nat.lt_trans (Nat.lt_trans (Nat.lt_trans cc_q91 cc_q136) cc_q183) cc_q217) cc_q270) cc_q325) cc_q382) cc_q451) cc_q514) cc_q581) cc_q652) cc_q727) mm_q727)) | (have := raw_lt r738; rintro (e | e) <;> omega))
  try clear r738; try clear k687
  have r763 := (o750 q183 (raw_lt r739) (by first | exact (Nat.ne_of_lt (Nat.lt_trans (Nat.lt_trans (Nat.lt_trans (Nat.lt_trans (Nat.lt_trans (Nat.lt_trans (Nat.lt_trans (Nat.lt_trans cc_q217 cc_q270) cc_q325) cc_q382) cc_q451) cc_q514) cc_q581) cc_q652) cc_q727)) | omega)).trans r739
  try clear o750
  have k764 : q_kd X742 q183 = 0 := x745.k0 k689 (by first | exact (nw_no (Nat.lt_trans (Nat.lt_trans (Nat.lt_trans (Nat.lt_trans (Nat.lt_trans (Nat.lt_trans (Nat.lt_trans (Nat.lt_trans cc_q217 cc_q270) cc_q325) cc_q382) cc_q451) cc_q514) cc_q581) cc_q652) cc_q727) (Nat.lt_trans (Nat.lt_trans (Nat.lt_trans (Nat.lt_trans (Nat.lt_trans (Nat.lt_trans (Nat.lt_trans (Nat.lt_trans (Nat.lt_trans cc_q217 cc_q270) cc_q325) cc_q382) cc_q451) cc_q514) cc_q581) cc_q652) cc_q727) mm_q727)) | (have := raw_lt r739; rintro (e | e) <;> omega))
  try clear r739; try clear k689
  have k765 := x745.kd k690 (by decide)
  have k766 := x745.kd k691 (by decide)
  have k767 := x745.kd k692 (by decide)
  have k768 := x745.kd k693 (by decide)
  have k769 := x745.kd k694 (by decide)
  have k770 := x745.kd k695 (by decide)
  have k771 := x745.kd k696 (by decide)
  have k772 := x745.kd k697 (by decide)
  have k773 := x745.kd k698 (by decide)
  have k774 := x745.kd k671 (by decide)
  have y775 := p747.1.1 q91 (by rw [k690]; decide) y699
  try clear y699; try clear k690
  have y776 := p747.1.1 q136 (by rw [k691]; decide) y700
  try clear y700; try clear k691
  have y777 := p747.1.1 q217 (by rw [k692]; decide) y701
  try clear y701; try clear k692
  have y778 := p747.1.1 q270 (by rw [k693]; decide) y702
  try clear y702; try clear k693
  have y779 := p747.1.1 q325 (by rw [k694]; decide) y703
  try clear y703; try clear k694
  have y780 := p747.1.1 q382 (by rw [k695]; decide) y704
  try clear y704; try clear k695
  have y781 := p747.1.1 q451 (by rw [k696]; decide) y705
  try clear y705
  have y782 := p747.1.1 q514 (by rw [k697]; decide) y706
  try clear y706
  have y783 := p747.1.1 q581 (by rw [k698]; decide) y707
  try clear y707
  have y784 := p747.1.1 q652 (by rw [k671]; decide) y708
  try clear y708
  have y785 := p747.1.2
  try clear p747
  have i786 : σ743.1 q451 0 = 0 := (q_exi x745 (by rw [k696]; decide)).trans i709
  try clear i709
  have i787 : σ743.1 q451 1 = -1 := (q_exi x745 (by rw [k696]; decide)).trans i710
  try clear i710; try clear k696
  have i788 : σ743.1 q514 0 = 0 := (q_exi x745 (by rw [k697]; decide)).trans i711
  try clear i711
  have i789 : σ743.1 q514 1 = -1 := (q_exi x745 (by rw [k697]; decide)).trans i712
  try clear i712; try clear k697
  have i790 : σ743.1 q581 0 = 0 := (q_exi x745 (by rw [k698]; decide)).trans i713
  try clear i713
  have i791 : σ743.1 q581 1 = -1 := (q_exi x745 (by rw [k698]; decide)).trans i714
  try clear i714; try clear k698
  have i792 : σ743.1 q652 0 = 0 := (q_exi x745 (by rw [k671]; decide)).trans i715
  try clear i715
  have i793 : σ743.1 q652 1 = -1 := (q_exi x745 (by rw [k671]; decide)).trans i716
  try clear x745; try clear i716; try clear k671
  refine b_aast E S751 (t := 4) (Or.inr gg_q183) rfl (show vwCl[0]? = some (RX0, TX0, 15) from rfl) r763 (q_wcell D753 w748 k746 ⟨rfl, by decide⟩ (show vwCl[0]? = some (RX0, TX0, 15) from rfl)) (by decide) (by decide) dX11_init_180 (fun H794 locs1 z795 o796 r797 S798 => ?_)
  try clear r763; try clear S751
  have w799 : q_w X742 σ743 H794 := w748.kept (fun a ha => o796 a (fun e => ha (by rw [e]; exact k764)))
  try clear w748
  have b800 := b755.kept (o796 h (by first | exact (Nat.ne_of_lt hq183) | omega))
  try clear b755
  have t801 := t_lt b800
  try clear t756
  have r802 := (o796 q22 (by first | exact (Nat.ne_of_lt (Nat.lt_trans (Nat.lt_trans (Nat.lt_trans cc_q42 cc_q91) cc_q136) cc_q183)) | omega)).trans r759
  try clear r759
  have r803 := (o796 q42 (by first | exact (Nat.ne_of_lt (Nat.lt_trans (Nat.lt_trans cc_q91 cc_q136) cc_q183)) | omega)).trans r761
  try clear o796; try clear r761
  refine lv_iinc (v := 1) (lv' := [(1, .int 1), (0, .ref h)]) hxx hb dX11_init_181 hl (k := 0) rfl (by decide) (by decide) rfl (fun ls hl => ?_)
  refine lv_goto (tgt := 163) hxx hb dX11_init_184 (by decide) ?_
  refine lv_iload_n hxx hb dX11_init_163 rfl (lv_at hl 0 rfl) ?_
  refine lv_iconst (v := 3) hxx hb dX11_init_164 (by decide) ?_
  refine lv_icmp_ge hxx hb dX11_init_165 (tgt := 187) (by decide) (fun q => absurd q (by decide)) (fun _ => ?_)
  refine lv_aload_n hxx hb dX11_init_168 rfl (lv_at hl 1 rfl) ?_
  refine b_get E (f := 10) b800 (show vwCl[10]? = some (RX11, TX11, 17) from rfl) q_inX11 (by decide) bw_452 rfl (v := .ref q183) rfl dX11_init_169 ?_
  refine lv_iload_n hxx hb dX11_init_172 rfl (lv_at hl 0 rfl) ?_
  refine b_new E S798 bw_30 bw_31 bw_2 (show vwCl[0]? = some (RX0, TX0, 15) from rfl) q_inX0 tyX0 tyX0_ok (Nat.le_of_ble_eq_true rfl) (Nat.le_of_ble_eq_true rfl) dX11_init_173 (fun q804 H805 e806 z807 o808 b809 S810 => ?_)
  have hq804 : h < q804 := by first | exact Nat.lt_of_lt_of_eq t801 e806.symm | omega
  have gg_q804 : s.heap.size ≤ q804 := Nat.le_trans S798.1 (Nat.le_of_eq e806.symm)
  have mm_q804 : q804 < H805.size := by rw [z807, e806]; exact Nat.lt_succ_self _
  have cc_q804 : q727 < q804 := by first | exact Nat.lt_of_lt_of_eq (Nat.lt_of_lt_of_le (Nat.lt_of_lt_of_le mm_q727 z749) (Nat.le_of_eq z795.symm)) e806.symm | omega
  try clear S798
  have w811 : q_w X742 σ743 H805 := w799.kept (fun a ha => o808 a (w799.lt ha))
  have b812 := b800.kept (o808 h t801)
  try clear b800
  have t813 := t_lt b812
  try clear t801
  have r814 := (o808 q22 (raw_lt r802)).trans r802
  try clear r802
  have r815 := (o808 q42 (raw_lt r803)).trans r803
  try clear r803
  have r816 := (o808 q183 (raw_lt r797)).trans r797
  try clear o808; try clear r797
  have k817 : q_kd X742 q804 = 0 := w799.fresh (Nat.le_of_eq e806.symm)
  try clear w799
  have g818 := S810.1
  refine lv_dup hxx hb dX11_init_176 rfl ?_
  have a829 : ∀ a, q_nw q804 H805.size a → q_nw h s.heap.size a := nw_in gg_q804 (Nat.le_trans gg_q804 (Nat.le_of_lt mm_q804))
  refine b_cv (b_runN (As := []) (rest := [.ref q804, .int 1, .ref q183]) E (hml.trans hl.1.symm) D753 w811 k817 b809 rfl (n_X0 l D X742 σ743 q804 H805.size) bi_X11_41 rfl ⟨Nat.le_of_ble_eq_true rfl, Nat.le_of_ble_eq_true rfl⟩ ⟨Nat.le_of_ble_eq_true rfl, Nat.le_of_ble_eq_true rfl⟩ rfl (Nat.le_of_ble_eq_true rfl) dX11_init_177) S810 rfl a829 (fun X819 σ820 H821 locs1 x822 k823 p824 w825 z826 o827 S828 => ?_)
  try clear k817; try clear w811; try clear S810; try clear b809
  have D830 : X819.1 = D := x822.1.trans D753
  try clear D753
  have k831 : q_kd X819 h = 0 := x822.k0 k754 (by first | exact (nw_no hq804 (Nat.lt_trans hq804 mm_q804)) | (rintro (e | e) <;> omega))
  try clear k754
  have b832 := b812.kept (o827 h t813 (by first | exact (Nat.ne_of_lt hq804) | omega))
  try clear b812
  have t833 := t_lt b832
  try clear t813
  have y834 := y757.tr p824.1.1 (fun c hc => by rw [(x758.2.2.2.1 c hc).1]; exact hc)
  try clear y757
  have x835 := x758.tr x822 a829
  try clear x758
  have r836 := (o827 q22 (raw_lt r814) (by first | exact (Nat.ne_of_lt (Nat.lt_trans (Nat.lt_trans (Nat.lt_trans (Nat.lt_trans (Nat.lt_trans (Nat.lt_trans (Nat.lt_trans (Nat.lt_trans (Nat.lt_trans (Nat.lt_trans (Nat.lt_trans (Nat.lt_trans (Nat.lt_trans cc_q42 cc_q91) cc_q136) cc_q183) cc_q217) cc_q270) cc_q325) cc_q382) cc_q451) cc_q514) cc_q581) cc_q652) cc_q727) cc_q804)) | omega)).trans r814
  have k837 : q_kd X819 q22 = 0 := x822.k0 k760 (by first | exact (nw_no (Nat.lt_trans (Nat.lt_trans (Nat.lt_trans (Nat.lt_trans (Nat.lt_trans (Nat.lt_trans (Nat.lt_trans (Nat.lt_trans (Nat.lt_trans (Nat.lt_trans (Nat.lt_trans (Nat.lt_trans (Nat.lt_trans cc_q42 cc_q91) cc_q136) cc_q183) cc_q217) cc_q270) cc_q325) cc_q382) cc_q451) cc_q514) cc_q581) cc_q652) cc_q727) cc_q804) (Nat.lt_trans (Nat.lt_trans (Nat.lt_trans (Nat.lt_trans (Nat.lt_trans (Nat.lt_trans (Nat.lt_trans (Nat.lt_trans (Nat.lt_trans (Nat.lt_trans (Nat.lt_trans (Nat.lt_trans (Nat.lt_trans (Nat.lt_trans cc_q42 cc_q91) cc_q136) cc_q183) cc_q217) cc_q270) cc_q325) cc_q382) cc_q451) cc_q514) cc_q581) cc_q652) cc_q727) cc_q804) mm_q804)) | (have := raw_lt r814; rintro (e | e) <;> omega))
  try clear r814; try clear k760
  have r838 := (o827 q42 (raw_lt r815) (by first | exact (Nat.ne_of_lt (Nat.lt_trans (Nat.lt_trans (Nat.lt_trans (Nat.lt_trans (Nat.lt_trans (Nat.lt_trans (Nat.lt_trans (Nat.lt_trans (Nat.lt_trans (Nat.lt_trans (Nat.lt_trans (Nat.lt_trans cc_q91 cc_q136) cc_q183) cc_q217) cc_q270) cc_q325) cc_q382) cc_q451) cc_q514) cc_q581) cc_q652) cc_q727) cc_q804)) | omega)).trans r815
  have k839 : q_kd X819 q42 = 0 := x822.k0 k762 (by first | exact (nw_no (Nat.lt_trans (Nat.lt_trans (Nat.lt_trans (Nat.lt_trans (Nat.lt_trans (Nat.lt_trans (Nat.lt_trans (Nat.lt_trans (Nat.lt_trans (Nat.lt_trans (Nat.lt_trans (Nat.lt_trans cc_q91 cc_q136) cc_q183) cc_q217) cc_q270) cc_q325) cc_q382) cc_q451) cc_q514) cc_q581) cc_q652) cc_q727) cc_q804) (Nat.lt_trans (Nat.lt_trans (Nat.lt_trans (Nat.lt_trans (Nat.lt_trans (Nat.lt_trans (Nat.lt_trans (Nat.lt_trans (Nat.lt_trans (Nat.lt_trans (Nat.lt_trans (Nat.lt_trans (Nat.lt_trans cc_q91 cc_q136) cc_q183) cc_q217) cc_q270) cc_q325) cc_q382) cc_q451) cc_q514) cc_q581) cc_q652) cc_q727) cc_q804) mm_q804)) | (have := raw_lt r815; rintro (e | e) <;> omega))
  try clear r815; try clear k762
  have r840 := (o827 q183 (raw_lt r816) (by first | exact (Nat.ne_of_lt (Nat.lt_trans (Nat.lt_trans (Nat.lt_trans (Nat.lt_trans (Nat.lt_trans (Nat.lt_trans (Nat.lt_trans (Nat.lt_trans (Nat.lt_trans cc_q217 cc_q270) cc_q325) cc_q382) cc_q451) cc_q514) cc_q581) cc_q652) cc_q727) cc_q804)) | omega)).trans r816
  try clear o827
  have k841 : q_kd X819 q183 = 0 := x822.k0 k764 (by first | exact (nw_no (Nat.lt_trans (Nat.lt_trans (Nat.lt_trans (Nat.lt_trans (Nat.lt_trans (Nat.lt_trans (Nat.lt_trans (Nat.lt_trans (Nat.lt_trans cc_q217 cc_q270) cc_q325) cc_q382) cc_q451) cc_q514) cc_q581) cc_q652) cc_q727) cc_q804) (Nat.lt_trans (Nat.lt_trans (Nat.lt_trans (Nat.lt_trans (Nat.lt_trans (Nat.lt_trans (Nat.lt_trans (Nat.lt_trans (Nat.lt_trans (Nat.lt_trans cc_q217 cc_q270) cc_q325) cc_q382) cc_q451) cc_q514) cc_q581) cc_q652) cc_q727) cc_q804) mm_q804)) | (have := raw_lt r816; rintro (e | e) <;> omega))
  try clear r816; try clear k764
  have k842 := x822.kd k765 (by decide)
  have k843 := x822.kd k766 (by decide)
  have k844 := x822.kd k767 (by decide)
  have k845 := x822.kd k768 (by decide)
  have k846 := x822.kd k769 (by decide)
  have k847 := x822.kd k770 (by decide)
  have k848 := x822.kd k771 (by decide)
  have k849 := x822.kd k772 (by decide)
  have k850 := x822.kd k773 (by decide)
  have k851 := x822.kd k774 (by decide)
  have k852 := x822.kd k746 (by decide)
  have y853 := p824.1.1 q91 (by rw [k765]; decide) y775
  try clear y775; try clear k765
  have y854 := p824.1.1 q136 (by rw [k766]; decide) y776
  try clear y776; try clear k766
  have y855 := p824.1.1 q217 (by rw [k767]; decide) y777
  try clear y777; try clear k767
  have y856 := p824.1.1 q270 (by rw [k768]; decide) y778
  try clear y778; try clear k768
  have y857 := p824.1.1 q325 (by rw [k769]; decide) y779
  try clear y779; try clear k769
  have y858 := p824.1.1 q382 (by rw [k770]; decide) y780
  try clear y780; try clear k770
  have y859 := p824.1.1 q451 (by rw [k771]; decide) y781
  try clear y781
  have y860 := p824.1.1 q514 (by rw [k772]; decide) y782
  try clear y782
  have y861 := p824.1.1 q581 (by rw [k773]; decide) y783
  try clear y783
  have y862 := p824.1.1 q652 (by rw [k774]; decide) y784
  try clear y784
  have y863 := p824.1.1 q727 (by rw [k746]; decide) y785
  try clear y785; try clear k746
  have y864 := p824.1.2
  try clear p824
  have i865 : σ820.1 q451 0 = 0 := (q_exi x822 (by rw [k771]; decide)).trans i786
  try clear i786
  have i866 : σ820.1 q451 1 = -1 := (q_exi x822 (by rw [k771]; decide)).trans i787
  try clear i787; try clear k771
  have i867 : σ820.1 q514 0 = 0 := (q_exi x822 (by rw [k772]; decide)).trans i788
  try clear i788
  have i868 : σ820.1 q514 1 = -1 := (q_exi x822 (by rw [k772]; decide)).trans i789
  try clear i789; try clear k772
  have i869 : σ820.1 q581 0 = 0 := (q_exi x822 (by rw [k773]; decide)).trans i790
  try clear i790
  have i870 : σ820.1 q581 1 = -1 := (q_exi x822 (by rw [k773]; decide)).trans i791
  try clear i791; try clear k773
  have i871 : σ820.1 q652 0 = 0 := (q_exi x822 (by rw [k774]; decide)).trans i792
  try clear i792
  have i872 : σ820.1 q652 1 = -1 := (q_exi x822 (by rw [k774]; decide)).trans i793
  try clear x822; try clear i793; try clear k774
  refine b_aast E S828 (t := 4) (Or.inr gg_q183) rfl (show vwCl[0]? = some (RX0, TX0, 15) from rfl) r840 (q_wcell D830 w825 k823 ⟨rfl, by decide⟩ (show vwCl[0]? = some (RX0, TX0, 15) from rfl)) (by decide) (by decide) dX11_init_180 (fun H873 locs1 z874 o875 r876 S877 => ?_)
  try clear r840; try clear S828
  have w878 : q_w X819 σ820 H873 := w825.kept (fun a ha => o875 a (fun e => ha (by rw [e]; exact k841)))
  try clear w825
  have b879 := b832.kept (o875 h (by first | exact (Nat.ne_of_lt hq183) | omega))
  try clear b832
  have t880 := t_lt b879
  try clear t833
  have r881 := (o875 q22 (by first | exact (Nat.ne_of_lt (Nat.lt_trans (Nat.lt_trans (Nat.lt_trans cc_q42 cc_q91) cc_q136) cc_q183)) | omega)).trans r836
  try clear r836
  have r882 := (o875 q42 (by first | exact (Nat.ne_of_lt (Nat.lt_trans (Nat.lt_trans cc_q91 cc_q136) cc_q183)) | omega)).trans r838
  try clear o875; try clear r838
  refine lv_iinc (v := 2) (lv' := [(1, .int 2), (0, .ref h)]) hxx hb dX11_init_181 hl (k := 0) rfl (by decide) (by decide) rfl (fun ls hl => ?_)
  refine lv_goto (tgt := 163) hxx hb dX11_init_184 (by decide) ?_
  refine lv_iload_n hxx hb dX11_init_163 rfl (lv_at hl 0 rfl) ?_
  refine lv_iconst (v := 3) hxx hb dX11_init_164 (by decide) ?_
  refine lv_icmp_ge hxx hb dX11_init_165 (tgt := 187) (by decide) (fun q => absurd q (by decide)) (fun _ => ?_)
  refine lv_aload_n hxx hb dX11_init_168 rfl (lv_at hl 1 rfl) ?_
  refine b_get E (f := 10) b879 (show vwCl[10]? = some (RX11, TX11, 17) from rfl) q_inX11 (by decide) bw_452 rfl (v := .ref q183) rfl dX11_init_169 ?_
  refine lv_iload_n hxx hb dX11_init_172 rfl (lv_at hl 0 rfl) ?_
  refine b_new E S877 bw_30 bw_31 bw_2 (show vwCl[0]? = some (RX0, TX0, 15) from rfl) q_inX0 tyX0 tyX0_ok (Nat.le_of_ble_eq_true rfl) (Nat.le_of_ble_eq_true rfl) dX11_init_173 (fun q883 H884 e885 z886 o887 b888 S889 => ?_)
  have hq883 : h < q883 := by first | exact Nat.lt_of_lt_of_eq t880 e885.symm | omega
  have gg_q883 : s.heap.size ≤ q883 := Nat.le_trans S877.1 (Nat.le_of_eq e885.symm)
  have mm_q883 : q883 < H884.size := by rw [z886, e885]; exact Nat.lt_succ_self _
  have cc_q883 : q804 < q883 := by first | exact Nat.lt_of_lt_of_eq (Nat.lt_of_lt_of_le (Nat.lt_of_lt_of_le mm_q804 z826) (Nat.le_of_eq z874.symm)) e885.symm | omega
  try clear S877
  have w890 : q_w X819 σ820 H884 := w878.kept (fun a ha => o887 a (w878.lt ha))
  have b891 := b879.kept (o887 h t880)
  try clear b879
  have t892 := t_lt b891
  try clear t880
  have r893 := (o887 q22 (raw_lt r881)).trans r881
  try clear r881
  have r894 := (o887 q42 (raw_lt r882)).trans r882
  try clear r882
  have r895 := (o887 q183 (raw_lt r876)).trans r876
  try clear o887; try clear r876
  have k896 : q_kd X819 q883 = 0 := w878.fresh (Nat.le_of_eq e885.symm)
  try clear w878
  have g897 := S889.1
  refine lv_dup hxx hb dX11_init_176 rfl ?_
  have a908 : ∀ a, q_nw q883 H884.size a → q_nw h s.heap.size a := nw_in gg_q883 (Nat.le_trans gg_q883 (Nat.le_of_lt mm_q883))
  refine b_cv (b_runN (As := []) (rest := [.ref q883, .int 2, .ref q183]) E (hml.trans hl.1.symm) D830 w890 k896 b888 rfl (n_X0 l D X819 σ820 q883 H884.size) bi_X11_41 rfl ⟨Nat.le_of_ble_eq_true rfl, Nat.le_of_ble_eq_true rfl⟩ ⟨Nat.le_of_ble_eq_true rfl, Nat.le_of_ble_eq_true rfl⟩ rfl (Nat.le_of_ble_eq_true rfl) dX11_init_177) S889 rfl a908 (fun X898 σ899 H900 locs1 x901 k902 p903 w904 z905 o906 S907 => ?_)
  try clear k896; try clear w890; try clear S889; try clear b888
  have D909 : X898.1 = D := x901.1.trans D830
  try clear D830
  have k910 : q_kd X898 h = 0 := x901.k0 k831 (by first | exact (nw_no hq883 (Nat.lt_trans hq883 mm_q883)) | (rintro (e | e) <;> omega))
  try clear k831
  have b911 := b891.kept (o906 h t892 (by first | exact (Nat.ne_of_lt hq883) | omega))
  try clear b891
  have t912 := t_lt b911
  try clear t892
  have y913 := y834.tr p903.1.1 (fun c hc => by rw [(x835.2.2.2.1 c hc).1]; exact hc)
  try clear y834
  have x914 := x835.tr x901 a908
  try clear x835
  have r915 := (o906 q22 (raw_lt r893) (by first | exact (Nat.ne_of_lt (Nat.lt_trans (Nat.lt_trans (Nat.lt_trans (Nat.lt_trans (Nat.lt_trans (Nat.lt_trans (Nat.lt_trans (Nat.lt_trans (Nat.lt_trans (Nat.lt_trans (Nat.lt_trans (Nat.lt_trans (Nat.lt_trans (Nat.lt_trans cc_q42 cc_q91) cc_q136) cc_q183) cc_q217) cc_q270) cc_q325) cc_q382) cc_q451) cc_q514) cc_q581) cc_q652) cc_q727) cc_q804) cc_q883)) | omega)).trans r893
  have k916 : q_kd X898 q22 = 0 := x901.k0 k837 (by first | exact (nw_no (Nat.lt_trans (Nat.lt_trans (Nat.lt_trans (Nat.lt_trans (Nat.lt_trans (Nat.lt_trans (Nat.lt_trans (Nat.lt_trans (Nat.lt_trans (Nat.lt_trans (Nat.lt_trans (Nat.lt_trans (Nat.lt_trans (Nat.lt_trans cc_q42 cc_q91) cc_q136) cc_q183) cc_q217) cc_q270) cc_q325) cc_q382) cc_q451) cc_q514) cc_q581) cc_q652) cc_q727) cc_q804) cc_q883) (Nat.lt_trans (Nat.lt_trans (Nat.lt_trans (Nat.lt_trans (Nat.lt_trans (Nat.lt_trans (Nat.lt_trans (Nat.lt_trans (Nat.lt_trans (Nat.lt_trans (Nat.lt_trans (Nat.lt_trans (Nat.lt_trans (Nat.lt_trans (Nat.lt_trans cc_q42 cc_q91) cc_q136) cc_q183) cc_q217) cc_q270) cc_q325) cc_q382) cc_q451) cc_q514) cc_q581) cc_q652) cc_q727) cc_q804) cc_q883) mm_q883)) | (have := raw_lt r893; rintro (e | e) <;> omega))
  try clear r893; try clear k837
  have r917 := (o906 q42 (raw_lt r894) (by first | exact (Nat.ne_of_lt (Nat.lt_trans (Nat.lt_trans (Nat.lt_trans (Nat.lt_trans (Nat.lt_trans (Nat.lt_trans (Nat.lt_trans (Nat.lt_trans (Nat.lt_trans (Nat.lt_trans (Nat.lt_trans (Nat.lt_trans (Nat.lt_trans cc_q91 cc_q136) cc_q183) cc_q217) cc_q270) cc_q325) cc_q382) cc_q451) cc_q514) cc_q581) cc_q652) cc_q727) cc_q804) cc_q883)) | omega)).trans r894
  have k918 : q_kd X898 q42 = 0 := x901.k0 k839 (by first | exact (nw_no (Nat.lt_trans (Nat.lt_trans (Nat.lt_trans (Nat.lt_trans (Nat.lt_trans (Nat.lt_trans (Nat.lt_trans (Nat.lt_trans (Nat.lt_trans (Nat.lt_trans (Nat.lt_trans (Nat.lt_trans (Nat.lt_trans cc_q91 cc_q136) cc_q183) cc_q217) cc_q270) cc_q325) cc_q382) cc_q451) cc_q514) cc_q581) cc_q652) cc_q727) cc_q804) cc_q883) (Nat.lt_trans (Nat.lt_trans (Nat.lt_trans (Nat.lt_trans (Nat.lt_trans (Nat.lt_trans (Nat.lt_trans (Nat.lt_trans (Nat.lt_trans (Nat.lt_trans (Nat.lt_trans (Nat.lt_trans (Nat.lt_trans (Nat.lt_trans cc_q91 cc_q136) cc_q183) cc_q217) cc_q270) cc_q325) cc_q382) cc_q451) cc_q514) cc_q581) cc_q652) cc_q727) cc_q804) cc_q883) mm_q883)) | (have := raw_lt r894; rintro (e | e) <;> omega))
  try clear r894; try clear k839
  have r919 := (o906 q183 (raw_lt r895) (by first | exact (Nat.ne_of_lt (Nat.lt_trans (Nat.lt_trans (Nat.lt_trans (Nat.lt_trans (Nat.lt_trans (Nat.lt_trans (Nat.lt_trans (Nat.lt_trans (Nat.lt_trans (Nat.lt_trans cc_q217 cc_q270) cc_q325) cc_q382) cc_q451) cc_q514) cc_q581) cc_q652) cc_q727) cc_q804) cc_q883)) | omega)).trans r895
  try clear o906
  have k920 : q_kd X898 q183 = 0 := x901.k0 k841 (by first | exact (nw_no (Nat.lt_trans (Nat.lt_trans (Nat.lt_trans (Nat.lt_trans (Nat.lt_trans (Nat.lt_trans (Nat.lt_trans (Nat.lt_trans (Nat.lt_trans (Nat.lt_trans cc_q217 cc_q270) cc_q325) cc_q382) cc_q451) cc_q514) cc_q581) cc_q652) cc_q727) cc_q804) cc_q883) (Nat.lt_trans (Nat.lt_trans (Nat.lt_trans (Nat.lt_trans (Nat.lt_trans (Nat.lt_trans (Nat.lt_trans (Nat.lt_trans (Nat.lt_trans (Nat.lt_trans (Nat.lt_trans cc_q217 cc_q270) cc_q325) cc_q382) cc_q451) cc_q514) cc_q581) cc_q652) cc_q727) cc_q804) cc_q883) mm_q883)) | (have := raw_lt r895; rintro (e | e) <;> omega))
  try clear r895; try clear k841
  have k921 := x901.kd k842 (by decide)
  have k922 := x901.kd k843 (by decide)
  have k923 := x901.kd k844 (by decide)
  have k924 := x901.kd k845 (by decide)
  have k925 := x901.kd k846 (by decide)
  have k926 := x901.kd k847 (by decide)
  have k927 := x901.kd k848 (by decide)
  have k928 := x901.kd k849 (by decide)
  have k929 := x901.kd k850 (by decide)
  have k930 := x901.kd k851 (by decide)
  have k931 := x901.kd k852 (by decide)
  have k932 := x901.kd k823 (by decide)
  have y933 := p903.1.1 q91 (by rw [k842]; decide) y853
  try clear y853; try clear k842
  have y934 := p903.1.1 q136 (by rw [k843]; decide) y854
  try clear y854; try clear k843
  have y935 := p903.1.1 q217 (by rw [k844]; decide) y855
  try clear y855; try clear k844
  have y936 := p903.1.1 q270 (by rw [k845]; decide) y856
  try clear y856; try clear k845
  have y937 := p903.1.1 q325 (by rw [k846]; decide) y857
  try clear y857; try clear k846
  have y938 := p903.1.1 q382 (by rw [k847]; decide) y858
  try clear y858; try clear k847
  have y939 := p903.1.1 q451 (by rw [k848]; decide) y859
  try clear y859
  have y940 := p903.1.1 q514 (by rw [k849]; decide) y860
  try clear y860
  have y941 := p903.1.1 q581 (by rw [k850]; decide) y861
  try clear y861
  have y942 := p903.1.1 q652 (by rw [k851]; decide) y862
  try clear y862
  have y943 := p903.1.1 q727 (by rw [k852]; decide) y863
  try clear y863; try clear k852
  have y944 := p903.1.1 q804 (by rw [k823]; decide) y864
  try clear y864; try clear k823
  have y945 := p903.1.2
  try clear p903
  have i946 : σ899.1 q451 0 = 0 := (q_exi x901 (by rw [k848]; decide)).trans i865
  try clear i865
  have i947 : σ899.1 q451 1 = -1 := (q_exi x901 (by rw [k848]; decide)).trans i866
  try clear i866; try clear k848
  have i948 : σ899.1 q514 0 = 0 := (q_exi x901 (by rw [k849]; decide)).trans i867
  try clear i867
  have i949 : σ899.1 q514 1 = -1 := (q_exi x901 (by rw [k849]; decide)).trans i868
  try clear i868; try clear k849
  have i950 : σ899.1 q581 0 = 0 := (q_exi x901 (by rw [k850]; decide)).trans i869
  try clear i869
  have i951 : σ899.1 q581 1 = -1 := (q_exi x901 (by rw [k850]; decide)).trans i870
  try clear i870; try clear k850
  have i952 : σ899.1 q652 0 = 0 := (q_exi x901 (by rw [k851]; decide)).trans i871
  try clear i871
  have i953 : σ899.1 q652 1 = -1 := (q_exi x901 (by rw [k851]; decide)).trans i872
  try clear x901; try clear i872; try clear k851
  refine b_aast E S907 (t := 4) (Or.inr gg_q183) rfl (show vwCl[0]? = some (RX0, TX0, 15) from rfl) r919 (q_wcell D909 w904 k902 ⟨rfl, by decide⟩ (show vwCl[0]? = some (RX0, TX0, 15) from rfl)) (by decide) (by decide) dX11_init_180 (fun H954 locs1 z955 o956 r957 S958 => ?_)
  try clear r919; try clear S907
  have w959 : q_w X898 σ899 H954 := w904.kept (fun a ha => o956 a (fun e => ha (by rw [e]; exact k920)))
  try clear w904
  have b960 := b911.kept (o956 h (by first | exact (Nat.ne_of_lt hq183) | omega))
  try clear b911
  have t961 := t_lt b960
  try clear t912
  have r962 := (o956 q22 (by first | exact (Nat.ne_of_lt (Nat.lt_trans (Nat.lt_trans (Nat.lt_trans cc_q42 cc_q91) cc_q136) cc_q183)) | omega)).trans r915
  try clear r915
  have r963 := (o956 q42 (by first | exact (Nat.ne_of_lt (Nat.lt_trans (Nat.lt_trans cc_q91 cc_q136) cc_q183)) | omega)).trans r917
  try clear o956; try clear r917
  refine lv_iinc (v := 3) (lv' := [(1, .int 3), (0, .ref h)]) hxx hb dX11_init_181 hl (k := 0) rfl (by decide) (by decide) rfl (fun ls hl => ?_)
  refine lv_goto (tgt := 163) hxx hb dX11_init_184 (by decide) ?_
  refine lv_iload_n hxx hb dX11_init_163 rfl (lv_at hl 0 rfl) ?_
  refine lv_iconst (v := 3) hxx hb dX11_init_164 (by decide) ?_
  refine lv_icmp_ge hxx hb dX11_init_165 (tgt := 187) (by decide) (fun _ => ?_) (fun q => absurd (by decide) q)
  have y968 := raw_lt r962
  try clear y968
  obtain ⟨X964, dX964⟩ : ∃ Y, Y = q_xg X898 q22 23 4 (fun j => ([q451, q514, q581, q652] : List Nat).getD j 0) := ⟨_, rfl⟩
  obtain ⟨σ965, dσ965⟩ : ∃ τ, τ = q_sg σ899 q22 (fun _ => 0) (fun _ => 0) 0 := ⟨_, rfl⟩
  have x966 : q_ext (fun a => a = q22) X898 X964 σ899 σ965 := by rw [dX964, dσ965]; exact q_ext.add k916
  have r969 : H954[q22]? = some (arrV (D.2 3) 4 (fun j => .ref (([q451, q514, q581, q652] : List Nat).getD j 0))) := by
    rw [r962]
    exact congrArg some (q_arr_eq (fun j hj => match j, hj with | 0, _ => rfl | 1, _ => rfl | 2, _ => rfl | 3, _ => rfl | (n + 4), hj => absurd hj (Nat.not_lt_of_ge (Nat.le_add_left 4 n))))
  try clear r962
  have y970 : y_root X964 q91 := by rw [dX964]; exact y933.add y_xg (fun f hf => match f, hf with | 0, _ => (show q451 ≠ q91 from (Nat.ne_of_gt (Nat.lt_trans (Nat.lt_trans (Nat.lt_trans (Nat.lt_trans (Nat.lt_trans (Nat.lt_trans cc_q136 cc_q183) cc_q217) cc_q270) cc_q325) cc_q382) cc_q451))) | 1, _ => (show q514 ≠ q91 from (Nat.ne_of_gt (Nat.lt_trans (Nat.lt_trans (Nat.lt_trans (Nat.lt_trans (Nat.lt_trans (Nat.lt_trans (Nat.lt_trans cc_q136 cc_q183) cc_q217) cc_q270) cc_q325) cc_q382) cc_q451) cc_q514))) | 2, _ => (show q581 ≠ q91 from (Nat.ne_of_gt (Nat.lt_trans (Nat.lt_trans (Nat.lt_trans (Nat.lt_trans (Nat.lt_trans (Nat.lt_trans (Nat.lt_trans (Nat.lt_trans cc_q136 cc_q183) cc_q217) cc_q270) cc_q325) cc_q382) cc_q451) cc_q514) cc_q581))) | 3, _ => (show q652 ≠ q91 from (Nat.ne_of_gt (Nat.lt_trans (Nat.lt_trans (Nat.lt_trans (Nat.lt_trans (Nat.lt_trans (Nat.lt_trans (Nat.lt_trans (Nat.lt_trans (Nat.lt_trans cc_q136 cc_q183) cc_q217) cc_q270) cc_q325) cc_q382) cc_q451) cc_q514) cc_q581) cc_q652))) | (n + 4), hf => absurd (by unfold q_rk; rfl) hf)
  try clear y933
  have y971 : y_root X964 q136 := by rw [dX964]; exact y934.add y_xg (fun f hf => match f, hf with | 0, _ => (show q451 ≠ q136 from (Nat.ne_of_gt (Nat.lt_trans (Nat.lt_trans (Nat.lt_trans (Nat.lt_trans (Nat.lt_trans cc_q183 cc_q217) cc_q270) cc_q325) cc_q382) cc_q451))) | 1, _ => (show q514 ≠ q136 from (Nat.ne_of_gt (Nat.lt_trans (Nat.lt_trans (Nat.lt_trans (Nat.lt_trans (Nat.lt_trans (Nat.lt_trans cc_q183 cc_q217) cc_q270) cc_q325) cc_q382) cc_q451) cc_q514))) | 2, _ => (show q581 ≠ q136 from (Nat.ne_of_gt (Nat.lt_trans (Nat.lt_trans (Nat.lt_trans (Nat.lt_trans (Nat.lt_trans (Nat.lt_trans (Nat.lt_trans cc_q183 cc_q217) cc_q270) cc_q325) cc_q382) cc_q451) cc_q514) cc_q581))) | 3, _ => (show q652 ≠ q136 from (Nat.ne_of_gt (Nat.lt_trans (Nat.lt_trans (Nat.lt_trans (Nat.lt_trans (Nat.lt_trans (Nat.lt_trans (Nat.lt_trans (Nat.lt_trans cc_q183 cc_q217) cc_q270) cc_q325) cc_q382) cc_q451) cc_q514) cc_q581) cc_q652))) | (n + 4), hf => absurd (by unfold q_rk; rfl) hf)
  try clear y934
  have y972 : y_root X964 q217 := by rw [dX964]; exact y935.add y_xg (fun f hf => match f, hf with | 0, _ => (show q451 ≠ q217 from (Nat.ne_of_gt (Nat.lt_trans (Nat.lt_trans (Nat.lt_trans cc_q270 cc_q325) cc_q382) cc_q451))) | 1, _ => (show q514 ≠ q217 from (Nat.ne_of_gt (Nat.lt_trans (Nat.lt_trans (Nat.lt_trans (Nat.lt_trans cc_q270 cc_q325) cc_q382) cc_q451) cc_q514))) | 2, _ => (show q581 ≠ q217 from (Nat.ne_of_gt (Nat.lt_trans (Nat.lt_trans (Nat.lt_trans (Nat.lt_trans (Nat.lt_trans cc_q270 cc_q325) cc_q382) cc_q451) cc_q514) cc_q581))) | 3, _ => (show q652 ≠ q217 from (Nat.ne_of_gt (Nat.lt_trans (Nat.lt_trans (Nat.lt_trans (Nat.lt_trans (Nat.lt_trans (Nat.lt_trans cc_q270 cc_q325) cc_q382) cc_q451) cc_q514) cc_q581) cc_q652))) | (n + 4), hf => absurd (by unfold q_rk; rfl) hf)
  try clear y935
  have y973 : y_root X964 q270 := by rw [dX964]; exact y936.add y_xg (fun f hf => match f, hf with | 0, _ => (show q451 ≠ q270 from (Nat.ne_of_gt (Nat.lt_trans (Nat.lt_trans cc_q325 cc_q382) cc_q451))) | 1, _ => (show q514 ≠ q270 from (Nat.ne_of_gt (Nat.lt_trans (Nat.lt_trans (Nat.lt_trans cc_q325 cc_q382) cc_q451) cc_q514))) | 2, _ => (show q581 ≠ q270 from (Nat.ne_of_gt (Nat.lt_trans (Nat.lt_trans (Nat.lt_trans (Nat.lt_trans cc_q325 cc_q382) cc_q451) cc_q514) cc_q581))) | 3, _ => (show q652 ≠ q270 from (Nat.ne_of_gt (Nat.lt_trans (Nat.lt_trans (Nat.lt_trans (Nat.lt_trans (Nat.lt_trans cc_q325 cc_q382) cc_q451) cc_q514) cc_q581) cc_q652))) | (n + 4), hf => absurd (by unfold q_rk; rfl) hf)
  try clear y936
  have y974 : y_root X964 q325 := by rw [dX964]; exact y937.add y_xg (fun f hf => match f, hf with | 0, _ => (show q451 ≠ q325 from (Nat.ne_of_gt (Nat.lt_trans cc_q382 cc_q451))) | 1, _ => (show q514 ≠ q325 from (Nat.ne_of_gt (Nat.lt_trans (Nat.lt_trans cc_q382 cc_q451) cc_q514))) | 2, _ => (show q581 ≠ q325 from (Nat.ne_of_gt (Nat.lt_trans (Nat.lt_trans (Nat.lt_trans cc_q382 cc_q451) cc_q514) cc_q581))) | 3, _ => (show q652 ≠ q325 from (Nat.ne_of_gt (Nat.lt_trans (Nat.lt_trans (Nat.lt_trans (Nat.lt_trans cc_q382 cc_q451) cc_q514) cc_q581) cc_q652))) | (n + 4), hf => absurd (by unfold q_rk; rfl) hf)
  try clear y937
  have y975 : y_root X964 q382 := by rw [dX964]; exact y938.add y_xg (fun f hf => match f, hf with | 0, _ => (show q451 ≠ q382 from (Nat.ne_of_gt cc_q451)) | 1, _ => (show q514 ≠ q382 from (Nat.ne_of_gt (Nat.lt_trans cc_q451 cc_q514))) | 2, _ => (show q581 ≠ q382 from (Nat.ne_of_gt (Nat.lt_trans (Nat.lt_trans cc_q451 cc_q514) cc_q581))) | 3, _ => (show q652 ≠ q382 from (Nat.ne_of_gt (Nat.lt_trans (Nat.lt_trans (Nat.lt_trans cc_q451 cc_q514) cc_q581) cc_q652))) | (n + 4), hf => absurd (by unfold q_rk; rfl) hf)
  try clear y938
  have y976 : y_root X964 q727 := by rw [dX964]; exact y943.add y_xg (fun f hf => match f, hf with | 0, _ => (show q451 ≠ q727 from (Nat.ne_of_lt (Nat.lt_trans (Nat.lt_trans (Nat.lt_trans cc_q514 cc_q581) cc_q652) cc_q727))) | 1, _ => (show q514 ≠ q727 from (Nat.ne_of_lt (Nat.lt_trans (Nat.lt_trans cc_q581 cc_q652) cc_q727))) | 2, _ => (show q581 ≠ q727 from (Nat.ne_of_lt (Nat.lt_trans cc_q652 cc_q727))) | 3, _ => (show q652 ≠ q727 from (Nat.ne_of_lt cc_q727)) | (n + 4), hf => absurd (by unfold q_rk; rfl) hf)
  try clear y943
  have y977 : y_root X964 q804 := by rw [dX964]; exact y944.add y_xg (fun f hf => match f, hf with | 0, _ => (show q451 ≠ q804 from (Nat.ne_of_lt (Nat.lt_trans (Nat.lt_trans (Nat.lt_trans (Nat.lt_trans cc_q514 cc_q581) cc_q652) cc_q727) cc_q804))) | 1, _ => (show q514 ≠ q804 from (Nat.ne_of_lt (Nat.lt_trans (Nat.lt_trans (Nat.lt_trans cc_q581 cc_q652) cc_q727) cc_q804))) | 2, _ => (show q581 ≠ q804 from (Nat.ne_of_lt (Nat.lt_trans (Nat.lt_trans cc_q652 cc_q727) cc_q804))) | 3, _ => (show q652 ≠ q804 from (Nat.ne_of_lt (Nat.lt_trans cc_q727 cc_q804))) | (n + 4), hf => absurd (by unfold q_rk; rfl) hf)
  try clear y944
  have y978 : y_root X964 q883 := by rw [dX964]; exact y945.add y_xg (fun f hf => match f, hf with | 0, _ => (show q451 ≠ q883 from (Nat.ne_of_lt (Nat.lt_trans (Nat.lt_trans (Nat.lt_trans (Nat.lt_trans (Nat.lt_trans cc_q514 cc_q581) cc_q652) cc_q727) cc_q804) cc_q883))) | 1, _ => (show q514 ≠ q883 from (Nat.ne_of_lt (Nat.lt_trans (Nat.lt_trans (Nat.lt_trans (Nat.lt_trans cc_q581 cc_q652) cc_q727) cc_q804) cc_q883))) | 2, _ => (show q581 ≠ q883 from (Nat.ne_of_lt (Nat.lt_trans (Nat.lt_trans (Nat.lt_trans cc_q652 cc_q727) cc_q804) cc_q883))) | 3, _ => (show q652 ≠ q883 from (Nat.ne_of_lt (Nat.lt_trans (Nat.lt_trans cc_q727 cc_q804) cc_q883))) | (n + 4), hf => absurd (by unfold q_rk; rfl) hf)
  try clear y945
  have y979 : y_root X964 q22 := by rw [dX964]; exact (y_root.out w959.1 k916).add y_xg (fun f hf => match f, hf with | 0, _ => (show q451 ≠ q22 from (Nat.ne_of_gt (Nat.lt_trans (Nat.lt_trans (Nat.lt_trans (Nat.lt_trans (Nat.lt_trans (Nat.lt_trans (Nat.lt_trans (Nat.lt_trans cc_q42 cc_q91) cc_q136) cc_q183) cc_q217) cc_q270) cc_q325) cc_q382) cc_q451))) | 1, _ => (show q514 ≠ q22 from (Nat.ne_of_gt (Nat.lt_trans (Nat.lt_trans (Nat.lt_trans (Nat.lt_trans (Nat.lt_trans (Nat.lt_trans (Nat.lt_trans (Nat.lt_trans (Nat.lt_trans cc_q42 cc_q91) cc_q136) cc_q183) cc_q217) cc_q270) cc_q325) cc_q382) cc_q451) cc_q514))) | 2, _ => (show q581 ≠ q22 from (Nat.ne_of_gt (Nat.lt_trans (Nat.lt_trans (Nat.lt_trans (Nat.lt_trans (Nat.lt_trans (Nat.lt_trans (Nat.lt_trans (Nat.lt_trans (Nat.lt_trans (Nat.lt_trans cc_q42 cc_q91) cc_q136) cc_q183) cc_q217) cc_q270) cc_q325) cc_q382) cc_q451) cc_q514) cc_q581))) | 3, _ => (show q652 ≠ q22 from (Nat.ne_of_gt (Nat.lt_trans (Nat.lt_trans (Nat.lt_trans (Nat.lt_trans (Nat.lt_trans (Nat.lt_trans (Nat.lt_trans (Nat.lt_trans (Nat.lt_trans (Nat.lt_trans (Nat.lt_trans cc_q42 cc_q91) cc_q136) cc_q183) cc_q217) cc_q270) cc_q325) cc_q382) cc_q451) cc_q514) cc_q581) cc_q652))) | (n + 4), hf => absurd (by unfold q_rk; rfl) hf)
  have y980 : y_rt X X964 := by rw [dX964]; exact y913.add y_xg (fun f hf => match f, hf with | 0, _ => (show q_kd X q451 = 0 from hw0.fresh gg_q451) | 1, _ => (show q_kd X q514 = 0 from hw0.fresh gg_q514) | 2, _ => (show q_kd X q581 = 0 from hw0.fresh gg_q581) | 3, _ => (show q_kd X q652 = 0 from hw0.fresh gg_q652) | (n + 4), hf => absurd (by unfold q_rk; rfl) hf)
  try clear y913
  have w967 : q_w X964 σ965 H954 := by
    rw [dX964, dσ965]
    exact w959.add k916 (q_hrk (fun f _ hf => match f, hf with | 0, _ => k927 | 1, _ => k928 | 2, _ => k929 | 3, _ => k930 | (n + 4), hf => absurd (by unfold q_rk; rfl) hf)) (fun _ => rfl) (by decide) (fun q => absurd q (by decide)) (fun f => q_inU rfl) (fun q => by rcases q with q | q <;> exact absurd q (by decide)) (q_cfA D909 (by decide) (t0 := 3) rfl r969 (fun j => rfl)) (fun f hf => match f, hf with | 0, _ => (show q22 < q451 from (Nat.lt_trans (Nat.lt_trans (Nat.lt_trans (Nat.lt_trans (Nat.lt_trans (Nat.lt_trans (Nat.lt_trans (Nat.lt_trans cc_q42 cc_q91) cc_q136) cc_q183) cc_q217) cc_q270) cc_q325) cc_q382) cc_q451)) | 1, _ => (show q22 < q514 from (Nat.lt_trans (Nat.lt_trans (Nat.lt_trans (Nat.lt_trans (Nat.lt_trans (Nat.lt_trans (Nat.lt_trans (Nat.lt_trans (Nat.lt_trans cc_q42 cc_q91) cc_q136) cc_q183) cc_q217) cc_q270) cc_q325) cc_q382) cc_q451) cc_q514)) | 2, _ => (show q22 < q581 from (Nat.lt_trans (Nat.lt_trans (Nat.lt_trans (Nat.lt_trans (Nat.lt_trans (Nat.lt_trans (Nat.lt_trans (Nat.lt_trans (Nat.lt_trans (Nat.lt_trans cc_q42 cc_q91) cc_q136) cc_q183) cc_q217) cc_q270) cc_q325) cc_q382) cc_q451) cc_q514) cc_q581)) | 3, _ => (show q22 < q652 from (Nat.lt_trans (Nat.lt_trans (Nat.lt_trans (Nat.lt_trans (Nat.lt_trans (Nat.lt_trans (Nat.lt_trans (Nat.lt_trans (Nat.lt_trans (Nat.lt_trans (Nat.lt_trans cc_q42 cc_q91) cc_q136) cc_q183) cc_q217) cc_q270) cc_q325) cc_q382) cc_q451) cc_q514) cc_q581) cc_q652)) | (n + 4), hf => absurd (by unfold q_rk; rfl) hf) (y_in23 (rf := (fun j => ([q451, q514, q581, q652] : List Nat).getD j 0)) (show q451 < q514 from cc_q514) (show q514 < q581 from cc_q581) (show q581 < q652 from cc_q652)) (fun f hf => match f, hf with | 0, _ => y939 | 1, _ => y940 | 2, _ => y941 | 3, _ => y942 | (n + 4), hf => absurd (by unfold q_rk; rfl) hf) (fun f hf => by rcases y_fs23 (show q_rk 23 f ≠ 0 by rw [hf]; decide) with rfl | rfl | rfl | rfl <;> exact absurd hf (by decide)) (fun q => absurd q (by decide))
  try clear r969; try clear w959; try clear y942; try clear y941; try clear y940; try clear y939; try clear k916
  have D981 : X964.1 = D := x966.1.trans D909
  try clear D909
  have k982 : q_kd X964 q22 = 23 := by rw [dX964]; exact q_xg_h
  have n983 : q_ln X964 q22 = 4 := by rw [dX964]; exact if_pos rfl
  have x984 := x914.tr x966 (fun a e => Or.inr (by rw [e]; exact gg_q22))
  try clear x914
  have k985 := x966.kd k921 (by decide)
  try clear k921
  have k986 := x966.kd k922 (by decide)
  try clear k922
  have k987 := x966.kd k923 (by decide)
  try clear k923
  have k988 := x966.kd k924 (by decide)
  try clear k924
  have k989 := x966.kd k925 (by decide)
  try clear k925
  have k990 := x966.kd k926 (by decide)
  try clear k926
  have k991 := x966.kd k927 (by decide)
  have k992 := x966.kd k928 (by decide)
  have k993 := x966.kd k929 (by decide)
  have k994 := x966.kd k930 (by decide)
  have k995 := x966.kd k931 (by decide)
  try clear k931
  have k996 := x966.kd k932 (by decide)
  try clear k932
  have k997 := x966.kd k902 (by decide)
  try clear k902
  have k998 : q_kd X964 q42 = 0 := x966.k0 k918 (by first | exact (Nat.ne_of_gt cc_q42) | (omega))
  try clear k918
  have k999 : q_kd X964 q183 = 0 := x966.k0 k920 (by first | exact (Nat.ne_of_gt (Nat.lt_trans (Nat.lt_trans (Nat.lt_trans cc_q42 cc_q91) cc_q136) cc_q183)) | (omega))
  try clear k920
  have k1000 : q_kd X964 h = 0 := x966.k0 k910 (by first | exact (Nat.ne_of_lt hq22) | (omega))
  try clear k910
  have i1001 : σ965.1 q451 0 = 0 := (q_exi x966 (by rw [k927]; decide)).trans i946
  try clear i946
  have i1002 : σ965.1 q451 1 = -1 := (q_exi x966 (by rw [k927]; decide)).trans i947
  try clear i947; try clear k927
  have i1003 : σ965.1 q514 0 = 0 := (q_exi x966 (by rw [k928]; decide)).trans i948
  try clear i948
  have i1004 : σ965.1 q514 1 = -1 := (q_exi x966 (by rw [k928]; decide)).trans i949
  try clear i949; try clear k928
  have i1005 : σ965.1 q581 0 = 0 := (q_exi x966 (by rw [k929]; decide)).trans i950
  try clear i950
  have i1006 : σ965.1 q581 1 = -1 := (q_exi x966 (by rw [k929]; decide)).trans i951
  try clear i951; try clear k929
  have i1007 : σ965.1 q652 0 = 0 := (q_exi x966 (by rw [k930]; decide)).trans i952
  try clear i952
  have i1008 : σ965.1 q652 1 = -1 := (q_exi x966 (by rw [k930]; decide)).trans i953
  try clear x966; try clear i953; try clear k930
  have j1009 : ∀ j, q_rf X964 q22 j = ([q451, q514, q581, q652] : List Nat).getD j 0 := fun j => by rw [dX964]; exact if_pos rfl
  have y1014 := raw_lt r963
  try clear y1014
  obtain ⟨X1010, dX1010⟩ : ∃ Y, Y = q_xg X964 q42 22 900 (fun _ => 0) := ⟨_, rfl⟩
  obtain ⟨σ1011, dσ1011⟩ : ∃ τ, τ = q_sg σ965 q42 (fun _ => 0 : Nat → Int32) (fun _ => 0) 0 := ⟨_, rfl⟩
  have x1012 : q_ext (fun a => a = q42) X964 X1010 σ965 σ1011 := by rw [dX1010, dσ1011]; exact q_ext.add k998
  have y1015 : y_root X1010 q91 := by rw [dX1010]; exact y970.add y_xg (fun f hf => absurd rfl hf)
  try clear y970
  have y1016 : y_root X1010 q136 := by rw [dX1010]; exact y971.add y_xg (fun f hf => absurd rfl hf)
  try clear y971
  have y1017 : y_root X1010 q217 := by rw [dX1010]; exact y972.add y_xg (fun f hf => absurd rfl hf)
  try clear y972
  have y1018 : y_root X1010 q270 := by rw [dX1010]; exact y973.add y_xg (fun f hf => absurd rfl hf)
  try clear y973
  have y1019 : y_root X1010 q325 := by rw [dX1010]; exact y974.add y_xg (fun f hf => absurd rfl hf)
  try clear y974
  have y1020 : y_root X1010 q382 := by rw [dX1010]; exact y975.add y_xg (fun f hf => absurd rfl hf)
  try clear y975
  have y1021 : y_root X1010 q727 := by rw [dX1010]; exact y976.add y_xg (fun f hf => absurd rfl hf)
  try clear y976
  have y1022 : y_root X1010 q804 := by rw [dX1010]; exact y977.add y_xg (fun f hf => absurd rfl hf)
  try clear y977
  have y1023 : y_root X1010 q883 := by rw [dX1010]; exact y978.add y_xg (fun f hf => absurd rfl hf)
  try clear y978
  have y1024 : y_root X1010 q22 := by rw [dX1010]; exact y979.add y_xg (fun f hf => absurd rfl hf)
  try clear y979
  have y1025 : y_root X1010 q42 := by rw [dX1010]; exact (y_root.out w967.1 k998).add y_xg (fun f hf => absurd rfl hf)
  have y1026 : y_rt X X1010 := by rw [dX1010]; exact y980.add y_xg (fun f hf => absurd rfl hf)
  try clear y980
  have w1013 : q_w X1010 σ1011 H954 := by
    rw [dX1010, dσ1011]
    exact w967.add k998 (fun f hf => absurd rfl hf) (fun q => absurd rfl q) (by decide) (fun q => absurd q (by decide)) (fun f => q_inU rfl) (fun q => by rcases q with q | q <;> exact absurd q (by decide)) (q_cfA D981 (by decide) (t0 := 0) rfl r963 (fun j => rfl)) (fun f hf => absurd rfl hf) (fun f g hf _ _ => absurd rfl hf) (fun f hf => absurd rfl hf) (fun f hf => absurd (show (0 : Nat) = 5 from hf) (by decide)) (fun q => absurd q (by decide))
  try clear k998; try clear w967; try clear r963
  have D1027 : X1010.1 = D := x1012.1.trans D981
  try clear D981
  have k1028 : q_kd X1010 q42 = 22 := by rw [dX1010]; exact q_xg_h
  have n1029 : q_ln X1010 q42 = 900 := by rw [dX1010]; exact if_pos rfl
  have x1030 := x984.tr x1012 (fun a e => Or.inr (by rw [e]; exact gg_q42))
  try clear x984
  have k1031 := x1012.kd k985 (by decide)
  try clear k985
  have k1032 := x1012.kd k986 (by decide)
  try clear k986
  have k1033 := x1012.kd k987 (by decide)
  try clear k987
  have k1034 := x1012.kd k988 (by decide)
  try clear k988
  have k1035 := x1012.kd k989 (by decide)
  try clear k989
  have k1036 := x1012.kd k990 (by decide)
  try clear k990
  have k1037 := x1012.kd k991 (by decide)
  have k1038 := x1012.kd k992 (by decide)
  have k1039 := x1012.kd k993 (by decide)
  have k1040 := x1012.kd k994 (by decide)
  have k1041 := x1012.kd k995 (by decide)
  try clear k995
  have k1042 := x1012.kd k996 (by decide)
  try clear k996
  have k1043 := x1012.kd k997 (by decide)
  try clear k997
  have k1044 := x1012.kd k982 (by decide)
  have k1045 : q_kd X1010 q183 = 0 := x1012.k0 k999 (by first | exact (Nat.ne_of_gt (Nat.lt_trans (Nat.lt_trans cc_q91 cc_q136) cc_q183)) | (omega))
  try clear k999
  have k1046 : q_kd X1010 h = 0 := x1012.k0 k1000 (by first | exact (Nat.ne_of_lt hq42) | (omega))
  try clear k1000
  have i1047 : σ1011.1 q451 0 = 0 := (q_exi x1012 (by rw [k991]; decide)).trans i1001
  try clear i1001
  have i1048 : σ1011.1 q451 1 = -1 := (q_exi x1012 (by rw [k991]; decide)).trans i1002
  try clear i1002; try clear k991
  have i1049 : σ1011.1 q514 0 = 0 := (q_exi x1012 (by rw [k992]; decide)).trans i1003
  try clear i1003
  have i1050 : σ1011.1 q514 1 = -1 := (q_exi x1012 (by rw [k992]; decide)).trans i1004
  try clear i1004; try clear k992
  have i1051 : σ1011.1 q581 0 = 0 := (q_exi x1012 (by rw [k993]; decide)).trans i1005
  try clear i1005
  have i1052 : σ1011.1 q581 1 = -1 := (q_exi x1012 (by rw [k993]; decide)).trans i1006
  try clear i1006; try clear k993
  have i1053 : σ1011.1 q652 0 = 0 := (q_exi x1012 (by rw [k994]; decide)).trans i1007
  try clear i1007
  have i1054 : σ1011.1 q652 1 = -1 := (q_exi x1012 (by rw [k994]; decide)).trans i1008
  try clear i1008; try clear k994
  have n1055 : q_ln X1010 q22 = 4 := (x1012.2.2.2.1 q22 (by rw [k982]; decide)).2.1.trans n983
  have j1056 : ∀ j, q_rf X1010 q22 j = ([q451, q514, q581, q652] : List Nat).getD j 0 := fun j => ((x1012.2.2.2.1 q22 (by rw [k982]; decide)).2.2.1 j).trans (j1009 j)
  try clear x1012; try clear k982
  have y1061 := raw_lt r957
  try clear y1061
  obtain ⟨X1057, dX1057⟩ : ∃ Y, Y = q_xg X1010 q183 24 3 (fun j => ([q727, q804, q883] : List Nat).getD j 0) := ⟨_, rfl⟩
  obtain ⟨σ1058, dσ1058⟩ : ∃ τ, τ = q_sg σ1011 q183 (fun _ => 0) (fun _ => 0) 0 := ⟨_, rfl⟩
  have x1059 : q_ext (fun a => a = q183) X1010 X1057 σ1011 σ1058 := by rw [dX1057, dσ1058]; exact q_ext.add k1045
  have r1062 : H954[q183]? = some (arrV (D.2 4) 3 (fun j => .ref (([q727, q804, q883] : List Nat).getD j 0))) := by
    rw [r957]
    exact congrArg some (q_arr_eq (fun j hj => match j, hj with | 0, _ => rfl | 1, _ => rfl | 2, _ => rfl | (n + 3), hj => absurd hj (Nat.not_lt_of_ge (Nat.le_add_left 3 n))))
  try clear r957
  have y1063 : y_root X1057 q91 := by rw [dX1057]; exact y1015.add y_xg (fun f hf => match f, hf with | 0, _ => (show q727 ≠ q91 from (Nat.ne_of_gt (Nat.lt_trans (Nat.lt_trans (Nat.lt_trans (Nat.lt_trans (Nat.lt_trans (Nat.lt_trans (Nat.lt_trans (Nat.lt_trans (Nat.lt_trans (Nat.lt_trans cc_q136 cc_q183) cc_q217) cc_q270) cc_q325) cc_q382) cc_q451) cc_q514) cc_q581) cc_q652) cc_q727))) | 1, _ => (show q804 ≠ q91 from (Nat.ne_of_gt (Nat.lt_trans (Nat.lt_trans (Nat.lt_trans (Nat.lt_trans (Nat.lt_trans (Nat.lt_trans (Nat.lt_trans (Nat.lt_trans (Nat.lt_trans (Nat.lt_trans (Nat.lt_trans cc_q136 cc_q183) cc_q217) cc_q270) cc_q325) cc_q382) cc_q451) cc_q514) cc_q581) cc_q652) cc_q727) cc_q804))) | 2, _ => (show q883 ≠ q91 from (Nat.ne_of_gt (Nat.lt_trans (Nat.lt_trans (Nat.lt_trans (Nat.lt_trans (Nat.lt_trans (Nat.lt_trans (Nat.lt_trans (Nat.lt_trans (Nat.lt_trans (Nat.lt_trans (Nat.lt_trans (Nat.lt_trans cc_q136 cc_q183) cc_q217) cc_q270) cc_q325) cc_q382) cc_q451) cc_q514) cc_q581) cc_q652) cc_q727) cc_q804) cc_q883))) | (n + 3), hf => absurd (by unfold q_rk; rfl) hf)
  try clear y1015
  have y1064 : y_root X1057 q136 := by rw [dX1057]; exact y1016.add y_xg (fun f hf => match f, hf with | 0, _ => (show q727 ≠ q136 from (Nat.ne_of_gt (Nat.lt_trans (Nat.lt_trans (Nat.lt_trans (Nat.lt_trans (Nat.lt_trans (Nat.lt_trans (Nat.lt_trans (Nat.lt_trans (Nat.lt_trans cc_q183 cc_q217) cc_q270) cc_q325) cc_q382) cc_q451) cc_q514) cc_q581) cc_q652) cc_q727))) | 1, _ => (show q804 ≠ q136 from (Nat.ne_of_gt (Nat.lt_trans (Nat.lt_trans (Nat.lt_trans (Nat.lt_trans (Nat.lt_trans (Nat.lt_trans (Nat.lt_trans (Nat.lt_trans (Nat.lt_trans (Nat.lt_trans cc_q183 cc_q217) cc_q270) cc_q325) cc_q382) cc_q451) cc_q514) cc_q581) cc_q652) cc_q727) cc_q804))) | 2, _ => (show q883 ≠ q136 from (Nat.ne_of_gt (Nat.lt_trans (Nat.lt_trans (Nat.lt_trans (Nat.lt_trans (Nat.lt_trans (Nat.lt_trans (Nat.lt_trans (Nat.lt_trans (Nat.lt_trans (Nat.lt_trans (Nat.lt_trans cc_q183 cc_q217) cc_q270) cc_q325) cc_q382) cc_q451) cc_q514) cc_q581) cc_q652) cc_q727) cc_q804) cc_q883))) | (n + 3), hf => absurd (by unfold q_rk; rfl) hf)
  try clear y1016
  have y1065 : y_root X1057 q217 := by rw [dX1057]; exact y1017.add y_xg (fun f hf => match f, hf with | 0, _ => (show q727 ≠ q217 from (Nat.ne_of_gt (Nat.lt_trans (Nat.lt_trans (Nat.lt_trans (Nat.lt_trans (Nat.lt_trans (Nat.lt_trans (Nat.lt_trans cc_q270 cc_q325) cc_q382) cc_q451) cc_q514) cc_q581) cc_q652) cc_q727))) | 1, _ => (show q804 ≠ q217 from (Nat.ne_of_gt (Nat.lt_trans (Nat.lt_trans (Nat.lt_trans (Nat.lt_trans (Nat.lt_trans (Nat.lt_trans (Nat.lt_trans (Nat.lt_trans cc_q270 cc_q325) cc_q382) cc_q451) cc_q514) cc_q581) cc_q652) cc_q727) cc_q804))) | 2, _ => (show q883 ≠ q217 from (Nat.ne_of_gt (Nat.lt_trans (Nat.lt_trans (Nat.lt_trans (Nat.lt_trans (Nat.lt_trans (Nat.lt_trans (Nat.lt_trans (Nat.lt_trans (Nat.lt_trans cc_q270 cc_q325) cc_q382) cc_q451) cc_q514) cc_q581) cc_q652) cc_q727) cc_q804) cc_q883))) | (n + 3), hf => absurd (by unfold q_rk; rfl) hf)
  try clear y1017
  have y1066 : y_root X1057 q270 := by rw [dX1057]; exact y1018.add y_xg (fun f hf => match f, hf with | 0, _ => (show q727 ≠ q270 from (Nat.ne_of_gt (Nat.lt_trans (Nat.lt_trans (Nat.lt_trans (Nat.lt_trans (Nat.lt_trans (Nat.lt_trans cc_q325 cc_q382) cc_q451) cc_q514) cc_q581) cc_q652) cc_q727))) | 1, _ => (show q804 ≠ q270 from (Nat.ne_of_gt (Nat.lt_trans (Nat.lt_trans (Nat.lt_trans (Nat.lt_trans (Nat.lt_trans (Nat.lt_trans (Nat.lt_trans cc_q325 cc_q382) cc_q451) cc_q514) cc_q581) cc_q652) cc_q727) cc_q804))) | 2, _ => (show q883 ≠ q270 from (Nat.ne_of_gt (Nat.lt_trans (Nat.lt_trans (Nat.lt_trans (Nat.lt_trans (Nat.lt_trans (Nat.lt_trans (Nat.lt_trans (Nat.lt_trans cc_q325 cc_q382) cc_q451) cc_q514) cc_q581) cc_q652) cc_q727) cc_q804) cc_q883))) | (n + 3), hf => absurd (by unfold q_rk; rfl) hf)
  try clear y1018
  have y1067 : y_root X1057 q325 := by rw [dX1057]; exact y1019.add y_xg (fun f hf => match f, hf with | 0, _ => (show q727 ≠ q325 from (Nat.ne_of_gt (Nat.lt_trans (Nat.lt_trans (Nat.lt_trans (Nat.lt_trans (Nat.lt_trans cc_q382 cc_q451) cc_q514) cc_q581) cc_q652) cc_q727))) | 1, _ => (show q804 ≠ q325 from (Nat.ne_of_gt (Nat.lt_trans (Nat.lt_trans (Nat.lt_trans (Nat.lt_trans (Nat.lt_trans (Nat.lt_trans cc_q382 cc_q451) cc_q514) cc_q581) cc_q652) cc_q727) cc_q804))) | 2, _ => (show q883 ≠ q325 from (Nat.ne_of_gt (Nat.lt_trans (Nat.lt_trans (Nat.lt_trans (Nat.lt_trans (Nat.lt_trans (Nat.lt_trans (Nat.lt_trans cc_q382 cc_q451) cc_q514) cc_q581) cc_q652) cc_q727) cc_q804) cc_q883))) | (n + 3), hf => absurd (by unfold q_rk; rfl) hf)
  try clear y1019
  have y1068 : y_root X1057 q382 := by rw [dX1057]; exact y1020.add y_xg (fun f hf => match f, hf with | 0, _ => (show q727 ≠ q382 from (Nat.ne_of_gt (Nat.lt_trans (Nat.lt_trans (Nat.lt_trans (Nat.lt_trans cc_q451 cc_q514) cc_q581) cc_q652) cc_q727))) | 1, _ => (show q804 ≠ q382 from (Nat.ne_of_gt (Nat.lt_trans (Nat.lt_trans (Nat.lt_trans (Nat.lt_trans (Nat.lt_trans cc_q451 cc_q514) cc_q581) cc_q652) cc_q727) cc_q804))) | 2, _ => (show q883 ≠ q382 from (Nat.ne_of_gt (Nat.lt_trans (Nat.lt_trans (Nat.lt_trans (Nat.lt_trans (Nat.lt_trans (Nat.lt_trans cc_q451 cc_q514) cc_q581) cc_q652) cc_q727) cc_q804) cc_q883))) | (n + 3), hf => absurd (by unfold q_rk; rfl) hf)
  try clear y1020
  have y1069 : y_root X1057 q22 := by rw [dX1057]; exact y1024.add y_xg (fun f hf => match f, hf with | 0, _ => (show q727 ≠ q22 from (Nat.ne_of_gt (Nat.lt_trans (Nat.lt_trans (Nat.lt_trans (Nat.lt_trans (Nat.lt_trans (Nat.lt_trans (Nat.lt_trans (Nat.lt_trans (Nat.lt_trans (Nat.lt_trans (Nat.lt_trans (Nat.lt_trans cc_q42 cc_q91) cc_q136) cc_q183) cc_q217) cc_q270) cc_q325) cc_q382) cc_q451) cc_q514) cc_q581) cc_q652) cc_q727))) | 1, _ => (show q804 ≠ q22 from (Nat.ne_of_gt (Nat.lt_trans (Nat.lt_trans (Nat.lt_trans (Nat.lt_trans (Nat.lt_trans (Nat.lt_trans (Nat.lt_trans (Nat.lt_trans (Nat.lt_trans (Nat.lt_trans (Nat.lt_trans (Nat.lt_trans (Nat.lt_trans cc_q42 cc_q91) cc_q136) cc_q183) cc_q217) cc_q270) cc_q325) cc_q382) cc_q451) cc_q514) cc_q581) cc_q652) cc_q727) cc_q804))) | 2, _ => (show q883 ≠ q22 from (Nat.ne_of_gt (Nat.lt_trans (Nat.lt_trans (Nat.lt_trans (Nat.lt_trans (Nat.lt_trans (Nat.lt_trans (Nat.lt_trans (Nat.lt_trans (Nat.lt_trans (Nat.lt_trans (Nat.lt_trans (Nat.lt_trans (Nat.lt_trans (Nat.lt_trans cc_q42 cc_q91) cc_q136) cc_q183) cc_q217) cc_q270) cc_q325) cc_q382) cc_q451) cc_q514) cc_q581) cc_q652) cc_q727) cc_q804) cc_q883))) | (n + 3), hf => absurd (by unfold q_rk; rfl) hf)
  try clear y1024
  have y1070 : y_root X1057 q42 := by rw [dX1057]; exact y1025.add y_xg (fun f hf => match f, hf with | 0, _ => (show q727 ≠ q42 from (Nat.ne_of_gt (Nat.lt_trans (Nat.lt_trans (Nat.lt_trans (Nat.lt_trans (Nat.lt_trans (Nat.lt_trans (Nat.lt_trans (Nat.lt_trans (Nat.lt_trans (Nat.lt_trans (Nat.lt_trans cc_q91 cc_q136) cc_q183) cc_q217) cc_q270) cc_q325) cc_q382) cc_q451) cc_q514) cc_q581) cc_q652) cc_q727))) | 1, _ => (show q804 ≠ q42 from (Nat.ne_of_gt (Nat.lt_trans (Nat.lt_trans (Nat.lt_trans (Nat.lt_trans (Nat.lt_trans (Nat.lt_trans (Nat.lt_trans (Nat.lt_trans (Nat.lt_trans (Nat.lt_trans (Nat.lt_trans (Nat.lt_trans cc_q91 cc_q136) cc_q183) cc_q217) cc_q270) cc_q325) cc_q382) cc_q451) cc_q514) cc_q581) cc_q652) cc_q727) cc_q804))) | 2, _ => (show q883 ≠ q42 from (Nat.ne_of_gt (Nat.lt_trans (Nat.lt_trans (Nat.lt_trans (Nat.lt_trans (Nat.lt_trans (Nat.lt_trans (Nat.lt_trans (Nat.lt_trans (Nat.lt_trans (Nat.lt_trans (Nat.lt_trans (Nat.lt_trans (Nat.lt_trans cc_q91 cc_q136) cc_q183) cc_q217) cc_q270) cc_q325) cc_q382) cc_q451) cc_q514) cc_q581) cc_q652) cc_q727) cc_q804) cc_q883))) | (n + 3), hf => absurd (by unfold q_rk; rfl) hf)
  try clear y1025
  have y1071 : y_root X1057 q183 := by rw [dX1057]; exact (y_root.out w1013.1 k1045).add y_xg (fun f hf => match f, hf with | 0, _ => (show q727 ≠ q183 from (Nat.ne_of_gt (Nat.lt_trans (Nat.lt_trans (Nat.lt_trans (Nat.lt_trans (Nat.lt_trans (Nat.lt_trans (Nat.lt_trans (Nat.lt_trans cc_q217 cc_q270) cc_q325) cc_q382) cc_q451) cc_q514) cc_q581) cc_q652) cc_q727))) | 1, _ => (show q804 ≠ q183 from (Nat.ne_of_gt (Nat.lt_trans (Nat.lt_trans (Nat.lt_trans (Nat.lt_trans (Nat.lt_trans (Nat.lt_trans (Nat.lt_trans (Nat.lt_trans (Nat.lt_trans cc_q217 cc_q270) cc_q325) cc_q382) cc_q451) cc_q514) cc_q581) cc_q652) cc_q727) cc_q804))) | 2, _ => (show q883 ≠ q183 from (Nat.ne_of_gt (Nat.lt_trans (Nat.lt_trans (Nat.lt_trans (Nat.lt_trans (Nat.lt_trans (Nat.lt_trans (Nat.lt_trans (Nat.lt_trans (Nat.lt_trans (Nat.lt_trans cc_q217 cc_q270) cc_q325) cc_q382) cc_q451) cc_q514) cc_q581) cc_q652) cc_q727) cc_q804) cc_q883))) | (n + 3), hf => absurd (by unfold q_rk; rfl) hf)
  have y1072 : y_rt X X1057 := by rw [dX1057]; exact y1026.add y_xg (fun f hf => match f, hf with | 0, _ => (show q_kd X q727 = 0 from hw0.fresh gg_q727) | 1, _ => (show q_kd X q804 = 0 from hw0.fresh gg_q804) | 2, _ => (show q_kd X q883 = 0 from hw0.fresh gg_q883) | (n + 3), hf => absurd (by unfold q_rk; rfl) hf)
  try clear y1026
  have w1060 : q_w X1057 σ1058 H954 := by
    rw [dX1057, dσ1058]
    exact w1013.add k1045 (q_hrk (fun f _ hf => match f, hf with | 0, _ => k1041 | 1, _ => k1042 | 2, _ => k1043 | (n + 3), hf => absurd (by unfold q_rk; rfl) hf)) (fun _ => rfl) (by decide) (fun q => absurd q (by decide)) (fun f => q_inU rfl) (fun q => by rcases q with q | q <;> exact absurd q (by decide)) (q_cfA D1027 (by decide) (t0 := 4) rfl r1062 (fun j => rfl)) (fun f hf => match f, hf with | 0, _ => (show q183 < q727 from (Nat.lt_trans (Nat.lt_trans (Nat.lt_trans (Nat.lt_trans (Nat.lt_trans (Nat.lt_trans (Nat.lt_trans (Nat.lt_trans cc_q217 cc_q270) cc_q325) cc_q382) cc_q451) cc_q514) cc_q581) cc_q652) cc_q727)) | 1, _ => (show q183 < q804 from (Nat.lt_trans (Nat.lt_trans (Nat.lt_trans (Nat.lt_trans (Nat.lt_trans (Nat.lt_trans (Nat.lt_trans (Nat.lt_trans (Nat.lt_trans cc_q217 cc_q270) cc_q325) cc_q382) cc_q451) cc_q514) cc_q581) cc_q652) cc_q727) cc_q804)) | 2, _ => (show q183 < q883 from (Nat.lt_trans (Nat.lt_trans (Nat.lt_trans (Nat.lt_trans (Nat.lt_trans (Nat.lt_trans (Nat.lt_trans (Nat.lt_trans (Nat.lt_trans (Nat.lt_trans cc_q217 cc_q270) cc_q325) cc_q382) cc_q451) cc_q514) cc_q581) cc_q652) cc_q727) cc_q804) cc_q883)) | (n + 3), hf => absurd (by unfold q_rk; rfl) hf) (y_in24 (rf := (fun j => ([q727, q804, q883] : List Nat).getD j 0)) (show q727 < q804 from cc_q804) (show q804 < q883 from cc_q883)) (fun f hf => match f, hf with | 0, _ => y1021 | 1, _ => y1022 | 2, _ => y1023 | (n + 3), hf => absurd (by unfold q_rk; rfl) hf) (fun f hf => by rcases y_fs24 (show q_rk 24 f ≠ 0 by rw [hf]; decide) with rfl | rfl | rfl <;> exact absurd hf (by decide)) (fun q => absurd q (by decide))
  try clear r1062; try clear k1045; try clear y1023; try clear y1022; try clear y1021; try clear w1013; try clear t0
  have D1073 : X1057.1 = D := x1059.1.trans D1027
  try clear D1027
  have k1074 : q_kd X1057 q183 = 24 := by rw [dX1057]; exact q_xg_h
  have n1075 : q_ln X1057 q183 = 3 := by rw [dX1057]; exact if_pos rfl
  have x1076 := x1030.tr x1059 (fun a e => Or.inr (by rw [e]; exact gg_q183))
  try clear x1030
  have k1077 := x1059.kd k1031 (by decide)
  try clear k1031
  have k1078 := x1059.kd k1032 (by decide)
  try clear k1032
  have k1079 := x1059.kd k1033 (by decide)
  try clear k1033
  have k1080 := x1059.kd k1034 (by decide)
  try clear k1034
  have k1081 := x1059.kd k1035 (by decide)
  try clear k1035
  have k1082 := x1059.kd k1036 (by decide)
  try clear k1036
  have k1083 := x1059.kd k1037 (by decide)
  have k1084 := x1059.kd k1038 (by decide)
  have k1085 := x1059.kd k1039 (by decide)
  have k1086 := x1059.kd k1040 (by decide)
  have k1087 := x1059.kd k1041 (by decide)
  try clear k1041
  have k1088 := x1059.kd k1042 (by decide)
  try clear k1042
  have k1089 := x1059.kd k1043 (by decide)
  try clear k1043
  have k1090 := x1059.kd k1044 (by decide)
  have k1091 := x1059.kd k1028 (by decide)
  have k1092 : q_kd X1057 h = 0 := x1059.k0 k1046 (by first | exact (Nat.ne_of_lt hq183) | (omega))
  try clear k1046
  have i1093 : σ1058.1 q451 0 = 0 := (q_exi x1059 (by rw [k1037]; decide)).trans i1047
  try clear i1047
  have i1094 : σ1058.1 q451 1 = -1 := (q_exi x1059 (by rw [k1037]; decide)).trans i1048
  try clear i1048; try clear k1037
  have i1095 : σ1058.1 q514 0 = 0 := (q_exi x1059 (by rw [k1038]; decide)).trans i1049
  try clear i1049
  have i1096 : σ1058.1 q514 1 = -1 := (q_exi x1059 (by rw [k1038]; decide)).trans i1050
  try clear i1050; try clear k1038
  have i1097 : σ1058.1 q581 0 = 0 := (q_exi x1059 (by rw [k1039]; decide)).trans i1051
  try clear i1051
  have i1098 : σ1058.1 q581 1 = -1 := (q_exi x1059 (by rw [k1039]; decide)).trans i1052
  try clear i1052; try clear k1039
  have i1099 : σ1058.1 q652 0 = 0 := (q_exi x1059 (by rw [k1040]; decide)).trans i1053
  try clear i1053
  have i1100 : σ1058.1 q652 1 = -1 := (q_exi x1059 (by rw [k1040]; decide)).trans i1054
  try clear i1054; try clear k1040
  have n1101 : q_ln X1057 q22 = 4 := (x1059.2.2.2.1 q22 (by rw [k1044]; decide)).2.1.trans n1055
  have n1102 : q_ln X1057 q42 = 900 := (x1059.2.2.2.1 q42 (by rw [k1028]; decide)).2.1.trans n1029
  try clear k1028
  have j1103 : ∀ j, q_rf X1057 q183 j = ([q727, q804, q883] : List Nat).getD j 0 := fun j => by rw [dX1057]; exact if_pos rfl
  have j1104 : ∀ j, q_rf X1057 q22 j = ([q451, q514, q581, q652] : List Nat).getD j 0 := fun j => ((x1059.2.2.2.1 q22 (by rw [k1044]; decide)).2.2.1 j).trans (j1056 j)
  try clear x1059; try clear k1044
  obtain ⟨X1105, dX1105⟩ : ∃ Y, Y = q_xg X1057 h 11 0 (fun f => ([0, 0, 0, q22, q42, 0, 0, 0, q91, q136, q183, 0, q217, q270, q325, q382, 0] : List Nat).getD f 0) := ⟨_, rfl⟩
  obtain ⟨σ1106, dσ1106⟩ : ∃ τ, τ = q_sg σ1058 h (fun f => ([0, 0, 0, 0, 0, 0, (-1), (-1), 0, 0, 0, 0, 0, 0, 0, 0, 0] : List Int32).getD f 0) (fun f => ([0, 0, 1, 0, 0, 0, 0, 0, 0, 0, 0, 0, 0, 0, 0, 0, 0] : List Int64).getD f 0) 0 := ⟨_, rfl⟩
  have x1107 : q_ext (fun a => a = h) X1057 X1105 σ1058 σ1106 := by rw [dX1105, dσ1106]; exact q_ext.add k1092
  have hrk : ∀ f, f < 40 → q_rk 11 f ≠ 0 → q_kd X1057 (([0, 0, 0, q22, q42, 0, 0, 0, q91, q136, q183, 0, q217, q270, q325, q382, 0] : List Nat).getD f 0) = q_rk 11 f := fun f h40 hf => match f, h40, hf with | 0, _, hf => absurd rfl hf | 1, _, hf => absurd rfl hf | 2, _, hf => absurd rfl hf | 3, _, _ => k1090 | 4, _, _ => k1091 | 5, _, hf => absurd rfl hf | 6, _, hf => absurd rfl hf | 7, _, hf => absurd rfl hf | 8, _, _ => k1077 | 9, _, _ => k1078 | 10, _, _ => k1074 | 11, _, hf => absurd rfl hf | 12, _, _ => k1079 | 13, _, _ => k1080 | 14, _, _ => k1081 | 15, _, _ => k1082 | 16, _, hf => absurd rfl hf | 17, _, hf => absurd rfl hf | 18, _, hf => absurd rfl hf | 19, _, hf => absurd rfl hf | 20, _, hf => absurd rfl hf | 21, _, hf => absurd rfl hf | 22, _, hf => absurd rfl hf | 23, _, hf => absurd rfl hf | 24, _, hf => absurd rfl hf | 25, _, hf => absurd rfl hf | 26, _, hf => absurd rfl hf | 27, _, hf => absurd rfl hf | 28, _, hf => absurd rfl hf | 29, _, hf => absurd rfl hf | 30, _, hf => absurd rfl hf | 31, _, hf => absurd rfl hf | 32, _, hf => absurd rfl hf | 33, _, hf => absurd rfl hf | 34, _, hf => absurd rfl hf | 35, _, hf => absurd rfl hf | 36, _, hf => absurd rfl hf | 37, _, hf => absurd rfl hf | 38, _, hf => absurd rfl hf | 39, _, hf => absurd rfl hf | (n + 40), h40, _ => absurd h40 (Nat.not_lt_of_ge (Nat.le_add_left 40 n))
  have hB : ∀ f, f < 40 → (q_bn 11 f).1 ≤ ((([0, 0, 0, 0, 0, 0, (-1), (-1), 0, 0, 0, 0, 0, 0, 0, 0, 0] : List Int32).getD f 0).toInt) ∧ (([0, 0, 0, 0, 0, 0, (-1), (-1), 0, 0, 0, 0, 0, 0, 0, 0, 0] : List Int32).getD f 0).toInt ≤ (q_bn 11 f).2 := by decide +kernel
  have y1109 : ∀ f, q_rk 11 f ≠ 0 → h < ([0, 0, 0, q22, q42, 0, 0, 0, q91, q136, q183, 0, q217, q270, q325, q382, 0] : List Nat).getD f 0 := by
    intro f hf
    rcases y_fs11 hf with rfl | rfl | rfl | rfl | rfl | rfl | rfl | rfl | rfl
    · exact (hq22)
    · exact (hq42)
    · exact (hq91)
    · exact (hq136)
    · exact (hq183)
    · exact (hq217)
    · exact (hq270)
    · exact (hq325)
    · exact (hq382)
  have y1110 : ∀ f, q_rk 11 f ≠ 0 → y_root X1057 (([0, 0, 0, q22, q42, 0, 0, 0, q91, q136, q183, 0, q217, q270, q325, q382, 0] : List Nat).getD f 0) := by
    intro f hf
    rcases y_fs11 hf with rfl | rfl | rfl | rfl | rfl | rfl | rfl | rfl | rfl
    · exact y1069
    · exact y1070
    · exact y1063
    · exact y1064
    · exact y1071
    · exact y1065
    · exact y1066
    · exact y1067
    · exact y1068
  try clear y1071; try clear y1070; try clear y1069; try clear y1068; try clear y1067; try clear y1066; try clear y1065; try clear y1064; try clear y1063
  have y1111 : ∀ f, q_rk 11 f = 5 → q_ln X1057 (q_rf X1057 (([0, 0, 0, q22, q42, 0, 0, 0, q91, q136, q183, 0, q217, q270, q325, q382, 0] : List Nat).getD f 0) 0) = y_rl 11 f := by
    intro f hf
    rcases y_fs11 (show q_rk 11 f ≠ 0 by rw [hf]; decide) with rfl | rfl | rfl | rfl | rfl | rfl | rfl | rfl | rfl
    · exact absurd hf (by decide)
    · exact absurd hf (by decide)
    · exact absurd hf (by decide)
    · exact absurd hf (by decide)
    · exact absurd hf (by decide)
    · exact absurd hf (by decide)
    · exact absurd hf (by decide)
    · exact absurd hf (by decide)
    · exact absurd hf (by decide)
  have y1112 : ∀ f, q_rk 11 f ≠ 0 → ([0, 0, 0, q22, q42, 0, 0, 0, q91, q136, q183, 0, q217, q270, q325, q382, 0] : List Nat).getD f 0 ≠ h := by
    intro f hf
    rcases y_fs11 hf with rfl | rfl | rfl | rfl | rfl | rfl | rfl | rfl | rfl
    · exact ((Nat.ne_of_gt hq22))
    · exact ((Nat.ne_of_gt hq42))
    · exact ((Nat.ne_of_gt hq91))
    · exact ((Nat.ne_of_gt hq136))
    · exact ((Nat.ne_of_gt hq183))
    · exact ((Nat.ne_of_gt hq217))
    · exact ((Nat.ne_of_gt hq270))
    · exact ((Nat.ne_of_gt hq325))
    · exact ((Nat.ne_of_gt hq382))
  have y1113 : ∀ f, q_rk 11 f ≠ 0 → q_kd X (([0, 0, 0, q22, q42, 0, 0, 0, q91, q136, q183, 0, q217, q270, q325, q382, 0] : List Nat).getD f 0) = 0 := by
    intro f hf
    rcases y_fs11 hf with rfl | rfl | rfl | rfl | rfl | rfl | rfl | rfl | rfl
    · exact hw0.fresh (gg_q22)
    · exact hw0.fresh (gg_q42)
    · exact hw0.fresh (gg_q91)
    · exact hw0.fresh (gg_q136)
    · exact hw0.fresh (gg_q183)
    · exact hw0.fresh (gg_q217)
    · exact hw0.fresh (gg_q270)
    · exact hw0.fresh (gg_q325)
    · exact hw0.fresh (gg_q382)
  have hIV : ∀ f, f < 60 → ([0, 0, 0, 0, 0, 0, (-1), (-1), 0, 0, 0, 0, 0, 0, 0, 0, 0] : List Int32).getD f 0 = y_iv 11 f ∧ ([0, 0, 1, 0, 0, 0, 0, 0, 0, 0, 0, 0, 0, 0, 0, 0, 0] : List Int64).getD f 0 = y_il 11 f := by decide +kernel
  have w1108 : q_w X1105 σ1106 H954 := by
    rw [dX1105, dσ1106]
    exact w1060.add k1092 (q_hrk hrk) (fun q => absurd rfl q) (by decide) (fun _ => ⟨n1102, (show q_kd X1057 q42 ≠ 0 by rw [k1091]; decide)⟩) (q_hB hB (by decide)) (fun q => by rcases q with q | q <;> exact absurd q (by decide)) (q_cfO D1073 ⟨rfl, by decide⟩ (show vwCl[10]? = some (RX11, TX11, 17) from rfl) b960 (fun f hf => match f, hf with | 0, _ => rfl | 1, _ => rfl | 2, _ => rfl | 3, _ => rfl | 4, _ => rfl | 5, _ => rfl | 6, _ => rfl | 7, _ => rfl | 8, _ => rfl | 9, _ => rfl | 10, _ => rfl | 11, _ => rfl | 12, _ => rfl | 13, _ => rfl | 14, _ => rfl | 15, _ => rfl | 16, _ => rfl | (n + 17), hf => absurd hf (Nat.not_lt_of_ge (Nat.le_add_left 17 n)))) y1109 (y_in11 (rf := (fun f => ([0, 0, 0, q22, q42, 0, 0, 0, q91, q136, q183, 0, q217, q270, q325, q382, 0] : List Nat).getD f 0)) (show q22 < q42 from cc_q42) (show q42 < q91 from cc_q91) (show q91 < q136 from cc_q136) (show q136 < q183 from cc_q183) (show q183 < q217 from cc_q217) (show q217 < q270 from cc_q270) (show q270 < q325 from cc_q325) (show q325 < q382 from cc_q382)) y1110 y1111 (fun _ f hf => hIV f (hf.resolve_left (by decide)))
  try clear y1111; try clear y1110; try clear y1109; try clear D1073; try clear b960
  have y1114 : y_root X1105 h := by
    rw [dX1105]
    exact (y_root.out w1060.1 k1092).add y_xg y1112
  try clear y1112; try clear k1092; try clear w1060
  have y1115 : y_rt X X1105 := by
    rw [dX1105]
    exact y1072.add y_xg y1113
  try clear y1113; try clear y1072
  have k1116 : q_kd X1105 h = 11 := by rw [dX1105]; exact q_xg_h
  have x1117 := x1076.tr x1107 (fun a e => Or.inl e)
  try clear x1076
  have k1118 := x1107.kd k1077 (by decide)
  try clear k1118; try clear k1077
  have k1119 := x1107.kd k1078 (by decide)
  try clear k1119; try clear k1078
  have k1120 := x1107.kd k1079 (by decide)
  try clear k1120; try clear k1079
  have k1121 := x1107.kd k1080 (by decide)
  try clear k1121; try clear k1080
  have k1122 := x1107.kd k1081 (by decide)
  try clear k1122; try clear k1081
  have k1123 := x1107.kd k1082 (by decide)
  try clear k1123; try clear k1082
  have k1124 := x1107.kd k1083 (by decide)
  try clear k1124
  have k1125 := x1107.kd k1084 (by decide)
  try clear k1125
  have k1126 := x1107.kd k1085 (by decide)
  try clear k1126
  have k1127 := x1107.kd k1086 (by decide)
  try clear k1127
  have k1128 := x1107.kd k1087 (by decide)
  try clear k1128; try clear k1087
  have k1129 := x1107.kd k1088 (by decide)
  try clear k1129; try clear k1088
  have k1130 := x1107.kd k1089 (by decide)
  try clear k1130; try clear k1089
  have k1131 := x1107.kd k1090 (by decide)
  try clear k1131
  have k1132 := x1107.kd k1091 (by decide)
  try clear k1132; try clear k1091
  have k1133 := x1107.kd k1074 (by decide)
  try clear k1133; try clear k1074
  have i1134 : σ1106.1 q451 0 = 0 := (q_exi x1107 (by rw [k1083]; decide)).trans i1093
  try clear i1093
  have i1135 : σ1106.1 q451 1 = -1 := (q_exi x1107 (by rw [k1083]; decide)).trans i1094
  try clear i1094; try clear k1083
  have i1136 : σ1106.1 q514 0 = 0 := (q_exi x1107 (by rw [k1084]; decide)).trans i1095
  try clear i1095
  have i1137 : σ1106.1 q514 1 = -1 := (q_exi x1107 (by rw [k1084]; decide)).trans i1096
  try clear i1096; try clear k1084
  have i1138 : σ1106.1 q581 0 = 0 := (q_exi x1107 (by rw [k1085]; decide)).trans i1097
  try clear i1097
  have i1139 : σ1106.1 q581 1 = -1 := (q_exi x1107 (by rw [k1085]; decide)).trans i1098
  try clear i1098; try clear k1085
  have i1140 : σ1106.1 q652 0 = 0 := (q_exi x1107 (by rw [k1086]; decide)).trans i1099
  try clear i1099
  have i1141 : σ1106.1 q652 1 = -1 := (q_exi x1107 (by rw [k1086]; decide)).trans i1100
  try clear i1100; try clear k1086
  have ht3 : q_rf X1105 h 3 = q22 := by rw [dX1105]; exact if_pos rfl
  have htj : ∀ j, q_rf X1105 q22 j = ([q451, q514, q581, q652] : List Nat).getD j 0 := fun j => ((x1107.2.2.2.1 q22 (by rw [k1090]; decide)).2.2.1 j).trans (j1104 j)
  try clear x1107; try clear k1090
  have htr : ∀ i, i < 4 → σ1106.1 (q_rf X1105 (q_rf X1105 h 3) i) 0 = 0 ∧ σ1106.1 (q_rf X1105 (q_rf X1105 h 3) i) 1 = -1 := by
    intro i hi
    rw [ht3, htj]
    exact match i, hi with | 0, _ => ⟨i1134, i1135⟩ | 1, _ => ⟨i1136, i1137⟩ | 2, _ => ⟨i1138, i1139⟩ | 3, _ => ⟨i1140, i1141⟩ | (n + 4), hi => absurd hi (Nat.not_lt_of_ge (Nat.le_add_left 4 n))
  try clear i1141; try clear i1140; try clear i1139; try clear i1138; try clear i1137; try clear i1136; try clear i1135; try clear i1134
  exact b_ret E hr hlk S958 x1117 k1116 ⟨⟨y1115, y1114⟩, ⟨⟨by rw [dσ1106]; exact if_pos rfl, by rw [dσ1106]; exact if_pos rfl⟩, htr⟩⟩ w1108 dX11_init_187
end
/-! FROM 55.born.lean.txt -/
section
set_option maxRecDepth 100000 in
set_option maxHeartbeats 4000000 in
theorem n_X12 (l : Launch) (D : DW) (X : XW) (σ : ST) (h sz : Nat) : Met l yX12_init (q_ws yX12_init cX12_init 2 none) { frames := 1, cells := 12, slots := 6571, locals := 12 } (q_PN D X σ h sz 11 46 (fun k => defaultValue (tyX12 k)) [.ref h]) (q_QN X σ h sz 12 (fun X' σ' => (y_rt X X' ∧ y_root X' h) ∧ (σ'.1 h 8 = 0 ∧ σ'.1 h 24 = 0) ∧ (∀ j, j < 4 → σ'.1 (q_rf X' h 4) j = 0 ∧ σ'.1 (q_rf X' h 5) j = -1) ∧ ∀ j, σ'.1 (q_rf X' h 20) j = if j = 6 then -1 else if j = 8 then -1 else if j = 4 then 4 else if j = 1 then 1 else if j = 0 then 2 else 0)) 12 6571 (q_nw h sz) := by
  refine b_met  (by first | exact rfl | decide +kernel) rfl rfl (Nat.le_of_ble_eq_true rfl) (fun p e s m below meth c E hml hr hlk hnm hsz hD hw0 h00 hob ls hl => ?_)
  subst hsz
  have hxx := E.1
  have hb := E.2.1
  have hl : lv_has ls 2 [(0, .ref h)] := hl
  have hS : va_S (q_nw h s.heap.size) s.heap s.heap [] := va_S.rf
  have hx0 : q_ext (q_nw h s.heap.size) X X σ σ := q_ext.rf
  have hAh : q_nw h s.heap.size h := Or.inl rfl
  have yr0 : y_rt X X := y_rt.rf
  have hlt := t_lt hob
  refine lv_aload_n hxx hb dX12_init_0 rfl (lv_at hl 0 rfl) ?_
  refine W.objInit hxx hb E.2.2.1 (E.2.2.2.1 _ bw_1424) (E.2.2.2.1 _ bw_26) (E.2.2.2.1 _ bw_27) rfl (by rw [hml]; exact hl.1) rfl dX12_init_1 (Nat.le_of_ble_eq_true rfl) (Nat.le_of_ble_eq_true rfl) ?_
  refine W.eq (g2 := F0 m 4 ls []) rfl ?_
  refine lv_aload_n hxx hb dX12_init_4 rfl (lv_at hl 0 rfl) ?_
  refine lv_lconst (v := 1) hxx hb dX12_init_5 (by decide) ?_
  refine b_put E hS hAh hnm (f := 3) hob (show vwCl[11]? = some (RX12, TX12, 46) from rfl) q_inX12 tyX12_ok nmX12 (by decide) bw_1428 rfl (fun _ => rfl) (tyX12_ok 3 (by decide)) rfl rfl dX12_init_6 (fun H1 locs1 z2 o3 b4 S5 => ?_)
  have w6 : q_w X σ H1 := hw0.kept (fun a ha => o3 a (fun e => ha (by rw [e]; exact h00)))
  try clear o3
  have t7 := t_lt b4
  refine lv_aload_n hxx hb dX12_init_9 rfl (lv_at hl 0 rfl) ?_
  refine lv_iconst (v := 4) hxx hb dX12_init_10 (by decide) ?_
  refine b_newa E S5 bw_56 (t := 1) rfl (fun _ _ => rfl) (N' := 4) (by decide) (by decide) (by decide) (Nat.le_of_ble_eq_true rfl) (Nat.le_of_ble_eq_true rfl) dX12_init_11 (fun q8 H9 e10 z11 o12 r13 S14 => ?_)
  have hq8 : h < q8 := by first | exact Nat.lt_of_lt_of_eq t7 e10.symm | omega
  have gg_q8 : s.heap.size ≤ q8 := Nat.le_trans S5.1 (Nat.le_of_eq e10.symm)
  have mm_q8 : q8 < H9.size := by rw [z11, e10]; exact Nat.lt_succ_self _
  try clear S5
  have w15 : q_w X σ H9 := w6.kept (fun a ha => o12 a (w6.lt ha))
  have b16 := b4.kept (o12 h t7)
  try clear o12; try clear b4
  have t17 := t_lt b16
  try clear t7
  have k18 : q_kd X q8 = 0 := w6.fresh (Nat.le_of_eq e10.symm)
  try clear w6
  have g19 := S14.1
  refine b_put E S14 hAh hnm (f := 4) b16 (show vwCl[11]? = some (RX12, TX12, 46) from rfl) q_inX12 tyX12_ok nmX12 (by decide) bw_1429 rfl (fun _ => rfl) (tyX12_ok 4 (by decide)) rfl rfl dX12_init_13 (fun H20 locs1 z21 o22 b23 S24 => ?_)
  try clear b16; try clear S14
  have w25 : q_w X σ H20 := w15.kept (fun a ha => o22 a (fun e => ha (by rw [e]; exact h00)))
  try clear w15
  have t26 := t_lt b23
  try clear t17
  have r27 := (o22 q8 (by first | exact (Nat.ne_of_gt hq8) | omega)).trans r13
  try clear o22; try clear r13
  refine lv_aload_n hxx hb dX12_init_16 rfl (lv_at hl 0 rfl) ?_
  refine lv_iconst (v := 4) hxx hb dX12_init_17 (by decide) ?_
  refine b_newa E S24 bw_56 (t := 1) rfl (fun _ _ => rfl) (N' := 4) (by decide) (by decide) (by decide) (Nat.le_of_ble_eq_true rfl) (Nat.le_of_ble_eq_true rfl) dX12_init_18 (fun q28 H29 e30 z31 o32 r33 S34 => ?_)
  have hq28 : h < q28 := by first | exact Nat.lt_of_lt_of_eq t26 e30.symm | omega
  have gg_q28 : s.heap.size ≤ q28 := Nat.le_trans S24.1 (Nat.le_of_eq e30.symm)
  have mm_q28 : q28 < H29.size := by rw [z31, e30]; exact Nat.lt_succ_self _
  have cc_q28 : q8 < q28 := by first | exact Nat.lt_of_lt_of_eq (Nat.lt_of_lt_of_le mm_q8 (Nat.le_of_eq z21.symm)) e30.symm | omega
  try clear S24
  have w35 : q_w X σ H29 := w25.kept (fun a ha => o32 a (w25.lt ha))
  have b36 := b23.kept (o32 h t26)
  try clear b23
  have t37 := t_lt b36
  try clear t26
  have r38 := (o32 q8 (raw_lt r27)).trans r27
  try clear o32; try clear r27
  have k39 : q_kd X q28 = 0 := w25.fresh (Nat.le_of_eq e30.symm)
  try clear w25
  have g40 := S34.1
  refine b_put E S34 hAh hnm (f := 5) b36 (show vwCl[11]? = some (RX12, TX12, 46) from rfl) q_inX12 tyX12_ok nmX12 (by decide) bw_1430 rfl (fun _ => rfl) (tyX12_ok 5 (by decide)) rfl rfl dX12_init_20 (fun H41 locs1 z42 o43 b44 S45 => ?_)
  try clear b36; try clear S34
  have w46 : q_w X σ H41 := w35.kept (fun a ha => o43 a (fun e => ha (by rw [e]; exact h00)))
  try clear w35
  have t47 := t_lt b44
  try clear t37
  have r48 := (o43 q8 (by first | exact (Nat.ne_of_gt hq8) | omega)).trans r38
  try clear r38
  have r49 := (o43 q28 (by first | exact (Nat.ne_of_gt hq28) | omega)).trans r33
  try clear o43; try clear r33
  refine lv_aload_n hxx hb dX12_init_23 rfl (lv_at hl 0 rfl) ?_
  refine lv_sipush (v := 240) hxx hb dX12_init_24 (by decide) ?_
  refine b_newa E S45 bw_441 (t := 2) rfl (fun _ _ => rfl) (N' := 240) (by decide) (by decide) (by decide) (Nat.le_of_ble_eq_true rfl) (Nat.le_of_ble_eq_true rfl) dX12_init_27 (fun q50 H51 e52 z53 o54 r55 S56 => ?_)
  have hq50 : h < q50 := by first | exact Nat.lt_of_lt_of_eq t47 e52.symm | omega
  have gg_q50 : s.heap.size ≤ q50 := Nat.le_trans S45.1 (Nat.le_of_eq e52.symm)
  have mm_q50 : q50 < H51.size := by rw [z53, e52]; exact Nat.lt_succ_self _
  have cc_q50 : q28 < q50 := by first | exact Nat.lt_of_lt_of_eq (Nat.lt_of_lt_of_le mm_q28 (Nat.le_of_eq z42.symm)) e52.symm | omega
  try clear S45
  have w57 : q_w X σ H51 := w46.kept (fun a ha => o54 a (w46.lt ha))
  have b58 := b44.kept (o54 h t47)
  try clear b44
  have t59 := t_lt b58
  try clear t47
  have r60 := (o54 q8 (raw_lt r48)).trans r48
  try clear r48
  have r61 := (o54 q28 (raw_lt r49)).trans r49
  try clear o54; try clear r49
  have k62 : q_kd X q50 = 0 := w46.fresh (Nat.le_of_eq e52.symm)
  try clear w46
  have g63 := S56.1
  refine b_put E S56 hAh hnm (f := 6) b58 (show vwCl[11]? = some (RX12, TX12, 46) from rfl) q_inX12 tyX12_ok nmX12 (by decide) bw_1431 rfl (fun _ => rfl) (tyX12_ok 6 (by decide)) rfl rfl dX12_init_29 (fun H64 locs1 z65 o66 b67 S68 => ?_)
  try clear b58; try clear S56
  have w69 : q_w X σ H64 := w57.kept (fun a ha => o66 a (fun e => ha (by rw [e]; exact h00)))
  try clear w57
  have t70 := t_lt b67
  try clear t59
  have r71 := (o66 q8 (by first | exact (Nat.ne_of_gt hq8) | omega)).trans r60
  try clear r60
  have r72 := (o66 q28 (by first | exact (Nat.ne_of_gt hq28) | omega)).trans r61
  try clear r61
  have r73 := (o66 q50 (by first | exact (Nat.ne_of_gt hq50) | omega)).trans r55
  try clear o66; try clear r55
  refine lv_aload_n hxx hb dX12_init_32 rfl (lv_at hl 0 rfl) ?_
  refine lv_sipush (v := 900) hxx hb dX12_init_33 (by decide) ?_
  refine b_newa E S68 bw_55 (t := 0) rfl (fun _ _ => rfl) (N' := 900) (by decide) (by decide) (by decide) (Nat.le_of_ble_eq_true rfl) (Nat.le_of_ble_eq_true rfl) dX12_init_36 (fun q74 H75 e76 z77 o78 r79 S80 => ?_)
  have hq74 : h < q74 := by first | exact Nat.lt_of_lt_of_eq t70 e76.symm | omega
  have gg_q74 : s.heap.size ≤ q74 := Nat.le_trans S68.1 (Nat.le_of_eq e76.symm)
  have mm_q74 : q74 < H75.size := by rw [z77, e76]; exact Nat.lt_succ_self _
  have cc_q74 : q50 < q74 := by first | exact Nat.lt_of_lt_of_eq (Nat.lt_of_lt_of_le mm_q50 (Nat.le_of_eq z65.symm)) e76.symm | omega
  try clear S68
  have w81 : q_w X σ H75 := w69.kept (fun a ha => o78 a (w69.lt ha))
  have b82 := b67.kept (o78 h t70)
  try clear b67
  have t83 := t_lt b82
  try clear t70
  have r84 := (o78 q8 (raw_lt r71)).trans r71
  try clear r71
  have r85 := (o78 q28 (raw_lt r72)).trans r72
  try clear r72
  have r86 := (o78 q50 (raw_lt r73)).trans r73
  try clear o78; try clear r73
  have k87 : q_kd X q74 = 0 := w69.fresh (Nat.le_of_eq e76.symm)
  try clear w69
  have g88 := S80.1
  refine b_put E S80 hAh hnm (f := 7) b82 (show vwCl[11]? = some (RX12, TX12, 46) from rfl) q_inX12 tyX12_ok nmX12 (by decide) bw_1432 rfl (fun _ => rfl) (tyX12_ok 7 (by decide)) rfl rfl dX12_init_38 (fun H89 locs1 z90 o91 b92 S93 => ?_)
  try clear b82; try clear S80
  have w94 : q_w X σ H89 := w81.kept (fun a ha => o91 a (fun e => ha (by rw [e]; exact h00)))
  try clear w81
  have t95 := t_lt b92
  try clear t83
  have r96 := (o91 q8 (by first | exact (Nat.ne_of_gt hq8) | omega)).trans r84
  try clear r84
  have r97 := (o91 q28 (by first | exact (Nat.ne_of_gt hq28) | omega)).trans r85
  try clear r85
  have r98 := (o91 q50 (by first | exact (Nat.ne_of_gt hq50) | omega)).trans r86
  try clear r86
  have r99 := (o91 q74 (by first | exact (Nat.ne_of_gt hq74) | omega)).trans r79
  try clear o91; try clear r79
  refine lv_aload_n hxx hb dX12_init_41 rfl (lv_at hl 0 rfl) ?_
  refine lv_iconst (v := (-1)) hxx hb dX12_init_42 (by decide) ?_
  refine b_put E S93 hAh hnm (f := 10) b92 (show vwCl[11]? = some (RX12, TX12, 46) from rfl) q_inX12 tyX12_ok nmX12 (by decide) bw_1435 rfl (fun _ => rfl) (tyX12_ok 10 (by decide)) rfl rfl dX12_init_43 (fun H100 locs1 z101 o102 b103 S104 => ?_)
  try clear S93; try clear b92
  have w105 : q_w X σ H100 := w94.kept (fun a ha => o102 a (fun e => ha (by rw [e]; exact h00)))
  try clear w94
  have t106 := t_lt b103
  try clear t95
  have r107 := (o102 q8 (by first | exact (Nat.ne_of_gt hq8) | omega)).trans r96
  try clear r96
  have r108 := (o102 q28 (by first | exact (Nat.ne_of_gt hq28) | omega)).trans r97
  try clear r97
  have r109 := (o102 q50 (by first | exact (Nat.ne_of_gt hq50) | omega)).trans r98
  try clear r98
  have r110 := (o102 q74 (by first | exact (Nat.ne_of_gt hq74) | omega)).trans r99
  try clear o102; try clear r99
  refine lv_aload_n hxx hb dX12_init_46 rfl (lv_at hl 0 rfl) ?_
  refine lv_iconst (v := (-1)) hxx hb dX12_init_47 (by decide) ?_
  refine b_put E S104 hAh hnm (f := 11) b103 (show vwCl[11]? = some (RX12, TX12, 46) from rfl) q_inX12 tyX12_ok nmX12 (by decide) bw_1436 rfl (fun _ => rfl) (tyX12_ok 11 (by decide)) rfl rfl dX12_init_48 (fun H111 locs1 z112 o113 b114 S115 => ?_)
  try clear S104; try clear b103
  have w116 : q_w X σ H111 := w105.kept (fun a ha => o113 a (fun e => ha (by rw [e]; exact h00)))
  try clear w105
  have t117 := t_lt b114
  try clear t106
  have r118 := (o113 q8 (by first | exact (Nat.ne_of_gt hq8) | omega)).trans r107
  try clear r107
  have r119 := (o113 q28 (by first | exact (Nat.ne_of_gt hq28) | omega)).trans r108
  try clear r108
  have r120 := (o113 q50 (by first | exact (Nat.ne_of_gt hq50) | omega)).trans r109
  try clear r109
  have r121 := (o113 q74 (by first | exact (Nat.ne_of_gt hq74) | omega)).trans r110
  try clear o113; try clear r110
  refine lv_aload_n hxx hb dX12_init_51 rfl (lv_at hl 0 rfl) ?_
  refine lv_sipush (v := 4650) hxx hb dX12_init_52 (by decide) ?_
  refine b_newa E S115 bw_56 (t := 1) rfl (fun _ _ => rfl) (N' := 4650) (by decide) (by decide) (by decide) (Nat.le_of_ble_eq_true rfl) (Nat.le_of_ble_eq_true rfl) dX12_init_55 (fun q122 H123 e124 z125 o126 r127 S128 => ?_)
  have hq122 : h < q122 := by first | exact Nat.lt_of_lt_of_eq t117 e124.symm | omega
  have gg_q122 : s.heap.size ≤ q122 := Nat.le_trans S115.1 (Nat.le_of_eq e124.symm)
  have mm_q122 : q122 < H123.size := by rw [z125, e124]; exact Nat.lt_succ_self _
  have cc_q122 : q74 < q122 := by first | exact Nat.lt_of_lt_of_eq (Nat.lt_of_lt_of_le (Nat.lt_of_lt_of_le (Nat.lt_of_lt_of_le mm_q74 (Nat.le_of_eq z90.symm)) (Nat.le_of_eq z101.symm)) (Nat.le_of_eq z112.symm)) e124.symm | omega
  try clear S115
  have w129 : q_w X σ H123 := w116.kept (fun a ha => o126 a (w116.lt ha))
  have b130 := b114.kept (o126 h t117)
  try clear b114
  have t131 := t_lt b130
  try clear t117
  have r132 := (o126 q8 (raw_lt r118)).trans r118
  try clear r118
  have r133 := (o126 q28 (raw_lt r119)).trans r119
  try clear r119
  have r134 := (o126 q50 (raw_lt r120)).trans r120
  try clear r120
  have r135 := (o126 q74 (raw_lt r121)).trans r121
  try clear o126; try clear r121
  have k136 : q_kd X q122 = 0 := w116.fresh (Nat.le_of_eq e124.symm)
  try clear w116
  have g137 := S128.1
  refine b_put E S128 hAh hnm (f := 20) b130 (show vwCl[11]? = some (RX12, TX12, 46) from rfl) q_inX12 tyX12_ok nmX12 (by decide) bw_1445 rfl (fun _ => rfl) (tyX12_ok 20 (by decide)) rfl rfl dX12_init_57 (fun H138 locs1 z139 o140 b141 S142 => ?_)
  try clear b130; try clear S128
  have w143 : q_w X σ H138 := w129.kept (fun a ha => o140 a (fun e => ha (by rw [e]; exact h00)))
  try clear w129
  have t144 := t_lt b141
  try clear t131
  have r145 := (o140 q8 (by first | exact (Nat.ne_of_gt hq8) | omega)).trans r132
  try clear r132
  have r146 := (o140 q28 (by first | exact (Nat.ne_of_gt hq28) | omega)).trans r133
  try clear r133
  have r147 := (o140 q50 (by first | exact (Nat.ne_of_gt hq50) | omega)).trans r134
  try clear r134
  have r148 := (o140 q74 (by first | exact (Nat.ne_of_gt hq74) | omega)).trans r135
  try clear r135
  have r149 := (o140 q122 (by first | exact (Nat.ne_of_gt hq122) | omega)).trans r127
  try clear o140; try clear r127
  refine lv_aload_n hxx hb dX12_init_60 rfl (lv_at hl 0 rfl) ?_
  refine lv_sipush (v := 654) hxx hb dX12_init_61 (by decide) ?_
  refine b_newa E S142 bw_56 (t := 1) rfl (fun _ _ => rfl) (N' := 654) (by decide) (by decide) (by decide) (Nat.le_of_ble_eq_true rfl) (Nat.le_of_ble_eq_true rfl) dX12_init_64 (fun q150 H151 e152 z153 o154 r155 S156 => ?_)
  have hq150 : h < q150 := by first | exact Nat.lt_of_lt_of_eq t144 e152.symm | omega
  have gg_q150 : s.heap.size ≤ q150 := Nat.le_trans S142.1 (Nat.le_of_eq e152.symm)
  have mm_q150 : q150 < H151.size := by rw [z153, e152]; exact Nat.lt_succ_self _
  have cc_q150 : q122 < q150 := by first | exact Nat.lt_of_lt_of_eq (Nat.lt_of_lt_of_le mm_q122 (Nat.le_of_eq z139.symm)) e152.symm | omega
  try clear S142
  have w157 : q_w X σ H151 := w143.kept (fun a ha => o154 a (w143.lt ha))
  have b158 := b141.kept (o154 h t144)
  try clear b141
  have t159 := t_lt b158
  try clear t144
  have r160 := (o154 q8 (raw_lt r145)).trans r145
  try clear r145
  have r161 := (o154 q28 (raw_lt r146)).trans r146
  try clear r146
  have r162 := (o154 q50 (raw_lt r147)).trans r147
  try clear r147
  have r163 := (o154 q74 (raw_lt r148)).trans r148
  try clear r148
  have r164 := (o154 q122 (raw_lt r149)).trans r149
  try clear o154; try clear r149
  have k165 : q_kd X q150 = 0 := w143.fresh (Nat.le_of_eq e152.symm)
  try clear w143
  have g166 := S156.1
  refine b_put E S156 hAh hnm (f := 21) b158 (show vwCl[11]? = some (RX12, TX12, 46) from rfl) q_inX12 tyX12_ok nmX12 (by decide) bw_1446 rfl (fun _ => rfl) (tyX12_ok 21 (by decide)) rfl rfl dX12_init_66 (fun H167 locs1 z168 o169 b170 S171 => ?_)
  try clear b158; try clear S156
  have w172 : q_w X σ H167 := w157.kept (fun a ha => o169 a (fun e => ha (by rw [e]; exact h00)))
  try clear w157
  have t173 := t_lt b170
  try clear t159
  have r174 := (o169 q8 (by first | exact (Nat.ne_of_gt hq8) | omega)).trans r160
  try clear r160
  have r175 := (o169 q28 (by first | exact (Nat.ne_of_gt hq28) | omega)).trans r161
  try clear r161
  have r176 := (o169 q50 (by first | exact (Nat.ne_of_gt hq50) | omega)).trans r162
  try clear r162
  have r177 := (o169 q74 (by first | exact (Nat.ne_of_gt hq74) | omega)).trans r163
  try clear r163
  have r178 := (o169 q122 (by first | exact (Nat.ne_of_gt hq122) | omega)).trans r164
  try clear r164
  have r179 := (o169 q150 (by first | exact (Nat.ne_of_gt hq150) | omega)).trans r155
  try clear o169; try clear r155
  refine lv_aload_n hxx hb dX12_init_69 rfl (lv_at hl 0 rfl) ?_
  refine lv_bipush (v := 60) hxx hb dX12_init_70 (by decide) ?_
  refine b_newa E S171 bw_56 (t := 1) rfl (fun _ _ => rfl) (N' := 60) (by decide) (by decide) (by decide) (Nat.le_of_ble_eq_true rfl) (Nat.le_of_ble_eq_true rfl) dX12_init_72 (fun q180 H181 e182 z183 o184 r185 S186 => ?_)
  have hq180 : h < q180 := by first | exact Nat.lt_of_lt_of_eq t173 e182.symm | omega
  have gg_q180 : s.heap.size ≤ q180 := Nat.le_trans S171.1 (Nat.le_of_eq e182.symm)
  have mm_q180 : q180 < H181.size := by rw [z183, e182]; exact Nat.lt_succ_self _
  have cc_q180 : q150 < q180 := by first | exact Nat.lt_of_lt_of_eq (Nat.lt_of_lt_of_le mm_q150 (Nat.le_of_eq z168.symm)) e182.symm | omega
  try clear S171
  have w187 : q_w X σ H181 := w172.kept (fun a ha => o184 a (w172.lt ha))
  have b188 := b170.kept (o184 h t173)
  try clear b170
  have t189 := t_lt b188
  try clear t173
  have r190 := (o184 q8 (raw_lt r174)).trans r174
  try clear r174
  have r191 := (o184 q28 (raw_lt r175)).trans r175
  try clear r175
  have r192 := (o184 q50 (raw_lt r176)).trans r176
  try clear r176
  have r193 := (o184 q74 (raw_lt r177)).trans r177
  try clear r177
  have r194 := (o184 q122 (raw_lt r178)).trans r178
  try clear r178
  have r195 := (o184 q150 (raw_lt r179)).trans r179
  try clear o184; try clear r179
  have k196 : q_kd X q180 = 0 := w172.fresh (Nat.le_of_eq e182.symm)
  try clear w172
  have g197 := S186.1
  refine b_put E S186 hAh hnm (f := 22) b188 (show vwCl[11]? = some (RX12, TX12, 46) from rfl) q_inX12 tyX12_ok nmX12 (by decide) bw_1447 rfl (fun _ => rfl) (tyX12_ok 22 (by decide)) rfl rfl dX12_init_74 (fun H198 locs1 z199 o200 b201 S202 => ?_)
  try clear b188; try clear S186
  have w203 : q_w X σ H198 := w187.kept (fun a ha => o200 a (fun e => ha (by rw [e]; exact h00)))
  try clear w187
  have t204 := t_lt b201
  try clear t189
  have r205 := (o200 q8 (by first | exact (Nat.ne_of_gt hq8) | omega)).trans r190
  try clear r190
  have r206 := (o200 q28 (by first | exact (Nat.ne_of_gt hq28) | omega)).trans r191
  try clear r191
  have r207 := (o200 q50 (by first | exact (Nat.ne_of_gt hq50) | omega)).trans r192
  try clear r192
  have r208 := (o200 q74 (by first | exact (Nat.ne_of_gt hq74) | omega)).trans r193
  try clear r193
  have r209 := (o200 q122 (by first | exact (Nat.ne_of_gt hq122) | omega)).trans r194
  try clear r194
  have r210 := (o200 q150 (by first | exact (Nat.ne_of_gt hq150) | omega)).trans r195
  try clear r195
  have r211 := (o200 q180 (by first | exact (Nat.ne_of_gt hq180) | omega)).trans r185
  try clear o200; try clear r185
  refine lv_aload_n hxx hb dX12_init_77 rfl (lv_at hl 0 rfl) ?_
  refine lv_bipush (v := 30) hxx hb dX12_init_78 (by decide) ?_
  refine b_newa E S202 bw_441 (t := 2) rfl (fun _ _ => rfl) (N' := 30) (by decide) (by decide) (by decide) (Nat.le_of_ble_eq_true rfl) (Nat.le_of_ble_eq_true rfl) dX12_init_80 (fun q212 H213 e214 z215 o216 r217 S218 => ?_)
  have hq212 : h < q212 := by first | exact Nat.lt_of_lt_of_eq t204 e214.symm | omega
  have gg_q212 : s.heap.size ≤ q212 := Nat.le_trans S202.1 (Nat.le_of_eq e214.symm)
  have mm_q212 : q212 < H213.size := by rw [z215, e214]; exact Nat.lt_succ_self _
  have cc_q212 : q180 < q212 := by first | exact Nat.lt_of_lt_of_eq (Nat.lt_of_lt_of_le mm_q180 (Nat.le_of_eq z199.symm)) e214.symm | omega
  try clear S202
  have w219 : q_w X σ H213 := w203.kept (fun a ha => o216 a (w203.lt ha))
  have b220 := b201.kept (o216 h t204)
  try clear b201
  have t221 := t_lt b220
  try clear t204
  have r222 := (o216 q8 (raw_lt r205)).trans r205
  try clear r205
  have r223 := (o216 q28 (raw_lt r206)).trans r206
  try clear r206
  have r224 := (o216 q50 (raw_lt r207)).trans r207
  try clear r207
  have r225 := (o216 q74 (raw_lt r208)).trans r208
  try clear r208
  have r226 := (o216 q122 (raw_lt r209)).trans r209
  try clear r209
  have r227 := (o216 q150 (raw_lt r210)).trans r210
  try clear r210
  have r228 := (o216 q180 (raw_lt r211)).trans r211
  try clear o216; try clear r211
  have k229 : q_kd X q212 = 0 := w203.fresh (Nat.le_of_eq e214.symm)
  try clear w203
  have g230 := S218.1
  refine b_put E S218 hAh hnm (f := 23) b220 (show vwCl[11]? = some (RX12, TX12, 46) from rfl) q_inX12 tyX12_ok nmX12 (by decide) bw_1448 rfl (fun _ => rfl) (tyX12_ok 23 (by decide)) rfl rfl dX12_init_82 (fun H231 locs1 z232 o233 b234 S235 => ?_)
  try clear b220; try clear S218
  have w236 : q_w X σ H231 := w219.kept (fun a ha => o233 a (fun e => ha (by rw [e]; exact h00)))
  try clear w219
  have t237 := t_lt b234
  try clear t221
  have r238 := (o233 q8 (by first | exact (Nat.ne_of_gt hq8) | omega)).trans r222
  try clear r222
  have r239 := (o233 q28 (by first | exact (Nat.ne_of_gt hq28) | omega)).trans r223
  try clear r223
  have r240 := (o233 q50 (by first | exact (Nat.ne_of_gt hq50) | omega)).trans r224
  try clear r224
  have r241 := (o233 q74 (by first | exact (Nat.ne_of_gt hq74) | omega)).trans r225
  try clear r225
  have r242 := (o233 q122 (by first | exact (Nat.ne_of_gt hq122) | omega)).trans r226
  try clear r226
  have r243 := (o233 q150 (by first | exact (Nat.ne_of_gt hq150) | omega)).trans r227
  try clear r227
  have r244 := (o233 q180 (by first | exact (Nat.ne_of_gt hq180) | omega)).trans r228
  try clear r228
  have r245 := (o233 q212 (by first | exact (Nat.ne_of_gt hq212) | omega)).trans r217
  try clear o233; try clear r217
  refine lv_aload_n hxx hb dX12_init_85 rfl (lv_at hl 0 rfl) ?_
  refine lv_bipush (v := 10) hxx hb dX12_init_86 (by decide) ?_
  refine b_newa E S235 bw_56 (t := 1) rfl (fun _ _ => rfl) (N' := 10) (by decide) (by decide) (by decide) (Nat.le_of_ble_eq_true rfl) (Nat.le_of_ble_eq_true rfl) dX12_init_88 (fun q246 H247 e248 z249 o250 r251 S252 => ?_)
  have hq246 : h < q246 := by first | exact Nat.lt_of_lt_of_eq t237 e248.symm | omega
  have gg_q246 : s.heap.size ≤ q246 := Nat.le_trans S235.1 (Nat.le_of_eq e248.symm)
  have mm_q246 : q246 < H247.size := by rw [z249, e248]; exact Nat.lt_succ_self _
  have cc_q246 : q212 < q246 := by first | exact Nat.lt_of_lt_of_eq (Nat.lt_of_lt_of_le mm_q212 (Nat.le_of_eq z232.symm)) e248.symm | omega
  try clear S235
  have w253 : q_w X σ H247 := w236.kept (fun a ha => o250 a (w236.lt ha))
  have b254 := b234.kept (o250 h t237)
  try clear b234
  have t255 := t_lt b254
  try clear t237
  have r256 := (o250 q8 (raw_lt r238)).trans r238
  try clear r238
  have r257 := (o250 q28 (raw_lt r239)).trans r239
  try clear r239
  have r258 := (o250 q50 (raw_lt r240)).trans r240
  try clear r240
  have r259 := (o250 q74 (raw_lt r241)).trans r241
  try clear r241
  have r260 := (o250 q122 (raw_lt r242)).trans r242
  try clear r242
  have r261 := (o250 q150 (raw_lt r243)).trans r243
  try clear r243
  have r262 := (o250 q180 (raw_lt r244)).trans r244
  try clear r244
  have r263 := (o250 q212 (raw_lt r245)).trans r245
  try clear o250; try clear r245
  have k264 : q_kd X q246 = 0 := w236.fresh (Nat.le_of_eq e248.symm)
  try clear w236
  have g265 := S252.1
  refine b_put E S252 hAh hnm (f := 28) b254 (show vwCl[11]? = some (RX12, TX12, 46) from rfl) q_inX12 tyX12_ok nmX12 (by decide) bw_1453 rfl (fun _ => rfl) (tyX12_ok 28 (by decide)) rfl rfl dX12_init_90 (fun H266 locs1 z267 o268 b269 S270 => ?_)
  try clear b254; try clear S252
  have w271 : q_w X σ H266 := w253.kept (fun a ha => o268 a (fun e => ha (by rw [e]; exact h00)))
  try clear w253
  have t272 := t_lt b269
  try clear t255
  have r273 := (o268 q8 (by first | exact (Nat.ne_of_gt hq8) | omega)).trans r256
  try clear r256
  have r274 := (o268 q28 (by first | exact (Nat.ne_of_gt hq28) | omega)).trans r257
  try clear r257
  have r275 := (o268 q50 (by first | exact (Nat.ne_of_gt hq50) | omega)).trans r258
  try clear r258
  have r276 := (o268 q74 (by first | exact (Nat.ne_of_gt hq74) | omega)).trans r259
  try clear r259
  have r277 := (o268 q122 (by first | exact (Nat.ne_of_gt hq122) | omega)).trans r260
  try clear r260
  have r278 := (o268 q150 (by first | exact (Nat.ne_of_gt hq150) | omega)).trans r261
  try clear r261
  have r279 := (o268 q180 (by first | exact (Nat.ne_of_gt hq180) | omega)).trans r262
  try clear r262
  have r280 := (o268 q212 (by first | exact (Nat.ne_of_gt hq212) | omega)).trans r263
  try clear r263
  have r281 := (o268 q246 (by first | exact (Nat.ne_of_gt hq246) | omega)).trans r251
  try clear o268; try clear r251
  refine lv_aload_n hxx hb dX12_init_93 rfl (lv_at hl 0 rfl) ?_
  refine lv_iconst (v := 4) hxx hb dX12_init_94 (by decide) ?_
  refine b_newa E S270 bw_56 (t := 1) rfl (fun _ _ => rfl) (N' := 4) (by decide) (by decide) (by decide) (Nat.le_of_ble_eq_true rfl) (Nat.le_of_ble_eq_true rfl) dX12_init_95 (fun q282 H283 e284 z285 o286 r287 S288 => ?_)
  have hq282 : h < q282 := by first | exact Nat.lt_of_lt_of_eq t272 e284.symm | omega
  have gg_q282 : s.heap.size ≤ q282 := Nat.le_trans S270.1 (Nat.le_of_eq e284.symm)
  have mm_q282 : q282 < H283.size := by rw [z285, e284]; exact Nat.lt_succ_self _
  have cc_q282 : q246 < q282 := by first | exact Nat.lt_of_lt_of_eq (Nat.lt_of_lt_of_le mm_q246 (Nat.le_of_eq z267.symm)) e284.symm | omega
  try clear S270
  have w289 : q_w X σ H283 := w271.kept (fun a ha => o286 a (w271.lt ha))
  have b290 := b269.kept (o286 h t272)
  try clear b269
  have t291 := t_lt b290
  try clear t272
  have r292 := (o286 q8 (raw_lt r273)).trans r273
  try clear r273
  have r293 := (o286 q28 (raw_lt r274)).trans r274
  try clear r274
  have r294 := (o286 q50 (raw_lt r275)).trans r275
  try clear r275
  have r295 := (o286 q74 (raw_lt r276)).trans r276
  try clear r276
  have r296 := (o286 q122 (raw_lt r277)).trans r277
  try clear r277
  have r297 := (o286 q150 (raw_lt r278)).trans r278
  try clear r278
  have r298 := (o286 q180 (raw_lt r279)).trans r279
  try clear r279
  have r299 := (o286 q212 (raw_lt r280)).trans r280
  try clear r280
  have r300 := (o286 q246 (raw_lt r281)).trans r281
  try clear o286; try clear r281
  have k301 : q_kd X q282 = 0 := w271.fresh (Nat.le_of_eq e284.symm)
  try clear w271
  have g302 := S288.1
  refine b_put E S288 hAh hnm (f := 29) b290 (show vwCl[11]? = some (RX12, TX12, 46) from rfl) q_inX12 tyX12_ok nmX12 (by decide) bw_1454 rfl (fun _ => rfl) (tyX12_ok 29 (by decide)) rfl rfl dX12_init_97 (fun H303 locs1 z304 o305 b306 S307 => ?_)
  try clear b290; try clear S288
  have w308 : q_w X σ H303 := w289.kept (fun a ha => o305 a (fun e => ha (by rw [e]; exact h00)))
  try clear w289
  have t309 := t_lt b306
  try clear t291
  have r310 := (o305 q8 (by first | exact (Nat.ne_of_gt hq8) | omega)).trans r292
  try clear r292
  have r311 := (o305 q28 (by first | exact (Nat.ne_of_gt hq28) | omega)).trans r293
  try clear r293
  have r312 := (o305 q50 (by first | exact (Nat.ne_of_gt hq50) | omega)).trans r294
  try clear r294
  have r313 := (o305 q74 (by first | exact (Nat.ne_of_gt hq74) | omega)).trans r295
  try clear r295
  have r314 := (o305 q122 (by first | exact (Nat.ne_of_gt hq122) | omega)).trans r296
  try clear r296
  have r315 := (o305 q150 (by first | exact (Nat.ne_of_gt hq150) | omega)).trans r297
  try clear r297
  have r316 := (o305 q180 (by first | exact (Nat.ne_of_gt hq180) | omega)).trans r298
  try clear r298
  have r317 := (o305 q212 (by first | exact (Nat.ne_of_gt hq212) | omega)).trans r299
  try clear r299
  have r318 := (o305 q246 (by first | exact (Nat.ne_of_gt hq246) | omega)).trans r300
  try clear r300
  have r319 := (o305 q282 (by first | exact (Nat.ne_of_gt hq282) | omega)).trans r287
  try clear o305; try clear r287
  refine lv_aload_n hxx hb dX12_init_100 rfl (lv_at hl 0 rfl) ?_
  refine lv_bipush (v := 10) hxx hb dX12_init_101 (by decide) ?_
  refine b_newa E S307 bw_56 (t := 1) rfl (fun _ _ => rfl) (N' := 10) (by decide) (by decide) (by decide) (Nat.le_of_ble_eq_true rfl) (Nat.le_of_ble_eq_true rfl) dX12_init_103 (fun q320 H321 e322 z323 o324 r325 S326 => ?_)
  have hq320 : h < q320 := by first | exact Nat.lt_of_lt_of_eq t309 e322.symm | omega
  have gg_q320 : s.heap.size ≤ q320 := Nat.le_trans S307.1 (Nat.le_of_eq e322.symm)
  have mm_q320 : q320 < H321.size := by rw [z323, e322]; exact Nat.lt_succ_self _
  have cc_q320 : q282 < q320 := by first | exact Nat.lt_of_lt_of_eq (Nat.lt_of_lt_of_le mm_q282 (Nat.le_of_eq z304.symm)) e322.symm | omega
  try clear S307
  have w327 : q_w X σ H321 := w308.kept (fun a ha => o324 a (w308.lt ha))
  have b328 := b306.kept (o324 h t309)
  try clear b306
  have t329 := t_lt b328
  try clear t309
  have r330 := (o324 q8 (raw_lt r310)).trans r310
  try clear r310
  have r331 := (o324 q28 (raw_lt r311)).trans r311
  try clear r311
  have r332 := (o324 q50 (raw_lt r312)).trans r312
  try clear r312
  have r333 := (o324 q74 (raw_lt r313)).trans r313
  try clear r313
  have r334 := (o324 q122 (raw_lt r314)).trans r314
  try clear r314
  have r335 := (o324 q150 (raw_lt r315)).trans r315
  try clear r315
  have r336 := (o324 q180 (raw_lt r316)).trans r316
  try clear r316
  have r337 := (o324 q212 (raw_lt r317)).trans r317
  try clear r317
  have r338 := (o324 q246 (raw_lt r318)).trans r318
  try clear r318
  have r339 := (o324 q282 (raw_lt r319)).trans r319
  try clear o324; try clear r319
  have k340 : q_kd X q320 = 0 := w308.fresh (Nat.le_of_eq e322.symm)
  try clear w308
  have g341 := S326.1
  refine b_put E S326 hAh hnm (f := 32) b328 (show vwCl[11]? = some (RX12, TX12, 46) from rfl) q_inX12 tyX12_ok nmX12 (by decide) bw_1457 rfl (fun _ => rfl) (tyX12_ok 32 (by decide)) rfl rfl dX12_init_105 (fun H342 locs1 z343 o344 b345 S346 => ?_)
  try clear b328; try clear S326
  have w347 : q_w X σ H342 := w327.kept (fun a ha => o344 a (fun e => ha (by rw [e]; exact h00)))
  try clear w327
  have t348 := t_lt b345
  try clear t329
  have r349 := (o344 q8 (by first | exact (Nat.ne_of_gt hq8) | omega)).trans r330
  try clear r330
  have r350 := (o344 q28 (by first | exact (Nat.ne_of_gt hq28) | omega)).trans r331
  try clear r331
  have r351 := (o344 q50 (by first | exact (Nat.ne_of_gt hq50) | omega)).trans r332
  try clear r332
  have r352 := (o344 q74 (by first | exact (Nat.ne_of_gt hq74) | omega)).trans r333
  try clear r333
  have r353 := (o344 q122 (by first | exact (Nat.ne_of_gt hq122) | omega)).trans r334
  try clear r334
  have r354 := (o344 q150 (by first | exact (Nat.ne_of_gt hq150) | omega)).trans r335
  try clear r335
  have r355 := (o344 q180 (by first | exact (Nat.ne_of_gt hq180) | omega)).trans r336
  try clear r336
  have r356 := (o344 q212 (by first | exact (Nat.ne_of_gt hq212) | omega)).trans r337
  try clear r337
  have r357 := (o344 q246 (by first | exact (Nat.ne_of_gt hq246) | omega)).trans r338
  try clear r338
  have r358 := (o344 q282 (by first | exact (Nat.ne_of_gt hq282) | omega)).trans r339
  try clear r339
  have r359 := (o344 q320 (by first | exact (Nat.ne_of_gt hq320) | omega)).trans r325
  try clear o344; try clear r325
  refine lv_aload_n hxx hb dX12_init_108 rfl (lv_at hl 0 rfl) ?_
  refine lv_iconst (v := 5) hxx hb dX12_init_109 (by decide) ?_
  refine b_newa E S346 bw_56 (t := 1) rfl (fun _ _ => rfl) (N' := 5) (by decide) (by decide) (by decide) (Nat.le_of_ble_eq_true rfl) (Nat.le_of_ble_eq_true rfl) dX12_init_110 (fun q360 H361 e362 z363 o364 r365 S366 => ?_)
  have hq360 : h < q360 := by first | exact Nat.lt_of_lt_of_eq t348 e362.symm | omega
  have gg_q360 : s.heap.size ≤ q360 := Nat.le_trans S346.1 (Nat.le_of_eq e362.symm)
  have mm_q360 : q360 < H361.size := by rw [z363, e362]; exact Nat.lt_succ_self _
  have cc_q360 : q320 < q360 := by first | exact Nat.lt_of_lt_of_eq (Nat.lt_of_lt_of_le mm_q320 (Nat.le_of_eq z343.symm)) e362.symm | omega
  try clear S346
  have w367 : q_w X σ H361 := w347.kept (fun a ha => o364 a (w347.lt ha))
  have b368 := b345.kept (o364 h t348)
  try clear b345
  have t369 := t_lt b368
  try clear t348
  have r370 := (o364 q8 (raw_lt r349)).trans r349
  try clear r349
  have r371 := (o364 q28 (raw_lt r350)).trans r350
  try clear r350
  have r372 := (o364 q50 (raw_lt r351)).trans r351
  try clear r351
  have r373 := (o364 q74 (raw_lt r352)).trans r352
  try clear r352
  have r374 := (o364 q122 (raw_lt r353)).trans r353
  try clear r353
  have r375 := (o364 q150 (raw_lt r354)).trans r354
  try clear r354
  have r376 := (o364 q180 (raw_lt r355)).trans r355
  try clear r355
  have r377 := (o364 q212 (raw_lt r356)).trans r356
  try clear r356
  have r378 := (o364 q246 (raw_lt r357)).trans r357
  try clear r357
  have r379 := (o364 q282 (raw_lt r358)).trans r358
  try clear r358
  have r380 := (o364 q320 (raw_lt r359)).trans r359
  try clear o364; try clear r359
  have k381 : q_kd X q360 = 0 := w347.fresh (Nat.le_of_eq e362.symm)
  try clear w347
  have g382 := S366.1
  refine b_put E S366 hAh hnm (f := 36) b368 (show vwCl[11]? = some (RX12, TX12, 46) from rfl) q_inX12 tyX12_ok nmX12 (by decide) bw_1461 rfl (fun _ => rfl) (tyX12_ok 36 (by decide)) rfl rfl dX12_init_112 (fun H383 locs1 z384 o385 b386 S387 => ?_)
  try clear b368; try clear S366
  have w388 : q_w X σ H383 := w367.kept (fun a ha => o385 a (fun e => ha (by rw [e]; exact h00)))
  try clear w367
  have t389 := t_lt b386
  try clear t369
  have r390 := (o385 q8 (by first | exact (Nat.ne_of_gt hq8) | omega)).trans r370
  try clear r370
  have r391 := (o385 q28 (by first | exact (Nat.ne_of_gt hq28) | omega)).trans r371
  try clear r371
  have r392 := (o385 q50 (by first | exact (Nat.ne_of_gt hq50) | omega)).trans r372
  try clear r372
  have r393 := (o385 q74 (by first | exact (Nat.ne_of_gt hq74) | omega)).trans r373
  try clear r373
  have r394 := (o385 q122 (by first | exact (Nat.ne_of_gt hq122) | omega)).trans r374
  try clear r374
  have r395 := (o385 q150 (by first | exact (Nat.ne_of_gt hq150) | omega)).trans r375
  try clear r375
  have r396 := (o385 q180 (by first | exact (Nat.ne_of_gt hq180) | omega)).trans r376
  try clear r376
  have r397 := (o385 q212 (by first | exact (Nat.ne_of_gt hq212) | omega)).trans r377
  try clear r377
  have r398 := (o385 q246 (by first | exact (Nat.ne_of_gt hq246) | omega)).trans r378
  try clear r378
  have r399 := (o385 q282 (by first | exact (Nat.ne_of_gt hq282) | omega)).trans r379
  try clear r379
  have r400 := (o385 q320 (by first | exact (Nat.ne_of_gt hq320) | omega)).trans r380
  try clear r380
  have r401 := (o385 q360 (by first | exact (Nat.ne_of_gt hq360) | omega)).trans r365
  try clear o385; try clear r365
  refine lv_iconst (v := 0) hxx hb dX12_init_115 (by decide) ?_
  refine lv_istore_n (lv' := [(1, .int 0), (0, .ref h)]) hxx hb dX12_init_116 rfl hl (by decide) rfl (fun ls hl => ?_)
  refine lv_iload_n hxx hb dX12_init_117 rfl (lv_at hl 0 rfl) ?_
  refine lv_iconst (v := 4) hxx hb dX12_init_118 (by decide) ?_
  refine lv_icmp_ge hxx hb dX12_init_119 (tgt := 135) (by decide) (fun q => absurd q (by decide)) (fun _ => ?_)
  refine lv_aload_n hxx hb dX12_init_122 rfl (lv_at hl 1 rfl) ?_
  refine b_get E (f := 5) b386 (show vwCl[11]? = some (RX12, TX12, 46) from rfl) q_inX12 (by decide) bw_1430 rfl (v := .ref q28) rfl dX12_init_123 ?_
  refine lv_iload_n hxx hb dX12_init_126 rfl (lv_at hl 0 rfl) ?_
  refine lv_iconst (v := (-1)) hxx hb dX12_init_127 (by decide) ?_
  refine b_iast E S387 (Or.inr gg_q28) (g := (fun _ => 0 : Nat → Int32)) r391 (by decide) (by decide) dX12_init_128 (fun H402 locs1 z403 o404 r405 S406 => ?_)
  try clear r391; try clear S387
  have w407 : q_w X σ H402 := w388.kept (fun a ha => o404 a (fun e => ha (by rw [e]; exact k39)))
  try clear w388
  have b408 := b386.kept (o404 h (by first | exact (Nat.ne_of_lt hq28) | omega))
  try clear b386
  have t409 := t_lt b408
  try clear t389
  have r410 := (o404 q8 (by first | exact (Nat.ne_of_lt cc_q28) | omega)).trans r390
  try clear r390
  have r411 := (o404 q50 (by first | exact (Nat.ne_of_gt cc_q50) | omega)).trans r392
  try clear r392
  have r412 := (o404 q74 (by first | exact (Nat.ne_of_gt (Nat.lt_trans cc_q50 cc_q74)) | omega)).trans r393
  try clear r393
  have r413 := (o404 q122 (by first | exact (Nat.ne_of_gt (Nat.lt_trans (Nat.lt_trans cc_q50 cc_q74) cc_q122)) | omega)).trans r394
  try clear r394
  have r414 := (o404 q150 (by first | exact (Nat.ne_of_gt (Nat.lt_trans (Nat.lt_trans (Nat.lt_trans cc_q50 cc_q74) cc_q122) cc_q150)) | omega)).trans r395
  try clear r395
  have r415 := (o404 q180 (by first | exact (Nat.ne_of_gt (Nat.lt_trans (Nat.lt_trans (Nat.lt_trans (Nat.lt_trans cc_q50 cc_q74) cc_q122) cc_q150) cc_q180)) | omega)).trans r396
  try clear r396
  have r416 := (o404 q212 (by first | exact (Nat.ne_of_gt (Nat.lt_trans (Nat.lt_trans (Nat.lt_trans (Nat.lt_trans (Nat.lt_trans cc_q50 cc_q74) cc_q122) cc_q150) cc_q180) cc_q212)) | omega)).trans r397
  try clear r397
  have r417 := (o404 q246 (by first | exact (Nat.ne_of_gt (Nat.lt_trans (Nat.lt_trans (Nat.lt_trans (Nat.lt_trans (Nat.lt_trans (Nat.lt_trans cc_q50 cc_q74) cc_q122) cc_q150) cc_q180) cc_q212) cc_q246)) | omega)).trans r398
  try clear r398
  have r418 := (o404 q282 (by first | exact (Nat.ne_of_gt (Nat.lt_trans (Nat.lt_trans (Nat.lt_trans (Nat.lt_trans (Nat.lt_trans (Nat.lt_trans (Nat.lt_trans cc_q50 cc_q74) cc_q122) cc_q150) cc_q180) cc_q212) cc_q246) cc_q282)) | omega)).trans r399
  try clear r399
  have r419 := (o404 q320 (by first | exact (Nat.ne_of_gt (Nat.lt_trans (Nat.lt_trans (Nat.lt_trans (Nat.lt_trans (Nat.lt_trans (Nat.lt_trans (Nat.lt_trans (Nat.lt_trans cc_q50 cc_q74) cc_q122) cc_q150) cc_q180) cc_q212) cc_q246) cc_q282) cc_q320)) | omega)).trans r400
  try clear r400
  have r420 := (o404 q360 (by first | exact (Nat.ne_of_gt (Nat.lt_trans (Nat.lt_trans (Nat.lt_trans (Nat.lt_trans (Nat.lt_trans (Nat.lt_trans (Nat.lt_trans (Nat.lt_trans (Nat.lt_trans cc_q50 cc_q74) cc_q122) cc_q150) cc_q180) cc_q212) cc_q246) cc_q282) cc_q320) cc_q360)) | omega)).trans r401
  try clear o404; try clear r401
  refine lv_iinc (v := 1) (lv' := [(1, .int 1), (0, .ref h)]) hxx hb dX12_init_129 hl (k := 0) rfl (by decide) (by decide) rfl (fun ls hl => ?_)
  refine lv_goto (tgt := 117) hxx hb dX12_init_132 (by decide) ?_
  refine lv_iload_n hxx hb dX12_init_117 rfl (lv_at hl 0 rfl) ?_
  refine lv_iconst (v := 4) hxx hb dX12_init_118 (by decide) ?_
  refine lv_icmp_ge hxx hb dX12_init_119 (tgt := 135) (by decide) (fun q => absurd q (by decide)) (fun _ => ?_)
  refine lv_aload_n hxx hb dX12_init_122 rfl (lv_at hl 1 rfl) ?_
  refine b_get E (f := 5) b408 (show vwCl[11]? = some (RX12, TX12, 46) from rfl) q_inX12 (by decide) bw_1430 rfl (v := .ref q28) rfl dX12_init_123 ?_
  refine lv_iload_n hxx hb dX12_init_126 rfl (lv_at hl 0 rfl) ?_
  refine lv_iconst (v := (-1)) hxx hb dX12_init_127 (by decide) ?_
  refine b_iast E S406 (Or.inr gg_q28) (g := (fun j => if j = (0 : Int32).toNatClampNeg then ((-1) : Int32) else (fun _ => 0 : Nat → Int32) j)) r405 (by decide) (by decide) dX12_init_128 (fun H421 locs1 z422 o423 r424 S425 => ?_)
  try clear S406; try clear r405
  have w426 : q_w X σ H421 := w407.kept (fun a ha => o423 a (fun e => ha (by rw [e]; exact k39)))
  try clear w407
  have b427 := b408.kept (o423 h (by first | exact (Nat.ne_of_lt hq28) | omega))
  try clear b408
  have t428 := t_lt b427
  try clear t409
  have r429 := (o423 q8 (by first | exact (Nat.ne_of_lt cc_q28) | omega)).trans r410
  try clear r410
  have r430 := (o423 q50 (by first | exact (Nat.ne_of_gt cc_q50) | omega)).trans r411
  try clear r411
  have r431 := (o423 q74 (by first | exact (Nat.ne_of_gt (Nat.lt_trans cc_q50 cc_q74)) | omega)).trans r412
  try clear r412
  have r432 := (o423 q122 (by first | exact (Nat.ne_of_gt (Nat.lt_trans (Nat.lt_trans cc_q50 cc_q74) cc_q122)) | omega)).trans r413
  try clear r413
  have r433 := (o423 q150 (by first | exact (Nat.ne_of_gt (Nat.lt_trans (Nat.lt_trans (Nat.lt_trans cc_q50 cc_q74) cc_q122) cc_q150)) | omega)).trans r414
  try clear r414
  have r434 := (o423 q180 (by first | exact (Nat.ne_of_gt (Nat.lt_trans (Nat.lt_trans (Nat.lt_trans (Nat.lt_trans cc_q50 cc_q74) cc_q122) cc_q150) cc_q180)) | omega)).trans r415
  try clear r415
  have r435 := (o423 q212 (by first | exact (Nat.ne_of_gt (Nat.lt_trans (Nat.lt_trans (Nat.lt_trans (Nat.lt_trans (Nat.lt_trans cc_q50 cc_q74) cc_q122) cc_q150) cc_q180) cc_q212)) | omega)).trans r416
  try clear r416
  have r436 := (o423 q246 (by first | exact (Nat.ne_of_gt (Nat.lt_trans (Nat.lt_trans (Nat.lt_trans (Nat.lt_trans (Nat.lt_trans (Nat.lt_trans cc_q50 cc_q74) cc_q122) cc_q150) cc_q180) cc_q212) cc_q246)) | omega)).trans r417
  try clear r417
  have r437 := (o423 q282 (by first | exact (Nat.ne_of_gt (Nat.lt_trans (Nat.lt_trans (Nat.lt_trans (Nat.lt_trans (Nat.lt_trans (Nat.lt_trans (Nat.lt_trans cc_q50 cc_q74) cc_q122) cc_q150) cc_q180) cc_q212) cc_q246) cc_q282)) | omega)).trans r418
  try clear r418
  have r438 := (o423 q320 (by first | exact (Nat.ne_of_gt (Nat.lt_trans (Nat.lt_trans (Nat.lt_trans (Nat.lt_trans (Nat.lt_trans (Nat.lt_trans (Nat.lt_trans (Nat.lt_trans cc_q50 cc_q74) cc_q122) cc_q150) cc_q180) cc_q212) cc_q246) cc_q282) cc_q320)) | omega)).trans r419
  try clear r419
  have r439 := (o423 q360 (by first | exact (Nat.ne_of_gt (Nat.lt_trans (Nat.lt_trans (Nat.lt_trans (Nat.lt_trans (Nat.lt_trans (Nat.lt_trans (Nat.lt_trans (Nat.lt_trans (Nat.lt_trans cc_q50 cc_q74) cc_q122) cc_q150) cc_q180) cc_q212) cc_q246) cc_q282) cc_q320) cc_q360)) | omega)).trans r420
  try clear o423; try clear r420
  refine lv_iinc (v := 2) (lv' := [(1, .int 2), (0, .ref h)]) hxx hb dX12_init_129 hl (k := 0) rfl (by decide) (by decide) rfl (fun ls hl => ?_)
  refine lv_goto (tgt := 117) hxx hb dX12_init_132 (by decide) ?_
  refine lv_iload_n hxx hb dX12_init_117 rfl (lv_at hl 0 rfl) ?_
  refine lv_iconst (v := 4) hxx hb dX12_init_118 (by decide) ?_
  refine lv_icmp_ge hxx hb dX12_init_119 (tgt := 135) (by decide) (fun q => absurd q (by decide)) (fun _ => ?_)
  refine lv_aload_n hxx hb dX12_init_122 rfl (lv_at hl 1 rfl) ?_
  refine b_get E (f := 5) b427 (show vwCl[11]? = some (RX12, TX12, 46) from rfl) q_inX12 (by decide) bw_1430 rfl (v := .ref q28) rfl dX12_init_123 ?_
  refine lv_iload_n hxx hb dX12_init_126 rfl (lv_at hl 0 rfl) ?_
  refine lv_iconst (v := (-1)) hxx hb dX12_init_127 (by decide) ?_
  refine b_iast E S425 (Or.inr gg_q28) (g := (fun j => if j = (1 : Int32).toNatClampNeg then ((-1) : Int32) else (fun j => if j = (0 : Int32).toNatClampNeg then ((-1) : Int32) else (fun _ => 0 : Nat → Int32) j) j)) r424 (by decide) (by decide) dX12_init_128 (fun H440 locs1 z441 o442 r443 S444 => ?_)
  try clear S425; try clear r424
  have w445 : q_w X σ H440 := w426.kept (fun a ha => o442 a (fun e => ha (by rw [e]; exact k39)))
  try clear w426
  have b446 := b427.kept (o442 h (by first | exact (Nat.ne_of_lt hq28) | omega))
  try clear b427
  have t447 := t_lt b446
  try clear t428
  have r448 := (o442 q8 (by first | exact (Nat.ne_of_lt cc_q28) | omega)).trans r429
  try clear r429
  have r449 := (o442 q50 (by first | exact (Nat.ne_of_gt cc_q50) | omega)).trans r430
  try clear r430
  have r450 := (o442 q74 (by first | exact (Nat.ne_of_gt (Nat.lt_trans cc_q50 cc_q74)) | omega)).trans r431
  try clear r431
  have r451 := (o442 q122 (by first | exact (Nat.ne_of_gt (Nat.lt_trans (Nat.lt_trans cc_q50 cc_q74) cc_q122)) | omega)).trans r432
  try clear r432
  have r452 := (o442 q150 (by first | exact (Nat.ne_of_gt (Nat.lt_trans (Nat.lt_trans (Nat.lt_trans cc_q50 cc_q74) cc_q122) cc_q150)) | omega)).trans r433
  try clear r433
  have r453 := (o442 q180 (by first | exact (Nat.ne_of_gt (Nat.lt_trans (Nat.lt_trans (Nat.lt_trans (Nat.lt_trans cc_q50 cc_q74) cc_q122) cc_q150) cc_q180)) | omega)).trans r434
  try clear r434
  have r454 := (o442 q212 (by first | exact (Nat.ne_of_gt (Nat.lt_trans (Nat.lt_trans (Nat.lt_trans (Nat.lt_trans (Nat.lt_trans cc_q50 cc_q74) cc_q122) cc_q150) cc_q180) cc_q212)) | omega)).trans r435
  try clear r435
  have r455 := (o442 q246 (by first | exact (Nat.ne_of_gt (Nat.lt_trans (Nat.lt_trans (Nat.lt_trans (Nat.lt_trans (Nat.lt_trans (Nat.lt_trans cc_q50 cc_q74) cc_q122) cc_q150) cc_q180) cc_q212) cc_q246)) | omega)).trans r436
  try clear r436
  have r456 := (o442 q282 (by first | exact (Nat.ne_of_gt (Nat.lt_trans (Nat.lt_trans (Nat.lt_trans (Nat.lt_trans (Nat.lt_trans (Nat.lt_trans (Nat.lt_trans cc_q50 cc_q74) cc_q122) cc_q150) cc_q180) cc_q212) cc_q246) cc_q282)) | omega)).trans r437
  try clear r437
  have r457 := (o442 q320 (by first | exact (Nat.ne_of_gt (Nat.lt_trans (Nat.lt_trans (Nat.lt_trans (Nat.lt_trans (Nat.lt_trans (Nat.lt_trans (Nat.lt_trans (Nat.lt_trans cc_q50 cc_q74) cc_q122) cc_q150) cc_q180) cc_q212) cc_q246) cc_q282) cc_q320)) | omega)).trans r438
  try clear r438
  have r458 := (o442 q360 (by first | exact (Nat.ne_of_gt (Nat.lt_trans (Nat.lt_trans (Nat.lt_trans (Nat.lt_trans (Nat.lt_trans (Nat.lt_trans (Nat.lt_trans (Nat.lt_trans (Nat.lt_trans cc_q50 cc_q74) cc_q122) cc_q150) cc_q180) cc_q212) cc_q246) cc_q282) cc_q320) cc_q360)) | omega)).trans r439
  try clear o442; try clear r439
  refine lv_iinc (v := 3) (lv' := [(1, .int 3), (0, .ref h)]) hxx hb dX12_init_129 hl (k := 0) rfl (by decide) (by decide) rfl (fun ls hl => ?_)
  refine lv_goto (tgt := 117) hxx hb dX12_init_132 (by decide) ?_
  refine lv_iload_n hxx hb dX12_init_117 rfl (lv_at hl 0 rfl) ?_
  refine lv_iconst (v := 4) hxx hb dX12_init_118 (by decide) ?_
  refine lv_icmp_ge hxx hb dX12_init_119 (tgt := 135) (by decide) (fun q => absurd q (by decide)) (fun _ => ?_)
  refine lv_aload_n hxx hb dX12_init_122 rfl (lv_at hl 1 rfl) ?_
  refine b_get E (f := 5) b446 (show vwCl[11]? = some (RX12, TX12, 46) from rfl) q_inX12 (by decide) bw_1430 rfl (v := .ref q28) rfl dX12_init_123 ?_
  refine lv_iload_n hxx hb dX12_init_126 rfl (lv_at hl 0 rfl) ?_
  refine lv_iconst (v := (-1)) hxx hb dX12_init_127 (by decide) ?_
  refine b_iast E S444 (Or.inr gg_q28) (g := (fun j => if j = (2 : Int32).toNatClampNeg then ((-1) : Int32) else (fun j => if j = (1 : Int32).toNatClampNeg then ((-1) : Int32) else (fun j => if j = (0 : Int32).toNatClampNeg then ((-1) : Int32) else (fun _ => 0 : Nat → Int32) j) j) j)) r443 (by decide) (by decide) dX12_init_128 (fun H459 locs1 z460 o461 r462 S463 => ?_)
  try clear S444; try clear r443
  have w464 : q_w X σ H459 := w445.kept (fun a ha => o461 a (fun e => ha (by rw [e]; exact k39)))
  try clear w445
  have b465 := b446.kept (o461 h (by first | exact (Nat.ne_of_lt hq28) | omega))
  try clear b446
  have t466 := t_lt b465
  try clear t447
  have r467 := (o461 q8 (by first | exact (Nat.ne_of_lt cc_q28) | omega)).trans r448
  try clear r448
  have r468 := (o461 q50 (by first | exact (Nat.ne_of_gt cc_q50) | omega)).trans r449
  try clear r449
  have r469 := (o461 q74 (by first | exact (Nat.ne_of_gt (Nat.lt_trans cc_q50 cc_q74)) | omega)).trans r450
  try clear r450
  have r470 := (o461 q122 (by first | exact (Nat.ne_of_gt (Nat.lt_trans (Nat.lt_trans cc_q50 cc_q74) cc_q122)) | omega)).trans r451
  try clear r451
  have r471 := (o461 q150 (by first | exact (Nat.ne_of_gt (Nat.lt_trans (Nat.lt_trans (Nat.lt_trans cc_q50 cc_q74) cc_q122) cc_q150)) | omega)).trans r452
  try clear r452
  have r472 := (o461 q180 (by first | exact (Nat.ne_of_gt (Nat.lt_trans (Nat.lt_trans (Nat.lt_trans (Nat.lt_trans cc_q50 cc_q74) cc_q122) cc_q150) cc_q180)) | omega)).trans r453
  try clear r453
  have r473 := (o461 q212 (by first | exact (Nat.ne_of_gt (Nat.lt_trans (Nat.lt_trans (Nat.lt_trans (Nat.lt_trans (Nat.lt_trans cc_q50 cc_q74) cc_q122) cc_q150) cc_q180) cc_q212)) | omega)).trans r454
  try clear r454
  have r474 := (o461 q246 (by first | exact (Nat.ne_of_gt (Nat.lt_trans (Nat.lt_trans (Nat.lt_trans (Nat.lt_trans (Nat.lt_trans (Nat.lt_trans cc_q50 cc_q74) cc_q122) cc_q150) cc_q180) cc_q212) cc_q246)) | omega)).trans r455
  try clear r455
  have r475 := (o461 q282 (by first | exact (Nat.ne_of_gt (Nat.lt_trans (Nat.lt_trans (Nat.lt_trans (Nat.lt_trans (Nat.lt_trans (Nat.lt_trans (Nat.lt_trans cc_q50 cc_q74) cc_q122) cc_q150) cc_q180) cc_q212) cc_q246) cc_q282)) | omega)).trans r456
  try clear r456
  have r476 := (o461 q320 (by first | exact (Nat.ne_of_gt (Nat.lt_trans (Nat.lt_trans (Nat.lt_trans (Nat.lt_trans (Nat.lt_trans (Nat.lt_trans (Nat.lt_trans (Nat.lt_trans cc_q50 cc_q74) cc_q122) cc_q150) cc_q180) cc_q212) cc_q246) cc_q282) cc_q320)) | omega)).trans r457
  try clear r457
  have r477 := (o461 q360 (by first | exact (Nat.ne_of_gt (Nat.lt_trans (Nat.lt_trans (Nat.lt_trans (Nat.lt_trans (Nat.lt_trans (Nat.lt_trans (Nat.lt_trans (Nat.lt_trans (Nat.lt_trans cc_q50 cc_q74) cc_q122) cc_q150) cc_q180) cc_q212) cc_q246) cc_q282) cc_q320) cc_q360)) | omega)).trans r458
  try clear o461; try clear r458
  refine lv_iinc (v := 4) (lv' := [(1, .int 4), (0, .ref h)]) hxx hb dX12_init_129 hl (k := 0) rfl (by decide) (by decide) rfl (fun ls hl => ?_)
  refine lv_goto (tgt := 117) hxx hb dX12_init_132 (by decide) ?_
  refine lv_iload_n hxx hb dX12_init_117 rfl (lv_at hl 0 rfl) ?_
  refine lv_iconst (v := 4) hxx hb dX12_init_118 (by decide) ?_
  refine lv_icmp_ge hxx hb dX12_init_119 (tgt := 135) (by decide) (fun _ => ?_) (fun q => absurd (by decide) q)
  refine lv_aload_n hxx hb dX12_init_135 rfl (lv_at hl 1 rfl) ?_
  refine b_get E (f := 20) b465 (show vwCl[11]? = some (RX12, TX12, 46) from rfl) q_inX12 (by decide) bw_1445 rfl (v := .ref q122) rfl dX12_init_136 ?_
  refine lv_iconst (v := 0) hxx hb dX12_init_139 (by decide) ?_
  refine lv_iconst (v := 2) hxx hb dX12_init_140 (by decide) ?_
  refine b_iast E S463 (Or.inr gg_q122) (g := (fun _ => 0 : Nat → Int32)) r470 (by decide) (by decide) dX12_init_141 (fun H478 locs1 z479 o480 r481 S482 => ?_)
  try clear r470; try clear S463
  have w483 : q_w X σ H478 := w464.kept (fun a ha => o480 a (fun e => ha (by rw [e]; exact k136)))
  try clear w464
  have b484 := b465.kept (o480 h (by first | exact (Nat.ne_of_lt hq122) | omega))
  try clear b465
  have t485 := t_lt b484
  try clear t466
  have r486 := (o480 q8 (by first | exact (Nat.ne_of_lt (Nat.lt_trans (Nat.lt_trans (Nat.lt_trans cc_q28 cc_q50) cc_q74) cc_q122)) | omega)).trans r467
  try clear r467
  have r487 := (o480 q28 (by first | exact (Nat.ne_of_lt (Nat.lt_trans (Nat.lt_trans cc_q50 cc_q74) cc_q122)) | omega)).trans r462
  try clear r462
  have r488 := (o480 q50 (by first | exact (Nat.ne_of_lt (Nat.lt_trans cc_q74 cc_q122)) | omega)).trans r468
  try clear r468
  have r489 := (o480 q74 (by first | exact (Nat.ne_of_lt cc_q122) | omega)).trans r469
  try clear r469
  have r490 := (o480 q150 (by first | exact (Nat.ne_of_gt cc_q150) | omega)).trans r471
  try clear r471
  have r491 := (o480 q180 (by first | exact (Nat.ne_of_gt (Nat.lt_trans cc_q150 cc_q180)) | omega)).trans r472
  try clear r472
  have r492 := (o480 q212 (by first | exact (Nat.ne_of_gt (Nat.lt_trans (Nat.lt_trans cc_q150 cc_q180) cc_q212)) | omega)).trans r473
  try clear r473
  have r493 := (o480 q246 (by first | exact (Nat.ne_of_gt (Nat.lt_trans (Nat.lt_trans (Nat.lt_trans cc_q150 cc_q180) cc_q212) cc_q246)) | omega)).trans r474
  try clear r474
  have r494 := (o480 q282 (by first | exact (Nat.ne_of_gt (Nat.lt_trans (Nat.lt_trans (Nat.lt_trans (Nat.lt_trans cc_q150 cc_q180) cc_q212) cc_q246) cc_q282)) | omega)).trans r475
  try clear r475
  have r495 := (o480 q320 (by first | exact (Nat.ne_of_gt (Nat.lt_trans (Nat.lt_trans (Nat.lt_trans (Nat.lt_trans (Nat.lt_trans cc_q150 cc_q180) cc_q212) cc_q246) cc_q282) cc_q320)) | omega)).trans r476
  try clear r476
  have r496 := (o480 q360 (by first | exact (Nat.ne_of_gt (Nat.lt_trans (Nat.lt_trans (Nat.lt_trans (Nat.lt_trans (Nat.lt_trans (Nat.lt_trans cc_q150 cc_q180) cc_q212) cc_q246) cc_q282) cc_q320) cc_q360)) | omega)).trans r477
  try clear o480; try clear r477
  refine lv_aload_n hxx hb dX12_init_142 rfl (lv_at hl 1 rfl) ?_
  refine b_get E (f := 20) b484 (show vwCl[11]? = some (RX12, TX12, 46) from rfl) q_inX12 (by decide) bw_1445 rfl (v := .ref q122) rfl dX12_init_143 ?_
  refine lv_iconst (v := 1) hxx hb dX12_init_146 (by decide) ?_
  refine lv_iconst (v := 1) hxx hb dX12_init_147 (by decide) ?_
  refine b_iast E S482 (Or.inr gg_q122) (g := (fun j => if j = (0 : Int32).toNatClampNeg then (2 : Int32) else (fun _ => 0 : Nat → Int32) j)) r481 (by decide) (by decide) dX12_init_148 (fun H497 locs1 z498 o499 r500 S501 => ?_)
  try clear S482; try clear r481
  have w502 : q_w X σ H497 := w483.kept (fun a ha => o499 a (fun e => ha (by rw [e]; exact k136)))
  try clear w483
  have b503 := b484.kept (o499 h (by first | exact (Nat.ne_of_lt hq122) | omega))
  try clear b484
  have t504 := t_lt b503
  try clear t485
  have r505 := (o499 q8 (by first | exact (Nat.ne_of_lt (Nat.lt_trans (Nat.lt_trans (Nat.lt_trans cc_q28 cc_q50) cc_q74) cc_q122)) | omega)).trans r486
  try clear r486
  have r506 := (o499 q28 (by first | exact (Nat.ne_of_lt (Nat.lt_trans (Nat.lt_trans cc_q50 cc_q74) cc_q122)) | omega)).trans r487
  try clear r487
  have r507 := (o499 q50 (by first | exact (Nat.ne_of_lt (Nat.lt_trans cc_q74 cc_q122)) | omega)).trans r488
  try clear r488
  have r508 := (o499 q74 (by first | exact (Nat.ne_of_lt cc_q122) | omega)).trans r489
  try clear r489
  have r509 := (o499 q150 (by first | exact (Nat.ne_of_gt cc_q150) | omega)).trans r490
  try clear r490
  have r510 := (o499 q180 (by first | exact (Nat.ne_of_gt (Nat.lt_trans cc_q150 cc_q180)) | omega)).trans r491
  try clear r491
  have r511 := (o499 q212 (by first | exact (Nat.ne_of_gt (Nat.lt_trans (Nat.lt_trans cc_q150 cc_q180) cc_q212)) | omega)).trans r492
  try clear r492
  have r512 := (o499 q246 (by first | exact (Nat.ne_of_gt (Nat.lt_trans (Nat.lt_trans (Nat.lt_trans cc_q150 cc_q180) cc_q212) cc_q246)) | omega)).trans r493
  try clear r493
  have r513 := (o499 q282 (by first | exact (Nat.ne_of_gt (Nat.lt_trans (Nat.lt_trans (Nat.lt_trans (Nat.lt_trans cc_q150 cc_q180) cc_q212) cc_q246) cc_q282)) | omega)).trans r494
  try clear r494
  have r514 := (o499 q320 (by first | exact (Nat.ne_of_gt (Nat.lt_trans (Nat.lt_trans (Nat.lt_trans (Nat.lt_trans (Nat.lt_trans cc_q150 cc_q180) cc_q212) cc_q246) cc_q282) cc_q320)) | omega)).trans r495
  try clear r495
  have r515 := (o499 q360 (by first | exact (Nat.ne_of_gt (Nat.lt_trans (Nat.lt_trans (Nat.lt_trans (Nat.lt_trans (Nat.lt_trans (Nat.lt_trans cc_q150 cc_q180) cc_q212) cc_q246) cc_q282) cc_q320) cc_q360)) | omega)).trans r496
  try clear o499; try clear r496
  refine lv_aload_n hxx hb dX12_init_149 rfl (lv_at hl 1 rfl) ?_
  refine b_get E (f := 20) b503 (show vwCl[11]? = some (RX12, TX12, 46) from rfl) q_inX12 (by decide) bw_1445 rfl (v := .ref q122) rfl dX12_init_150 ?_
  refine lv_iconst (v := 4) hxx hb dX12_init_153 (by decide) ?_
  refine lv_iconst (v := 4) hxx hb dX12_init_154 (by decide) ?_
  refine b_iast E S501 (Or.inr gg_q122) (g := (fun j => if j = (1 : Int32).toNatClampNeg then (1 : Int32) else (fun j => if j = (0 : Int32).toNatClampNeg then (2 : Int32) else (fun _ => 0 : Nat → Int32) j) j)) r500 (by decide) (by decide) dX12_init_155 (fun H516 locs1 z517 o518 r519 S520 => ?_)
  try clear S501; try clear r500
  have w521 : q_w X σ H516 := w502.kept (fun a ha => o518 a (fun e => ha (by rw [e]; exact k136)))
  try clear w502
  have b522 := b503.kept (o518 h (by first | exact (Nat.ne_of_lt hq122) | omega))
  try clear b503
  have t523 := t_lt b522
  try clear t504
  have r524 := (o518 q8 (by first | exact (Nat.ne_of_lt (Nat.lt_trans (Nat.lt_trans (Nat.lt_trans cc_q28 cc_q50) cc_q74) cc_q122)) | omega)).trans r505
  try clear r505
  have r525 := (o518 q28 (by first | exact (Nat.ne_of_lt (Nat.lt_trans (Nat.lt_trans cc_q50 cc_q74) cc_q122)) | omega)).trans r506
  try clear r506
  have r526 := (o518 q50 (by first | exact (Nat.ne_of_lt (Nat.lt_trans cc_q74 cc_q122)) | omega)).trans r507
  try clear r507
  have r527 := (o518 q74 (by first | exact (Nat.ne_of_lt cc_q122) | omega)).trans r508
  try clear r508
  have r528 := (o518 q150 (by first | exact (Nat.ne_of_gt cc_q150) | omega)).trans r509
  try clear r509
  have r529 := (o518 q180 (by first | exact (Nat.ne_of_gt (Nat.lt_trans cc_q150 cc_q180)) | omega)).trans r510
  try clear r510
  have r530 := (o518 q212 (by first | exact (Nat.ne_of_gt (Nat.lt_trans (Nat.lt_trans cc_q150 cc_q180) cc_q212)) | omega)).trans r511
  try clear r511
  have r531 := (o518 q246 (by first | exact (Nat.ne_of_gt (Nat.lt_trans (Nat.lt_trans (Nat.lt_trans cc_q150 cc_q180) cc_q212) cc_q246)) | omega)).trans r512
  try clear r512
  have r532 := (o518 q282 (by first | exact (Nat.ne_of_gt (Nat.lt_trans (Nat.lt_trans (Nat.lt_trans (Nat.lt_trans cc_q150 cc_q180) cc_q212) cc_q246) cc_q282)) | omega)).trans r513
  try clear r513
  have r533 := (o518 q320 (by first | exact (Nat.ne_of_gt (Nat.lt_trans (Nat.lt_trans (Nat.lt_trans (Nat.lt_trans (Nat.lt_trans cc_q150 cc_q180) cc_q212) cc_q246) cc_q282) cc_q320)) | omega)).trans r514
  try clear r514
  have r534 := (o518 q360 (by first | exact (Nat.ne_of_gt (Nat.lt_trans (Nat.lt_trans (Nat.lt_trans (Nat.lt_trans (Nat.lt_trans (Nat.lt_trans cc_q150 cc_q180) cc_q212) cc_q246) cc_q282) cc_q320) cc_q360)) | omega)).trans r515
  try clear o518; try clear r515
  refine lv_aload_n hxx hb dX12_init_156 rfl (lv_at hl 1 rfl) ?_
  refine b_get E (f := 20) b522 (show vwCl[11]? = some (RX12, TX12, 46) from rfl) q_inX12 (by decide) bw_1445 rfl (v := .ref q122) rfl dX12_init_157 ?_
  refine lv_bipush (v := 8) hxx hb dX12_init_160 (by decide) ?_
  refine lv_iconst (v := (-1)) hxx hb dX12_init_162 (by decide) ?_
  refine b_iast E S520 (Or.inr gg_q122) (g := (fun j => if j = (4 : Int32).toNatClampNeg then (4 : Int32) else (fun j => if j = (1 : Int32).toNatClampNeg then (1 : Int32) else (fun j => if j = (0 : Int32).toNatClampNeg then (2 : Int32) else (fun _ => 0 : Nat → Int32) j) j) j)) r519 (by decide) (by decide) dX12_init_163 (fun H535 locs1 z536 o537 r538 S539 => ?_)
  try clear S520; try clear r519
  have w540 : q_w X σ H535 := w521.kept (fun a ha => o537 a (fun e => ha (by rw [e]; exact k136)))
  try clear w521
  have b541 := b522.kept (o537 h (by first | exact (Nat.ne_of_lt hq122) | omega))
  try clear b522
  have t542 := t_lt b541
  try clear t523
  have r543 := (o537 q8 (by first | exact (Nat.ne_of_lt (Nat.lt_trans (Nat.lt_trans (Nat.lt_trans cc_q28 cc_q50) cc_q74) cc_q122)) | omega)).trans r524
  try clear r524
  have r544 := (o537 q28 (by first | exact (Nat.ne_of_lt (Nat.lt_trans (Nat.lt_trans cc_q50 cc_q74) cc_q122)) | omega)).trans r525
  try clear r525
  have r545 := (o537 q50 (by first | exact (Nat.ne_of_lt (Nat.lt_trans cc_q74 cc_q122)) | omega)).trans r526
  try clear r526
  have r546 := (o537 q74 (by first | exact (Nat.ne_of_lt cc_q122) | omega)).trans r527
  try clear r527
  have r547 := (o537 q150 (by first | exact (Nat.ne_of_gt cc_q150) | omega)).trans r528
  try clear r528
  have r548 := (o537 q180 (by first | exact (Nat.ne_of_gt (Nat.lt_trans cc_q150 cc_q180)) | omega)).trans r529
  try clear r529
  have r549 := (o537 q212 (by first | exact (Nat.ne_of_gt (Nat.lt_trans (Nat.lt_trans cc_q150 cc_q180) cc_q212)) | omega)).trans r530
  try clear r530
  have r550 := (o537 q246 (by first | exact (Nat.ne_of_gt (Nat.lt_trans (Nat.lt_trans (Nat.lt_trans cc_q150 cc_q180) cc_q212) cc_q246)) | omega)).trans r531
  try clear r531
  have r551 := (o537 q282 (by first | exact (Nat.ne_of_gt (Nat.lt_trans (Nat.lt_trans (Nat.lt_trans (Nat.lt_trans cc_q150 cc_q180) cc_q212) cc_q246) cc_q282)) | omega)).trans r532
  try clear r532
  have r552 := (o537 q320 (by first | exact (Nat.ne_of_gt (Nat.lt_trans (Nat.lt_trans (Nat.lt_trans (Nat.lt_trans (Nat.lt_trans cc_q150 cc_q180) cc_q212) cc_q246) cc_q282) cc_q320)) | omega)).trans r533
  try clear r533
  have r553 := (o537 q360 (by first | exact (Nat.ne_of_gt (Nat.lt_trans (Nat.lt_trans (Nat.lt_trans (Nat.lt_trans (Nat.lt_trans (Nat.lt_trans cc_q150 cc_q180) cc_q212) cc_q246) cc_q282) cc_q320) cc_q360)) | omega)).trans r534
  try clear o537; try clear r534
  refine lv_aload_n hxx hb dX12_init_164 rfl (lv_at hl 1 rfl) ?_
  refine b_get E (f := 20) b541 (show vwCl[11]? = some (RX12, TX12, 46) from rfl) q_inX12 (by decide) bw_1445 rfl (v := .ref q122) rfl dX12_init_165 ?_
  refine lv_bipush (v := 6) hxx hb dX12_init_168 (by decide) ?_
  refine lv_iconst (v := (-1)) hxx hb dX12_init_170 (by decide) ?_
  refine b_iast E S539 (Or.inr gg_q122) (g := (fun j => if j = (8 : Int32).toNatClampNeg then ((-1) : Int32) else (fun j => if j = (4 : Int32).toNatClampNeg then (4 : Int32) else (fun j => if j = (1 : Int32).toNatClampNeg then (1 : Int32) else (fun j => if j = (0 : Int32).toNatClampNeg then (2 : Int32) else (fun _ => 0 : Nat → Int32) j) j) j) j)) r538 (by decide) (by decide) dX12_init_171 (fun H554 locs1 z555 o556 r557 S558 => ?_)
  try clear S539; try clear r538
  have w559 : q_w X σ H554 := w540.kept (fun a ha => o556 a (fun e => ha (by rw [e]; exact k136)))
  try clear w540
  have b560 := b541.kept (o556 h (by first | exact (Nat.ne_of_lt hq122) | omega))
  try clear b541
  have t561 := t_lt b560
  try clear t542
  have r562 := (o556 q8 (by first | exact (Nat.ne_of_lt (Nat.lt_trans (Nat.lt_trans (Nat.lt_trans cc_q28 cc_q50) cc_q74) cc_q122)) | omega)).trans r543
  try clear r543
  have r563 := (o556 q28 (by first | exact (Nat.ne_of_lt (Nat.lt_trans (Nat.lt_trans cc_q50 cc_q74) cc_q122)) | omega)).trans r544
  try clear r544
  have r564 := (o556 q50 (by first | exact (Nat.ne_of_lt (Nat.lt_trans cc_q74 cc_q122)) | omega)).trans r545
  try clear r545
  have r565 := (o556 q74 (by first | exact (Nat.ne_of_lt cc_q122) | omega)).trans r546
  try clear r546
  have r566 := (o556 q150 (by first | exact (Nat.ne_of_gt cc_q150) | omega)).trans r547
  try clear r547
  have r567 := (o556 q180 (by first | exact (Nat.ne_of_gt (Nat.lt_trans cc_q150 cc_q180)) | omega)).trans r548
  try clear r548
  have r568 := (o556 q212 (by first | exact (Nat.ne_of_gt (Nat.lt_trans (Nat.lt_trans cc_q150 cc_q180) cc_q212)) | omega)).trans r549
  try clear r549
  have r569 := (o556 q246 (by first | exact (Nat.ne_of_gt (Nat.lt_trans (Nat.lt_trans (Nat.lt_trans cc_q150 cc_q180) cc_q212) cc_q246)) | omega)).trans r550
  try clear r550
  have r570 := (o556 q282 (by first | exact (Nat.ne_of_gt (Nat.lt_trans (Nat.lt_trans (Nat.lt_trans (Nat.lt_trans cc_q150 cc_q180) cc_q212) cc_q246) cc_q282)) | omega)).trans r551
  try clear r551
  have r571 := (o556 q320 (by first | exact (Nat.ne_of_gt (Nat.lt_trans (Nat.lt_trans (Nat.lt_trans (Nat.lt_trans (Nat.lt_trans cc_q150 cc_q180) cc_q212) cc_q246) cc_q282) cc_q320)) | omega)).trans r552
  try clear r552
  have r572 := (o556 q360 (by first | exact (Nat.ne_of_gt (Nat.lt_trans (Nat.lt_trans (Nat.lt_trans (Nat.lt_trans (Nat.lt_trans (Nat.lt_trans cc_q150 cc_q180) cc_q212) cc_q246) cc_q282) cc_q320) cc_q360)) | omega)).trans r553
  try clear o556; try clear r553
  have y577 := raw_lt r562
  try clear y577
  obtain ⟨X573, dX573⟩ : ∃ Y, Y = q_xg X q8 30 4 (fun _ => 0) := ⟨_, rfl⟩
  obtain ⟨σ574, dσ574⟩ : ∃ τ, τ = q_sg σ q8 (fun _ => 0 : Nat → Int32) (fun _ => 0) 0 := ⟨_, rfl⟩
  have x575 : q_ext (fun a => a = q8) X X573 σ σ574 := by rw [dX573, dσ574]; exact q_ext.add k18
  have y578 : y_root X573 q8 := by rw [dX573]; exact (y_root.out w559.1 k18).add y_xg (fun f hf => absurd rfl hf)
  have y579 : y_rt X X573 := by rw [dX573]; exact yr0.add y_xg (fun f hf => absurd rfl hf)
  have w576 : q_w X573 σ574 H554 := by
    rw [dX573, dσ574]
    exact w559.add k18 (fun f hf => absurd rfl hf) (fun _ => rfl) (by decide) (fun q => absurd q (by decide)) (fun f => by refine q_inB (lo := 0) (hi := 3) rfl ?_ ?_ <;> ((try dsimp only); repeat' split) <;> decide) (fun q => by rcases q with q | q <;> exact absurd q (by decide)) (q_cfA hD (by decide) (t0 := 1) rfl r562 (fun j => rfl)) (fun f hf => absurd rfl hf) (fun f g hf _ _ => absurd rfl hf) (fun f hf => absurd rfl hf) (fun f hf => absurd (show (0 : Nat) = 5 from hf) (by decide)) (fun q => absurd q (by decide))
  try clear r562; try clear w559; try clear k18
  have D580 : X573.1 = D := x575.1.trans hD
  have k581 : q_kd X573 q8 = 30 := by rw [dX573]; exact q_xg_h
  have n582 : q_ln X573 q8 = 4 := by rw [dX573]; exact if_pos rfl
  have x583 := hx0.tr x575 (fun a e => Or.inr (by rw [e]; exact gg_q8))
  have k584 : q_kd X573 q28 = 0 := x575.k0 k39 (by first | exact (Nat.ne_of_gt cc_q28) | (omega))
  try clear k39
  have k585 : q_kd X573 q50 = 0 := x575.k0 k62 (by first | exact (Nat.ne_of_gt (Nat.lt_trans cc_q28 cc_q50)) | (omega))
  try clear k62
  have k586 : q_kd X573 q74 = 0 := x575.k0 k87 (by first | exact (Nat.ne_of_gt (Nat.lt_trans (Nat.lt_trans cc_q28 cc_q50) cc_q74)) | (omega))
  try clear k87
  have k587 : q_kd X573 q122 = 0 := x575.k0 k136 (by first | exact (Nat.ne_of_gt (Nat.lt_trans (Nat.lt_trans (Nat.lt_trans cc_q28 cc_q50) cc_q74) cc_q122)) | (omega))
  try clear k136
  have k588 : q_kd X573 q150 = 0 := x575.k0 k165 (by first | exact (Nat.ne_of_gt (Nat.lt_trans (Nat.lt_trans (Nat.lt_trans (Nat.lt_trans cc_q28 cc_q50) cc_q74) cc_q122) cc_q150)) | (omega))
  try clear k165
  have k589 : q_kd X573 q180 = 0 := x575.k0 k196 (by first | exact (Nat.ne_of_gt (Nat.lt_trans (Nat.lt_trans (Nat.lt_trans (Nat.lt_trans (Nat.lt_trans cc_q28 cc_q50) cc_q74) cc_q122) cc_q150) cc_q180)) | (omega))
  try clear k196
  have k590 : q_kd X573 q212 = 0 := x575.k0 k229 (by first | exact (Nat.ne_of_gt (Nat.lt_trans (Nat.lt_trans (Nat.lt_trans (Nat.lt_trans (Nat.lt_trans (Nat.lt_trans cc_q28 cc_q50) cc_q74) cc_q122) cc_q150) cc_q180) cc_q212)) | (omega))
  try clear k229
  have k591 : q_kd X573 q246 = 0 := x575.k0 k264 (by first | exact (Nat.ne_of_gt (Nat.lt_trans (Nat.lt_trans (Nat.lt_trans (Nat.lt_trans (Nat.lt_trans (Nat.lt_trans (Nat.lt_trans cc_q28 cc_q50) cc_q74) cc_q122) cc_q150) cc_q180) cc_q212) cc_q246)) | (omega))
  try clear k264
  have k592 : q_kd X573 q282 = 0 := x575.k0 k301 (by first | exact (Nat.ne_of_gt (Nat.lt_trans (Nat.lt_trans (Nat.lt_trans (Nat.lt_trans (Nat.lt_trans (Nat.lt_trans (Nat.lt_trans (Nat.lt_trans cc_q28 cc_q50) cc_q74) cc_q122) cc_q150) cc_q180) cc_q212) cc_q246) cc_q282)) | (omega))
  try clear k301
  have k593 : q_kd X573 q320 = 0 := x575.k0 k340 (by first | exact (Nat.ne_of_gt (Nat.lt_trans (Nat.lt_trans (Nat.lt_trans (Nat.lt_trans (Nat.lt_trans (Nat.lt_trans (Nat.lt_trans (Nat.lt_trans (Nat.lt_trans cc_q28 cc_q50) cc_q74) cc_q122) cc_q150) cc_q180) cc_q212) cc_q246) cc_q282) cc_q320)) | (omega))
  try clear k340
  have k594 : q_kd X573 q360 = 0 := x575.k0 k381 (by first | exact (Nat.ne_of_gt (Nat.lt_trans (Nat.lt_trans (Nat.lt_trans (Nat.lt_trans (Nat.lt_trans (Nat.lt_trans (Nat.lt_trans (Nat.lt_trans (Nat.lt_trans (Nat.lt_trans cc_q28 cc_q50) cc_q74) cc_q122) cc_q150) cc_q180) cc_q212) cc_q246) cc_q282) cc_q320) cc_q360)) | (omega))
  try clear k381
  have k595 : q_kd X573 h = 0 := x575.k0 h00 (by first | exact (Nat.ne_of_lt hq8) | (omega))
  try clear x575
  have j596 : ∀ j, σ574.1 q8 j = (fun _ => 0 : Nat → Int32) j := fun j => by rw [dσ574]; exact if_pos rfl
  have y601 := raw_lt r563
  try clear y601
  obtain ⟨X597, dX597⟩ : ∃ Y, Y = q_xg X573 q28 31 4 (fun _ => 0) := ⟨_, rfl⟩
  obtain ⟨σ598, dσ598⟩ : ∃ τ, τ = q_sg σ574 q28 (fun j => if j = (3 : Int32).toNatClampNeg then ((-1) : Int32) else (fun j => if j = (2 : Int32).toNatClampNeg then ((-1) : Int32) else (fun j => if j = (1 : Int32).toNatClampNeg then ((-1) : Int32) else (fun j => if j = (0 : Int32).toNatClampNeg then ((-1) : Int32) else (fun _ => 0 : Nat → Int32) j) j) j) j) (fun _ => 0) 0 := ⟨_, rfl⟩
  have x599 : q_ext (fun a => a = q28) X573 X597 σ574 σ598 := by rw [dX597, dσ598]; exact q_ext.add k584
  have y602 : y_root X597 q8 := by rw [dX597]; exact y578.add y_xg (fun f hf => absurd rfl hf)
  try clear y578
  have y603 : y_root X597 q28 := by rw [dX597]; exact (y_root.out w576.1 k584).add y_xg (fun f hf => absurd rfl hf)
  have y604 : y_rt X X597 := by rw [dX597]; exact y579.add y_xg (fun f hf => absurd rfl hf)
  try clear y579
  have w600 : q_w X597 σ598 H554 := by
    rw [dX597, dσ598]
    exact w576.add k584 (fun f hf => absurd rfl hf) (fun _ => rfl) (by decide) (fun q => absurd q (by decide)) (fun f => by refine q_inB (lo := -1) (hi := 60) rfl ?_ ?_ <;> ((try dsimp only); repeat' split) <;> decide) (fun q => by rcases q with q | q <;> exact absurd q (by decide)) (q_cfA D580 (by decide) (t0 := 1) rfl r563 (fun j => rfl)) (fun f hf => absurd rfl hf) (fun f g hf _ _ => absurd rfl hf) (fun f hf => absurd rfl hf) (fun f hf => absurd (show (0 : Nat) = 5 from hf) (by decide)) (fun q => absurd q (by decide))
  try clear k584; try clear w576; try clear r563
  have D605 : X597.1 = D := x599.1.trans D580
  try clear D580
  have k606 : q_kd X597 q28 = 31 := by rw [dX597]; exact q_xg_h
  have n607 : q_ln X597 q28 = 4 := by rw [dX597]; exact if_pos rfl
  have x608 := x583.tr x599 (fun a e => Or.inr (by rw [e]; exact gg_q28))
  try clear x583
  have k609 := x599.kd k581 (by decide)
  have k610 : q_kd X597 q50 = 0 := x599.k0 k585 (by first | exact (Nat.ne_of_gt cc_q50) | (omega))
  try clear k585
  have k611 : q_kd X597 q74 = 0 := x599.k0 k586 (by first | exact (Nat.ne_of_gt (Nat.lt_trans cc_q50 cc_q74)) | (omega))
  try clear k586
  have k612 : q_kd X597 q122 = 0 := x599.k0 k587 (by first | exact (Nat.ne_of_gt (Nat.lt_trans (Nat.lt_trans cc_q50 cc_q74) cc_q122)) | (omega))
  try clear k587
  have k613 : q_kd X597 q150 = 0 := x599.k0 k588 (by first | exact (Nat.ne_of_gt (Nat.lt_trans (Nat.lt_trans (Nat.lt_trans cc_q50 cc_q74) cc_q122) cc_q150)) | (omega))
  try clear k588
  have k614 : q_kd X597 q180 = 0 := x599.k0 k589 (by first | exact (Nat.ne_of_gt (Nat.lt_trans (Nat.lt_trans (Nat.lt_trans (Nat.lt_trans cc_q50 cc_q74) cc_q122) cc_q150) cc_q180)) | (omega))
  try clear k589
  have k615 : q_kd X597 q212 = 0 := x599.k0 k590 (by first | exact (Nat.ne_of_gt (Nat.lt_trans (Nat.lt_trans (Nat.lt_trans (Nat.lt_trans (Nat.lt_trans cc_q50 cc_q74) cc_q122) cc_q150) cc_q180) cc_q212)) | (omega))
  try clear k590
  have k616 : q_kd X597 q246 = 0 := x599.k0 k591 (by first | exact (Nat.ne_of_gt (Nat.lt_trans (Nat.lt_trans (Nat.lt_trans (Nat.lt_trans (Nat.lt_trans (Nat.lt_trans cc_q50 cc_q74) cc_q122) cc_q150) cc_q180) cc_q212) cc_q246)) | (omega))
  try clear k591
  have k617 : q_kd X597 q282 = 0 := x599.k0 k592 (by first | exact (Nat.ne_of_gt (Nat.lt_trans (Nat.lt_trans (Nat.lt_trans (Nat.lt_trans (Nat.lt_trans (Nat.lt_trans (Nat.lt_trans cc_q50 cc_q74) cc_q122) cc_q150) cc_q180) cc_q212) cc_q246) cc_q282)) | (omega))
  try clear k592
  have k618 : q_kd X597 q320 = 0 := x599.k0 k593 (by first | exact (Nat.ne_of_gt (Nat.lt_trans (Nat.lt_trans (Nat.lt_trans (Nat.lt_trans (Nat.lt_trans (Nat.lt_trans (Nat.lt_trans (Nat.lt_trans cc_q50 cc_q74) cc_q122) cc_q150) cc_q180) cc_q212) cc_q246) cc_q282) cc_q320)) | (omega))
  try clear k593
  have k619 : q_kd X597 q360 = 0 := x599.k0 k594 (by first | exact (Nat.ne_of_gt (Nat.lt_trans (Nat.lt_trans (Nat.lt_trans (Nat.lt_trans (Nat.lt_trans (Nat.lt_trans (Nat.lt_trans (Nat.lt_trans (Nat.lt_trans cc_q50 cc_q74) cc_q122) cc_q150) cc_q180) cc_q212) cc_q246) cc_q282) cc_q320) cc_q360)) | (omega))
  try clear k594
  have k620 : q_kd X597 h = 0 := x599.k0 k595 (by first | exact (Nat.ne_of_lt hq28) | (omega))
  try clear k595
  have n621 : q_ln X597 q8 = 4 := (x599.2.2.2.1 q8 (by rw [k581]; decide)).2.1.trans n582
  have j622 : ∀ j, σ598.1 q8 j = (fun _ => 0 : Nat → Int32) j := fun j => (q_exi x599 (by rw [k581]; decide)).trans (j596 j)
  try clear x599; try clear k581
  have j623 : ∀ j, σ598.1 q28 j = (fun j => if j = (3 : Int32).toNatClampNeg then ((-1) : Int32) else (fun j => if j = (2 : Int32).toNatClampNeg then ((-1) : Int32) else (fun j => if j = (1 : Int32).toNatClampNeg then ((-1) : Int32) else (fun j => if j = (0 : Int32).toNatClampNeg then ((-1) : Int32) else (fun _ => 0 : Nat → Int32) j) j) j) j) j := fun j => by rw [dσ598]; exact if_pos rfl
  have y628 := raw_lt r564
  try clear y628
  obtain ⟨X624, dX624⟩ : ∃ Y, Y = q_xg X597 q50 32 240 (fun _ => 0) := ⟨_, rfl⟩
  obtain ⟨σ625, dσ625⟩ : ∃ τ, τ = q_sg σ598 q50 (fun _ => 0) (fun _ => 0) 0 := ⟨_, rfl⟩
  have x626 : q_ext (fun a => a = q50) X597 X624 σ598 σ625 := by rw [dX624, dσ625]; exact q_ext.add k610
  have y629 : y_root X624 q8 := by rw [dX624]; exact y602.add y_xg (fun f hf => absurd rfl hf)
  try clear y602
  have y630 : y_root X624 q28 := by rw [dX624]; exact y603.add y_xg (fun f hf => absurd rfl hf)
  try clear y603
  have y631 : y_root X624 q50 := by rw [dX624]; exact (y_root.out w600.1 k610).add y_xg (fun f hf => absurd rfl hf)
  have y632 : y_rt X X624 := by rw [dX624]; exact y604.add y_xg (fun f hf => absurd rfl hf)
  try clear y604
  have w627 : q_w X624 σ625 H554 := by
    rw [dX624, dσ625]
    exact w600.add k610 (fun f hf => absurd rfl hf) (fun _ => rfl) (by decide) (fun q => absurd q (by decide)) (fun f => q_inU rfl) (fun q => by rcases q with q | q <;> exact absurd q (by decide)) (q_cfA D605 (by decide) (t0 := 2) rfl r564 (fun j => rfl)) (fun f hf => absurd rfl hf) (fun f g hf _ _ => absurd rfl hf) (fun f hf => absurd rfl hf) (fun f hf => absurd (show (0 : Nat) = 5 from hf) (by decide)) (fun q => absurd q (by decide))
  try clear k610; try clear w600; try clear r564
  have D633 : X624.1 = D := x626.1.trans D605
  try clear D605
  have k634 : q_kd X624 q50 = 32 := by rw [dX624]; exact q_xg_h
  have n635 : q_ln X624 q50 = 240 := by rw [dX624]; exact if_pos rfl
  have x636 := x608.tr x626 (fun a e => Or.inr (by rw [e]; exact gg_q50))
  try clear x608
  have k637 := x626.kd k609 (by decide)
  have k638 := x626.kd k606 (by decide)
  have k639 : q_kd X624 q74 = 0 := x626.k0 k611 (by first | exact (Nat.ne_of_gt cc_q74) | (omega))
  try clear k611
  have k640 : q_kd X624 q122 = 0 := x626.k0 k612 (by first | exact (Nat.ne_of_gt (Nat.lt_trans cc_q74 cc_q122)) | (omega))
  try clear k612
  have k641 : q_kd X624 q150 = 0 := x626.k0 k613 (by first | exact (Nat.ne_of_gt (Nat.lt_trans (Nat.lt_trans cc_q74 cc_q122) cc_q150)) | (omega))
  try clear k613
  have k642 : q_kd X624 q180 = 0 := x626.k0 k614 (by first | exact (Nat.ne_of_gt (Nat.lt_trans (Nat.lt_trans (Nat.lt_trans cc_q74 cc_q122) cc_q150) cc_q180)) | (omega))
  try clear k614
  have k643 : q_kd X624 q212 = 0 := x626.k0 k615 (by first | exact (Nat.ne_of_gt (Nat.lt_trans (Nat.lt_trans (Nat.lt_trans (Nat.lt_trans cc_q74 cc_q122) cc_q150) cc_q180) cc_q212)) | (omega))
  try clear k615
  have k644 : q_kd X624 q246 = 0 := x626.k0 k616 (by first | exact (Nat.ne_of_gt (Nat.lt_trans (Nat.lt_trans (Nat.lt_trans (Nat.lt_trans (Nat.lt_trans cc_q74 cc_q122) cc_q150) cc_q180) cc_q212) cc_q246)) | (omega))
  try clear k616
  have k645 : q_kd X624 q282 = 0 := x626.k0 k617 (by first | exact (Nat.ne_of_gt (Nat.lt_trans (Nat.lt_trans (Nat.lt_trans (Nat.lt_trans (Nat.lt_trans (Nat.lt_trans cc_q74 cc_q122) cc_q150) cc_q180) cc_q212) cc_q246) cc_q282)) | (omega))
  try clear k617
  have k646 : q_kd X624 q320 = 0 := x626.k0 k618 (by first | exact (Nat.ne_of_gt (Nat.lt_trans (Nat.lt_trans (Nat.lt_trans (Nat.lt_trans (Nat.lt_trans (Nat.lt_trans (Nat.lt_trans cc_q74 cc_q122) cc_q150) cc_q180) cc_q212) cc_q246) cc_q282) cc_q320)) | (omega))
  try clear k618
  have k647 : q_kd X624 q360 = 0 := x626.k0 k619 (by first | exact (Nat.ne_of_gt (Nat.lt_trans (Nat.lt_trans (Nat.lt_trans (Nat.lt_trans (Nat.lt_trans (Nat.lt_trans (Nat.lt_trans (Nat.lt_trans cc_q74 cc_q122) cc_q150) cc_q180) cc_q212) cc_q246) cc_q282) cc_q320) cc_q360)) | (omega))
  try clear k619
  have k648 : q_kd X624 h = 0 := x626.k0 k620 (by first | exact (Nat.ne_of_lt hq50) | (omega))
  try clear k620
  have n649 : q_ln X624 q8 = 4 := (x626.2.2.2.1 q8 (by rw [k609]; decide)).2.1.trans n621
  have n650 : q_ln X624 q28 = 4 := (x626.2.2.2.1 q28 (by rw [k606]; decide)).2.1.trans n607
  have j651 : ∀ j, σ625.1 q8 j = (fun _ => 0 : Nat → Int32) j := fun j => (q_exi x626 (by rw [k609]; decide)).trans (j622 j)
  try clear k609
  have j652 : ∀ j, σ625.1 q28 j = (fun j => if j = (3 : Int32).toNatClampNeg then ((-1) : Int32) else (fun j => if j = (2 : Int32).toNatClampNeg then ((-1) : Int32) else (fun j => if j = (1 : Int32).toNatClampNeg then ((-1) : Int32) else (fun j => if j = (0 : Int32).toNatClampNeg then ((-1) : Int32) else (fun _ => 0 : Nat → Int32) j) j) j) j) j := fun j => (q_exi x626 (by rw [k606]; decide)).trans (j623 j)
  try clear x626; try clear k606
  have y657 := raw_lt r565
  try clear y657
  obtain ⟨X653, dX653⟩ : ∃ Y, Y = q_xg X624 q74 33 900 (fun _ => 0) := ⟨_, rfl⟩
  obtain ⟨σ654, dσ654⟩ : ∃ τ, τ = q_sg σ625 q74 (fun _ => 0 : Nat → Int32) (fun _ => 0) 0 := ⟨_, rfl⟩
  have x655 : q_ext (fun a => a = q74) X624 X653 σ625 σ654 := by rw [dX653, dσ654]; exact q_ext.add k639
  have y658 : y_root X653 q8 := by rw [dX653]; exact y629.add y_xg (fun f hf => absurd rfl hf)
  try clear y629
  have y659 : y_root X653 q28 := by rw [dX653]; exact y630.add y_xg (fun f hf => absurd rfl hf)
  try clear y630
  have y660 : y_root X653 q50 := by rw [dX653]; exact y631.add y_xg (fun f hf => absurd rfl hf)
  try clear y631
  have y661 : y_root X653 q74 := by rw [dX653]; exact (y_root.out w627.1 k639).add y_xg (fun f hf => absurd rfl hf)
  have y662 : y_rt X X653 := by rw [dX653]; exact y632.add y_xg (fun f hf => absurd rfl hf)
  try clear y632
  have w656 : q_w X653 σ654 H554 := by
    rw [dX653, dσ654]
    exact w627.add k639 (fun f hf => absurd rfl hf) (fun _ => rfl) (by decide) (fun q => absurd q (by decide)) (fun f => q_inU rfl) (fun q => by rcases q with q | q <;> exact absurd q (by decide)) (q_cfA D633 (by decide) (t0 := 0) rfl r565 (fun j => rfl)) (fun f hf => absurd rfl hf) (fun f g hf _ _ => absurd rfl hf) (fun f hf => absurd rfl hf) (fun f hf => absurd (show (0 : Nat) = 5 from hf) (by decide)) (fun q => absurd q (by decide))
  try clear k639; try clear w627; try clear r565
  have D663 : X653.1 = D := x655.1.trans D633
  try clear D633
  have k664 : q_kd X653 q74 = 33 := by rw [dX653]; exact q_xg_h
  have n665 : q_ln X653 q74 = 900 := by rw [dX653]; exact if_pos rfl
  have x666 := x636.tr x655 (fun a e => Or.inr (by rw [e]; exact gg_q74))
  try clear x636
  have k667 := x655.kd k637 (by decide)
  have k668 := x655.kd k638 (by decide)
  have k669 := x655.kd k634 (by decide)
  have k670 : q_kd X653 q122 = 0 := x655.k0 k640 (by first | exact (Nat.ne_of_gt cc_q122) | (omega))
  try clear k640
  have k671 : q_kd X653 q150 = 0 := x655.k0 k641 (by first | exact (Nat.ne_of_gt (Nat.lt_trans cc_q122 cc_q150)) | (omega))
  try clear k641
  have k672 : q_kd X653 q180 = 0 := x655.k0 k642 (by first | exact (Nat.ne_of_gt (Nat.lt_trans (Nat.lt_trans cc_q122 cc_q150) cc_q180)) | (omega))
  try clear k642
  have k673 : q_kd X653 q212 = 0 := x655.k0 k643 (by first | exact (Nat.ne_of_gt (Nat.lt_trans (Nat.lt_trans (Nat.lt_trans cc_q122 cc_q150) cc_q180) cc_q212)) | (omega))
  try clear k643
  have k674 : q_kd X653 q246 = 0 := x655.k0 k644 (by first | exact (Nat.ne_of_gt (Nat.lt_trans (Nat.lt_trans (Nat.lt_trans (Nat.lt_trans cc_q122 cc_q150) cc_q180) cc_q212) cc_q246)) | (omega))
  try clear k644
  have k675 : q_kd X653 q282 = 0 := x655.k0 k645 (by first | exact (Nat.ne_of_gt (Nat.lt_trans (Nat.lt_trans (Nat.lt_trans (Nat.lt_trans (Nat.lt_trans cc_q122 cc_q150) cc_q180) cc_q212) cc_q246) cc_q282)) | (omega))
  try clear k645
  have k676 : q_kd X653 q320 = 0 := x655.k0 k646 (by first | exact (Nat.ne_of_gt (Nat.lt_trans (Nat.lt_trans (Nat.lt_trans (Nat.lt_trans (Nat.lt_trans (Nat.lt_trans cc_q122 cc_q150) cc_q180) cc_q212) cc_q246) cc_q282) cc_q320)) | (omega))
  try clear k646
  have k677 : q_kd X653 q360 = 0 := x655.k0 k647 (by first | exact (Nat.ne_of_gt (Nat.lt_trans (Nat.lt_trans (Nat.lt_trans (Nat.lt_trans (Nat.lt_trans (Nat.lt_trans (Nat.lt_trans cc_q122 cc_q150) cc_q180) cc_q212) cc_q246) cc_q282) cc_q320) cc_q360)) | (omega))
  try clear k647
  have k678 : q_kd X653 h = 0 := x655.k0 k648 (by first | exact (Nat.ne_of_lt hq74) | (omega))
  try clear k648
  have n679 : q_ln X653 q8 = 4 := (x655.2.2.2.1 q8 (by rw [k637]; decide)).2.1.trans n649
  have n680 : q_ln X653 q28 = 4 := (x655.2.2.2.1 q28 (by rw [k638]; decide)).2.1.trans n650
  have n681 : q_ln X653 q50 = 240 := (x655.2.2.2.1 q50 (by rw [k634]; decide)).2.1.trans n635
  try clear k634
  have j682 : ∀ j, σ654.1 q8 j = (fun _ => 0 : Nat → Int32) j := fun j => (q_exi x655 (by rw [k637]; decide)).trans (j651 j)
  try clear k637
  have j683 : ∀ j, σ654.1 q28 j = (fun j => if j = (3 : Int32).toNatClampNeg then ((-1) : Int32) else (fun j => if j = (2 : Int32).toNatClampNeg then ((-1) : Int32) else (fun j => if j = (1 : Int32).toNatClampNeg then ((-1) : Int32) else (fun j => if j = (0 : Int32).toNatClampNeg then ((-1) : Int32) else (fun _ => 0 : Nat → Int32) j) j) j) j) j := fun j => (q_exi x655 (by rw [k638]; decide)).trans (j652 j)
  try clear x655; try clear k638
  have y688 := raw_lt r557
  try clear y688
  obtain ⟨X684, dX684⟩ : ∃ Y, Y = q_xg X653 q122 34 4650 (fun _ => 0) := ⟨_, rfl⟩
  obtain ⟨σ685, dσ685⟩ : ∃ τ, τ = q_sg σ654 q122 (fun j => if j = (6 : Int32).toNatClampNeg then ((-1) : Int32) else (fun j => if j = (8 : Int32).toNatClampNeg then ((-1) : Int32) else (fun j => if j = (4 : Int32).toNatClampNeg then (4 : Int32) else (fun j => if j = (1 : Int32).toNatClampNeg then (1 : Int32) else (fun j => if j = (0 : Int32).toNatClampNeg then (2 : Int32) else (fun _ => 0 : Nat → Int32) j) j) j) j) j) (fun _ => 0) 0 := ⟨_, rfl⟩
  have x686 : q_ext (fun a => a = q122) X653 X684 σ654 σ685 := by rw [dX684, dσ685]; exact q_ext.add k670
  have y689 : y_root X684 q8 := by rw [dX684]; exact y658.add y_xg (fun f hf => absurd rfl hf)
  try clear y658
  have y690 : y_root X684 q28 := by rw [dX684]; exact y659.add y_xg (fun f hf => absurd rfl hf)
  try clear y659
  have y691 : y_root X684 q50 := by rw [dX684]; exact y660.add y_xg (fun f hf => absurd rfl hf)
  try clear y660
  have y692 : y_root X684 q74 := by rw [dX684]; exact y661.add y_xg (fun f hf => absurd rfl hf)
  try clear y661
  have y693 : y_root X684 q122 := by rw [dX684]; exact (y_root.out w656.1 k670).add y_xg (fun f hf => absurd rfl hf)
  have y694 : y_rt X X684 := by rw [dX684]; exact y662.add y_xg (fun f hf => absurd rfl hf)
  try clear y662
  have w687 : q_w X684 σ685 H554 := by
    rw [dX684, dσ685]
    exact w656.add k670 (fun f hf => absurd rfl hf) (fun _ => rfl) (by decide) (fun q => absurd q (by decide)) (fun f => q_inU rfl) (fun q => by rcases q with q | q <;> exact absurd q (by decide)) (q_cfA D663 (by decide) (t0 := 1) rfl r557 (fun j => rfl)) (fun f hf => absurd rfl hf) (fun f g hf _ _ => absurd rfl hf) (fun f hf => absurd rfl hf) (fun f hf => absurd (show (0 : Nat) = 5 from hf) (by decide)) (fun q => absurd q (by decide))
  try clear k670; try clear w656; try clear r557
  have D695 : X684.1 = D := x686.1.trans D663
  try clear D663
  have k696 : q_kd X684 q122 = 34 := by rw [dX684]; exact q_xg_h
  have n697 : q_ln X684 q122 = 4650 := by rw [dX684]; exact if_pos rfl
  have x698 := x666.tr x686 (fun a e => Or.inr (by rw [e]; exact gg_q122))
  try clear x666
  have k699 := x686.kd k667 (by decide)
  have k700 := x686.kd k668 (by decide)
  have k701 := x686.kd k669 (by decide)
  have k702 := x686.kd k664 (by decide)
  have k703 : q_kd X684 q150 = 0 := x686.k0 k671 (by first | exact (Nat.ne_of_gt cc_q150) | (omega))
  try clear k671
  have k704 : q_kd X684 q180 = 0 := x686.k0 k672 (by first | exact (Nat.ne_of_gt (Nat.lt_trans cc_q150 cc_q180)) | (omega))
  try clear k672
  have k705 : q_kd X684 q212 = 0 := x686.k0 k673 (by first | exact (Nat.ne_of_gt (Nat.lt_trans (Nat.lt_trans cc_q150 cc_q180) cc_q212)) | (omega))
  try clear k673
  have k706 : q_kd X684 q246 = 0 := x686.k0 k674 (by first | exact (Nat.ne_of_gt (Nat.lt_trans (Nat.lt_trans (Nat.lt_trans cc_q150 cc_q180) cc_q212) cc_q246)) | (omega))
  try clear k674
  have k707 : q_kd X684 q282 = 0 := x686.k0 k675 (by first | exact (Nat.ne_of_gt (Nat.lt_trans (Nat.lt_trans (Nat.lt_trans (Nat.lt_trans cc_q150 cc_q180) cc_q212) cc_q246) cc_q282)) | (omega))
  try clear k675
  have k708 : q_kd X684 q320 = 0 := x686.k0 k676 (by first | exact (Nat.ne_of_gt (Nat.lt_trans (Nat.lt_trans (Nat.lt_trans (Nat.lt_trans (Nat.lt_trans cc_q150 cc_q180) cc_q212) cc_q246) cc_q282) cc_q320)) | (omega))
  try clear k676
  have k709 : q_kd X684 q360 = 0 := x686.k0 k677 (by first | exact (Nat.ne_of_gt (Nat.lt_trans (Nat.lt_trans (Nat.lt_trans (Nat.lt_trans (Nat.lt_trans (Nat.lt_trans cc_q150 cc_q180) cc_q212) cc_q246) cc_q282) cc_q320) cc_q360)) | (omega))
  try clear k677
  have k710 : q_kd X684 h = 0 := x686.k0 k678 (by first | exact (Nat.ne_of_lt hq122) | (omega))
  try clear k678
  have n711 : q_ln X684 q8 = 4 := (x686.2.2.2.1 q8 (by rw [k667]; decide)).2.1.trans n679
  have n712 : q_ln X684 q28 = 4 := (x686.2.2.2.1 q28 (by rw [k668]; decide)).2.1.trans n680
  have n713 : q_ln X684 q50 = 240 := (x686.2.2.2.1 q50 (by rw [k669]; decide)).2.1.trans n681
  try clear k669
  have n714 : q_ln X684 q74 = 900 := (x686.2.2.2.1 q74 (by rw [k664]; decide)).2.1.trans n665
  try clear k664
  have j715 : ∀ j, σ685.1 q8 j = (fun _ => 0 : Nat → Int32) j := fun j => (q_exi x686 (by rw [k667]; decide)).trans (j682 j)
  try clear k667
  have j716 : ∀ j, σ685.1 q28 j = (fun j => if j = (3 : Int32).toNatClampNeg then ((-1) : Int32) else (fun j => if j = (2 : Int32).toNatClampNeg then ((-1) : Int32) else (fun j => if j = (1 : Int32).toNatClampNeg then ((-1) : Int32) else (fun j => if j = (0 : Int32).toNatClampNeg then ((-1) : Int32) else (fun _ => 0 : Nat → Int32) j) j) j) j) j := fun j => (q_exi x686 (by rw [k668]; decide)).trans (j683 j)
  try clear x686; try clear k668
  have j717 : ∀ j, σ685.1 q122 j = (fun j => if j = (6 : Int32).toNatClampNeg then ((-1) : Int32) else (fun j => if j = (8 : Int32).toNatClampNeg then ((-1) : Int32) else (fun j => if j = (4 : Int32).toNatClampNeg then (4 : Int32) else (fun j => if j = (1 : Int32).toNatClampNeg then (1 : Int32) else (fun j => if j = (0 : Int32).toNatClampNeg then (2 : Int32) else (fun _ => 0 : Nat → Int32) j) j) j) j) j) j := fun j => by rw [dσ685]; exact if_pos rfl
  have y722 := raw_lt r566
  try clear y722
  obtain ⟨X718, dX718⟩ : ∃ Y, Y = q_xg X684 q150 35 654 (fun _ => 0) := ⟨_, rfl⟩
  obtain ⟨σ719, dσ719⟩ : ∃ τ, τ = q_sg σ685 q150 (fun _ => 0 : Nat → Int32) (fun _ => 0) 0 := ⟨_, rfl⟩
  have x720 : q_ext (fun a => a = q150) X684 X718 σ685 σ719 := by rw [dX718, dσ719]; exact q_ext.add k703
  have y723 : y_root X718 q8 := by rw [dX718]; exact y689.add y_xg (fun f hf => absurd rfl hf)
  try clear y689
  have y724 : y_root X718 q28 := by rw [dX718]; exact y690.add y_xg (fun f hf => absurd rfl hf)
  try clear y690
  have y725 : y_root X718 q50 := by rw [dX718]; exact y691.add y_xg (fun f hf => absurd rfl hf)
  try clear y691
  have y726 : y_root X718 q74 := by rw [dX718]; exact y692.add y_xg (fun f hf => absurd rfl hf)
  try clear y692
  have y727 : y_root X718 q122 := by rw [dX718]; exact y693.add y_xg (fun f hf => absurd rfl hf)
  try clear y693
  have y728 : y_root X718 q150 := by rw [dX718]; exact (y_root.out w687.1 k703).add y_xg (fun f hf => absurd rfl hf)
  have y729 : y_rt X X718 := by rw [dX718]; exact y694.add y_xg (fun f hf => absurd rfl hf)
  try clear y694
  have w721 : q_w X718 σ719 H554 := by
    rw [dX718, dσ719]
    exact w687.add k703 (fun f hf => absurd rfl hf) (fun _ => rfl) (by decide) (fun q => absurd q (by decide)) (fun f => q_inU rfl) (fun q => by rcases q with q | q <;> exact absurd q (by decide)) (q_cfA D695 (by decide) (t0 := 1) rfl r566 (fun j => rfl)) (fun f hf => absurd rfl hf) (fun f g hf _ _ => absurd rfl hf) (fun f hf => absurd rfl hf) (fun f hf => absurd (show (0 : Nat) = 5 from hf) (by decide)) (fun q => absurd q (by decide))
  try clear k703; try clear w687; try clear r566
  have D730 : X718.1 = D := x720.1.trans D695
  try clear D695
  have k731 : q_kd X718 q150 = 35 := by rw [dX718]; exact q_xg_h
  have n732 : q_ln X718 q150 = 654 := by rw [dX718]; exact if_pos rfl
  have x733 := x698.tr x720 (fun a e => Or.inr (by rw [e]; exact gg_q150))
  try clear x698
  have k734 := x720.kd k699 (by decide)
  have k735 := x720.kd k700 (by decide)
  have k736 := x720.kd k701 (by decide)
  have k737 := x720.kd k702 (by decide)
  have k738 := x720.kd k696 (by decide)
  have k739 : q_kd X718 q180 = 0 := x720.k0 k704 (by first | exact (Nat.ne_of_gt cc_q180) | (omega))
  try clear k704
  have k740 : q_kd X718 q212 = 0 := x720.k0 k705 (by first | exact (Nat.ne_of_gt (Nat.lt_trans cc_q180 cc_q212)) | (omega))
  try clear k705
  have k741 : q_kd X718 q246 = 0 := x720.k0 k706 (by first | exact (Nat.ne_of_gt (Nat.lt_trans (Nat.lt_trans cc_q180 cc_q212) cc_q246)) | (omega))
  try clear k706
  have k742 : q_kd X718 q282 = 0 := x720.k0 k707 (by first | exact (Nat.ne_of_gt (Nat.lt_trans (Nat.lt_trans (Nat.lt_trans cc_q180 cc_q212) cc_q246) cc_q282)) | (omega))
  try clear k707
  have k743 : q_kd X718 q320 = 0 := x720.k0 k708 (by first | exact (Nat.ne_of_gt (Nat.lt_trans (Nat.lt_trans (Nat.lt_trans (Nat.lt_trans cc_q180 cc_q212) cc_q246) cc_q282) cc_q320)) | (omega))
  try clear k708
  have k744 : q_kd X718 q360 = 0 := x720.k0 k709 (by first | exact (Nat.ne_of_gt (Nat.lt_trans (Nat.lt_trans (Nat.lt_trans (Nat.lt_trans (Nat.lt_trans cc_q180 cc_q212) cc_q246) cc_q282) cc_q320) cc_q360)) | (omega))
  try clear k709
  have k745 : q_kd X718 h = 0 := x720.k0 k710 (by first | exact (Nat.ne_of_lt hq150) | (omega))
  try clear k710
  have n746 : q_ln X718 q8 = 4 := (x720.2.2.2.1 q8 (by rw [k699]; decide)).2.1.trans n711
  have n747 : q_ln X718 q28 = 4 := (x720.2.2.2.1 q28 (by rw [k700]; decide)).2.1.trans n712
  have n748 : q_ln X718 q50 = 240 := (x720.2.2.2.1 q50 (by rw [k701]; decide)).2.1.trans n713
  try clear k701
  have n749 : q_ln X718 q74 = 900 := (x720.2.2.2.1 q74 (by rw [k702]; decide)).2.1.trans n714
  try clear k702
  have n750 : q_ln X718 q122 = 4650 := (x720.2.2.2.1 q122 (by rw [k696]; decide)).2.1.trans n697
  have j751 : ∀ j, σ719.1 q8 j = (fun _ => 0 : Nat → Int32) j := fun j => (q_exi x720 (by rw [k699]; decide)).trans (j715 j)
  try clear k699
  have j752 : ∀ j, σ719.1 q28 j = (fun j => if j = (3 : Int32).toNatClampNeg then ((-1) : Int32) else (fun j => if j = (2 : Int32).toNatClampNeg then ((-1) : Int32) else (fun j => if j = (1 : Int32).toNatClampNeg then ((-1) : Int32) else (fun j => if j = (0 : Int32).toNatClampNeg then ((-1) : Int32) else (fun _ => 0 : Nat → Int32) j) j) j) j) j := fun j => (q_exi x720 (by rw [k700]; decide)).trans (j716 j)
  try clear k700
  have j753 : ∀ j, σ719.1 q122 j = (fun j => if j = (6 : Int32).toNatClampNeg then ((-1) : Int32) else (fun j => if j = (8 : Int32).toNatClampNeg then ((-1) : Int32) else (fun j => if j = (4 : Int32).toNatClampNeg then (4 : Int32) else (fun j => if j = (1 : Int32).toNatClampNeg then (1 : Int32) else (fun j => if j = (0 : Int32).toNatClampNeg then (2 : Int32) else (fun _ => 0 : Nat → Int32) j) j) j) j) j) j := fun j => (q_exi x720 (by rw [k696]; decide)).trans (j717 j)
  try clear x720; try clear k696
  have y758 := raw_lt r567
  try clear y758
  obtain ⟨X754, dX754⟩ : ∃ Y, Y = q_xg X718 q180 36 60 (fun _ => 0) := ⟨_, rfl⟩
  obtain ⟨σ755, dσ755⟩ : ∃ τ, τ = q_sg σ719 q180 (fun _ => 0 : Nat → Int32) (fun _ => 0) 0 := ⟨_, rfl⟩
  have x756 : q_ext (fun a => a = q180) X718 X754 σ719 σ755 := by rw [dX754, dσ755]; exact q_ext.add k739
  have y759 : y_root X754 q8 := by rw [dX754]; exact y723.add y_xg (fun f hf => absurd rfl hf)
  try clear y723
  have y760 : y_root X754 q28 := by rw [dX754]; exact y724.add y_xg (fun f hf => absurd rfl hf)
  try clear y724
  have y761 : y_root X754 q50 := by rw [dX754]; exact y725.add y_xg (fun f hf => absurd rfl hf)
  try clear y725
  have y762 : y_root X754 q74 := by rw [dX754]; exact y726.add y_xg (fun f hf => absurd rfl hf)
  try clear y726
  have y763 : y_root X754 q122 := by rw [dX754]; exact y727.add y_xg (fun f hf => absurd rfl hf)
  try clear y727
  have y764 : y_root X754 q150 := by rw [dX754]; exact y728.add y_xg (fun f hf => absurd rfl hf)
  try clear y728
  have y765 : y_root X754 q180 := by rw [dX754]; exact (y_root.out w721.1 k739).add y_xg (fun f hf => absurd rfl hf)
  have y766 : y_rt X X754 := by rw [dX754]; exact y729.add y_xg (fun f hf => absurd rfl hf)
  try clear y729
  have w757 : q_w X754 σ755 H554 := by
    rw [dX754, dσ755]
    exact w721.add k739 (fun f hf => absurd rfl hf) (fun _ => rfl) (by decide) (fun q => absurd q (by decide)) (fun f => q_inU rfl) (fun q => by rcases q with q | q <;> exact absurd q (by decide)) (q_cfA D730 (by decide) (t0 := 1) rfl r567 (fun j => rfl)) (fun f hf => absurd rfl hf) (fun f g hf _ _ => absurd rfl hf) (fun f hf => absurd rfl hf) (fun f hf => absurd (show (0 : Nat) = 5 from hf) (by decide)) (fun q => absurd q (by decide))
  try clear k739; try clear w721; try clear r567
  have D767 : X754.1 = D := x756.1.trans D730
  try clear D730
  have k768 : q_kd X754 q180 = 36 := by rw [dX754]; exact q_xg_h
  have n769 : q_ln X754 q180 = 60 := by rw [dX754]; exact if_pos rfl
  have x770 := x733.tr x756 (fun a e => Or.inr (by rw [e]; exact gg_q180))
  try clear x733
  have k771 := x756.kd k734 (by decide)
  have k772 := x756.kd k735 (by decide)
  have k773 := x756.kd k736 (by decide)
  have k774 := x756.kd k737 (by decide)
  have k775 := x756.kd k738 (by decide)
  have k776 := x756.kd k731 (by decide)
  have k777 : q_kd X754 q212 = 0 := x756.k0 k740 (by first | exact (Nat.ne_of_gt cc_q212) | (omega))
  try clear k740
  have k778 : q_kd X754 q246 = 0 := x756.k0 k741 (by first | exact (Nat.ne_of_gt (Nat.lt_trans cc_q212 cc_q246)) | (omega))
  try clear k741
  have k779 : q_kd X754 q282 = 0 := x756.k0 k742 (by first | exact (Nat.ne_of_gt (Nat.lt_trans (Nat.lt_trans cc_q212 cc_q246) cc_q282)) | (omega))
  try clear k742
  have k780 : q_kd X754 q320 = 0 := x756.k0 k743 (by first | exact (Nat.ne_of_gt (Nat.lt_trans (Nat.lt_trans (Nat.lt_trans cc_q212 cc_q246) cc_q282) cc_q320)) | (omega))
  try clear k743
  have k781 : q_kd X754 q360 = 0 := x756.k0 k744 (by first | exact (Nat.ne_of_gt (Nat.lt_trans (Nat.lt_trans (Nat.lt_trans (Nat.lt_trans cc_q212 cc_q246) cc_q282) cc_q320) cc_q360)) | (omega))
  try clear k744
  have k782 : q_kd X754 h = 0 := x756.k0 k745 (by first | exact (Nat.ne_of_lt hq180) | (omega))
  try clear k745
  have n783 : q_ln X754 q8 = 4 := (x756.2.2.2.1 q8 (by rw [k734]; decide)).2.1.trans n746
  have n784 : q_ln X754 q28 = 4 := (x756.2.2.2.1 q28 (by rw [k735]; decide)).2.1.trans n747
  have n785 : q_ln X754 q50 = 240 := (x756.2.2.2.1 q50 (by rw [k736]; decide)).2.1.trans n748
  try clear k736
  have n786 : q_ln X754 q74 = 900 := (x756.2.2.2.1 q74 (by rw [k737]; decide)).2.1.trans n749
  try clear k737
  have n787 : q_ln X754 q122 = 4650 := (x756.2.2.2.1 q122 (by rw [k738]; decide)).2.1.trans n750
  have n788 : q_ln X754 q150 = 654 := (x756.2.2.2.1 q150 (by rw [k731]; decide)).2.1.trans n732
  try clear k731
  have j789 : ∀ j, σ755.1 q8 j = (fun _ => 0 : Nat → Int32) j := fun j => (q_exi x756 (by rw [k734]; decide)).trans (j751 j)
  try clear k734
  have j790 : ∀ j, σ755.1 q28 j = (fun j => if j = (3 : Int32).toNatClampNeg then ((-1) : Int32) else (fun j => if j = (2 : Int32).toNatClampNeg then ((-1) : Int32) else (fun j => if j = (1 : Int32).toNatClampNeg then ((-1) : Int32) else (fun j => if j = (0 : Int32).toNatClampNeg then ((-1) : Int32) else (fun _ => 0 : Nat → Int32) j) j) j) j) j := fun j => (q_exi x756 (by rw [k735]; decide)).trans (j752 j)
  try clear k735
  have j791 : ∀ j, σ755.1 q122 j = (fun j => if j = (6 : Int32).toNatClampNeg then ((-1) : Int32) else (fun j => if j = (8 : Int32).toNatClampNeg then ((-1) : Int32) else (fun j => if j = (4 : Int32).toNatClampNeg then (4 : Int32) else (fun j => if j = (1 : Int32).toNatClampNeg then (1 : Int32) else (fun j => if j = (0 : Int32).toNatClampNeg then (2 : Int32) else (fun _ => 0 : Nat → Int32) j) j) j) j) j) j := fun j => (q_exi x756 (by rw [k738]; decide)).trans (j753 j)
  try clear x756; try clear k738
  have y796 := raw_lt r568
  try clear y796
  obtain ⟨X792, dX792⟩ : ∃ Y, Y = q_xg X754 q212 37 30 (fun _ => 0) := ⟨_, rfl⟩
  obtain ⟨σ793, dσ793⟩ : ∃ τ, τ = q_sg σ755 q212 (fun _ => 0) (fun _ => 0) 0 := ⟨_, rfl⟩
  have x794 : q_ext (fun a => a = q212) X754 X792 σ755 σ793 := by rw [dX792, dσ793]; exact q_ext.add k777
  have y797 : y_root X792 q8 := by rw [dX792]; exact y759.add y_xg (fun f hf => absurd rfl hf)
  try clear y759
  have y798 : y_root X792 q28 := by rw [dX792]; exact y760.add y_xg (fun f hf => absurd rfl hf)
  try clear y760
  have y799 : y_root X792 q50 := by rw [dX792]; exact y761.add y_xg (fun f hf => absurd rfl hf)
  try clear y761
  have y800 : y_root X792 q74 := by rw [dX792]; exact y762.add y_xg (fun f hf => absurd rfl hf)
  try clear y762
  have y801 : y_root X792 q122 := by rw [dX792]; exact y763.add y_xg (fun f hf => absurd rfl hf)
  try clear y763
  have y802 : y_root X792 q150 := by rw [dX792]; exact y764.add y_xg (fun f hf => absurd rfl hf)
  try clear y764
  have y803 : y_root X792 q180 := by rw [dX792]; exact y765.add y_xg (fun f hf => absurd rfl hf)
  try clear y765
  have y804 : y_root X792 q212 := by rw [dX792]; exact (y_root.out w757.1 k777).add y_xg (fun f hf => absurd rfl hf)
  have y805 : y_rt X X792 := by rw [dX792]; exact y766.add y_xg (fun f hf => absurd rfl hf)
  try clear y766
  have w795 : q_w X792 σ793 H554 := by
    rw [dX792, dσ793]
    exact w757.add k777 (fun f hf => absurd rfl hf) (fun _ => rfl) (by decide) (fun q => absurd q (by decide)) (fun f => q_inU rfl) (fun q => by rcases q with q | q <;> exact absurd q (by decide)) (q_cfA D767 (by decide) (t0 := 2) rfl r568 (fun j => rfl)) (fun f hf => absurd rfl hf) (fun f g hf _ _ => absurd rfl hf) (fun f hf => absurd rfl hf) (fun f hf => absurd (show (0 : Nat) = 5 from hf) (by decide)) (fun q => absurd q (by decide))
  try clear k777; try clear w757; try clear r568
  have D806 : X792.1 = D := x794.1.trans D767
  try clear D767
  have k807 : q_kd X792 q212 = 37 := by rw [dX792]; exact q_xg_h
  have n808 : q_ln X792 q212 = 30 := by rw [dX792]; exact if_pos rfl
  have x809 := x770.tr x794 (fun a e => Or.inr (by rw [e]; exact gg_q212))
  try clear x770
  have k810 := x794.kd k771 (by decide)
  have k811 := x794.kd k772 (by decide)
  have k812 := x794.kd k773 (by decide)
  have k813 := x794.kd k774 (by decide)
  have k814 := x794.kd k775 (by decide)
  have k815 := x794.kd k776 (by decide)
  have k816 := x794.kd k768 (by decide)
  have k817 : q_kd X792 q246 = 0 := x794.k0 k778 (by first | exact (Nat.ne_of_gt cc_q246) | (omega))
  try clear k778
  have k818 : q_kd X792 q282 = 0 := x794.k0 k779 (by first | exact (Nat.ne_of_gt (Nat.lt_trans cc_q246 cc_q282)) | (omega))
  try clear k779
  have k819 : q_kd X792 q320 = 0 := x794.k0 k780 (by first | exact (Nat.ne_of_gt (Nat.lt_trans (Nat.lt_trans cc_q246 cc_q282) cc_q320)) | (omega))
  try clear k780
  have k820 : q_kd X792 q360 = 0 := x794.k0 k781 (by first | exact (Nat.ne_of_gt (Nat.lt_trans (Nat.lt_trans (Nat.lt_trans cc_q246 cc_q282) cc_q320) cc_q360)) | (omega))
  try clear k781
  have k821 : q_kd X792 h = 0 := x794.k0 k782 (by first | exact (Nat.ne_of_lt hq212) | (omega))
  try clear k782
  have n822 : q_ln X792 q8 = 4 := (x794.2.2.2.1 q8 (by rw [k771]; decide)).2.1.trans n783
  have n823 : q_ln X792 q28 = 4 := (x794.2.2.2.1 q28 (by rw [k772]; decide)).2.1.trans n784
  have n824 : q_ln X792 q50 = 240 := (x794.2.2.2.1 q50 (by rw [k773]; decide)).2.1.trans n785
  try clear k773
  have n825 : q_ln X792 q74 = 900 := (x794.2.2.2.1 q74 (by rw [k774]; decide)).2.1.trans n786
  try clear k774
  have n826 : q_ln X792 q122 = 4650 := (x794.2.2.2.1 q122 (by rw [k775]; decide)).2.1.trans n787
  have n827 : q_ln X792 q150 = 654 := (x794.2.2.2.1 q150 (by rw [k776]; decide)).2.1.trans n788
  try clear k776
  have n828 : q_ln X792 q180 = 60 := (x794.2.2.2.1 q180 (by rw [k768]; decide)).2.1.trans n769
  try clear k768
  have j829 : ∀ j, σ793.1 q8 j = (fun _ => 0 : Nat → Int32) j := fun j => (q_exi x794 (by rw [k771]; decide)).trans (j789 j)
  try clear k771
  have j830 : ∀ j, σ793.1 q28 j = (fun j => if j = (3 : Int32).toNatClampNeg then ((-1) : Int32) else (fun j => if j = (2 : Int32).toNatClampNeg then ((-1) : Int32) else (fun j => if j = (1 : Int32).toNatClampNeg then ((-1) : Int32) else (fun j => if j = (0 : Int32).toNatClampNeg then ((-1) : Int32) else (fun _ => 0 : Nat → Int32) j) j) j) j) j := fun j => (q_exi x794 (by rw [k772]; decide)).trans (j790 j)
  try clear k772
  have j831 : ∀ j, σ793.1 q122 j = (fun j => if j = (6 : Int32).toNatClampNeg then ((-1) : Int32) else (fun j => if j = (8 : Int32).toNatClampNeg then ((-1) : Int32) else (fun j => if j = (4 : Int32).toNatClampNeg then (4 : Int32) else (fun j => if j = (1 : Int32).toNatClampNeg then (1 : Int32) else (fun j => if j = (0 : Int32).toNatClampNeg then (2 : Int32) else (fun _ => 0 : Nat → Int32) j) j) j) j) j) j := fun j => (q_exi x794 (by rw [k775]; decide)).trans (j791 j)
  try clear x794; try clear k775
  have y836 := raw_lt r569
  try clear y836
  obtain ⟨X832, dX832⟩ : ∃ Y, Y = q_xg X792 q246 39 10 (fun _ => 0) := ⟨_, rfl⟩
  obtain ⟨σ833, dσ833⟩ : ∃ τ, τ = q_sg σ793 q246 (fun _ => 0 : Nat → Int32) (fun _ => 0) 0 := ⟨_, rfl⟩
  have x834 : q_ext (fun a => a = q246) X792 X832 σ793 σ833 := by rw [dX832, dσ833]; exact q_ext.add k817
  have y837 : y_root X832 q8 := by rw [dX832]; exact y797.add y_xg (fun f hf => absurd rfl hf)
  try clear y797
  have y838 : y_root X832 q28 := by rw [dX832]; exact y798.add y_xg (fun f hf => absurd rfl hf)
  try clear y798
  have y839 : y_root X832 q50 := by rw [dX832]; exact y799.add y_xg (fun f hf => absurd rfl hf)
  try clear y799
  have y840 : y_root X832 q74 := by rw [dX832]; exact y800.add y_xg (fun f hf => absurd rfl hf)
  try clear y800
  have y841 : y_root X832 q122 := by rw [dX832]; exact y801.add y_xg (fun f hf => absurd rfl hf)
  try clear y801
  have y842 : y_root X832 q150 := by rw [dX832]; exact y802.add y_xg (fun f hf => absurd rfl hf)
  try clear y802
  have y843 : y_root X832 q180 := by rw [dX832]; exact y803.add y_xg (fun f hf => absurd rfl hf)
  try clear y803
  have y844 : y_root X832 q212 := by rw [dX832]; exact y804.add y_xg (fun f hf => absurd rfl hf)
  try clear y804
  have y845 : y_root X832 q246 := by rw [dX832]; exact (y_root.out w795.1 k817).add y_xg (fun f hf => absurd rfl hf)
  have y846 : y_rt X X832 := by rw [dX832]; exact y805.add y_xg (fun f hf => absurd rfl hf)
  try clear y805
  have w835 : q_w X832 σ833 H554 := by
    rw [dX832, dσ833]
    exact w795.add k817 (fun f hf => absurd rfl hf) (fun _ => rfl) (by decide) (fun q => absurd q (by decide)) (fun f => q_inU rfl) (fun q => by rcases q with q | q <;> exact absurd q (by decide)) (q_cfA D806 (by decide) (t0 := 1) rfl r569 (fun j => rfl)) (fun f hf => absurd rfl hf) (fun f g hf _ _ => absurd rfl hf) (fun f hf => absurd rfl hf) (fun f hf => absurd (show (0 : Nat) = 5 from hf) (by decide)) (fun q => absurd q (by decide))
  try clear k817; try clear w795; try clear r569
  have D847 : X832.1 = D := x834.1.trans D806
  try clear D806
  have k848 : q_kd X832 q246 = 39 := by rw [dX832]; exact q_xg_h
  have n849 : q_ln X832 q246 = 10 := by rw [dX832]; exact if_pos rfl
  have x850 := x809.tr x834 (fun a e => Or.inr (by rw [e]; exact gg_q246))
  try clear x809
  have k851 := x834.kd k810 (by decide)
  have k852 := x834.kd k811 (by decide)
  have k853 := x834.kd k812 (by decide)
  have k854 := x834.kd k813 (by decide)
  have k855 := x834.kd k814 (by decide)
  have k856 := x834.kd k815 (by decide)
  have k857 := x834.kd k816 (by decide)
  have k858 := x834.kd k807 (by decide)
  have k859 : q_kd X832 q282 = 0 := x834.k0 k818 (by first | exact (Nat.ne_of_gt cc_q282) | (omega))
  try clear k818
  have k860 : q_kd X832 q320 = 0 := x834.k0 k819 (by first | exact (Nat.ne_of_gt (Nat.lt_trans cc_q282 cc_q320)) | (omega))
  try clear k819
  have k861 : q_kd X832 q360 = 0 := x834.k0 k820 (by first | exact (Nat.ne_of_gt (Nat.lt_trans (Nat.lt_trans cc_q282 cc_q320) cc_q360)) | (omega))
  try clear k820
  have k862 : q_kd X832 h = 0 := x834.k0 k821 (by first | exact (Nat.ne_of_lt hq246) | (omega))
  try clear k821
  have n863 : q_ln X832 q8 = 4 := (x834.2.2.2.1 q8 (by rw [k810]; decide)).2.1.trans n822
  have n864 : q_ln X832 q28 = 4 := (x834.2.2.2.1 q28 (by rw [k811]; decide)).2.1.trans n823
  have n865 : q_ln X832 q50 = 240 := (x834.2.2.2.1 q50 (by rw [k812]; decide)).2.1.trans n824
  try clear k812
  have n866 : q_ln X832 q74 = 900 := (x834.2.2.2.1 q74 (by rw [k813]; decide)).2.1.trans n825
  try clear k813
  have n867 : q_ln X832 q122 = 4650 := (x834.2.2.2.1 q122 (by rw [k814]; decide)).2.1.trans n826
  have n868 : q_ln X832 q150 = 654 := (x834.2.2.2.1 q150 (by rw [k815]; decide)).2.1.trans n827
  try clear k815
  have n869 : q_ln X832 q180 = 60 := (x834.2.2.2.1 q180 (by rw [k816]; decide)).2.1.trans n828
  try clear k816
  have n870 : q_ln X832 q212 = 30 := (x834.2.2.2.1 q212 (by rw [k807]; decide)).2.1.trans n808
  try clear k807
  have j871 : ∀ j, σ833.1 q8 j = (fun _ => 0 : Nat → Int32) j := fun j => (q_exi x834 (by rw [k810]; decide)).trans (j829 j)
  try clear k810
  have j872 : ∀ j, σ833.1 q28 j = (fun j => if j = (3 : Int32).toNatClampNeg then ((-1) : Int32) else (fun j => if j = (2 : Int32).toNatClampNeg then ((-1) : Int32) else (fun j => if j = (1 : Int32).toNatClampNeg then ((-1) : Int32) else (fun j => if j = (0 : Int32).toNatClampNeg then ((-1) : Int32) else (fun _ => 0 : Nat → Int32) j) j) j) j) j := fun j => (q_exi x834 (by rw [k811]; decide)).trans (j830 j)
  try clear k811
  have j873 : ∀ j, σ833.1 q122 j = (fun j => if j = (6 : Int32).toNatClampNeg then ((-1) : Int32) else (fun j => if j = (8 : Int32).toNatClampNeg then ((-1) : Int32) else (fun j => if j = (4 : Int32).toNatClampNeg then (4 : Int32) else (fun j => if j = (1 : Int32).toNatClampNeg then (1 : Int32) else (fun j => if j = (0 : Int32).toNatClampNeg then (2 : Int32) else (fun _ => 0 : Nat → Int32) j) j) j) j) j) j := fun j => (q_exi x834 (by rw [k814]; decide)).trans (j831 j)
  try clear x834; try clear k814
  have y878 := raw_lt r570
  try clear y878
  obtain ⟨X874, dX874⟩ : ∃ Y, Y = q_xg X832 q282 40 4 (fun _ => 0) := ⟨_, rfl⟩
  obtain ⟨σ875, dσ875⟩ : ∃ τ, τ = q_sg σ833 q282 (fun _ => 0 : Nat → Int32) (fun _ => 0) 0 := ⟨_, rfl⟩
  have x876 : q_ext (fun a => a = q282) X832 X874 σ833 σ875 := by rw [dX874, dσ875]; exact q_ext.add k859
  have y879 : y_root X874 q8 := by rw [dX874]; exact y837.add y_xg (fun f hf => absurd rfl hf)
  try clear y837
  have y880 : y_root X874 q28 := by rw [dX874]; exact y838.add y_xg (fun f hf => absurd rfl hf)
  try clear y838
  have y881 : y_root X874 q50 := by rw [dX874]; exact y839.add y_xg (fun f hf => absurd rfl hf)
  try clear y839
  have y882 : y_root X874 q74 := by rw [dX874]; exact y840.add y_xg (fun f hf => absurd rfl hf)
  try clear y840
  have y883 : y_root X874 q122 := by rw [dX874]; exact y841.add y_xg (fun f hf => absurd rfl hf)
  try clear y841
  have y884 : y_root X874 q150 := by rw [dX874]; exact y842.add y_xg (fun f hf => absurd rfl hf)
  try clear y842
  have y885 : y_root X874 q180 := by rw [dX874]; exact y843.add y_xg (fun f hf => absurd rfl hf)
  try clear y843
  have y886 : y_root X874 q212 := by rw [dX874]; exact y844.add y_xg (fun f hf => absurd rfl hf)
  try clear y844
  have y887 : y_root X874 q246 := by rw [dX874]; exact y845.add y_xg (fun f hf => absurd rfl hf)
  try clear y845
  have y888 : y_root X874 q282 := by rw [dX874]; exact (y_root.out w835.1 k859).add y_xg (fun f hf => absurd rfl hf)
  have y889 : y_rt X X874 := by rw [dX874]; exact y846.add y_xg (fun f hf => absurd rfl hf)
  try clear y846
  have w877 : q_w X874 σ875 H554 := by
    rw [dX874, dσ875]
    exact w835.add k859 (fun f hf => absurd rfl hf) (fun _ => rfl) (by decide) (fun q => absurd q (by decide)) (fun f => q_inU rfl) (fun q => by rcases q with q | q <;> exact absurd q (by decide)) (q_cfA D847 (by decide) (t0 := 1) rfl r570 (fun j => rfl)) (fun f hf => absurd rfl hf) (fun f g hf _ _ => absurd rfl hf) (fun f hf => absurd rfl hf) (fun f hf => absurd (show (0 : Nat) = 5 from hf) (by decide)) (fun q => absurd q (by decide))
  try clear k859; try clear w835; try clear r570
  have D890 : X874.1 = D := x876.1.trans D847
  try clear D847
  have k891 : q_kd X874 q282 = 40 := by rw [dX874]; exact q_xg_h
  have n892 : q_ln X874 q282 = 4 := by rw [dX874]; exact if_pos rfl
  have x893 := x850.tr x876 (fun a e => Or.inr (by rw [e]; exact gg_q282))
  try clear x850
  have k894 := x876.kd k851 (by decide)
  have k895 := x876.kd k852 (by decide)
  have k896 := x876.kd k853 (by decide)
  have k897 := x876.kd k854 (by decide)
  have k898 := x876.kd k855 (by decide)
  have k899 := x876.kd k856 (by decide)
  have k900 := x876.kd k857 (by decide)
  have k901 := x876.kd k858 (by decide)
  have k902 := x876.kd k848 (by decide)
  have k903 : q_kd X874 q320 = 0 := x876.k0 k860 (by first | exact (Nat.ne_of_gt cc_q320) | (omega))
  try clear k860
  have k904 : q_kd X874 q360 = 0 := x876.k0 k861 (by first | exact (Nat.ne_of_gt (Nat.lt_trans cc_q320 cc_q360)) | (omega))
  try clear k861
  have k905 : q_kd X874 h = 0 := x876.k0 k862 (by first | exact (Nat.ne_of_lt hq282) | (omega))
  try clear k862
  have n906 : q_ln X874 q8 = 4 := (x876.2.2.2.1 q8 (by rw [k851]; decide)).2.1.trans n863
  have n907 : q_ln X874 q28 = 4 := (x876.2.2.2.1 q28 (by rw [k852]; decide)).2.1.trans n864
  have n908 : q_ln X874 q50 = 240 := (x876.2.2.2.1 q50 (by rw [k853]; decide)).2.1.trans n865
  try clear k853
  have n909 : q_ln X874 q74 = 900 := (x876.2.2.2.1 q74 (by rw [k854]; decide)).2.1.trans n866
  try clear k854
  have n910 : q_ln X874 q122 = 4650 := (x876.2.2.2.1 q122 (by rw [k855]; decide)).2.1.trans n867
  have n911 : q_ln X874 q150 = 654 := (x876.2.2.2.1 q150 (by rw [k856]; decide)).2.1.trans n868
  try clear k856
  have n912 : q_ln X874 q180 = 60 := (x876.2.2.2.1 q180 (by rw [k857]; decide)).2.1.trans n869
  try clear k857
  have n913 : q_ln X874 q212 = 30 := (x876.2.2.2.1 q212 (by rw [k858]; decide)).2.1.trans n870
  try clear k858
  have n914 : q_ln X874 q246 = 10 := (x876.2.2.2.1 q246 (by rw [k848]; decide)).2.1.trans n849
  try clear k848
  have j915 : ∀ j, σ875.1 q8 j = (fun _ => 0 : Nat → Int32) j := fun j => (q_exi x876 (by rw [k851]; decide)).trans (j871 j)
  try clear k851
  have j916 : ∀ j, σ875.1 q28 j = (fun j => if j = (3 : Int32).toNatClampNeg then ((-1) : Int32) else (fun j => if j = (2 : Int32).toNatClampNeg then ((-1) : Int32) else (fun j => if j = (1 : Int32).toNatClampNeg then ((-1) : Int32) else (fun j => if j = (0 : Int32).toNatClampNeg then ((-1) : Int32) else (fun _ => 0 : Nat → Int32) j) j) j) j) j := fun j => (q_exi x876 (by rw [k852]; decide)).trans (j872 j)
  try clear k852
  have j917 : ∀ j, σ875.1 q122 j = (fun j => if j = (6 : Int32).toNatClampNeg then ((-1) : Int32) else (fun j => if j = (8 : Int32).toNatClampNeg then ((-1) : Int32) else (fun j => if j = (4 : Int32).toNatClampNeg then (4 : Int32) else (fun j => if j = (1 : Int32).toNatClampNeg then (1 : Int32) else (fun j => if j = (0 : Int32).toNatClampNeg then (2 : Int32) else (fun _ => 0 : Nat → Int32) j) j) j) j) j) j := fun j => (q_exi x876 (by rw [k855]; decide)).trans (j873 j)
  try clear x876; try clear k855
  have y922 := raw_lt r571
  try clear y922
  obtain ⟨X918, dX918⟩ : ∃ Y, Y = q_xg X874 q320 38 10 (fun _ => 0) := ⟨_, rfl⟩
  obtain ⟨σ919, dσ919⟩ : ∃ τ, τ = q_sg σ875 q320 (fun _ => 0 : Nat → Int32) (fun _ => 0) 0 := ⟨_, rfl⟩
  have x920 : q_ext (fun a => a = q320) X874 X918 σ875 σ919 := by rw [dX918, dσ919]; exact q_ext.add k903
  have y923 : y_root X918 q8 := by rw [dX918]; exact y879.add y_xg (fun f hf => absurd rfl hf)
  try clear y879
  have y924 : y_root X918 q28 := by rw [dX918]; exact y880.add y_xg (fun f hf => absurd rfl hf)
  try clear y880
  have y925 : y_root X918 q50 := by rw [dX918]; exact y881.add y_xg (fun f hf => absurd rfl hf)
  try clear y881
  have y926 : y_root X918 q74 := by rw [dX918]; exact y882.add y_xg (fun f hf => absurd rfl hf)
  try clear y882
  have y927 : y_root X918 q122 := by rw [dX918]; exact y883.add y_xg (fun f hf => absurd rfl hf)
  try clear y883
  have y928 : y_root X918 q150 := by rw [dX918]; exact y884.add y_xg (fun f hf => absurd rfl hf)
  try clear y884
  have y929 : y_root X918 q180 := by rw [dX918]; exact y885.add y_xg (fun f hf => absurd rfl hf)
  try clear y885
  have y930 : y_root X918 q212 := by rw [dX918]; exact y886.add y_xg (fun f hf => absurd rfl hf)
  try clear y886
  have y931 : y_root X918 q246 := by rw [dX918]; exact y887.add y_xg (fun f hf => absurd rfl hf)
  try clear y887
  have y932 : y_root X918 q282 := by rw [dX918]; exact y888.add y_xg (fun f hf => absurd rfl hf)
  try clear y888
  have y933 : y_root X918 q320 := by rw [dX918]; exact (y_root.out w877.1 k903).add y_xg (fun f hf => absurd rfl hf)
  have y934 : y_rt X X918 := by rw [dX918]; exact y889.add y_xg (fun f hf => absurd rfl hf)
  try clear y889
  have w921 : q_w X918 σ919 H554 := by
    rw [dX918, dσ919]
    exact w877.add k903 (fun f hf => absurd rfl hf) (fun _ => rfl) (by decide) (fun q => absurd q (by decide)) (fun f => q_inU rfl) (fun q => by rcases q with q | q <;> exact absurd q (by decide)) (q_cfA D890 (by decide) (t0 := 1) rfl r571 (fun j => rfl)) (fun f hf => absurd rfl hf) (fun f g hf _ _ => absurd rfl hf) (fun f hf => absurd rfl hf) (fun f hf => absurd (show (0 : Nat) = 5 from hf) (by decide)) (fun q => absurd q (by decide))
  try clear k903; try clear w877; try clear r571
  have D935 : X918.1 = D := x920.1.trans D890
  try clear D890
  have k936 : q_kd X918 q320 = 38 := by rw [dX918]; exact q_xg_h
  have n937 : q_ln X918 q320 = 10 := by rw [dX918]; exact if_pos rfl
  have x938 := x893.tr x920 (fun a e => Or.inr (by rw [e]; exact gg_q320))
  try clear x893
  have k939 := x920.kd k894 (by decide)
  have k940 := x920.kd k895 (by decide)
  have k941 := x920.kd k896 (by decide)
  have k942 := x920.kd k897 (by decide)
  have k943 := x920.kd k898 (by decide)
  have k944 := x920.kd k899 (by decide)
  have k945 := x920.kd k900 (by decide)
  have k946 := x920.kd k901 (by decide)
  have k947 := x920.kd k902 (by decide)
  have k948 := x920.kd k891 (by decide)
  have k949 : q_kd X918 q360 = 0 := x920.k0 k904 (by first | exact (Nat.ne_of_gt cc_q360) | (omega))
  try clear k904
  have k950 : q_kd X918 h = 0 := x920.k0 k905 (by first | exact (Nat.ne_of_lt hq320) | (omega))
  try clear k905
  have n951 : q_ln X918 q8 = 4 := (x920.2.2.2.1 q8 (by rw [k894]; decide)).2.1.trans n906
  have n952 : q_ln X918 q28 = 4 := (x920.2.2.2.1 q28 (by rw [k895]; decide)).2.1.trans n907
  have n953 : q_ln X918 q50 = 240 := (x920.2.2.2.1 q50 (by rw [k896]; decide)).2.1.trans n908
  try clear k896
  have n954 : q_ln X918 q74 = 900 := (x920.2.2.2.1 q74 (by rw [k897]; decide)).2.1.trans n909
  try clear k897
  have n955 : q_ln X918 q122 = 4650 := (x920.2.2.2.1 q122 (by rw [k898]; decide)).2.1.trans n910
  have n956 : q_ln X918 q150 = 654 := (x920.2.2.2.1 q150 (by rw [k899]; decide)).2.1.trans n911
  try clear k899
  have n957 : q_ln X918 q180 = 60 := (x920.2.2.2.1 q180 (by rw [k900]; decide)).2.1.trans n912
  try clear k900
  have n958 : q_ln X918 q212 = 30 := (x920.2.2.2.1 q212 (by rw [k901]; decide)).2.1.trans n913
  try clear k901
  have n959 : q_ln X918 q246 = 10 := (x920.2.2.2.1 q246 (by rw [k902]; decide)).2.1.trans n914
  try clear k902
  have n960 : q_ln X918 q282 = 4 := (x920.2.2.2.1 q282 (by rw [k891]; decide)).2.1.trans n892
  try clear k891
  have j961 : ∀ j, σ919.1 q8 j = (fun _ => 0 : Nat → Int32) j := fun j => (q_exi x920 (by rw [k894]; decide)).trans (j915 j)
  try clear k894
  have j962 : ∀ j, σ919.1 q28 j = (fun j => if j = (3 : Int32).toNatClampNeg then ((-1) : Int32) else (fun j => if j = (2 : Int32).toNatClampNeg then ((-1) : Int32) else (fun j => if j = (1 : Int32).toNatClampNeg then ((-1) : Int32) else (fun j => if j = (0 : Int32).toNatClampNeg then ((-1) : Int32) else (fun _ => 0 : Nat → Int32) j) j) j) j) j := fun j => (q_exi x920 (by rw [k895]; decide)).trans (j916 j)
  try clear k895
  have j963 : ∀ j, σ919.1 q122 j = (fun j => if j = (6 : Int32).toNatClampNeg then ((-1) : Int32) else (fun j => if j = (8 : Int32).toNatClampNeg then ((-1) : Int32) else (fun j => if j = (4 : Int32).toNatClampNeg then (4 : Int32) else (fun j => if j = (1 : Int32).toNatClampNeg then (1 : Int32) else (fun j => if j = (0 : Int32).toNatClampNeg then (2 : Int32) else (fun _ => 0 : Nat → Int32) j) j) j) j) j) j := fun j => (q_exi x920 (by rw [k898]; decide)).trans (j917 j)
  try clear x920; try clear k898
  have y968 := raw_lt r572
  try clear y968
  obtain ⟨X964, dX964⟩ : ∃ Y, Y = q_xg X918 q360 41 5 (fun _ => 0) := ⟨_, rfl⟩
  obtain ⟨σ965, dσ965⟩ : ∃ τ, τ = q_sg σ919 q360 (fun _ => 0 : Nat → Int32) (fun _ => 0) 0 := ⟨_, rfl⟩
  have x966 : q_ext (fun a => a = q360) X918 X964 σ919 σ965 := by rw [dX964, dσ965]; exact q_ext.add k949
  have y969 : y_root X964 q8 := by rw [dX964]; exact y923.add y_xg (fun f hf => absurd rfl hf)
  try clear y923
  have y970 : y_root X964 q28 := by rw [dX964]; exact y924.add y_xg (fun f hf => absurd rfl hf)
  try clear y924
  have y971 : y_root X964 q50 := by rw [dX964]; exact y925.add y_xg (fun f hf => absurd rfl hf)
  try clear y925
  have y972 : y_root X964 q74 := by rw [dX964]; exact y926.add y_xg (fun f hf => absurd rfl hf)
  try clear y926
  have y973 : y_root X964 q122 := by rw [dX964]; exact y927.add y_xg (fun f hf => absurd rfl hf)
  try clear y927
  have y974 : y_root X964 q150 := by rw [dX964]; exact y928.add y_xg (fun f hf => absurd rfl hf)
  try clear y928
  have y975 : y_root X964 q180 := by rw [dX964]; exact y929.add y_xg (fun f hf => absurd rfl hf)
  try clear y929
  have y976 : y_root X964 q212 := by rw [dX964]; exact y930.add y_xg (fun f hf => absurd rfl hf)
  try clear y930
  have y977 : y_root X964 q246 := by rw [dX964]; exact y931.add y_xg (fun f hf => absurd rfl hf)
  try clear y931
  have y978 : y_root X964 q282 := by rw [dX964]; exact y932.add y_xg (fun f hf => absurd rfl hf)
  try clear y932
  have y979 : y_root X964 q320 := by rw [dX964]; exact y933.add y_xg (fun f hf => absurd rfl hf)
  try clear y933
  have y980 : y_root X964 q360 := by rw [dX964]; exact (y_root.out w921.1 k949).add y_xg (fun f hf => absurd rfl hf)
  have y981 : y_rt X X964 := by rw [dX964]; exact y934.add y_xg (fun f hf => absurd rfl hf)
  try clear y934
  have w967 : q_w X964 σ965 H554 := by
    rw [dX964, dσ965]
    exact w921.add k949 (fun f hf => absurd rfl hf) (fun _ => rfl) (by decide) (fun q => absurd q (by decide)) (fun f => q_inU rfl) (fun q => by rcases q with q | q <;> exact absurd q (by decide)) (q_cfA D935 (by decide) (t0 := 1) rfl r572 (fun j => rfl)) (fun f hf => absurd rfl hf) (fun f g hf _ _ => absurd rfl hf) (fun f hf => absurd rfl hf) (fun f hf => absurd (show (0 : Nat) = 5 from hf) (by decide)) (fun q => absurd q (by decide))
  try clear k949; try clear w921; try clear r572; try clear t0
  have D982 : X964.1 = D := x966.1.trans D935
  try clear D935
  have k983 : q_kd X964 q360 = 41 := by rw [dX964]; exact q_xg_h
  have n984 : q_ln X964 q360 = 5 := by rw [dX964]; exact if_pos rfl
  have x985 := x938.tr x966 (fun a e => Or.inr (by rw [e]; exact gg_q360))
  try clear x938
  have k986 := x966.kd k939 (by decide)
  have k987 := x966.kd k940 (by decide)
  have k988 := x966.kd k941 (by decide)
  have k989 := x966.kd k942 (by decide)
  have k990 := x966.kd k943 (by decide)
  have k991 := x966.kd k944 (by decide)
  have k992 := x966.kd k945 (by decide)
  have k993 := x966.kd k946 (by decide)
  have k994 := x966.kd k947 (by decide)
  have k995 := x966.kd k948 (by decide)
  have k996 := x966.kd k936 (by decide)
  have k997 : q_kd X964 h = 0 := x966.k0 k950 (by first | exact (Nat.ne_of_lt hq360) | (omega))
  try clear k950
  have n998 : q_ln X964 q8 = 4 := (x966.2.2.2.1 q8 (by rw [k939]; decide)).2.1.trans n951
  have n999 : q_ln X964 q28 = 4 := (x966.2.2.2.1 q28 (by rw [k940]; decide)).2.1.trans n952
  have n1000 : q_ln X964 q50 = 240 := (x966.2.2.2.1 q50 (by rw [k941]; decide)).2.1.trans n953
  try clear k941
  have n1001 : q_ln X964 q74 = 900 := (x966.2.2.2.1 q74 (by rw [k942]; decide)).2.1.trans n954
  try clear k942
  have n1002 : q_ln X964 q122 = 4650 := (x966.2.2.2.1 q122 (by rw [k943]; decide)).2.1.trans n955
  have n1003 : q_ln X964 q150 = 654 := (x966.2.2.2.1 q150 (by rw [k944]; decide)).2.1.trans n956
  try clear k944
  have n1004 : q_ln X964 q180 = 60 := (x966.2.2.2.1 q180 (by rw [k945]; decide)).2.1.trans n957
  try clear k945
  have n1005 : q_ln X964 q212 = 30 := (x966.2.2.2.1 q212 (by rw [k946]; decide)).2.1.trans n958
  try clear k946
  have n1006 : q_ln X964 q246 = 10 := (x966.2.2.2.1 q246 (by rw [k947]; decide)).2.1.trans n959
  try clear k947
  have n1007 : q_ln X964 q282 = 4 := (x966.2.2.2.1 q282 (by rw [k948]; decide)).2.1.trans n960
  try clear k948
  have n1008 : q_ln X964 q320 = 10 := (x966.2.2.2.1 q320 (by rw [k936]; decide)).2.1.trans n937
  try clear k936
  have j1009 : ∀ j, σ965.1 q8 j = (fun _ => 0 : Nat → Int32) j := fun j => (q_exi x966 (by rw [k939]; decide)).trans (j961 j)
  try clear k939
  have j1010 : ∀ j, σ965.1 q28 j = (fun j => if j = (3 : Int32).toNatClampNeg then ((-1) : Int32) else (fun j => if j = (2 : Int32).toNatClampNeg then ((-1) : Int32) else (fun j => if j = (1 : Int32).toNatClampNeg then ((-1) : Int32) else (fun j => if j = (0 : Int32).toNatClampNeg then ((-1) : Int32) else (fun _ => 0 : Nat → Int32) j) j) j) j) j := fun j => (q_exi x966 (by rw [k940]; decide)).trans (j962 j)
  try clear k940
  have j1011 : ∀ j, σ965.1 q122 j = (fun j => if j = (6 : Int32).toNatClampNeg then ((-1) : Int32) else (fun j => if j = (8 : Int32).toNatClampNeg then ((-1) : Int32) else (fun j => if j = (4 : Int32).toNatClampNeg then (4 : Int32) else (fun j => if j = (1 : Int32).toNatClampNeg then (1 : Int32) else (fun j => if j = (0 : Int32).toNatClampNeg then (2 : Int32) else (fun _ => 0 : Nat → Int32) j) j) j) j) j) j := fun j => (q_exi x966 (by rw [k943]; decide)).trans (j963 j)
  try clear x966; try clear k943
  obtain ⟨X1012, dX1012⟩ : ∃ Y, Y = q_xg X964 h 12 0 (fun f => ([0, 0, 0, 0, q8, q28, q50, q74, 0, 0, 0, 0, 0, 0, 0, 0, 0, 0, 0, 0, q122, q150, q180, q212, 0, 0, 0, 0, q246, q282, 0, 0, q320, 0, 0, 0, q360, 0, 0, 0, 0, 0, 0, 0, 0, 0] : List Nat).getD f 0) := ⟨_, rfl⟩
  obtain ⟨σ1013, dσ1013⟩ : ∃ τ, τ = q_sg σ965 h (fun f => ([0, 0, 0, 0, 0, 0, 0, 0, 0, 0, (-1), (-1), 0, 0, 0, 0, 0, 0, 0, 0, 0, 0, 0, 0, 0, 0, 0, 0, 0, 0, 0, 0, 0, 0, 0, 0, 0, 0, 0, 0, 0, 0, 0, 0, 0, 0] : List Int32).getD f 0) (fun f => ([0, 0, 0, 1, 0, 0, 0, 0, 0, 0, 0, 0, 0, 0, 0, 0, 0, 0, 0, 0, 0, 0, 0, 0, 0, 0, 0, 0, 0, 0, 0, 0, 0, 0, 0, 0, 0, 0, 0, 0, 0, 0, 0, 0, 0, 0] : List Int64).getD f 0) 0 := ⟨_, rfl⟩
  have x1014 : q_ext (fun a => a = h) X964 X1012 σ965 σ1013 := by rw [dX1012, dσ1013]; exact q_ext.add k997
  have hrk : ∀ f, f < 40 → q_rk 12 f ≠ 0 → q_kd X964 (([0, 0, 0, 0, q8, q28, q50, q74, 0, 0, 0, 0, 0, 0, 0, 0, 0, 0, 0, 0, q122, q150, q180, q212, 0, 0, 0, 0, q246, q282, 0, 0, q320, 0, 0, 0, q360, 0, 0, 0, 0, 0, 0, 0, 0, 0] : List Nat).getD f 0) = q_rk 12 f := fun f h40 hf => match f, h40, hf with | 0, _, hf => absurd rfl hf | 1, _, hf => absurd rfl hf | 2, _, hf => absurd rfl hf | 3, _, hf => absurd rfl hf | 4, _, _ => k986 | 5, _, _ => k987 | 6, _, _ => k988 | 7, _, _ => k989 | 8, _, hf => absurd rfl hf | 9, _, hf => absurd rfl hf | 10, _, hf => absurd rfl hf | 11, _, hf => absurd rfl hf | 12, _, hf => absurd rfl hf | 13, _, hf => absurd rfl hf | 14, _, hf => absurd rfl hf | 15, _, hf => absurd rfl hf | 16, _, hf => absurd rfl hf | 17, _, hf => absurd rfl hf | 18, _, hf => absurd rfl hf | 19, _, hf => absurd rfl hf | 20, _, _ => k990 | 21, _, _ => k991 | 22, _, _ => k992 | 23, _, _ => k993 | 24, _, hf => absurd rfl hf | 25, _, hf => absurd rfl hf | 26, _, hf => absurd rfl hf | 27, _, hf => absurd rfl hf | 28, _, _ => k994 | 29, _, _ => k995 | 30, _, hf => absurd rfl hf | 31, _, hf => absurd rfl hf | 32, _, _ => k996 | 33, _, hf => absurd rfl hf | 34, _, hf => absurd rfl hf | 35, _, hf => absurd rfl hf | 36, _, _ => k983 | 37, _, hf => absurd rfl hf | 38, _, hf => absurd rfl hf | 39, _, hf => absurd rfl hf | (n + 40), h40, _ => absurd h40 (Nat.not_lt_of_ge (Nat.le_add_left 40 n))
  have hB : ∀ f, f < 40 → (q_bn 12 f).1 ≤ ((([0, 0, 0, 0, 0, 0, 0, 0, 0, 0, (-1), (-1), 0, 0, 0, 0, 0, 0, 0, 0, 0, 0, 0, 0, 0, 0, 0, 0, 0, 0, 0, 0, 0, 0, 0, 0, 0, 0, 0, 0, 0, 0, 0, 0, 0, 0] : List Int32).getD f 0).toInt) ∧ (([0, 0, 0, 0, 0, 0, 0, 0, 0, 0, (-1), (-1), 0, 0, 0, 0, 0, 0, 0, 0, 0, 0, 0, 0, 0, 0, 0, 0, 0, 0, 0, 0, 0, 0, 0, 0, 0, 0, 0, 0, 0, 0, 0, 0, 0, 0] : List Int32).getD f 0).toInt ≤ (q_bn 12 f).2 := by decide +kernel
  have y1016 : ∀ f, q_rk 12 f ≠ 0 → h < ([0, 0, 0, 0, q8, q28, q50, q74, 0, 0, 0, 0, 0, 0, 0, 0, 0, 0, 0, 0, q122, q150, q180, q212, 0, 0, 0, 0, q246, q282, 0, 0, q320, 0, 0, 0, q360, 0, 0, 0, 0, 0, 0, 0, 0, 0] : List Nat).getD f 0 := by
    intro f hf
    rcases y_fs12 hf with rfl | rfl | rfl | rfl | rfl | rfl | rfl | rfl | rfl | rfl | rfl | rfl
    · exact (hq8)
    · exact (hq28)
    · exact (hq50)
    · exact (hq74)
    · exact (hq122)
    · exact (hq150)
    · exact (hq180)
    · exact (hq212)
    · exact (hq246)
    · exact (hq282)
    · exact (hq320)
    · exact (hq360)
  have y1017 : ∀ f, q_rk 12 f ≠ 0 → y_root X964 (([0, 0, 0, 0, q8, q28, q50, q74, 0, 0, 0, 0, 0, 0, 0, 0, 0, 0, 0, 0, q122, q150, q180, q212, 0, 0, 0, 0, q246, q282, 0, 0, q320, 0, 0, 0, q360, 0, 0, 0, 0, 0, 0, 0, 0, 0] : List Nat).getD f 0) := by
    intro f hf
    rcases y_fs12 hf with rfl | rfl | rfl | rfl | rfl | rfl | rfl | rfl | rfl | rfl | rfl | rfl
    · exact y969
    · exact y970
    · exact y971
    · exact y972
    · exact y973
    · exact y974
    · exact y975
    · exact y976
    · exact y977
    · exact y978
    · exact y979
    · exact y980
  try clear y980; try clear y979; try clear y978; try clear y977; try clear y976; try clear y975; try clear y974; try clear y973; try clear y972; try clear y971; try clear y970; try clear y969
  have y1018 : ∀ f, q_rk 12 f = 5 → q_ln X964 (q_rf X964 (([0, 0, 0, 0, q8, q28, q50, q74, 0, 0, 0, 0, 0, 0, 0, 0, 0, 0, 0, 0, q122, q150, q180, q212, 0, 0, 0, 0, q246, q282, 0, 0, q320, 0, 0, 0, q360, 0, 0, 0, 0, 0, 0, 0, 0, 0] : List Nat).getD f 0) 0) = y_rl 12 f := by
    intro f hf
    rcases y_fs12 (show q_rk 12 f ≠ 0 by rw [hf]; decide) with rfl | rfl | rfl | rfl | rfl | rfl | rfl | rfl | rfl | rfl | rfl | rfl
    · exact absurd hf (by decide)
    · exact absurd hf (by decide)
    · exact absurd hf (by decide)
    · exact absurd hf (by decide)
    · exact absurd hf (by decide)
    · exact absurd hf (by decide)
    · exact absurd hf (by decide)
    · exact absurd hf (by decide)
    · exact absurd hf (by decide)
    · exact absurd hf (by decide)
    · exact absurd hf (by decide)
    · exact absurd hf (by decide)
  have y1019 : ∀ f, q_rk 12 f ≠ 0 → ([0, 0, 0, 0, q8, q28, q50, q74, 0, 0, 0, 0, 0, 0, 0, 0, 0, 0, 0, 0, q122, q150, q180, q212, 0, 0, 0, 0, q246, q282, 0, 0, q320, 0, 0, 0, q360, 0, 0, 0, 0, 0, 0, 0, 0, 0] : List Nat).getD f 0 ≠ h := by
    intro f hf
    rcases y_fs12 hf with rfl | rfl | rfl | rfl | rfl | rfl | rfl | rfl | rfl | rfl | rfl | rfl
    · exact ((Nat.ne_of_gt hq8))
    · exact ((Nat.ne_of_gt hq28))
    · exact ((Nat.ne_of_gt hq50))
    · exact ((Nat.ne_of_gt hq74))
    · exact ((Nat.ne_of_gt hq122))
    · exact ((Nat.ne_of_gt hq150))
    · exact ((Nat.ne_of_gt hq180))
    · exact ((Nat.ne_of_gt hq212))
    · exact ((Nat.ne_of_gt hq246))
    · exact ((Nat.ne_of_gt hq282))
    · exact ((Nat.ne_of_gt hq320))
    · exact ((Nat.ne_of_gt hq360))
  have y1020 : ∀ f, q_rk 12 f ≠ 0 → q_kd X (([0, 0, 0, 0, q8, q28, q50, q74, 0, 0, 0, 0, 0, 0, 0, 0, 0, 0, 0, 0, q122, q150, q180, q212, 0, 0, 0, 0, q246, q282, 0, 0, q320, 0, 0, 0, q360, 0, 0, 0, 0, 0, 0, 0, 0, 0] : List Nat).getD f 0) = 0 := by
    intro f hf
    rcases y_fs12 hf with rfl | rfl | rfl | rfl | rfl | rfl | rfl | rfl | rfl | rfl | rfl | rfl
    · exact hw0.fresh (gg_q8)
    · exact hw0.fresh (gg_q28)
    · exact hw0.fresh (gg_q50)
    · exact hw0.fresh (gg_q74)
    · exact hw0.fresh (gg_q122)
    · exact hw0.fresh (gg_q150)
    · exact hw0.fresh (gg_q180)
    · exact hw0.fresh (gg_q212)
    · exact hw0.fresh (gg_q246)
    · exact hw0.fresh (gg_q282)
    · exact hw0.fresh (gg_q320)
    · exact hw0.fresh (gg_q360)
  have hIV : ∀ f, f < 60 → ([0, 0, 0, 0, 0, 0, 0, 0, 0, 0, (-1), (-1), 0, 0, 0, 0, 0, 0, 0, 0, 0, 0, 0, 0, 0, 0, 0, 0, 0, 0, 0, 0, 0, 0, 0, 0, 0, 0, 0, 0, 0, 0, 0, 0, 0, 0] : List Int32).getD f 0 = y_iv 12 f ∧ ([0, 0, 0, 1, 0, 0, 0, 0, 0, 0, 0, 0, 0, 0, 0, 0, 0, 0, 0, 0, 0, 0, 0, 0, 0, 0, 0, 0, 0, 0, 0, 0, 0, 0, 0, 0, 0, 0, 0, 0, 0, 0, 0, 0, 0, 0] : List Int64).getD f 0 = y_il 12 f := by decide +kernel
  have w1015 : q_w X1012 σ1013 H554 := by
    rw [dX1012, dσ1013]
    exact w967.add k997 (q_hrk hrk) (fun q => absurd rfl q) (by decide) (fun q => absurd q (by decide)) (q_hB2 hB) (fun q => by rcases q with q | q <;> exact absurd q (by decide)) (q_cfO D982 ⟨rfl, by decide⟩ (show vwCl[11]? = some (RX12, TX12, 46) from rfl) b560 (fun f hf => match f, hf with | 0, _ => rfl | 1, _ => rfl | 2, _ => rfl | 3, _ => rfl | 4, _ => rfl | 5, _ => rfl | 6, _ => rfl | 7, _ => rfl | 8, _ => rfl | 9, _ => rfl | 10, _ => rfl | 11, _ => rfl | 12, _ => rfl | 13, _ => rfl | 14, _ => rfl | 15, _ => rfl | 16, _ => rfl | 17, _ => rfl | 18, _ => rfl | 19, _ => rfl | 20, _ => rfl | 21, _ => rfl | 22, _ => rfl | 23, _ => rfl | 24, _ => rfl | 25, _ => rfl | 26, _ => rfl | 27, _ => rfl | 28, _ => rfl | 29, _ => rfl | 30, _ => rfl | 31, _ => rfl | 32, _ => rfl | 33, _ => rfl | 34, _ => rfl | 35, _ => rfl | 36, _ => rfl | 37, _ => rfl | 38, _ => rfl | 39, _ => rfl | 40, _ => rfl | 41, _ => rfl | 42, _ => rfl | 43, _ => rfl | 44, _ => rfl | 45, _ => rfl | (n + 46), hf => absurd hf (Nat.not_lt_of_ge (Nat.le_add_left 46 n)))) y1016 (y_in12 (rf := (fun f => ([0, 0, 0, 0, q8, q28, q50, q74, 0, 0, 0, 0, 0, 0, 0, 0, 0, 0, 0, 0, q122, q150, q180, q212, 0, 0, 0, 0, q246, q282, 0, 0, q320, 0, 0, 0, q360, 0, 0, 0, 0, 0, 0, 0, 0, 0] : List Nat).getD f 0)) (show q8 < q28 from cc_q28) (show q28 < q50 from cc_q50) (show q50 < q74 from cc_q74) (show q74 < q122 from cc_q122) (show q122 < q150 from cc_q150) (show q150 < q180 from cc_q180) (show q180 < q212 from cc_q212) (show q212 < q246 from cc_q246) (show q246 < q282 from cc_q282) (show q282 < q320 from cc_q320) (show q320 < q360 from cc_q360)) y1017 y1018 (fun _ f hf => hIV f (hf.resolve_left (by decide)))
  try clear y1018; try clear y1017; try clear y1016; try clear D982; try clear b560
  have y1021 : y_root X1012 h := by
    rw [dX1012]
    exact (y_root.out w967.1 k997).add y_xg y1019
  try clear y1019; try clear k997; try clear w967
  have y1022 : y_rt X X1012 := by
    rw [dX1012]
    exact y981.add y_xg y1020
  try clear y1020; try clear y981
  have k1023 : q_kd X1012 h = 12 := by rw [dX1012]; exact q_xg_h
  have x1024 := x985.tr x1014 (fun a e => Or.inl e)
  try clear x985
  have k1025 := x1014.kd k986 (by decide)
  try clear k1025
  have k1026 := x1014.kd k987 (by decide)
  try clear k1026
  have k1027 := x1014.kd k988 (by decide)
  try clear k1027; try clear k988
  have k1028 := x1014.kd k989 (by decide)
  try clear k1028; try clear k989
  have k1029 := x1014.kd k990 (by decide)
  try clear k1029
  have k1030 := x1014.kd k991 (by decide)
  try clear k1030; try clear k991
  have k1031 := x1014.kd k992 (by decide)
  try clear k1031; try clear k992
  have k1032 := x1014.kd k993 (by decide)
  try clear k1032; try clear k993
  have k1033 := x1014.kd k994 (by decide)
  try clear k1033; try clear k994
  have k1034 := x1014.kd k995 (by decide)
  try clear k1034; try clear k995
  have k1035 := x1014.kd k996 (by decide)
  try clear k1035; try clear k996
  have k1036 := x1014.kd k983 (by decide)
  try clear k1036; try clear k983
  have hr4 : q_rf X1012 h 4 = q8 := by rw [dX1012]; exact if_pos rfl
  have ha4 : ∀ j, σ1013.1 q8 j = (fun _ => 0 : Nat → Int32) j := fun j => (q_exi x1014 (by rw [k986]; decide)).trans (j1009 j)
  try clear k986
  have hr5 : q_rf X1012 h 5 = q28 := by rw [dX1012]; exact if_pos rfl
  have ha5 : ∀ j, σ1013.1 q28 j = (fun j => if j = (3 : Int32).toNatClampNeg then ((-1) : Int32) else (fun j => if j = (2 : Int32).toNatClampNeg then ((-1) : Int32) else (fun j => if j = (1 : Int32).toNatClampNeg then ((-1) : Int32) else (fun j => if j = (0 : Int32).toNatClampNeg then ((-1) : Int32) else (fun _ => 0 : Nat → Int32) j) j) j) j) j := fun j => (q_exi x1014 (by rw [k987]; decide)).trans (j1010 j)
  try clear k987
  have hr20 : q_rf X1012 h 20 = q122 := by rw [dX1012]; exact if_pos rfl
  have ha20 : ∀ j, σ1013.1 q122 j = (fun j => if j = (6 : Int32).toNatClampNeg then ((-1) : Int32) else (fun j => if j = (8 : Int32).toNatClampNeg then ((-1) : Int32) else (fun j => if j = (4 : Int32).toNatClampNeg then (4 : Int32) else (fun j => if j = (1 : Int32).toNatClampNeg then (1 : Int32) else (fun j => if j = (0 : Int32).toNatClampNeg then (2 : Int32) else (fun _ => 0 : Nat → Int32) j) j) j) j) j) j := fun j => (q_exi x1014 (by rw [k990]; decide)).trans (j1011 j)
  try clear x1014; try clear k990
  exact b_ret E hr hlk S558 x1024 k1023 ⟨⟨y1022, y1021⟩, ⟨⟨by rw [dσ1013]; exact if_pos rfl, by rw [dσ1013]; exact if_pos rfl⟩, fun j hj => by rw [hr4, hr5, ha4, ha5]; exact match j, hj with | 0, _ => ⟨rfl, rfl⟩ | 1, _ => ⟨rfl, rfl⟩ | 2, _ => ⟨rfl, rfl⟩ | 3, _ => ⟨rfl, rfl⟩ | (n + 4), hj => absurd hj (Nat.not_lt_of_ge (Nat.le_add_left 4 n)), fun j => by rw [hr20, ha20]; rfl⟩⟩ w1015 dX12_init_172
end
/-! FROM 60.law.lean.txt -/
section
/-! THE LAW: its loop, case by case -/
theorem lw_in {i L : Nat} {v : Int32} {j : Nat} (hv : v.toInt = j) (h : i + j < L) (hL : L ≤ 3072) : vp_in (nI i + v) L := by
  have e : (nI i).toInt = i := nI_toInt (by omega)
  refine vp_in_iff.mpr ?_
  rw [Int32.toInt_add, e, hv, Int.bmod_eq_of_le (by omega) (by omega)]
  omega
theorem q_c34 {X : XW} {a : Nat} (hT : q_T X) (ha : q_kd X a = 12) : q_kd X (q_rf X a 20) = 34 := (hT.1 a 20 (by rw [ha]; decide)).trans (by rw [ha]; rfl)
theorem q_c30 {X : XW} {a : Nat} (hT : q_T X) (ha : q_kd X a = 12) : q_kd X (q_rf X a 4) = 30 := (hT.1 a 4 (by rw [ha]; decide)).trans (by rw [ha]; rfl)
theorem q_c31 {X : XW} {a : Nat} (hT : q_T X) (ha : q_kd X a = 12) : q_kd X (q_rf X a 5) = 31 := (hT.1 a 5 (by rw [ha]; decide)).trans (by rw [ha]; rfl)
theorem q_c23 {X : XW} {a : Nat} (hT : q_T X) (ha : q_kd X a = 11) : q_kd X (q_rf X a 3) = 23 := (hT.1 a 3 (by rw [ha]; decide)).trans (by rw [ha]; rfl)
theorem q_c10 {X : XW} {a i : Nat} (hT : q_T X) (ha : q_kd X a = 11) (hi : i < 4) : q_kd X (q_rf X (q_rf X a 3) i) = 10 := by
  have h := q_c23 hT ha
  have e : q_rk 23 i = 10 := match i, hi with | 0, _ => rfl | 1, _ => rfl | 2, _ => rfl | 3, _ => rfl | (n + 4), hi => absurd hi (by omega)
  have z := hT.1 (q_rf X a 3) i (by rw [h, e]; decide)
  rw [z, h, e]
theorem lw_kC {X : XW} {σ σ1 : ST} {mo : Nat} {n : Int} (e2 : σ1.1 mo 24 = σ.1 mo 24) (e : m_c X σ1 mo = m_c X σ mo) (h : m_M (m_c X σ mo) (σ.1 mo 24).toInt n) : m_M (m_c X σ1 mo) (σ1.1 mo 24).toInt n := by
  rw [e, e2]
  exact h
theorem lw_kM {X : XW} {σ σ1 : ST} {mo lev : Nat} {n : Int} (hk : q_K lev X σ σ1) (hT : q_T X) (hmo : q_kd X mo = 12) (hl : 2 ≤ lev) (h : m_M (m_c X σ mo) (σ.1 mo 24).toInt n) : m_M (m_c X σ1 mo) (σ1.1 mo 24).toInt n :=
  lw_kC (hk mo 24 (by rw [hmo]; exact Nat.le_trans (by decide) hl)) (funext fun j => m_cK hk hT hmo hl j) h
theorem lw_kS {S : Nat → Nat → Prop} {X : XW} {σ σ1 : ST} {mo : Nat} {n : Int} (hk : q_KS S 8 X σ σ1) (hT : q_T X) (hmo : q_kd X mo = 12) (h1 : ∀ j, ¬ S (q_rf X mo 20) j) (h2 : ¬ S mo 24) (h : m_M (m_c X σ mo) (σ.1 mo 24).toInt n) : m_M (m_c X σ1 mo) (σ1.1 mo 24).toInt n :=
  lw_kC (hk mo 24 (by rw [hmo]; decide) h2) (funext fun j => congrArg Int32.toInt (hk _ _ (by rw [q_c34 hT hmo]; show (2 : Nat) ≤ 8; decide) (h1 _))) h
theorem lw_kT {X : XW} {σ σ1 : ST} {xo mo : Nat} {n : Int} {v1 r : Int32} {P : Prop} (h0 : 0 ≤ r.toInt ∧ r.toInt ≤ 1) (hi : r.toInt = 1 ↔ (0 ≤ v1.toInt ∧ v1.toInt < 4 ∧ P)) (hk : q_KS (fun b g => b = (q_rf X (q_rf X xo 3) v1.toNatClampNeg) ∧ g ≤ 1) 8 X σ σ1) (h8 : r.toInt = 0 → q_K 8 X σ σ1) (hT : q_T X) (hmo : q_kd X mo = 12) (hxo : q_kd X xo = 11) (h : m_M (m_c X σ mo) (σ.1 mo 24).toInt n) : m_M (m_c X σ1 mo) (σ1.1 mo 24).toInt n := by
  by_cases q : r.toInt = 1
  · obtain ⟨a, b, -⟩ := hi.mp q
    have k10 := q_c10 (i := v1.toNatClampNeg) hT hxo (by rw [q_cn]; omega)
    exact lw_kS hk hT hmo (fun j z => m_ne (q_c34 hT hmo) k10 (by decide) z.1) (fun z => m_ne hmo k10 (by decide) z.1) h
  · exact lw_kM (h8 (by omega)) hT hmo (by decide) h
theorem lw_up {c : Int → Int} {k n : Int} (h : m_M c k n) (hk : k ≤ 3) : m_M c k (n + 301) := m_M.up h h.1.1 (m_W.le h.1.2 (by omega)) (fun _ _ _ => rfl) hk (Int.le_refl k) (by omega)
theorem lw_wr {X : XW} {σ σ1 : ST} {mo : Nat} {n n' : Int} (e2 : σ1.1 mo 24 = σ.1 mo 24) (hG : m_G (m_c X σ1 mo)) (hW : m_W (m_c X σ1 mo) n') (e : ∀ j : Int, 930 ≤ j → j < 3720 → m_c X σ1 mo j = m_c X σ mo j) (h : m_M (m_c X σ mo) (σ.1 mo 24).toInt n) (h3 : (σ.1 mo 24).toInt ≤ 3) (hn : n ≤ n') : m_M (m_c X σ1 mo) (σ1.1 mo 24).toInt n' := by
  rw [e2]
  exact m_M.up h hG hW e h3 (Int.le_refl _) hn
theorem lw_eq {r r' : Int32} {P : Prop} (h : 0 ≤ r.toInt ∧ r.toInt ≤ 1) (h' : 0 ≤ r'.toInt ∧ r'.toInt ≤ 1) (i : r.toInt = 1 ↔ P) (i' : r'.toInt = 1 ↔ P) : r = r' := by
  refine Int32.toInt_inj.mp ?_
  by_cases q : P
  · have a := i.mpr q
    have b := i'.mpr q
    omega
  · have a : ¬ r.toInt = 1 := fun w => q (i.mp w)
    have b : ¬ r'.toInt = 1 := fun w => q (i'.mp w)
    omega
theorem m_and63 (x : Int32) : 0 ≤ (x &&& 63).toInt ∧ (x &&& 63).toInt ≤ 63 := by
  have h : (x &&& 63) = (x.toUInt32 &&& 63).toInt32 := rfl
  have h2 : (x.toUInt32 &&& 63).toNat ≤ 63 := by
    rw [UInt32.toNat_and]
    exact Nat.and_le_right
  have h3 : ((x.toUInt32 &&& 63).toInt32).toInt = ((x.toUInt32 &&& 63).toNat : Int) := by
    show ((x.toUInt32 &&& 63).toBitVec).toInt = _
    rw [BitVec.toInt_eq_toNat_of_lt (by show 2 * (x.toUInt32 &&& 63).toNat < _; omega)]
    rfl
  rw [h, h3]
  omega
/-! what the loop of this law keeps: the marks' numbers and the tapes' lengths of the two are the same -/
def lw_E (xo mo : Nat) (σ : ST) : Prop := (σ.1 xo 11).toInt = (σ.1 mo 24).toInt ∧ (σ.1 xo 5).toInt = (σ.1 mo 8).toInt
theorem lw_Ee {xo mo : Nat} {σ σ1 : ST} (a : σ1.1 xo 11 = σ.1 xo 11) (b : σ1.1 xo 5 = σ.1 xo 5) (c : σ1.1 mo 24 = σ.1 mo 24) (d : σ1.1 mo 8 = σ.1 mo 8) (h : lw_E xo mo σ) : lw_E xo mo σ1 := by
  unfold lw_E at h ⊢
  rw [a, b, c, d]
  exact h
theorem lw_EK {X : XW} {σ σ1 : ST} {xo mo lev : Nat} (hk : q_K lev X σ σ1) (h1 : 1 ≤ lev) (hxo : q_kd X xo = 11) (hmo : q_kd X mo = 12) (h : lw_E xo mo σ) : lw_E xo mo σ1 :=
  lw_Ee (hk _ _ (by rw [hxo]; exact h1)) (hk _ _ (by rw [hxo]; exact h1)) (hk _ _ (by rw [hmo]; exact h1)) (hk _ _ (by rw [hmo]; exact h1)) h
theorem lw_ES {S : Nat → Nat → Prop} {X : XW} {σ σ1 : ST} {xo mo lev : Nat} (hk : q_KS S lev X σ σ1) (h1 : 1 ≤ lev) (hxo : q_kd X xo = 11) (hmo : q_kd X mo = 12) (a : ¬ S xo 11) (b : ¬ S xo 5) (c : ¬ S mo 24) (d : ¬ S mo 8) (h : lw_E xo mo σ) : lw_E xo mo σ1 :=
  lw_Ee (hk _ _ (by rw [hxo]; exact h1) a) (hk _ _ (by rw [hxo]; exact h1) b) (hk _ _ (by rw [hmo]; exact h1) c) (hk _ _ (by rw [hmo]; exact h1) d) h
theorem lw_ET {X : XW} {σ σ1 : ST} {xo mo : Nat} {v1 r : Int32} {P : Prop} (h0 : 0 ≤ r.toInt ∧ r.toInt ≤ 1) (hi : r.toInt = 1 ↔ (0 ≤ v1.toInt ∧ v1.toInt < 4 ∧ P)) (hk : q_KS (fun b g => b = (q_rf X (q_rf X xo 3) v1.toNatClampNeg) ∧ g ≤ 1) 8 X σ σ1) (h8 : r.toInt = 0 → q_K 8 X σ σ1) (hT : q_T X) (hmo : q_kd X mo = 12) (hxo : q_kd X xo = 11) (h : lw_E xo mo σ) : lw_E xo mo σ1 := by
  by_cases q : r.toInt = 1
  · obtain ⟨a, b, -⟩ := hi.mp q
    have k10 := q_c10 (i := v1.toNatClampNeg) hT hxo (by rw [q_cn]; omega)
    exact lw_ES hk (by decide) hxo hmo (fun z => m_ne hxo k10 (by decide) z.1) (fun z => m_ne hxo k10 (by decide) z.1) (fun z => m_ne hmo k10 (by decide) z.1) (fun z => m_ne hmo k10 (by decide) z.1) h
  · exact lw_EK (h8 (by omega)) (by decide) hxo hmo h
theorem lw_Etape {X : XW} {σ σ1 σ2 : ST} {xo mo : Nat} {A : Int} (hxo : q_kd X xo = 11) (hmo : q_kd X mo = 12) (h : lw_E xo mo σ) {S2 : Nat → Nat → Prop} {lev : Nat} (k1 : q_KS (fun b g => b = xo ∧ g = 5) 8 X σ σ1) (k2 : q_KS S2 lev X σ1 σ2) (h1 : 1 ≤ lev) (s1 : ¬ S2 xo 11) (s2 : ¬ S2 xo 5) (s3 : ¬ S2 mo 24) (x : (σ1.1 xo 5).toInt = A) (y : (σ2.1 mo 8).toInt = A) : lw_E xo mo σ2 := by
  have ne : mo ≠ xo := m_ne hmo hxo (by decide)
  unfold lw_E at h ⊢
  rw [k2 xo 11 (by rw [hxo]; exact h1) s1, k2 xo 5 (by rw [hxo]; exact h1) s2, k2 mo 24 (by rw [hmo]; exact h1) s3, x, y, k1 xo 11 (by rw [hxo]; decide) (fun z => absurd z.2 (by decide)), k1 mo 24 (by rw [hmo]; decide) (fun z => ne z.1)]
  exact ⟨h.1, rfl⟩
theorem lw_Efeed {X : XW} {σ σ1 σ2 : ST} {xo mo : Nat} {r1 r2 : Int32} (hxo : q_kd X xo = 11) (hmo : q_kd X mo = 12) (h : lw_E xo mo σ) (k1 : q_KS (fun b g => b = xo ∧ g = 5) 8 X σ σ1) (a1 : (σ.1 xo 5).toInt + 20 > 900 → r1.toInt = -1 ∧ (σ1.1 xo 5).toInt = (σ.1 xo 5).toInt) (a2 : (σ.1 xo 5).toInt + 20 ≤ 900 → r1.toInt = (σ.1 xo 5).toInt + 20 ∧ (σ1.1 xo 5).toInt = (σ.1 xo 5).toInt + 20) (k2 : q_KS (fun b g => b = mo ∧ g = 8) 8 X σ1 σ2) (b1 : (σ1.1 mo 8).toInt + 20 > 900 → r2.toInt = -1 ∧ (σ2.1 mo 8).toInt = (σ1.1 mo 8).toInt) (b2 : (σ1.1 mo 8).toInt + 20 ≤ 900 → r2.toInt = (σ1.1 mo 8).toInt + 20 ∧ (σ2.1 mo 8).toInt = (σ1.1 mo 8).toInt + 20) : lw_E xo mo σ2 ∧ r1 = r2 := by
  have ne : mo ≠ xo := m_ne hmo hxo (by decide)
  have c : σ1.1 mo 8 = σ.1 mo 8 := k1 mo 8 (by rw [hmo]; decide) (fun z => ne z.1)
  have e := h.2
  rw [c] at b1 b2
  refine ⟨lw_Etape (A := (σ1.1 xo 5).toInt) hxo hmo h k1 k2 (by decide) (fun z => ne z.1.symm) (fun z => ne z.1.symm) (fun z => absurd z.2 (by decide)) rfl ?_, Int32.toInt_inj.mp ?_⟩
  · by_cases q : (σ.1 xo 5).toInt + 20 > 900
    · have := a1 q; have := b1 (by omega); omega
    · have := a2 (by omega); have := b2 (by omega); omega
  · by_cases q : (σ.1 xo 5).toInt + 20 > 900
    · have := a1 q; have := b1 (by omega); omega
    · have := a2 (by omega); have := b2 (by omega); omega
theorem lw_Etable {X : XW} {σ σ1 σ2 : ST} {xo mo : Nat} {v : Int32} (hxo : q_kd X xo = 11) (hmo : q_kd X mo = 12) (h : lw_E xo mo σ) (k1 : q_KS (fun b g => b = xo ∧ g = 5) 8 X σ σ1) (a1 : (v.toInt < 0 ∨ (σ.1 xo 5).toInt < v.toInt) → (σ1.1 xo 5).toInt = (σ.1 xo 5).toInt) (a2 : (0 ≤ v.toInt ∧ v.toInt ≤ (σ.1 xo 5).toInt) → (σ1.1 xo 5).toInt = 0) (k2 : q_KS (fun b g => b = mo ∧ 8 ≤ g ∧ g ≤ 18) 1 X σ1 σ2) (b1 : (v.toInt < 0 ∨ (σ1.1 mo 8).toInt < v.toInt) → (σ2.1 mo 8).toInt = (σ1.1 mo 8).toInt) (b2 : (0 ≤ v.toInt ∧ v.toInt ≤ (σ1.1 mo 8).toInt) → (σ2.1 mo 8).toInt = 0) : lw_E xo mo σ2 ∧ True := by
  have ne : mo ≠ xo := m_ne hmo hxo (by decide)
  have c : σ1.1 mo 8 = σ.1 mo 8 := k1 mo 8 (by rw [hmo]; decide) (fun z => ne z.1)
  have e := h.2
  rw [c] at b1 b2
  refine ⟨lw_Etape (A := (σ1.1 xo 5).toInt) hxo hmo h k1 k2 (by decide) (fun z => ne z.1.symm) (fun z => ne z.1.symm) (fun z => absurd z.2.2 (by decide)) rfl ?_, trivial⟩
  by_cases q : v.toInt < 0 ∨ (σ.1 xo 5).toInt < v.toInt
  · rw [a1 q, b1 (by omega)]; omega
  · rw [a2 (by omega), b2 (by omega)]
theorem lw_Eround {X : XW} {σ σ1 σ2 : ST} {xo mo : Nat} {v : Int32} (hxo : q_kd X xo = 11) (hmo : q_kd X mo = 12) (h : lw_E xo mo σ) (k1 : q_KS (fun b g => b = xo ∧ g = 5) 8 X σ σ1) (a1 : (v.toInt < 0 ∨ (σ.1 xo 5).toInt < v.toInt ∨ 300 < v.toInt) → (σ1.1 xo 5).toInt = (σ.1 xo 5).toInt) (a2 : (0 ≤ v.toInt ∧ v.toInt ≤ (σ.1 xo 5).toInt ∧ v.toInt ≤ 300) → (σ1.1 xo 5).toInt = 0) (k2 : q_KS (fun b g => b = mo ∧ 8 ≤ g ∧ g ≤ 18) 1 X σ1 σ2) (b1 : (v.toInt < 0 ∨ (σ1.1 mo 8).toInt < v.toInt ∨ 300 < v.toInt) → (σ2.1 mo 8).toInt = (σ1.1 mo 8).toInt) (b2 : (0 ≤ v.toInt ∧ v.toInt ≤ (σ1.1 mo 8).toInt ∧ v.toInt ≤ 300) → (σ2.1 mo 8).toInt = 0) : lw_E xo mo σ2 ∧ True := by
  have ne : mo ≠ xo := m_ne hmo hxo (by decide)
  have c : σ1.1 mo 8 = σ.1 mo 8 := k1 mo 8 (by rw [hmo]; decide) (fun z => ne z.1)
  have e := h.2
  rw [c] at b1 b2
  refine ⟨lw_Etape (A := (σ1.1 xo 5).toInt) hxo hmo h k1 k2 (by decide) (fun z => ne z.1.symm) (fun z => ne z.1.symm) (fun z => absurd z.2.2 (by decide)) rfl ?_, trivial⟩
  by_cases q : v.toInt < 0 ∨ (σ.1 xo 5).toInt < v.toInt ∨ 300 < v.toInt
  · rw [a1 q, b1 (by omega)]; omega
  · rw [a2 (by omega), b2 (by omega)]
theorem lw_Emk {X : XW} {σ σ1 σ2 : ST} {xo mo : Nat} {A : Int} (hxo : q_kd X xo = 11) (hmo : q_kd X mo = 12) (h : lw_E xo mo σ) (k1 : q_KS (fun b g => b = xo ∧ g = 11) 8 X σ σ1) (k2 : q_KS (fun b g => b = mo ∧ g = 24) 1 X σ1 σ2) (x : (σ1.1 xo 11).toInt = A) (y : (σ2.1 mo 24).toInt = A) : lw_E xo mo σ2 := by
  have ne : mo ≠ xo := m_ne hmo hxo (by decide)
  unfold lw_E at h ⊢
  rw [k2 xo 11 (by rw [hxo]; decide) (fun z => ne z.1.symm), k2 xo 5 (by rw [hxo]; decide) (fun z => ne z.1.symm), k2 mo 8 (by rw [hmo]; decide) (fun z => absurd z.2 (by decide)), x, y, k1 xo 5 (by rw [hxo]; decide) (fun z => absurd z.2 (by decide)), k1 mo 8 (by rw [hmo]; decide) (fun z => ne z.1)]
  exact ⟨rfl, h.2⟩
theorem lw_Emark {X : XW} {σ σ1 σ2 : ST} {xo mo : Nat} {r1 r2 : Int32} (hxo : q_kd X xo = 11) (hmo : q_kd X mo = 12) (hb : 0 ≤ (σ.1 xo 11).toInt ∧ (σ.1 xo 11).toInt ≤ 3) (h : lw_E xo mo σ) (k1 : q_KS (fun b g => b = xo ∧ g = 11) 8 X σ σ1) (a1 : (σ.1 xo 11).toInt < 3 → (σ1.1 xo 11).toInt = (σ.1 xo 11).toInt + 1 ∧ r1.toInt = (σ.1 xo 11).toInt + 1) (a2 : (σ.1 xo 11).toInt = 3 → (σ1.1 xo 11).toInt = 3 ∧ r1.toInt = -1) (k2 : q_KS (fun b g => b = mo ∧ g = 24) 1 X σ1 σ2) (b1 : (σ1.1 mo 24).toInt < 3 → (σ2.1 mo 24).toInt = (σ1.1 mo 24).toInt + 1 ∧ r2.toInt = (σ1.1 mo 24).toInt + 1) (b2 : (σ1.1 mo 24).toInt = 3 → (σ2.1 mo 24).toInt = 3 ∧ r2.toInt = -1) : lw_E xo mo σ2 ∧ r1 = r2 := by
  have ne : mo ≠ xo := m_ne hmo hxo (by decide)
  have c : σ1.1 mo 24 = σ.1 mo 24 := k1 mo 24 (by rw [hmo]; decide) (fun z => ne z.1)
  have e := h.1
  rw [c] at b1 b2
  refine ⟨lw_Emk (A := (σ1.1 xo 11).toInt) hxo hmo h k1 k2 rfl ?_, Int32.toInt_inj.mp ?_⟩
  · by_cases q : (σ.1 xo 11).toInt < 3
    · have := a1 q; have := b1 (by omega); omega
    · have := a2 (by omega); have := b2 (by omega); omega
  · by_cases q : (σ.1 xo 11).toInt < 3
    · have := a1 q; have := b1 (by omega); omega
    · have := a2 (by omega); have := b2 (by omega); omega
theorem lw_Eback {X : XW} {σ σ1 σ2 : ST} {xo mo : Nat} {r1 r2 : Int32} (hxo : q_kd X xo = 11) (hmo : q_kd X mo = 12) (hb : 0 ≤ (σ.1 xo 11).toInt ∧ (σ.1 xo 11).toInt ≤ 3) (h : lw_E xo mo σ) (k1 : q_KS (fun b g => b = xo ∧ g = 11) 8 X σ σ1) (a1 : 0 < (σ.1 xo 11).toInt → (σ1.1 xo 11).toInt = (σ.1 xo 11).toInt - 1 ∧ r1.toInt = (σ.1 xo 11).toInt - 1) (a2 : (σ.1 xo 11).toInt = 0 → (σ1.1 xo 11).toInt = 0 ∧ r1.toInt = -1) (k2 : q_KS (fun b g => b = mo ∧ g = 24) 1 X σ1 σ2) (b1 : 0 < (σ1.1 mo 24).toInt → (σ2.1 mo 24).toInt = (σ1.1 mo 24).toInt - 1 ∧ r2.toInt = (σ1.1 mo 24).toInt - 1) (b2 : (σ1.1 mo 24).toInt = 0 → (σ2.1 mo 24).toInt = 0 ∧ r2.toInt = -1) : lw_E xo mo σ2 ∧ r1 = r2 := by
  have ne : mo ≠ xo := m_ne hmo hxo (by decide)
  have c : σ1.1 mo 24 = σ.1 mo 24 := k1 mo 24 (by rw [hmo]; decide) (fun z => ne z.1)
  have e := h.1
  rw [c] at b1 b2
  refine ⟨lw_Emk (A := (σ1.1 xo 11).toInt) hxo hmo h k1 k2 rfl ?_, Int32.toInt_inj.mp ?_⟩
  · by_cases q : 0 < (σ.1 xo 11).toInt
    · have := a1 q; have := b1 (by omega); omega
    · have := a2 (by omega); have := b2 (by omega); omega
  · by_cases q : 0 < (σ.1 xo 11).toInt
    · have := a1 q; have := b1 (by omega); omega
    · have := a2 (by omega); have := b2 (by omega); omega
/-! what the loop of this law keeps besides: the tapes' bytes are the same (p10, p11, p12; NOT YET BUILT) -/
def lw_B (X : XW) (xo mo : Nat) (σ : ST) : Prop := ∀ p : Int, 0 ≤ p → p < (σ.1 xo 5).toInt → σ.1 (q_rf X xo 4) p.toNat = σ.1 (q_rf X mo 7) p.toNat ∧ -128 ≤ (σ.1 (q_rf X xo 4) p.toNat).toInt ∧ (σ.1 (q_rf X xo 4) p.toNat).toInt ≤ 127
theorem lw_noK {L : List (Nat × Nat)} {k f : Nat} (h : L.all (fun x => x.1 != k) = true) : q_in2 L k f = false := by
  unfold q_in2
  rw [List.any_eq_false]
  intro x hx
  have h1 := List.all_eq_true.mp h x hx
  have h2 : ¬ x.1 = k := by simpa using h1
  simp [h2]
section LB
variable {X : XW} {xo mo : Nat} {σ σ1 σ2 : ST} {L M L2 M2 : List (Nat × Nat)}
theorem lw_k22 (hT : q_T X) (hxo : q_kd X xo = 11) : q_kd X (q_rf X xo 4) = 22 := (hT.1 xo 4 (by rw [hxo]; decide)).trans (by rw [hxo]; rfl)
theorem lw_k33 (hT : q_T X) (hmo : q_kd X mo = 12) : q_kd X (q_rf X mo 7) = 33 := (hT.1 mo 7 (by rw [hmo]; decide)).trans (by rw [hmo]; rfl)
theorem lw_Bow (ow : q_ow L M X σ σ1) (hT : q_T X) (hxo : q_kd X xo = 11) (hmo : q_kd X mo = 12) (h22 : L.all (fun x => x.1 != 22) = true) (h33 : L.all (fun x => x.1 != 33) = true) : (∀ p, σ1.1 (q_rf X xo 4) p = σ.1 (q_rf X xo 4) p) ∧ ∀ p, σ1.1 (q_rf X mo 7) p = σ.1 (q_rf X mo 7) p :=
  ⟨fun p => ow.1 _ p (by rw [lw_k22 hT hxo]; exact lw_noK h22), fun p => ow.1 _ p (by rw [lw_k33 hT hmo]; exact lw_noK h33)⟩
/-- a call that leaves tapes and their lengths alone -/
theorem lw_BK (ow : q_ow L M X σ σ1) (hT : q_T X) (hxo : q_kd X xo = 11) (hmo : q_kd X mo = 12) (h22 : L.all (fun x => x.1 != 22) = true) (h33 : L.all (fun x => x.1 != 33) = true) (h5 : σ1.1 xo 5 = σ.1 xo 5) (h : lw_B X xo mo σ) : lw_B X xo mo σ1 := by
  obtain ⟨a1, a2⟩ := lw_Bow ow hT hxo hmo h22 h33
  intro p p0 p1
  rw [h5] at p1
  rw [a1, a2]
  exact h p p0 p1
/-- a table or a round: the tapes' bytes stand, the length stands or is 0 -/
theorem lw_B2 (ow : q_ow L M X σ σ1) (ow2 : q_ow L2 M2 X σ1 σ2) (hT : q_T X) (hxo : q_kd X xo = 11) (hmo : q_kd X mo = 12) (h22 : L.all (fun x => x.1 != 22) = true) (h33 : L.all (fun x => x.1 != 33) = true) (k22 : L2.all (fun x => x.1 != 22) = true) (k33 : L2.all (fun x => x.1 != 33) = true) (h5 : (σ2.1 xo 5).toInt = (σ.1 xo 5).toInt ∨ (σ2.1 xo 5).toInt = 0) (h : lw_B X xo mo σ) : lw_B X xo mo σ2 := by
  obtain ⟨a1, a2⟩ := lw_Bow ow hT hxo hmo h22 h33
  obtain ⟨b1, b2⟩ := lw_Bow ow2 hT hxo hmo k22 k33
  intro p p0 p1
  rw [b1, b2, a1, a2]
  rcases h5 with h5 | h5
  · exact h p p0 (by rw [h5] at p1; exact p1)
  · omega
theorem lw_tp (ow : q_ow L M X σ σ1) (hT : q_T X) (hxo : q_kd X xo = 11) (hmo : q_kd X mo = 12) (h33 : L.all (fun x => x.1 != 33) = true) (h8 : q_in2 L 12 8 = false) (he : (σ.1 xo 5).toInt = (σ.1 mo 8).toInt) (h : lw_B X xo mo σ) : tp_R X xo mo σ σ1 (σ.1 xo 5).toInt := by
  refine ⟨rfl, ?_, fun p p0 p1 => ?_⟩
  · rw [ow.1 mo 8 (by rw [hmo]; exact h8)]
    exact he.symm
  · rw [ow.1 (q_rf X mo 7) p.toNat (by rw [lw_k33 hT hmo]; exact lw_noK h33)]
    exact h p p0 p1
/-- feed -/
theorem lw_Bfeed {v1 v2 v3 v4 v5 r1 r2 : Int32} (e1 : (r1, σ1) = F_X11_feed X σ xo v1 v2 v3 v4 v5) (e2 : (r2, σ2) = F_X12_feed X σ1 mo v1 v2 v3 v4 v5) (ow : q_ow L M X σ σ1) (ow2 : q_ow L2 M2 X σ1 σ2) (hT : q_T X) (hxo : q_kd X xo = 11) (hmo : q_kd X mo = 12) (h33 : L.all (fun x => x.1 != 33) = true) (h8 : q_in2 L 12 8 = false) (k22 : L2.all (fun x => x.1 != 22) = true) (k5 : q_in2 L2 11 5 = false) (he : (σ.1 xo 5).toInt = (σ.1 mo 8).toInt) (hb : 0 ≤ (σ.1 xo 5).toInt ∧ (σ.1 xo 5).toInt ≤ 900) (h : lw_B X xo mo σ) : r1 = r2 ∧ lw_B X xo mo σ2 := by
  have nC : q_rf X xo 4 ≠ xo := m_ne (lw_k22 hT hxo) hxo (by decide)
  have na : q_rf X mo 7 ≠ mo := m_ne (lw_k33 hT hmo) hmo (by decide)
  obtain ⟨f1, m', m0, m1, R⟩ := tp_feed nC na (lw_tp ow hT hxo hmo h33 h8 he h) hb v1 v2 v3 v4 v5
  rw [← e1, ← e2] at f1 R
  obtain ⟨R1, R2, R3⟩ := R
  refine ⟨f1, fun p p0 p1 => ?_⟩
  have c5 : σ2.1 xo 5 = σ1.1 xo 5 := ow2.1 xo 5 (by rw [hxo]; exact k5)
  have cb : σ2.1 (q_rf X xo 4) p.toNat = σ1.1 (q_rf X xo 4) p.toNat := ow2.1 _ _ (by rw [lw_k22 hT hxo]; exact lw_noK k22)
  rw [c5] at p1
  rw [cb]
  have R1' : (σ1.1 xo 5).toInt = m' := R1
  exact R3 p p0 (by omega)
/-- table: the compared case -/
theorem lw_Btable {lb : Nat → Nat} {v r1 r2 : Int32} (hcl : tb_Cls X lb xo mo) (e1 : (r1, σ1) = F_X11_table X σ xo v) (e2 : (r2, σ2) = F_X12_table X σ1 mo v) (ow : q_ow L M X σ σ1) (hT : q_T X) (hxo : q_kd X xo = 11) (hmo : q_kd X mo = 12) (h33 : L.all (fun x => x.1 != 33) = true) (h8 : q_in2 L 12 8 = false) (he : (σ.1 xo 5).toInt = (σ.1 mo 8).toInt) (hb : 0 ≤ (σ.1 xo 5).toInt ∧ (σ.1 xo 5).toInt ≤ 900) (h : lw_B X xo mo σ) : r1 = r2 := by
  obtain ⟨t1, t2, t3⟩ := lw_tp ow hT hxo hmo h33 h8 he h
  obtain ⟨z, σ', z', τ', a1, a2, a3, -⟩ := tb_table (B := fun p => (σ.1 (q_rf X xo 4) p.toNat).toInt) hcl t1 t2 hb (fun p p0 p1 => ⟨rfl, (t3 p p0 p1).2⟩) (fun p p0 p1 => (congrArg Int32.toInt (t3 p p0 p1).1).symm) v
  rw [← e1] at a1
  rw [← e2] at a2
  have b1 : r1 = z := congrArg Prod.fst a1
  have b2 : r2 = z' := congrArg Prod.fst a2
  rw [b1, b2]
  exact Int32.toInt_inj.mp a3
end LB
theorem lw_h5t {xo : Nat} {σ σ1 σ2 : ST} {v : Int32} (a1 : (v.toInt < 0 ∨ (σ.1 xo 5).toInt < v.toInt) → (σ1.1 xo 5).toInt = (σ.1 xo 5).toInt) (a2 : (0 ≤ v.toInt ∧ v.toInt ≤ (σ.1 xo 5).toInt) → (σ1.1 xo 5).toInt = 0) (k : σ2.1 xo 5 = σ1.1 xo 5) : (σ2.1 xo 5).toInt = (σ.1 xo 5).toInt ∨ (σ2.1 xo 5).toInt = 0 := by
  rw [k]
  by_cases q : v.toInt < 0 ∨ (σ.1 xo 5).toInt < v.toInt
  · exact Or.inl (a1 q)
  · exact Or.inr (a2 (by omega))
theorem lw_h5r {xo : Nat} {σ σ1 σ2 : ST} {v : Int32} (a1 : (v.toInt < 0 ∨ (σ.1 xo 5).toInt < v.toInt ∨ 300 < v.toInt) → (σ1.1 xo 5).toInt = (σ.1 xo 5).toInt) (a2 : (0 ≤ v.toInt ∧ v.toInt ≤ (σ.1 xo 5).toInt ∧ v.toInt ≤ 300) → (σ1.1 xo 5).toInt = 0) (k : σ2.1 xo 5 = σ1.1 xo 5) : (σ2.1 xo 5).toInt = (σ.1 xo 5).toInt ∨ (σ2.1 xo 5).toInt = 0 := by
  rw [k]
  by_cases q : v.toInt < 0 ∨ (σ.1 xo 5).toInt < v.toInt ∨ 300 < v.toInt
  · exact Or.inl (a1 q)
  · exact Or.inr (a2 (by omega))
/-! what the loop of this law keeps besides: both games are the same (p11 and what follows) -/
section LA
variable {X : XW} {lb : Nat → Nat} {xo mo : Nat} {σ σ1 σ2 : ST} {L M L2 M2 : List (Nat × Nat)} {n : Int}
theorem lw_Aob (K : al_C X lb xo mo) {P Q : Int32 × ST} {r1 r2 : Int32} (o : ob_O X xo mo P Q) (e1 : (r1, σ1) = P) (e2 : (r2, σ2) = Q) (ow : q_ow L2 M2 X σ1 σ2) (h : kp_C L2 = true) : r1 = r2 ∧ al_R X xo mo σ2 σ2 := by
  rw [← e1, ← e2] at o
  exact ⟨Int32.toInt_inj.mp o.1, o.2.2.post K ow h⟩
theorem lw_fs {S F : Nat → Nat → Prop} {P : Int32 × ST} {r1 : Int32} (e1 : (r1, σ1) = P) (h : tkl S F σ P.2) : tkl S F σ σ1 := by
  rw [← e1] at h
  exact h
/-- what both tell of the latest reading -/
def lw_Y (xo mo : Nat) (σ : ST) : Prop := (σ.1 xo 6).toInt = (σ.1 mo 10).toInt ∧ (σ.1 xo 7).toInt = (σ.1 mo 11).toInt
def kp_Y (L : List (Nat × Nat)) : Bool := L.all (fun x => x.1 != 11 || (x.2 != 6 && x.2 != 99)) && L.all (fun x => x.1 != 11 || (x.2 != 7 && x.2 != 99)) && L.all (fun x => x.1 != 12 || (x.2 != 10 && x.2 != 99)) && L.all (fun x => x.1 != 12 || (x.2 != 11 && x.2 != 99))
theorem lw_YK (K : al_C X lb xo mo) (h : lw_Y xo mo σ) (ow : q_ow L M X σ σ1) (k : kp_Y L = true) : lw_Y xo mo σ1 := by
  unfold kp_Y at k
  rw [Bool.and_eq_true, Bool.and_eq_true, Bool.and_eq_true] at k
  unfold lw_Y
  rw [ow.1 xo 6 (by rw [K.1]; exact kp_no k.1.1.1), ow.1 xo 7 (by rw [K.1]; exact kp_no k.1.1.2), ow.1 mo 10 (by rw [K.2.1]; exact kp_no k.1.2), ow.1 mo 11 (by rw [K.2.1]; exact kp_no k.2)]
  exact h
theorem lw_Yrd (K : al_C X lb xo mo) (h : lw_Y xo mo σ) (ow : q_ow L M X σ σ1) (ow2 : q_ow L2 M2 X σ1 σ2) (k1 : q_in2 L 12 10 = false) (k2 : q_in2 L 12 11 = false) (k3 : q_in2 L2 11 6 = false) (k4 : q_in2 L2 11 7 = false) (o : (tk (fun b f => b = xo ∧ f = 0) σ σ1 ∧ tkl (fun b f => b = mo ∧ (f = 0 ∨ f = 1)) (fun _ _ => False) σ1 σ2) ∨ ((σ1.1 xo 6).toInt = (σ2.1 mo 10).toInt ∧ (σ1.1 xo 7).toInt = (σ2.1 mo 11).toInt)) : lw_Y xo mo σ2 := by
  unfold lw_Y at h ⊢
  rw [ow2.1 xo 6 (by rw [K.1]; exact k3), ow2.1 xo 7 (by rw [K.1]; exact k4)]
  rcases o with ⟨o1, o2⟩ | o
  · rw [o1.1 xo 6 (fun z => absurd z.2 (by decide)), o1.1 xo 7 (fun z => absurd z.2 (by decide)), o2.1 mo 10 (fun z => absurd z.2 (by decide)), o2.1 mo 11 (fun z => absurd z.2 (by decide)), ow.1 mo 10 (by rw [K.2.1]; exact k1), ow.1 mo 11 (by rw [K.2.1]; exact k2)]
    exact h
  · exact o
theorem lw_Around (hcl : tb_Cls X lb xo mo) (K : al_C X lb xo mo) (A : al_R X xo mo σ σ1) (Mm : m_M (m_c X σ1 mo) (σ1.1 mo 24).toInt n) {v r1 r2 : Int32} (e1 : (r1, σ1) = F_X11_round X σ xo v) (e2 : (r2, σ2) = F_X12_round X σ1 mo v) (ow : q_ow L M X σ σ1) (ow2 : q_ow L2 M2 X σ1 σ2) (hT : q_T X) (hxo : q_kd X xo = 11) (hmo : q_kd X mo = 12) (h33 : L.all (fun x => x.1 != 33) = true) (h8 : q_in2 L 12 8 = false) (h : kp_C L2 = true) (he : (σ.1 xo 5).toInt = (σ.1 mo 8).toInt) (hb : 0 ≤ (σ.1 xo 5).toInt ∧ (σ.1 xo 5).toInt ≤ 900) (hB : lw_B X xo mo σ) :
    r1 = r2 ∧ al_R X xo mo σ2 σ2 ∧ rr_Out xo mo σ σ1 v (σ.1 xo 5).toInt σ1 σ2 := by
  obtain ⟨t1, t2, t3⟩ := lw_tp ow hT hxo hmo h33 h8 he hB
  obtain ⟨z, σ', z', τ', a1, a2, a3, a4, a5, a6⟩ := al_round (B := fun p => (σ.1 (q_rf X xo 4) p.toNat).toInt) K hcl.2.2.2.2.2.2.1 A Mm t1 t2 hb (fun p p0 p1 => ⟨rfl, (t3 p p0 p1).2⟩) (fun p p0 p1 => (congrArg Int32.toInt (t3 p p0 p1).1).symm) v
  rw [← e1] at a1
  rw [← e2] at a2
  have b1 : r1 = z := congrArg Prod.fst a1
  have b2 : r2 = z' := congrArg Prod.fst a2
  have c1 : σ1 = σ' := congrArg Prod.snd a1
  have c2 : σ2 = τ' := congrArg Prod.snd a2
  subst c1
  subst c2
  refine ⟨?_, a6.post K ow2 h, a5⟩
  rw [b1, b2]
  exact Int32.toInt_inj.mp a3
theorem lw_Atable (hcl : tb_Cls X lb xo mo) (K : al_C X lb xo mo) (A : al_R X xo mo σ σ1) (Mm : m_M (m_c X σ1 mo) (σ1.1 mo 24).toInt n) {v r1 r2 : Int32} (e1 : (r1, σ1) = F_X11_table X σ xo v) (e2 : (r2, σ2) = F_X12_table X σ1 mo v) (ow : q_ow L M X σ σ1) (ow2 : q_ow L2 M2 X σ1 σ2) (hT : q_T X) (hxo : q_kd X xo = 11) (hmo : q_kd X mo = 12) (h33 : L.all (fun x => x.1 != 33) = true) (h8 : q_in2 L 12 8 = false) (h : kp_C L2 = true) (he : (σ.1 xo 5).toInt = (σ.1 mo 8).toInt) (hb : 0 ≤ (σ.1 xo 5).toInt ∧ (σ.1 xo 5).toInt ≤ 900) (hB : lw_B X xo mo σ) (hG : m_G (m_c X σ2 mo)) (k11 : q_in2 L 11 11 = false) (k24 : q_in2 L2 12 24 = false) (k24' : q_in2 L 12 24 = false) :
    r1 = r2 ∧ al_R X xo mo σ2 σ2 ∧ ∃ (z : Int32), tb_Out X xo mo σ σ1 v (σ.1 xo 5).toInt z σ1 σ2 := by
  obtain ⟨t1, t2, t3⟩ := lw_tp ow hT hxo hmo h33 h8 he hB
  obtain ⟨z, σ', z', τ', a1, a2, a3, a4, a5, a6⟩ := al_table (B := fun p => (σ.1 (q_rf X xo 4) p.toNat).toInt) K hcl.2.2.2.2.2.2.1 A Mm t1 t2 hb (fun p p0 p1 => ⟨rfl, (t3 p p0 p1).2⟩) (fun p p0 p1 => (congrArg Int32.toInt (t3 p p0 p1).1).symm) v
  rw [← e1] at a1
  rw [← e2] at a2
  have b1 : r1 = z := congrArg Prod.fst a1
  have b2 : r2 = z' := congrArg Prod.fst a2
  have c1 : σ1 = σ' := congrArg Prod.snd a1
  have c2 : σ2 = τ' := congrArg Prod.snd a2
  subst c1
  subst c2
  refine ⟨?_, (a6 hG (ow.1 xo 11 (by rw [hxo]; exact k11)) (ow2.1 mo 24 (by rw [hmo]; exact k24))).post K ow2 h, z, a5⟩
  rw [b1, b2]
  exact Int32.toInt_inj.mp a3
theorem lw_cz {z : Int32} {x y : Int64} (i : (z.toInt < 0 ↔ x.toInt < y.toInt) ∧ (0 < z.toInt ↔ y.toInt < x.toInt)) (e : x = y) : z.toInt = 0 := by
  subst e
  obtain ⟨i1, i2⟩ := i
  have a : ¬ z.toInt < 0 := fun q => absurd (i1.mp q) (Int.lt_irrefl _)
  have b : ¬ 0 < z.toInt := fun q => absurd (i2.mp q) (Int.lt_irrefl _)
  omega
end LA
theorem kl_13 : q_okV RL 13 RX11 yX11_status cX11_status 1 (some .int) 0 := ⟨(q_in_t3 (i := 14) (by first | rfl | decide +kernel) rfl), (q_in_t3 (i := 15) (by first | rfl | decide +kernel) rfl), (q_in_t3 (i := 16) (by first | rfl | decide +kernel) rfl), (q_in_t1 (i := 1) (by first | rfl | decide +kernel) rfl), (q_in_t3 (i := 17) (by first | rfl | decide +kernel) rfl), ⟨rfl, by decide, by decide, rfl⟩⟩
theorem kl_17 : q_okV RL 17 RX12 yX12_status cX12_status 1 (some .int) 0 := ⟨(q_in_t7 (i := 124) (by first | rfl | decide +kernel) rfl), (q_in_t7 (i := 125) (by first | rfl | decide +kernel) rfl), (q_in_t7 (i := 126) (by first | rfl | decide +kernel) rfl), (q_in_t1 (i := 14) (by first | rfl | decide +kernel) rfl), (q_in_t7 (i := 127) (by first | rfl | decide +kernel) rfl), ⟨rfl, by decide, by decide, rfl⟩⟩
theorem kl_18 : q_okV RL 18 RX11 yX11_top cX11_top 1 (some .long) 0 := ⟨(q_in_t3 (i := 18) (by first | rfl | decide +kernel) rfl), (q_in_t3 (i := 19) (by first | rfl | decide +kernel) rfl), (q_in_t3 (i := 20) (by first | rfl | decide +kernel) rfl), (q_in_t1 (i := 1) (by first | rfl | decide +kernel) rfl), (q_in_t3 (i := 21) (by first | rfl | decide +kernel) rfl), ⟨rfl, by decide, by decide, rfl⟩⟩
theorem kl_22 : q_okV RL 22 RX12 yX12_top cX12_top 1 (some .long) 0 := ⟨(q_in_t7 (i := 128) (by first | rfl | decide +kernel) rfl), (q_in_t7 (i := 129) (by first | rfl | decide +kernel) rfl), (q_in_t7 (i := 130) (by first | rfl | decide +kernel) rfl), (q_in_t1 (i := 14) (by first | rfl | decide +kernel) rfl), (q_in_t7 (i := 131) (by first | rfl | decide +kernel) rfl), ⟨rfl, by decide, by decide, rfl⟩⟩
theorem kl_23 : q_okV RL 23 RX11 yX11_bottom cX11_bottom 1 (some .long) 0 := ⟨(q_in_t3 (i := 22) (by first | rfl | decide +kernel) rfl), (q_in_t3 (i := 23) (by first | rfl | decide +kernel) rfl), (q_in_t3 (i := 24) (by first | rfl | decide +kernel) rfl), (q_in_t1 (i := 1) (by first | rfl | decide +kernel) rfl), (q_in_t3 (i := 25) (by first | rfl | decide +kernel) rfl), ⟨rfl, by decide, by decide, rfl⟩⟩
theorem kl_26 : q_okV RL 26 RX12 yX12_bottom cX12_bottom 1 (some .long) 0 := ⟨(q_in_t7 (i := 132) (by first | rfl | decide +kernel) rfl), (q_in_t7 (i := 133) (by first | rfl | decide +kernel) rfl), (q_in_t7 (i := 134) (by first | rfl | decide +kernel) rfl), (q_in_t1 (i := 14) (by first | rfl | decide +kernel) rfl), (q_in_t7 (i := 135) (by first | rfl | decide +kernel) rfl), ⟨rfl, by decide, by decide, rfl⟩⟩
theorem kl_27 : q_okV RL 27 RX11 yX11_tray cX11_tray 5 (some .boolean) 3 := ⟨(q_in_t3 (i := 26) (by first | rfl | decide +kernel) rfl), (q_in_t3 (i := 27) (by first | rfl | decide +kernel) rfl), (q_in_t3 (i := 28) (by first | rfl | decide +kernel) rfl), (q_in_t1 (i := 1) (by first | rfl | decide +kernel) rfl), (q_in_t3 (i := 29) (by first | rfl | decide +kernel) rfl), ⟨rfl, by decide, by decide, rfl⟩⟩
theorem kl_31 : q_okV RL 31 RX12 yX12_tray cX12_tray 5 (some .boolean) 3 := ⟨(q_in_t7 (i := 136) (by first | rfl | decide +kernel) rfl), (q_in_t7 (i := 137) (by first | rfl | decide +kernel) rfl), (q_in_t7 (i := 138) (by first | rfl | decide +kernel) rfl), (q_in_t1 (i := 14) (by first | rfl | decide +kernel) rfl), (q_in_t7 (i := 139) (by first | rfl | decide +kernel) rfl), ⟨rfl, by decide, by decide, rfl⟩⟩
theorem kl_34 : q_okV RL 34 RX11 yX11_write cX11_write 7 (some .boolean) 3 := ⟨(q_in_t3 (i := 50) (by first | rfl | decide +kernel) rfl), (q_in_t3 (i := 51) (by first | rfl | decide +kernel) rfl), (q_in_t3 (i := 52) (by first | rfl | decide +kernel) rfl), (q_in_t1 (i := 1) (by first | rfl | decide +kernel) rfl), (q_in_t3 (i := 53) (by first | rfl | decide +kernel) rfl), ⟨rfl, by decide, by decide, rfl⟩⟩
theorem kl_38 : q_okV RL 38 RX12 yX12_write cX12_write 5 (some .boolean) 3 := ⟨(q_in_t7 (i := 144) (by first | rfl | decide +kernel) rfl), (q_in_t7 (i := 145) (by first | rfl | decide +kernel) rfl), (q_in_t7 (i := 146) (by first | rfl | decide +kernel) rfl), (q_in_t1 (i := 14) (by first | rfl | decide +kernel) rfl), (q_in_t7 (i := 147) (by first | rfl | decide +kernel) rfl), ⟨rfl, by decide, by decide, rfl⟩⟩
theorem kl_39 : q_okV RL 39 RX11 yX11_read cX11_read 5 (some .long) 2 := ⟨(q_in_t3 (i := 73) (by first | rfl | decide +kernel) rfl), (q_in_t3 (i := 74) (by first | rfl | decide +kernel) rfl), (q_in_t3 (i := 75) (by first | rfl | decide +kernel) rfl), (q_in_t1 (i := 1) (by first | rfl | decide +kernel) rfl), (q_in_t3 (i := 76) (by first | rfl | decide +kernel) rfl), ⟨rfl, by decide, by decide, rfl⟩⟩
theorem kl_43 : q_okV RL 43 RX12 yX12_read cX12_read 3 (some .long) 2 := ⟨(q_in_t7 (i := 159) (by first | rfl | decide +kernel) rfl), (q_in_t7 (i := 160) (by first | rfl | decide +kernel) rfl), (q_in_t7 (i := 161) (by first | rfl | decide +kernel) rfl), (q_in_t1 (i := 14) (by first | rfl | decide +kernel) rfl), (q_in_t7 (i := 162) (by first | rfl | decide +kernel) rfl), ⟨rfl, by decide, by decide, rfl⟩⟩
theorem kl_44 : q_okV RL 44 RX11 yX11_pour cX11_pour 8 (some .boolean) 5 := ⟨(q_in_t3 (i := 85) (by first | rfl | decide +kernel) rfl), (q_in_t3 (i := 86) (by first | rfl | decide +kernel) rfl), (q_in_t3 (i := 87) (by first | rfl | decide +kernel) rfl), (q_in_t1 (i := 1) (by first | rfl | decide +kernel) rfl), (q_in_t3 (i := 88) (by first | rfl | decide +kernel) rfl), ⟨rfl, by decide, by decide, rfl⟩⟩
theorem kl_48 : q_okV RL 48 RX12 yX12_pour cX12_pour 9 (some .boolean) 5 := ⟨(q_in_t7 (i := 164) (by first | rfl | decide +kernel) rfl), (q_in_t7 (i := 165) (by first | rfl | decide +kernel) rfl), (q_in_t7 (i := 166) (by first | rfl | decide +kernel) rfl), (q_in_t1 (i := 14) (by first | rfl | decide +kernel) rfl), (q_in_t7 (i := 167) (by first | rfl | decide +kernel) rfl), ⟨rfl, by decide, by decide, rfl⟩⟩
theorem kl_49 : q_okV RL 49 RX11 yX11_feed cX11_feed 6 (some .int) 5 := ⟨(q_in_t3 (i := 97) (by first | rfl | decide +kernel) rfl), (q_in_t3 (i := 98) (by first | rfl | decide +kernel) rfl), (q_in_t3 (i := 99) (by first | rfl | decide +kernel) rfl), (q_in_t1 (i := 1) (by first | rfl | decide +kernel) rfl), (q_in_t3 (i := 100) (by first | rfl | decide +kernel) rfl), ⟨rfl, by decide, by decide, rfl⟩⟩
theorem kl_53 : q_okV RL 53 RX12 yX12_feed cX12_feed 6 (some .int) 5 := ⟨(q_in_t7 (i := 168) (by first | rfl | decide +kernel) rfl), (q_in_t7 (i := 169) (by first | rfl | decide +kernel) rfl), (q_in_t7 (i := 170) (by first | rfl | decide +kernel) rfl), (q_in_t1 (i := 14) (by first | rfl | decide +kernel) rfl), (q_in_t7 (i := 171) (by first | rfl | decide +kernel) rfl), ⟨rfl, by decide, by decide, rfl⟩⟩
theorem kl_54 : q_okV RL 54 RX11 yX11_table cX11_table 3 (some .int) 1 := ⟨(q_in_t3 (i := 105) (by first | rfl | decide +kernel) rfl), (q_in_t3 (i := 106) (by first | rfl | decide +kernel) rfl), (q_in_t3 (i := 107) (by first | rfl | decide +kernel) rfl), (q_in_t1 (i := 1) (by first | rfl | decide +kernel) rfl), (q_in_t3 (i := 108) (by first | rfl | decide +kernel) rfl), ⟨rfl, by decide, by decide, rfl⟩⟩
theorem kl_58 : q_okV RL 58 RX12 yX12_table cX12_table 3 (some .int) 1 := ⟨(q_in_t7 (i := 180) (by first | rfl | decide +kernel) rfl), (q_in_t7 (i := 181) (by first | rfl | decide +kernel) rfl), (q_in_t7 (i := 182) (by first | rfl | decide +kernel) rfl), (q_in_t1 (i := 14) (by first | rfl | decide +kernel) rfl), (q_in_t7 (i := 183) (by first | rfl | decide +kernel) rfl), ⟨rfl, by decide, by decide, rfl⟩⟩
theorem kl_59 : q_okV RL 59 RX11 yX11_round cX11_round 3 (some .int) 1 := ⟨(q_in_t4 (i := 156) (by first | rfl | decide +kernel) rfl), (q_in_t4 (i := 157) (by first | rfl | decide +kernel) rfl), (q_in_t4 (i := 158) (by first | rfl | decide +kernel) rfl), (q_in_t1 (i := 1) (by first | rfl | decide +kernel) rfl), (q_in_t4 (i := 159) (by first | rfl | decide +kernel) rfl), ⟨rfl, by decide, by decide, rfl⟩⟩
theorem kl_62 : q_okV RL 62 RX12 yX12_round cX12_round 3 (some .int) 1 := ⟨(q_in_t8 (i := 95) (by first | rfl | decide +kernel) rfl), (q_in_t8 (i := 96) (by first | rfl | decide +kernel) rfl), (q_in_t8 (i := 97) (by first | rfl | decide +kernel) rfl), (q_in_t1 (i := 14) (by first | rfl | decide +kernel) rfl), (q_in_t8 (i := 98) (by first | rfl | decide +kernel) rfl), ⟨rfl, by decide, by decide, rfl⟩⟩
theorem kl_63 : q_okV RL 63 RX11 yX11_fault cX11_fault 2 (some .int) 1 := ⟨(q_in_t5 (i := 2) (by first | rfl | decide +kernel) rfl), (q_in_t5 (i := 3) (by first | rfl | decide +kernel) rfl), (q_in_t5 (i := 4) (by first | rfl | decide +kernel) rfl), (q_in_t1 (i := 1) (by first | rfl | decide +kernel) rfl), (q_in_t5 (i := 5) (by first | rfl | decide +kernel) rfl), ⟨rfl, by decide, by decide, rfl⟩⟩
theorem kl_66 : q_okV RL 66 RX12 yX12_fault cX12_fault 2 (some .int) 1 := ⟨(q_in_t7 (i := 176) (by first | rfl | decide +kernel) rfl), (q_in_t7 (i := 177) (by first | rfl | decide +kernel) rfl), (q_in_t7 (i := 178) (by first | rfl | decide +kernel) rfl), (q_in_t1 (i := 14) (by first | rfl | decide +kernel) rfl), (q_in_t7 (i := 179) (by first | rfl | decide +kernel) rfl), ⟨rfl, by decide, by decide, rfl⟩⟩
theorem kl_67 : q_okV RL 67 RX11 yX11_many cX11_many 3 (some .int) 1 := ⟨(q_in_t5 (i := 6) (by first | rfl | decide +kernel) rfl), (q_in_t5 (i := 7) (by first | rfl | decide +kernel) rfl), (q_in_t5 (i := 8) (by first | rfl | decide +kernel) rfl), (q_in_t1 (i := 1) (by first | rfl | decide +kernel) rfl), (q_in_t5 (i := 9) (by first | rfl | decide +kernel) rfl), ⟨rfl, by decide, by decide, rfl⟩⟩
theorem kl_70 : q_okV RL 70 RX12 yX12_many cX12_many 2 (some .int) 1 := ⟨(q_in_t8 (i := 111) (by first | rfl | decide +kernel) rfl), (q_in_t8 (i := 112) (by first | rfl | decide +kernel) rfl), (q_in_t8 (i := 113) (by first | rfl | decide +kernel) rfl), (q_in_t1 (i := 14) (by first | rfl | decide +kernel) rfl), (q_in_t8 (i := 114) (by first | rfl | decide +kernel) rfl), ⟨rfl, by decide, by decide, rfl⟩⟩
theorem kl_71 : q_okV RL 71 RX11 yX11_player cX11_player 4 (some .int) 2 := ⟨(q_in_t5 (i := 10) (by first | rfl | decide +kernel) rfl), (q_in_t5 (i := 11) (by first | rfl | decide +kernel) rfl), (q_in_t5 (i := 12) (by first | rfl | decide +kernel) rfl), (q_in_t1 (i := 1) (by first | rfl | decide +kernel) rfl), (q_in_t5 (i := 13) (by first | rfl | decide +kernel) rfl), ⟨rfl, by decide, by decide, rfl⟩⟩
theorem kl_75 : q_okV RL 75 RX12 yX12_player cX12_player 3 (some .int) 2 := ⟨(q_in_t8 (i := 127) (by first | rfl | decide +kernel) rfl), (q_in_t8 (i := 128) (by first | rfl | decide +kernel) rfl), (q_in_t8 (i := 129) (by first | rfl | decide +kernel) rfl), (q_in_t1 (i := 14) (by first | rfl | decide +kernel) rfl), (q_in_t8 (i := 130) (by first | rfl | decide +kernel) rfl), ⟨rfl, by decide, by decide, rfl⟩⟩
theorem kl_76 : q_okV RL 76 RX11 yX11_hand cX11_hand 3 (some .int) 2 := ⟨(q_in_t5 (i := 28) (by first | rfl | decide +kernel) rfl), (q_in_t5 (i := 29) (by first | rfl | decide +kernel) rfl), (q_in_t5 (i := 30) (by first | rfl | decide +kernel) rfl), (q_in_t1 (i := 1) (by first | rfl | decide +kernel) rfl), (q_in_t5 (i := 31) (by first | rfl | decide +kernel) rfl), ⟨rfl, by decide, by decide, rfl⟩⟩
theorem kl_79 : q_okV RL 79 RX12 yX12_hand cX12_hand 3 (some .int) 2 := ⟨(q_in_t8 (i := 147) (by first | rfl | decide +kernel) rfl), (q_in_t8 (i := 148) (by first | rfl | decide +kernel) rfl), (q_in_t8 (i := 149) (by first | rfl | decide +kernel) rfl), (q_in_t1 (i := 14) (by first | rfl | decide +kernel) rfl), (q_in_t8 (i := 150) (by first | rfl | decide +kernel) rfl), ⟨rfl, by decide, by decide, rfl⟩⟩
theorem kl_80 : q_okV RL 80 RX11 yX11_inGame cX11_inGame 2 (some .int) 1 := ⟨(q_in_t5 (i := 41) (by first | rfl | decide +kernel) rfl), (q_in_t5 (i := 42) (by first | rfl | decide +kernel) rfl), (q_in_t5 (i := 43) (by first | rfl | decide +kernel) rfl), (q_in_t1 (i := 1) (by first | rfl | decide +kernel) rfl), (q_in_t5 (i := 44) (by first | rfl | decide +kernel) rfl), ⟨rfl, by decide, by decide, rfl⟩⟩
theorem kl_83 : q_okV RL 83 RX12 yX12_inGame cX12_inGame 2 (some .int) 1 := ⟨(q_in_t8 (i := 155) (by first | rfl | decide +kernel) rfl), (q_in_t8 (i := 156) (by first | rfl | decide +kernel) rfl), (q_in_t8 (i := 157) (by first | rfl | decide +kernel) rfl), (q_in_t1 (i := 14) (by first | rfl | decide +kernel) rfl), (q_in_t8 (i := 158) (by first | rfl | decide +kernel) rfl), ⟨rfl, by decide, by decide, rfl⟩⟩
theorem kl_84 : q_okV RL 84 RX11 yX11_laying cX11_laying 4 (some .int) 2 := ⟨(q_in_t5 (i := 45) (by first | rfl | decide +kernel) rfl), (q_in_t5 (i := 46) (by first | rfl | decide +kernel) rfl), (q_in_t5 (i := 47) (by first | rfl | decide +kernel) rfl), (q_in_t1 (i := 1) (by first | rfl | decide +kernel) rfl), (q_in_t5 (i := 48) (by first | rfl | decide +kernel) rfl), ⟨rfl, by decide, by decide, rfl⟩⟩
theorem kl_87 : q_okV RL 87 RX12 yX12_laying cX12_laying 3 (some .int) 2 := ⟨(q_in_t8 (i := 163) (by first | rfl | decide +kernel) rfl), (q_in_t8 (i := 164) (by first | rfl | decide +kernel) rfl), (q_in_t8 (i := 165) (by first | rfl | decide +kernel) rfl), (q_in_t1 (i := 14) (by first | rfl | decide +kernel) rfl), (q_in_t8 (i := 166) (by first | rfl | decide +kernel) rfl), ⟨rfl, by decide, by decide, rfl⟩⟩
theorem kl_88 : q_okV RL 88 RX11 yX11_cardOf cX11_cardOf 4 (some .int) 2 := ⟨(q_in_t5 (i := 54) (by first | rfl | decide +kernel) rfl), (q_in_t5 (i := 55) (by first | rfl | decide +kernel) rfl), (q_in_t5 (i := 56) (by first | rfl | decide +kernel) rfl), (q_in_t1 (i := 1) (by first | rfl | decide +kernel) rfl), (q_in_t5 (i := 57) (by first | rfl | decide +kernel) rfl), ⟨rfl, by decide, by decide, rfl⟩⟩
theorem kl_91 : q_okV RL 91 RX12 yX12_cardOf cX12_cardOf 3 (some .int) 2 := ⟨(q_in_t8 (i := 172) (by first | rfl | decide +kernel) rfl), (q_in_t8 (i := 173) (by first | rfl | decide +kernel) rfl), (q_in_t8 (i := 174) (by first | rfl | decide +kernel) rfl), (q_in_t1 (i := 14) (by first | rfl | decide +kernel) rfl), (q_in_t8 (i := 175) (by first | rfl | decide +kernel) rfl), ⟨rfl, by decide, by decide, rfl⟩⟩
theorem kl_92 : q_okV RL 92 RX11 yX11_copyHand cX11_copyHand 6 (some .int) 2 := ⟨(q_in_t5 (i := 62) (by first | rfl | decide +kernel) rfl), (q_in_t5 (i := 63) (by first | rfl | decide +kernel) rfl), (q_in_t5 (i := 64) (by first | rfl | decide +kernel) rfl), (q_in_t1 (i := 1) (by first | rfl | decide +kernel) rfl), (q_in_t5 (i := 65) (by first | rfl | decide +kernel) rfl), ⟨rfl, by decide, by decide, rfl⟩⟩
theorem kl_95 : q_okV RL 95 RX12 yX12_copyHand cX12_copyHand 4 (some .int) 2 := ⟨(q_in_t8 (i := 176) (by first | rfl | decide +kernel) rfl), (q_in_t8 (i := 177) (by first | rfl | decide +kernel) rfl), (q_in_t8 (i := 178) (by first | rfl | decide +kernel) rfl), (q_in_t1 (i := 14) (by first | rfl | decide +kernel) rfl), (q_in_t8 (i := 179) (by first | rfl | decide +kernel) rfl), ⟨rfl, by decide, by decide, rfl⟩⟩
theorem kl_96 : q_okV RL 96 RX11 yX11_lay cX11_lay 5 (some .int) 4 := ⟨(q_in_t5 (i := 66) (by first | rfl | decide +kernel) rfl), (q_in_t5 (i := 67) (by first | rfl | decide +kernel) rfl), (q_in_t5 (i := 68) (by first | rfl | decide +kernel) rfl), (q_in_t1 (i := 1) (by first | rfl | decide +kernel) rfl), (q_in_t5 (i := 69) (by first | rfl | decide +kernel) rfl), ⟨rfl, by decide, by decide, rfl⟩⟩
theorem kl_100 : q_okV RL 100 RX12 yX12_lay cX12_lay 9 (some .int) 4 := ⟨(q_in_t8 (i := 184) (by first | rfl | decide +kernel) rfl), (q_in_t8 (i := 185) (by first | rfl | decide +kernel) rfl), (q_in_t8 (i := 186) (by first | rfl | decide +kernel) rfl), (q_in_t1 (i := 14) (by first | rfl | decide +kernel) rfl), (q_in_t8 (i := 187) (by first | rfl | decide +kernel) rfl), ⟨rfl, by decide, by decide, rfl⟩⟩
theorem kl_101 : q_okV RL 101 RX11 yX11_leave cX11_leave 1 (some .int) 0 := ⟨(q_in_t5 (i := 109) (by first | rfl | decide +kernel) rfl), (q_in_t5 (i := 110) (by first | rfl | decide +kernel) rfl), (q_in_t5 (i := 111) (by first | rfl | decide +kernel) rfl), (q_in_t1 (i := 1) (by first | rfl | decide +kernel) rfl), (q_in_t5 (i := 112) (by first | rfl | decide +kernel) rfl), ⟨rfl, by decide, by decide, rfl⟩⟩
theorem kl_104 : q_okV RL 104 RX12 yX12_leave cX12_leave 1 (some .int) 0 := ⟨(q_in_t8 (i := 192) (by first | rfl | decide +kernel) rfl), (q_in_t8 (i := 193) (by first | rfl | decide +kernel) rfl), (q_in_t8 (i := 194) (by first | rfl | decide +kernel) rfl), (q_in_t1 (i := 14) (by first | rfl | decide +kernel) rfl), (q_in_t8 (i := 195) (by first | rfl | decide +kernel) rfl), ⟨rfl, by decide, by decide, rfl⟩⟩
theorem kl_105 : q_okV RL 105 RX11 yX11_doubt cX11_doubt 3 (some .int) 1 := ⟨(q_in_t5 (i := 132) (by first | rfl | decide +kernel) rfl), (q_in_t5 (i := 133) (by first | rfl | decide +kernel) rfl), (q_in_t5 (i := 134) (by first | rfl | decide +kernel) rfl), (q_in_t1 (i := 1) (by first | rfl | decide +kernel) rfl), (q_in_t5 (i := 135) (by first | rfl | decide +kernel) rfl), ⟨rfl, by decide, by decide, rfl⟩⟩
theorem kl_108 : q_okV RL 108 RX12 yX12_doubt cX12_doubt 2 (some .int) 1 := ⟨(q_in_t8 (i := 208) (by first | rfl | decide +kernel) rfl), (q_in_t8 (i := 209) (by first | rfl | decide +kernel) rfl), (q_in_t8 (i := 210) (by first | rfl | decide +kernel) rfl), (q_in_t1 (i := 14) (by first | rfl | decide +kernel) rfl), (q_in_t8 (i := 211) (by first | rfl | decide +kernel) rfl), ⟨rfl, by decide, by decide, rfl⟩⟩
theorem kl_109 : q_okV RL 109 RX11 yX11_bend cX11_bend 4 (some .boolean) 3 := ⟨(q_in_t5 (i := 161) (by first | rfl | decide +kernel) rfl), (q_in_t5 (i := 162) (by first | rfl | decide +kernel) rfl), (q_in_t5 (i := 163) (by first | rfl | decide +kernel) rfl), (q_in_t1 (i := 1) (by first | rfl | decide +kernel) rfl), (q_in_t5 (i := 164) (by first | rfl | decide +kernel) rfl), ⟨rfl, by decide, by decide, rfl⟩⟩
theorem kl_112 : q_okV RL 112 RX12 yX12_bend cX12_bend 4 (some .boolean) 3 := ⟨(q_in_t8 (i := 220) (by first | rfl | decide +kernel) rfl), (q_in_t8 (i := 221) (by first | rfl | decide +kernel) rfl), (q_in_t8 (i := 222) (by first | rfl | decide +kernel) rfl), (q_in_t1 (i := 14) (by first | rfl | decide +kernel) rfl), (q_in_t8 (i := 223) (by first | rfl | decide +kernel) rfl), ⟨rfl, by decide, by decide, rfl⟩⟩
theorem kl_113 : q_okV RL 113 RX11 yX11_known cX11_known 3 (some .int) 2 := ⟨(q_in_t5 (i := 169) (by first | rfl | decide +kernel) rfl), (q_in_t5 (i := 170) (by first | rfl | decide +kernel) rfl), (q_in_t5 (i := 171) (by first | rfl | decide +kernel) rfl), (q_in_t1 (i := 1) (by first | rfl | decide +kernel) rfl), (q_in_t5 (i := 172) (by first | rfl | decide +kernel) rfl), ⟨rfl, by decide, by decide, rfl⟩⟩
theorem kl_116 : q_okV RL 116 RX12 yX12_known cX12_known 3 (some .int) 2 := ⟨(q_in_t8 (i := 225) (by first | rfl | decide +kernel) rfl), (q_in_t8 (i := 226) (by first | rfl | decide +kernel) rfl), (q_in_t8 (i := 227) (by first | rfl | decide +kernel) rfl), (q_in_t1 (i := 14) (by first | rfl | decide +kernel) rfl), (q_in_t8 (i := 228) (by first | rfl | decide +kernel) rfl), ⟨rfl, by decide, by decide, rfl⟩⟩
theorem kl_117 : q_okV RL 117 RX11 yX11_unknown cX11_unknown 3 (some .int) 2 := ⟨(q_in_t5 (i := 177) (by first | rfl | decide +kernel) rfl), (q_in_t5 (i := 178) (by first | rfl | decide +kernel) rfl), (q_in_t5 (i := 179) (by first | rfl | decide +kernel) rfl), (q_in_t1 (i := 1) (by first | rfl | decide +kernel) rfl), (q_in_t5 (i := 180) (by first | rfl | decide +kernel) rfl), ⟨rfl, by decide, by decide, rfl⟩⟩
theorem kl_120 : q_okV RL 120 RX12 yX12_unknown cX12_unknown 3 (some .int) 2 := ⟨(q_in_t8 (i := 233) (by first | rfl | decide +kernel) rfl), (q_in_t8 (i := 234) (by first | rfl | decide +kernel) rfl), (q_in_t8 (i := 235) (by first | rfl | decide +kernel) rfl), (q_in_t1 (i := 14) (by first | rfl | decide +kernel) rfl), (q_in_t8 (i := 236) (by first | rfl | decide +kernel) rfl), ⟨rfl, by decide, by decide, rfl⟩⟩
theorem kl_121 : q_okV RL 121 RX11 yX11_impossible cX11_impossible 3 (some .int) 1 := ⟨(q_in_t5 (i := 191) (by first | rfl | decide +kernel) rfl), (q_in_t5 (i := 192) (by first | rfl | decide +kernel) rfl), (q_in_t5 (i := 193) (by first | rfl | decide +kernel) rfl), (q_in_t1 (i := 1) (by first | rfl | decide +kernel) rfl), (q_in_t5 (i := 194) (by first | rfl | decide +kernel) rfl), ⟨rfl, by decide, by decide, rfl⟩⟩
theorem kl_124 : q_okV RL 124 RX12 yX12_impossible cX12_impossible 2 (some .int) 1 := ⟨(q_in_t9 (i := 5) (by first | rfl | decide +kernel) rfl), (q_in_t9 (i := 6) (by first | rfl | decide +kernel) rfl), (q_in_t9 (i := 7) (by first | rfl | decide +kernel) rfl), (q_in_t1 (i := 14) (by first | rfl | decide +kernel) rfl), (q_in_t9 (i := 8) (by first | rfl | decide +kernel) rfl), ⟨rfl, by decide, by decide, rfl⟩⟩
theorem kl_125 : q_okV RL 125 RX11 yX11_blind cX11_blind 3 (some .boolean) 1 := ⟨(q_in_t5 (i := 203) (by first | rfl | decide +kernel) rfl), (q_in_t5 (i := 204) (by first | rfl | decide +kernel) rfl), (q_in_t5 (i := 205) (by first | rfl | decide +kernel) rfl), (q_in_t1 (i := 1) (by first | rfl | decide +kernel) rfl), (q_in_t5 (i := 206) (by first | rfl | decide +kernel) rfl), ⟨rfl, by decide, by decide, rfl⟩⟩
theorem kl_129 : q_okV RL 129 RX12 yX12_blind cX12_blind 2 (some .boolean) 1 := ⟨(q_in_t9 (i := 17) (by first | rfl | decide +kernel) rfl), (q_in_t9 (i := 18) (by first | rfl | decide +kernel) rfl), (q_in_t9 (i := 19) (by first | rfl | decide +kernel) rfl), (q_in_t1 (i := 14) (by first | rfl | decide +kernel) rfl), (q_in_t9 (i := 20) (by first | rfl | decide +kernel) rfl), ⟨rfl, by decide, by decide, rfl⟩⟩
theorem kl_130 : q_okV RL 130 RX11 yX11_honest cX11_honest 2 (some .boolean) 1 := ⟨(q_in_t5 (i := 229) (by first | rfl | decide +kernel) rfl), (q_in_t5 (i := 230) (by first | rfl | decide +kernel) rfl), (q_in_t5 (i := 231) (by first | rfl | decide +kernel) rfl), (q_in_t1 (i := 1) (by first | rfl | decide +kernel) rfl), (q_in_t5 (i := 232) (by first | rfl | decide +kernel) rfl), ⟨rfl, by decide, by decide, rfl⟩⟩
theorem kl_133 : q_okV RL 133 RX12 yX12_honest cX12_honest 2 (some .boolean) 1 := ⟨(q_in_t9 (i := 33) (by first | rfl | decide +kernel) rfl), (q_in_t9 (i := 34) (by first | rfl | decide +kernel) rfl), (q_in_t9 (i := 35) (by first | rfl | decide +kernel) rfl), (q_in_t1 (i := 14) (by first | rfl | decide +kernel) rfl), (q_in_t9 (i := 36) (by first | rfl | decide +kernel) rfl), ⟨rfl, by decide, by decide, rfl⟩⟩
theorem kl_134 : q_okV RL 134 RX11 yX11_belief cX11_belief 11 (some .boolean) 1 := ⟨(q_in_t6 (i := 2) (by first | rfl | decide +kernel) rfl), (q_in_t6 (i := 3) (by first | rfl | decide +kernel) rfl), (q_in_t6 (i := 4) (by first | rfl | decide +kernel) rfl), (q_in_t1 (i := 1) (by first | rfl | decide +kernel) rfl), (q_in_t6 (i := 5) (by first | rfl | decide +kernel) rfl), ⟨rfl, by decide, by decide, rfl⟩⟩
theorem kl_137 : q_okV RL 137 RX12 yX12_belief cX12_belief 7 (some .boolean) 1 := ⟨(q_in_t9 (i := 37) (by first | rfl | decide +kernel) rfl), (q_in_t9 (i := 38) (by first | rfl | decide +kernel) rfl), (q_in_t9 (i := 39) (by first | rfl | decide +kernel) rfl), (q_in_t1 (i := 14) (by first | rfl | decide +kernel) rfl), (q_in_t9 (i := 40) (by first | rfl | decide +kernel) rfl), ⟨rfl, by decide, by decide, rfl⟩⟩
theorem kl_138 : q_okV RL 138 RX11 yX11_worth cX11_worth 3 (some .boolean) 1 := ⟨(q_in_t6 (i := 6) (by first | rfl | decide +kernel) rfl), (q_in_t6 (i := 7) (by first | rfl | decide +kernel) rfl), (q_in_t6 (i := 8) (by first | rfl | decide +kernel) rfl), (q_in_t1 (i := 1) (by first | rfl | decide +kernel) rfl), (q_in_t6 (i := 9) (by first | rfl | decide +kernel) rfl), ⟨rfl, by decide, by decide, rfl⟩⟩
theorem kl_141 : q_okV RL 141 RX12 yX12_worth cX12_worth 2 (some .boolean) 1 := ⟨(q_in_t9 (i := 41) (by first | rfl | decide +kernel) rfl), (q_in_t9 (i := 42) (by first | rfl | decide +kernel) rfl), (q_in_t9 (i := 43) (by first | rfl | decide +kernel) rfl), (q_in_t1 (i := 14) (by first | rfl | decide +kernel) rfl), (q_in_t9 (i := 44) (by first | rfl | decide +kernel) rfl), ⟨rfl, by decide, by decide, rfl⟩⟩
theorem kl_142 : q_okV RL 142 RX11 yX11_ready cX11_ready 5 (some .int) 0 := ⟨(q_in_t6 (i := 17) (by first | rfl | decide +kernel) rfl), (q_in_t6 (i := 18) (by first | rfl | decide +kernel) rfl), (q_in_t6 (i := 19) (by first | rfl | decide +kernel) rfl), (q_in_t1 (i := 1) (by first | rfl | decide +kernel) rfl), (q_in_t6 (i := 20) (by first | rfl | decide +kernel) rfl), ⟨rfl, by decide, by decide, rfl⟩⟩
theorem kl_145 : q_okV RL 145 RX12 yX12_ready cX12_ready 9 (some .int) 0 := ⟨(q_in_t9 (i := 46) (by first | rfl | decide +kernel) rfl), (q_in_t9 (i := 47) (by first | rfl | decide +kernel) rfl), (q_in_t9 (i := 48) (by first | rfl | decide +kernel) rfl), (q_in_t1 (i := 14) (by first | rfl | decide +kernel) rfl), (q_in_t9 (i := 49) (by first | rfl | decide +kernel) rfl), ⟨rfl, by decide, by decide, rfl⟩⟩
theorem kl_146 : q_okV RL 146 RX11 yX11_heap cX11_heap 9 (some .boolean) 2 := ⟨(q_in_t6 (i := 22) (by first | rfl | decide +kernel) rfl), (q_in_t6 (i := 23) (by first | rfl | decide +kernel) rfl), (q_in_t6 (i := 24) (by first | rfl | decide +kernel) rfl), (q_in_t1 (i := 1) (by first | rfl | decide +kernel) rfl), (q_in_t6 (i := 25) (by first | rfl | decide +kernel) rfl), ⟨rfl, by decide, by decide, rfl⟩⟩
theorem kl_150 : q_okV RL 150 RX12 yX12_heap cX12_heap 9 (some .boolean) 2 := ⟨(q_in_t9 (i := 50) (by first | rfl | decide +kernel) rfl), (q_in_t9 (i := 51) (by first | rfl | decide +kernel) rfl), (q_in_t9 (i := 52) (by first | rfl | decide +kernel) rfl), (q_in_t1 (i := 14) (by first | rfl | decide +kernel) rfl), (q_in_t9 (i := 53) (by first | rfl | decide +kernel) rfl), ⟨rfl, by decide, by decide, rfl⟩⟩
theorem kl_151 : q_okV RL 151 RX11 yX11_said cX11_said 3 (some .int) 2 := ⟨(q_in_t6 (i := 27) (by first | rfl | decide +kernel) rfl), (q_in_t6 (i := 28) (by first | rfl | decide +kernel) rfl), (q_in_t6 (i := 29) (by first | rfl | decide +kernel) rfl), (q_in_t1 (i := 1) (by first | rfl | decide +kernel) rfl), (q_in_t6 (i := 30) (by first | rfl | decide +kernel) rfl), ⟨rfl, by decide, by decide, rfl⟩⟩
theorem kl_154 : q_okV RL 154 RX12 yX12_said cX12_said 5 (some .int) 2 := ⟨(q_in_t9 (i := 54) (by first | rfl | decide +kernel) rfl), (q_in_t9 (i := 55) (by first | rfl | decide +kernel) rfl), (q_in_t9 (i := 56) (by first | rfl | decide +kernel) rfl), (q_in_t1 (i := 14) (by first | rfl | decide +kernel) rfl), (q_in_t9 (i := 57) (by first | rfl | decide +kernel) rfl), ⟨rfl, by decide, by decide, rfl⟩⟩
theorem kl_155 : q_okV RL 155 RX11 yX11_waits cX11_waits 2 (some .int) 1 := ⟨(q_in_t6 (i := 35) (by first | rfl | decide +kernel) rfl), (q_in_t6 (i := 36) (by first | rfl | decide +kernel) rfl), (q_in_t6 (i := 37) (by first | rfl | decide +kernel) rfl), (q_in_t1 (i := 1) (by first | rfl | decide +kernel) rfl), (q_in_t6 (i := 38) (by first | rfl | decide +kernel) rfl), ⟨rfl, by decide, by decide, rfl⟩⟩
theorem kl_158 : q_okV RL 158 RX12 yX12_waits cX12_waits 2 (some .int) 1 := ⟨(q_in_t9 (i := 58) (by first | rfl | decide +kernel) rfl), (q_in_t9 (i := 59) (by first | rfl | decide +kernel) rfl), (q_in_t9 (i := 60) (by first | rfl | decide +kernel) rfl), (q_in_t1 (i := 14) (by first | rfl | decide +kernel) rfl), (q_in_t9 (i := 61) (by first | rfl | decide +kernel) rfl), ⟨rfl, by decide, by decide, rfl⟩⟩
theorem kl_159 : q_okV RL 159 RX11 yX11_falls cX11_falls 4 (some .int) 2 := ⟨(q_in_t6 (i := 43) (by first | rfl | decide +kernel) rfl), (q_in_t6 (i := 44) (by first | rfl | decide +kernel) rfl), (q_in_t6 (i := 45) (by first | rfl | decide +kernel) rfl), (q_in_t1 (i := 1) (by first | rfl | decide +kernel) rfl), (q_in_t6 (i := 46) (by first | rfl | decide +kernel) rfl), ⟨rfl, by decide, by decide, rfl⟩⟩
theorem kl_162 : q_okV RL 162 RX12 yX12_falls cX12_falls 3 (some .int) 2 := ⟨(q_in_t9 (i := 66) (by first | rfl | decide +kernel) rfl), (q_in_t9 (i := 67) (by first | rfl | decide +kernel) rfl), (q_in_t9 (i := 68) (by first | rfl | decide +kernel) rfl), (q_in_t1 (i := 14) (by first | rfl | decide +kernel) rfl), (q_in_t9 (i := 69) (by first | rfl | decide +kernel) rfl), ⟨rfl, by decide, by decide, rfl⟩⟩
theorem kl_163 : q_okV RL 163 RX11 yX11_honestly cX11_honestly 4 (some .int) 2 := ⟨(q_in_t6 (i := 56) (by first | rfl | decide +kernel) rfl), (q_in_t6 (i := 57) (by first | rfl | decide +kernel) rfl), (q_in_t6 (i := 58) (by first | rfl | decide +kernel) rfl), (q_in_t1 (i := 1) (by first | rfl | decide +kernel) rfl), (q_in_t6 (i := 59) (by first | rfl | decide +kernel) rfl), ⟨rfl, by decide, by decide, rfl⟩⟩
theorem kl_166 : q_okV RL 166 RX12 yX12_honestly cX12_honestly 3 (some .int) 2 := ⟨(q_in_t9 (i := 75) (by first | rfl | decide +kernel) rfl), (q_in_t9 (i := 76) (by first | rfl | decide +kernel) rfl), (q_in_t9 (i := 77) (by first | rfl | decide +kernel) rfl), (q_in_t1 (i := 14) (by first | rfl | decide +kernel) rfl), (q_in_t9 (i := 78) (by first | rfl | decide +kernel) rfl), ⟨rfl, by decide, by decide, rfl⟩⟩
theorem kl_167 : q_okV RL 167 RX11 yX11_rid cX11_rid 2 (some .int) 1 := ⟨(q_in_t6 (i := 67) (by first | rfl | decide +kernel) rfl), (q_in_t6 (i := 68) (by first | rfl | decide +kernel) rfl), (q_in_t6 (i := 69) (by first | rfl | decide +kernel) rfl), (q_in_t1 (i := 1) (by first | rfl | decide +kernel) rfl), (q_in_t6 (i := 70) (by first | rfl | decide +kernel) rfl), ⟨rfl, by decide, by decide, rfl⟩⟩
theorem kl_170 : q_okV RL 170 RX12 yX12_rid cX12_rid 3 (some .int) 1 := ⟨(q_in_t9 (i := 84) (by first | rfl | decide +kernel) rfl), (q_in_t9 (i := 85) (by first | rfl | decide +kernel) rfl), (q_in_t9 (i := 86) (by first | rfl | decide +kernel) rfl), (q_in_t1 (i := 14) (by first | rfl | decide +kernel) rfl), (q_in_t9 (i := 87) (by first | rfl | decide +kernel) rfl), ⟨rfl, by decide, by decide, rfl⟩⟩
theorem kl_171 : q_okV RL 171 RX11 yX11_lastKind cX11_lastKind 2 (some .int) 1 := ⟨(q_in_t6 (i := 75) (by first | rfl | decide +kernel) rfl), (q_in_t6 (i := 76) (by first | rfl | decide +kernel) rfl), (q_in_t6 (i := 77) (by first | rfl | decide +kernel) rfl), (q_in_t1 (i := 1) (by first | rfl | decide +kernel) rfl), (q_in_t6 (i := 78) (by first | rfl | decide +kernel) rfl), ⟨rfl, by decide, by decide, rfl⟩⟩
theorem kl_174 : q_okV RL 174 RX12 yX12_lastKind cX12_lastKind 2 (some .int) 1 := ⟨(q_in_t9 (i := 92) (by first | rfl | decide +kernel) rfl), (q_in_t9 (i := 93) (by first | rfl | decide +kernel) rfl), (q_in_t9 (i := 94) (by first | rfl | decide +kernel) rfl), (q_in_t1 (i := 14) (by first | rfl | decide +kernel) rfl), (q_in_t9 (i := 95) (by first | rfl | decide +kernel) rfl), ⟨rfl, by decide, by decide, rfl⟩⟩
theorem kl_175 : q_okV RL 175 RX11 yX11_mustLie cX11_mustLie 2 (some .int) 1 := ⟨(q_in_t6 (i := 79) (by first | rfl | decide +kernel) rfl), (q_in_t6 (i := 80) (by first | rfl | decide +kernel) rfl), (q_in_t6 (i := 81) (by first | rfl | decide +kernel) rfl), (q_in_t1 (i := 1) (by first | rfl | decide +kernel) rfl), (q_in_t6 (i := 82) (by first | rfl | decide +kernel) rfl), ⟨rfl, by decide, by decide, rfl⟩⟩
theorem kl_178 : q_okV RL 178 RX12 yX12_mustLie cX12_mustLie 2 (some .int) 1 := ⟨(q_in_t9 (i := 96) (by first | rfl | decide +kernel) rfl), (q_in_t9 (i := 97) (by first | rfl | decide +kernel) rfl), (q_in_t9 (i := 98) (by first | rfl | decide +kernel) rfl), (q_in_t1 (i := 14) (by first | rfl | decide +kernel) rfl), (q_in_t9 (i := 99) (by first | rfl | decide +kernel) rfl), ⟨rfl, by decide, by decide, rfl⟩⟩
theorem kl_179 : q_okV RL 179 RX11 yX11_soonest cX11_soonest 4 (some .int) 0 := ⟨(q_in_t6 (i := 83) (by first | rfl | decide +kernel) rfl), (q_in_t6 (i := 84) (by first | rfl | decide +kernel) rfl), (q_in_t6 (i := 85) (by first | rfl | decide +kernel) rfl), (q_in_t1 (i := 1) (by first | rfl | decide +kernel) rfl), (q_in_t6 (i := 86) (by first | rfl | decide +kernel) rfl), ⟨rfl, by decide, by decide, rfl⟩⟩
theorem kl_182 : q_okV RL 182 RX12 yX12_soonest cX12_soonest 5 (some .int) 0 := ⟨(q_in_t9 (i := 100) (by first | rfl | decide +kernel) rfl), (q_in_t9 (i := 101) (by first | rfl | decide +kernel) rfl), (q_in_t9 (i := 102) (by first | rfl | decide +kernel) rfl), (q_in_t1 (i := 14) (by first | rfl | decide +kernel) rfl), (q_in_t9 (i := 103) (by first | rfl | decide +kernel) rfl), ⟨rfl, by decide, by decide, rfl⟩⟩
theorem kl_183 : q_okV RL 183 RX11 yX11_best cX11_best 11 (some .int) 2 := ⟨(q_in_t6 (i := 87) (by first | rfl | decide +kernel) rfl), (q_in_t6 (i := 88) (by first | rfl | decide +kernel) rfl), (q_in_t6 (i := 89) (by first | rfl | decide +kernel) rfl), (q_in_t1 (i := 1) (by first | rfl | decide +kernel) rfl), (q_in_t6 (i := 90) (by first | rfl | decide +kernel) rfl), ⟨rfl, by decide, by decide, rfl⟩⟩
theorem kl_186 : q_okV RL 186 RX12 yX12_best cX12_best 13 (some .int) 2 := ⟨(q_in_t9 (i := 104) (by first | rfl | decide +kernel) rfl), (q_in_t9 (i := 105) (by first | rfl | decide +kernel) rfl), (q_in_t9 (i := 106) (by first | rfl | decide +kernel) rfl), (q_in_t1 (i := 14) (by first | rfl | decide +kernel) rfl), (q_in_t9 (i := 107) (by first | rfl | decide +kernel) rfl), ⟨rfl, by decide, by decide, rfl⟩⟩
theorem kl_187 : q_okV RL 187 RX11 yX11_sayer cX11_sayer 4 (some .int) 1 := ⟨(q_in_t6 (i := 97) (by first | rfl | decide +kernel) rfl), (q_in_t6 (i := 98) (by first | rfl | decide +kernel) rfl), (q_in_t6 (i := 99) (by first | rfl | decide +kernel) rfl), (q_in_t1 (i := 1) (by first | rfl | decide +kernel) rfl), (q_in_t6 (i := 100) (by first | rfl | decide +kernel) rfl), ⟨rfl, by decide, by decide, rfl⟩⟩
theorem kl_190 : q_okV RL 190 RX12 yX12_sayer cX12_sayer 4 (some .int) 1 := ⟨(q_in_t9 (i := 108) (by first | rfl | decide +kernel) rfl), (q_in_t9 (i := 109) (by first | rfl | decide +kernel) rfl), (q_in_t9 (i := 110) (by first | rfl | decide +kernel) rfl), (q_in_t1 (i := 14) (by first | rfl | decide +kernel) rfl), (q_in_t9 (i := 111) (by first | rfl | decide +kernel) rfl), ⟨rfl, by decide, by decide, rfl⟩⟩
theorem kl_191 : q_okV RL 191 RX11 yX11_has cX11_has 4 (some .int) 1 := ⟨(q_in_t6 (i := 102) (by first | rfl | decide +kernel) rfl), (q_in_t6 (i := 103) (by first | rfl | decide +kernel) rfl), (q_in_t6 (i := 104) (by first | rfl | decide +kernel) rfl), (q_in_t1 (i := 1) (by first | rfl | decide +kernel) rfl), (q_in_t6 (i := 105) (by first | rfl | decide +kernel) rfl), ⟨rfl, by decide, by decide, rfl⟩⟩
theorem kl_194 : q_okV RL 194 RX12 yX12_has cX12_has 4 (some .int) 1 := ⟨(q_in_t9 (i := 112) (by first | rfl | decide +kernel) rfl), (q_in_t9 (i := 113) (by first | rfl | decide +kernel) rfl), (q_in_t9 (i := 114) (by first | rfl | decide +kernel) rfl), (q_in_t1 (i := 14) (by first | rfl | decide +kernel) rfl), (q_in_t9 (i := 115) (by first | rfl | decide +kernel) rfl), ⟨rfl, by decide, by decide, rfl⟩⟩
theorem kl_195 : q_okV RL 195 RX11 yX11_lies cX11_lies 2 (some .int) 1 := ⟨(q_in_t6 (i := 106) (by first | rfl | decide +kernel) rfl), (q_in_t6 (i := 107) (by first | rfl | decide +kernel) rfl), (q_in_t6 (i := 108) (by first | rfl | decide +kernel) rfl), (q_in_t1 (i := 1) (by first | rfl | decide +kernel) rfl), (q_in_t6 (i := 109) (by first | rfl | decide +kernel) rfl), ⟨rfl, by decide, by decide, rfl⟩⟩
theorem kl_198 : q_okV RL 198 RX12 yX12_lies cX12_lies 2 (some .int) 1 := ⟨(q_in_t9 (i := 116) (by first | rfl | decide +kernel) rfl), (q_in_t9 (i := 117) (by first | rfl | decide +kernel) rfl), (q_in_t9 (i := 118) (by first | rfl | decide +kernel) rfl), (q_in_t1 (i := 14) (by first | rfl | decide +kernel) rfl), (q_in_t9 (i := 119) (by first | rfl | decide +kernel) rfl), ⟨rfl, by decide, by decide, rfl⟩⟩
theorem kl_199 : q_okV RL 199 RX11 yX11_guess cX11_guess 5 (some .boolean) 3 := ⟨(q_in_t6 (i := 115) (by first | rfl | decide +kernel) rfl), (q_in_t6 (i := 116) (by first | rfl | decide +kernel) rfl), (q_in_t6 (i := 117) (by first | rfl | decide +kernel) rfl), (q_in_t1 (i := 1) (by first | rfl | decide +kernel) rfl), (q_in_t6 (i := 118) (by first | rfl | decide +kernel) rfl), ⟨rfl, by decide, by decide, rfl⟩⟩
theorem kl_202 : q_okV RL 202 RX12 yX12_guess cX12_guess 4 (some .boolean) 3 := ⟨(q_in_t9 (i := 120) (by first | rfl | decide +kernel) rfl), (q_in_t9 (i := 121) (by first | rfl | decide +kernel) rfl), (q_in_t9 (i := 122) (by first | rfl | decide +kernel) rfl), (q_in_t1 (i := 14) (by first | rfl | decide +kernel) rfl), (q_in_t9 (i := 123) (by first | rfl | decide +kernel) rfl), ⟨rfl, by decide, by decide, rfl⟩⟩
theorem kl_203 : q_okV RL 203 RX11 yX11_fullest cX11_fullest 4 (some .int) 0 := ⟨(q_in_t6 (i := 120) (by first | rfl | decide +kernel) rfl), (q_in_t6 (i := 121) (by first | rfl | decide +kernel) rfl), (q_in_t6 (i := 122) (by first | rfl | decide +kernel) rfl), (q_in_t1 (i := 1) (by first | rfl | decide +kernel) rfl), (q_in_t6 (i := 123) (by first | rfl | decide +kernel) rfl), ⟨rfl, by decide, by decide, rfl⟩⟩
theorem kl_206 : q_okV RL 206 RX12 yX12_fullest cX12_fullest 3 (some .int) 0 := ⟨(q_in_t9 (i := 125) (by first | rfl | decide +kernel) rfl), (q_in_t9 (i := 126) (by first | rfl | decide +kernel) rfl), (q_in_t9 (i := 127) (by first | rfl | decide +kernel) rfl), (q_in_t1 (i := 14) (by first | rfl | decide +kernel) rfl), (q_in_t9 (i := 128) (by first | rfl | decide +kernel) rfl), ⟨rfl, by decide, by decide, rfl⟩⟩
theorem kl_207 : q_okV RL 207 RX11 yX11_quartet cX11_quartet 4 (some .int) 1 := ⟨(q_in_t6 (i := 124) (by first | rfl | decide +kernel) rfl), (q_in_t6 (i := 125) (by first | rfl | decide +kernel) rfl), (q_in_t6 (i := 126) (by first | rfl | decide +kernel) rfl), (q_in_t1 (i := 1) (by first | rfl | decide +kernel) rfl), (q_in_t6 (i := 127) (by first | rfl | decide +kernel) rfl), ⟨rfl, by decide, by decide, rfl⟩⟩
theorem kl_210 : q_okV RL 210 RX12 yX12_quartet cX12_quartet 3 (some .int) 1 := ⟨(q_in_t9 (i := 129) (by first | rfl | decide +kernel) rfl), (q_in_t9 (i := 130) (by first | rfl | decide +kernel) rfl), (q_in_t9 (i := 131) (by first | rfl | decide +kernel) rfl), (q_in_t1 (i := 14) (by first | rfl | decide +kernel) rfl), (q_in_t9 (i := 132) (by first | rfl | decide +kernel) rfl), ⟨rfl, by decide, by decide, rfl⟩⟩
theorem kl_211 : q_okV RL 211 RX11 yX11_sorts cX11_sorts 4 (some .int) 1 := ⟨(q_in_t6 (i := 128) (by first | rfl | decide +kernel) rfl), (q_in_t6 (i := 129) (by first | rfl | decide +kernel) rfl), (q_in_t6 (i := 130) (by first | rfl | decide +kernel) rfl), (q_in_t1 (i := 1) (by first | rfl | decide +kernel) rfl), (q_in_t6 (i := 131) (by first | rfl | decide +kernel) rfl), ⟨rfl, by decide, by decide, rfl⟩⟩
theorem kl_214 : q_okV RL 214 RX12 yX12_sorts cX12_sorts 4 (some .int) 1 := ⟨(q_in_t9 (i := 133) (by first | rfl | decide +kernel) rfl), (q_in_t9 (i := 134) (by first | rfl | decide +kernel) rfl), (q_in_t9 (i := 135) (by first | rfl | decide +kernel) rfl), (q_in_t1 (i := 14) (by first | rfl | decide +kernel) rfl), (q_in_t9 (i := 136) (by first | rfl | decide +kernel) rfl), ⟨rfl, by decide, by decide, rfl⟩⟩
theorem kl_215 : q_okV RL 215 RX11 yX11_liar cX11_liar 4 (some .int) 0 := ⟨(q_in_t6 (i := 132) (by first | rfl | decide +kernel) rfl), (q_in_t6 (i := 133) (by first | rfl | decide +kernel) rfl), (q_in_t6 (i := 134) (by first | rfl | decide +kernel) rfl), (q_in_t1 (i := 1) (by first | rfl | decide +kernel) rfl), (q_in_t6 (i := 135) (by first | rfl | decide +kernel) rfl), ⟨rfl, by decide, by decide, rfl⟩⟩
theorem kl_218 : q_okV RL 218 RX12 yX12_liar cX12_liar 5 (some .int) 0 := ⟨(q_in_t9 (i := 137) (by first | rfl | decide +kernel) rfl), (q_in_t9 (i := 138) (by first | rfl | decide +kernel) rfl), (q_in_t9 (i := 139) (by first | rfl | decide +kernel) rfl), (q_in_t1 (i := 14) (by first | rfl | decide +kernel) rfl), (q_in_t9 (i := 140) (by first | rfl | decide +kernel) rfl), ⟨rfl, by decide, by decide, rfl⟩⟩
theorem kl_219 : q_okV RL 219 RX11 yX11_play cX11_play 2 (some .int) 1 := ⟨(q_in_t6 (i := 136) (by first | rfl | decide +kernel) rfl), (q_in_t6 (i := 137) (by first | rfl | decide +kernel) rfl), (q_in_t6 (i := 138) (by first | rfl | decide +kernel) rfl), (q_in_t1 (i := 1) (by first | rfl | decide +kernel) rfl), (q_in_t6 (i := 139) (by first | rfl | decide +kernel) rfl), ⟨rfl, by decide, by decide, rfl⟩⟩
theorem kl_222 : q_okV RL 222 RX12 yX12_play cX12_play 2 (some .int) 1 := ⟨(q_in_t9 (i := 141) (by first | rfl | decide +kernel) rfl), (q_in_t9 (i := 142) (by first | rfl | decide +kernel) rfl), (q_in_t9 (i := 143) (by first | rfl | decide +kernel) rfl), (q_in_t1 (i := 14) (by first | rfl | decide +kernel) rfl), (q_in_t9 (i := 144) (by first | rfl | decide +kernel) rfl), ⟨rfl, by decide, by decide, rfl⟩⟩
theorem kl_223 : q_okV RL 223 RX11 yX11_played cX11_played 2 (some .int) 1 := ⟨(q_in_t6 (i := 191) (by first | rfl | decide +kernel) rfl), (q_in_t6 (i := 192) (by first | rfl | decide +kernel) rfl), (q_in_t6 (i := 193) (by first | rfl | decide +kernel) rfl), (q_in_t1 (i := 1) (by first | rfl | decide +kernel) rfl), (q_in_t6 (i := 194) (by first | rfl | decide +kernel) rfl), ⟨rfl, by decide, by decide, rfl⟩⟩
theorem kl_226 : q_okV RL 226 RX12 yX12_played cX12_played 2 (some .int) 1 := ⟨(q_in_t9 (i := 179) (by first | rfl | decide +kernel) rfl), (q_in_t9 (i := 180) (by first | rfl | decide +kernel) rfl), (q_in_t9 (i := 181) (by first | rfl | decide +kernel) rfl), (q_in_t1 (i := 14) (by first | rfl | decide +kernel) rfl), (q_in_t9 (i := 182) (by first | rfl | decide +kernel) rfl), ⟨rfl, by decide, by decide, rfl⟩⟩
theorem kl_227 : q_okV RL 227 RX11 yX11_wins cX11_wins 7 (some .boolean) 3 := ⟨(q_in_t6 (i := 195) (by first | rfl | decide +kernel) rfl), (q_in_t6 (i := 196) (by first | rfl | decide +kernel) rfl), (q_in_t6 (i := 197) (by first | rfl | decide +kernel) rfl), (q_in_t1 (i := 1) (by first | rfl | decide +kernel) rfl), (q_in_t6 (i := 198) (by first | rfl | decide +kernel) rfl), ⟨rfl, by decide, by decide, rfl⟩⟩
theorem kl_230 : q_okV RL 230 RX12 yX12_wins cX12_wins 4 (some .boolean) 3 := ⟨(q_in_t9 (i := 183) (by first | rfl | decide +kernel) rfl), (q_in_t9 (i := 184) (by first | rfl | decide +kernel) rfl), (q_in_t9 (i := 185) (by first | rfl | decide +kernel) rfl), (q_in_t1 (i := 14) (by first | rfl | decide +kernel) rfl), (q_in_t9 (i := 186) (by first | rfl | decide +kernel) rfl), ⟨rfl, by decide, by decide, rfl⟩⟩
theorem kl_231 : q_okV RL 231 RX11 yX11_left cX11_left 7 (some .boolean) 3 := ⟨(q_in_t6 (i := 203) (by first | rfl | decide +kernel) rfl), (q_in_t6 (i := 204) (by first | rfl | decide +kernel) rfl), (q_in_t6 (i := 205) (by first | rfl | decide +kernel) rfl), (q_in_t1 (i := 1) (by first | rfl | decide +kernel) rfl), (q_in_t6 (i := 206) (by first | rfl | decide +kernel) rfl), ⟨rfl, by decide, by decide, rfl⟩⟩
theorem kl_234 : q_okV RL 234 RX12 yX12_left cX12_left 4 (some .boolean) 3 := ⟨(q_in_t9 (i := 192) (by first | rfl | decide +kernel) rfl), (q_in_t9 (i := 193) (by first | rfl | decide +kernel) rfl), (q_in_t9 (i := 194) (by first | rfl | decide +kernel) rfl), (q_in_t1 (i := 14) (by first | rfl | decide +kernel) rfl), (q_in_t9 (i := 195) (by first | rfl | decide +kernel) rfl), ⟨rfl, by decide, by decide, rfl⟩⟩
theorem kl_235 : q_okV RL 235 RX11 yX11_mark cX11_mark 2 (some .int) 0 := ⟨(q_in_t6 (i := 207) (by first | rfl | decide +kernel) rfl), (q_in_t6 (i := 208) (by first | rfl | decide +kernel) rfl), (q_in_t6 (i := 209) (by first | rfl | decide +kernel) rfl), (q_in_t1 (i := 1) (by first | rfl | decide +kernel) rfl), (q_in_t6 (i := 210) (by first | rfl | decide +kernel) rfl), ⟨rfl, by decide, by decide, rfl⟩⟩
theorem kl_238 : q_okV RL 238 RX12 yX12_mark cX12_mark 1 (some .int) 0 := ⟨(q_in_t9 (i := 196) (by first | rfl | decide +kernel) rfl), (q_in_t9 (i := 197) (by first | rfl | decide +kernel) rfl), (q_in_t9 (i := 198) (by first | rfl | decide +kernel) rfl), (q_in_t1 (i := 14) (by first | rfl | decide +kernel) rfl), (q_in_t9 (i := 199) (by first | rfl | decide +kernel) rfl), ⟨rfl, by decide, by decide, rfl⟩⟩
theorem kl_239 : q_okV RL 239 RX11 yX11_back cX11_back 2 (some .int) 0 := ⟨(q_in_t6 (i := 215) (by first | rfl | decide +kernel) rfl), (q_in_t6 (i := 216) (by first | rfl | decide +kernel) rfl), (q_in_t6 (i := 217) (by first | rfl | decide +kernel) rfl), (q_in_t1 (i := 1) (by first | rfl | decide +kernel) rfl), (q_in_t6 (i := 218) (by first | rfl | decide +kernel) rfl), ⟨rfl, by decide, by decide, rfl⟩⟩
theorem kl_242 : q_okV RL 242 RX12 yX12_back cX12_back 1 (some .int) 0 := ⟨(q_in_t9 (i := 200) (by first | rfl | decide +kernel) rfl), (q_in_t9 (i := 201) (by first | rfl | decide +kernel) rfl), (q_in_t9 (i := 202) (by first | rfl | decide +kernel) rfl), (q_in_t1 (i := 14) (by first | rfl | decide +kernel) rfl), (q_in_t9 (i := 203) (by first | rfl | decide +kernel) rfl), ⟨rfl, by decide, by decide, rfl⟩⟩
end
/-! FROM 61.law.lean.txt -/
section
set_option maxRecDepth 100000 in
set_option maxHeartbeats 4000000 in
theorem lw_c0 {p : Program} {l : Launch} {e : Env} {s : State} {m : MethodId} {below : List Frame} {meth : Method} {c : Code} {b L : Nat} {xs : Nat → Int32} {X : XW} {xo mo : Nat} {σ0 : ST} {cells slots : Nat} {Q : State → Prop} {lb : Nat → Nat} (hcl : tb_Cls X lb xo mo) (hal : al_C X lb xo mo) (E : q_E p c cL_law s m #[Value.ref b] RL X) (hX : va_X b L xs s s.heap) (hbl : b < s.heap.size) (hbA : ¬ q_reg X b) (hml : c.maxLocals = 4) (hxo : q_kd X xo = 11) (hmo : q_kd X mo = 12) (hcs : cells ≤ room_1.cells ∧ slots ≤ room_1.slots) (hL : L ≤ 3072) {i : Nat} (hi : i + 6 ≤ L) {n : Int} (hn : 0 ≤ n ∧ n ≤ 199000) {σ : ST} {H : Heap} {locs : List Loc} {ls : Array Slot} (hI : q_I X 0 σ0 s.heap locs σ H) (hM : m_M (m_c X σ mo) (σ.1 mo 24).toInt n) (hl : lv_has ls 4 [(3, .int (nI i)), (2, .ref mo), (1, .ref xo), (0, .ref b)]) (hE : lw_E xo mo σ) (hB : lw_B X xo mo σ) (hA : al_R X xo mo σ σ)
    (kk : ∀ (σ : ST) (H : Heap) (locs : List Loc), q_I X 0 σ0 s.heap locs σ H → m_M (m_c X σ mo) (σ.1 mo 24).toInt (n + 301) → lw_E xo mo σ → lw_B X xo mo σ → al_R X xo mo σ σ → W p l e room_1 s m #[Value.ref b] below meth c H locs cells slots Q (F0 m 1796 ls [])) : W p l e room_1 s m #[Value.ref b] below meth c H locs cells slots Q (F0 m 264 ls []) := by
  have hx := E.1
  have hb := E.2.1
  have hI0 := hI
  have hE0 := hE
  have hB0 := hB
  have hA0 := hA
  have hM0 := hM
  refine lv_aload_n hx hb dL_law_264 rfl (lv_at hl 2 rfl) ?_
  have h3 := (q_bd hI hmo (rfl : q_bn 12 24 = (0, 3))).2
  refine q_ci (q_runV (As := []) (rest := []) E (hml.trans hl.1.symm) hI (c_X11_status l X σ xo hxo) kl_13 hxo ⟨rfl, by decide⟩ (show vwCl[10]? = some (RX11, TX11, 17) from rfl) rfl ⟨Nat.le_of_ble_eq_true rfl, Nat.le_of_ble_eq_true rfl⟩ hcs rfl (Nat.le_of_ble_eq_true rfl) dL_law_265) hI (by decide) (fun r1 σ1 H locs hp hk hI => ?_)
  obtain ⟨hs1, hex1⟩ := hp
  have how1 : q_ow [] [] X σ σ1 := by rw [hs1]; exact q_ow.rf
  have hp := True.intro
  have hB := lw_BK how1 hI.1 hxo hmo rfl rfl (how1.1 xo 5 (by rw [hxo]; rfl)) hB
  have hA1 := hA0.pre hal how1 rfl
  have hA := (hA.post hal how1 rfl).pre hal how1 rfl
  have hE := lw_EK hk (by decide) hxo hmo hE
  have hM := lw_kM hk hI.1 hmo (by decide) hM
  have hpp1 := hp
  have hMc := hM
  clear hp hk
  clear h3
  refine lv_pop hx hb dL_law_268 rfl ?_
  refine lv_aload_n hx hb dL_law_269 rfl (lv_at hl 1 rfl) ?_
  have h3 := (q_bd hI hmo (rfl : q_bn 12 24 = (0, 3))).2
  refine q_ci (q_runV (As := []) (rest := []) E (hml.trans hl.1.symm) hI (c_X12_status l X σ1 mo hmo) kl_17 hmo ⟨rfl, by decide⟩ (show vwCl[11]? = some (RX12, TX12, 46) from rfl) rfl ⟨Nat.le_of_ble_eq_true rfl, Nat.le_of_ble_eq_true rfl⟩ hcs rfl (Nat.le_of_ble_eq_true rfl) dL_law_270) hI (by decide) (fun r2 σ2 H locs hp hk hI => ?_)
  obtain ⟨hex2, how2⟩ := hp
  have hp := True.intro
  have hB := lw_BK how2 hI.1 hxo hmo rfl rfl (how2.1 xo 5 (by rw [hxo]; rfl)) hB
  have hA := (hA.post hal how2 rfl).pre hal how2 rfl
  have hE := lw_EK hk (by decide) hxo hmo hE
  have hM := lw_up (lw_kM hk hI.1 hmo (by decide) hM) (q_bd hI hmo (rfl : q_bn 12 24 = (0, 3))).2
  have hpp2 := hp
  clear hp hk
  clear h3
  refine lv_pop hx hb dL_law_273 rfl ?_
  refine lv_goto (tgt := 1796) hx hb dL_law_274 (by decide) ?_
  exact kk _ _ _ hI hM hE hB hA

set_option maxRecDepth 100000 in
set_option maxHeartbeats 4000000 in
theorem lw_c1 {p : Program} {l : Launch} {e : Env} {s : State} {m : MethodId} {below : List Frame} {meth : Method} {c : Code} {b L : Nat} {xs : Nat → Int32} {X : XW} {xo mo : Nat} {σ0 : ST} {cells slots : Nat} {Q : State → Prop} {lb : Nat → Nat} (hcl : tb_Cls X lb xo mo) (hal : al_C X lb xo mo) (E : q_E p c cL_law s m #[Value.ref b] RL X) (hX : va_X b L xs s s.heap) (hbl : b < s.heap.size) (hbA : ¬ q_reg X b) (hml : c.maxLocals = 4) (hxo : q_kd X xo = 11) (hmo : q_kd X mo = 12) (hcs : cells ≤ room_1.cells ∧ slots ≤ room_1.slots) (hL : L ≤ 3072) {i : Nat} (hi : i + 6 ≤ L) {n : Int} (hn : 0 ≤ n ∧ n ≤ 199000) {σ : ST} {H : Heap} {locs : List Loc} {ls : Array Slot} (hI : q_I X 0 σ0 s.heap locs σ H) (hM : m_M (m_c X σ mo) (σ.1 mo 24).toInt n) (hl : lv_has ls 4 [(3, .int (nI i)), (2, .ref mo), (1, .ref xo), (0, .ref b)]) (hE : lw_E xo mo σ) (hB : lw_B X xo mo σ) (hA : al_R X xo mo σ σ)
    (kk : ∀ (σ : ST) (H : Heap) (locs : List Loc), q_I X 0 σ0 s.heap locs σ H → m_M (m_c X σ mo) (σ.1 mo 24).toInt (n + 301) → lw_E xo mo σ → lw_B X xo mo σ → al_R X xo mo σ σ → W p l e room_1 s m #[Value.ref b] below meth c H locs cells slots Q (F0 m 1796 ls [])) : W p l e room_1 s m #[Value.ref b] below meth c H locs cells slots Q (F0 m 277 ls []) := by
  have hx := E.1
  have hb := E.2.1
  have hI0 := hI
  have hE0 := hE
  have hB0 := hB
  have hA0 := hA
  have hM0 := hM
  refine lv_aload_n hx hb dL_law_277 rfl (lv_at hl 2 rfl) ?_
  have h3 := (q_bd hI hmo (rfl : q_bn 12 24 = (0, 3))).2
  refine q_cl_ (q_runV (As := []) (rest := []) E (hml.trans hl.1.symm) hI (c_X11_top l X σ xo hxo) kl_18 hxo ⟨rfl, by decide⟩ (show vwCl[10]? = some (RX11, TX11, 17) from rfl) rfl ⟨Nat.le_of_ble_eq_true rfl, Nat.le_of_ble_eq_true rfl⟩ hcs rfl (Nat.le_of_ble_eq_true rfl) dL_law_278) hI (by decide) (fun r1 σ1 H locs hp hk hI => ?_)
  obtain ⟨hs1, hex1⟩ := hp
  have how1 : q_ow [] [] X σ σ1 := by rw [hs1]; exact q_ow.rf
  have hp := True.intro
  have hB := lw_BK how1 hI.1 hxo hmo rfl rfl (how1.1 xo 5 (by rw [hxo]; rfl)) hB
  have hA1 := hA0.pre hal how1 rfl
  have hA := (hA.post hal how1 rfl).pre hal how1 rfl
  have hE := lw_EK hk (by decide) hxo hmo hE
  have hM := lw_kM hk hI.1 hmo (by decide) hM
  have hpp1 := hp
  have hMc := hM
  clear hp hk
  clear h3
  refine lv_pop2_2 hx hb dL_law_281 rfl ?_
  refine lv_aload_n hx hb dL_law_282 rfl (lv_at hl 1 rfl) ?_
  have h3 := (q_bd hI hmo (rfl : q_bn 12 24 = (0, 3))).2
  refine q_cl_ (q_runV (As := []) (rest := []) E (hml.trans hl.1.symm) hI (c_X12_top l X σ1 mo hmo) kl_22 hmo ⟨rfl, by decide⟩ (show vwCl[11]? = some (RX12, TX12, 46) from rfl) rfl ⟨Nat.le_of_ble_eq_true rfl, Nat.le_of_ble_eq_true rfl⟩ hcs rfl (Nat.le_of_ble_eq_true rfl) dL_law_283) hI (by decide) (fun r2 σ2 H locs hp hk hI => ?_)
  obtain ⟨hex2, how2⟩ := hp
  have hp := True.intro
  have hB := lw_BK how2 hI.1 hxo hmo rfl rfl (how2.1 xo 5 (by rw [hxo]; rfl)) hB
  have hA := (hA.post hal how2 rfl).pre hal how2 rfl
  have hE := lw_EK hk (by decide) hxo hmo hE
  have hM := lw_up (lw_kM hk hI.1 hmo (by decide) hM) (q_bd hI hmo (rfl : q_bn 12 24 = (0, 3))).2
  have hpp2 := hp
  clear hp hk
  clear h3
  refine lv_pop2_2 hx hb dL_law_286 rfl ?_
  refine lv_goto (tgt := 1796) hx hb dL_law_287 (by decide) ?_
  exact kk _ _ _ hI hM hE hB hA

set_option maxRecDepth 100000 in
set_option maxHeartbeats 4000000 in
theorem lw_c2 {p : Program} {l : Launch} {e : Env} {s : State} {m : MethodId} {below : List Frame} {meth : Method} {c : Code} {b L : Nat} {xs : Nat → Int32} {X : XW} {xo mo : Nat} {σ0 : ST} {cells slots : Nat} {Q : State → Prop} {lb : Nat → Nat} (hcl : tb_Cls X lb xo mo) (hal : al_C X lb xo mo) (E : q_E p c cL_law s m #[Value.ref b] RL X) (hX : va_X b L xs s s.heap) (hbl : b < s.heap.size) (hbA : ¬ q_reg X b) (hml : c.maxLocals = 4) (hxo : q_kd X xo = 11) (hmo : q_kd X mo = 12) (hcs : cells ≤ room_1.cells ∧ slots ≤ room_1.slots) (hL : L ≤ 3072) {i : Nat} (hi : i + 6 ≤ L) {n : Int} (hn : 0 ≤ n ∧ n ≤ 199000) {σ : ST} {H : Heap} {locs : List Loc} {ls : Array Slot} (hI : q_I X 0 σ0 s.heap locs σ H) (hM : m_M (m_c X σ mo) (σ.1 mo 24).toInt n) (hl : lv_has ls 4 [(3, .int (nI i)), (2, .ref mo), (1, .ref xo), (0, .ref b)]) (hE : lw_E xo mo σ) (hB : lw_B X xo mo σ) (hA : al_R X xo mo σ σ)
    (kk : ∀ (σ : ST) (H : Heap) (locs : List Loc), q_I X 0 σ0 s.heap locs σ H → m_M (m_c X σ mo) (σ.1 mo 24).toInt (n + 301) → lw_E xo mo σ → lw_B X xo mo σ → al_R X xo mo σ σ → W p l e room_1 s m #[Value.ref b] below meth c H locs cells slots Q (F0 m 1796 ls [])) : W p l e room_1 s m #[Value.ref b] below meth c H locs cells slots Q (F0 m 290 ls []) := by
  have hx := E.1
  have hb := E.2.1
  have hI0 := hI
  have hE0 := hE
  have hB0 := hB
  have hA0 := hA
  have hM0 := hM
  refine lv_aload_n hx hb dL_law_290 rfl (lv_at hl 2 rfl) ?_
  have h3 := (q_bd hI hmo (rfl : q_bn 12 24 = (0, 3))).2
  refine q_cl_ (q_runV (As := []) (rest := []) E (hml.trans hl.1.symm) hI (c_X11_bottom l X σ xo hxo) kl_23 hxo ⟨rfl, by decide⟩ (show vwCl[10]? = some (RX11, TX11, 17) from rfl) rfl ⟨Nat.le_of_ble_eq_true rfl, Nat.le_of_ble_eq_true rfl⟩ hcs rfl (Nat.le_of_ble_eq_true rfl) dL_law_291) hI (by decide) (fun r1 σ1 H locs hp hk hI => ?_)
  obtain ⟨hs1, hex1⟩ := hp
  have how1 : q_ow [] [] X σ σ1 := by rw [hs1]; exact q_ow.rf
  have hp := True.intro
  have hB := lw_BK how1 hI.1 hxo hmo rfl rfl (how1.1 xo 5 (by rw [hxo]; rfl)) hB
  have hA1 := hA0.pre hal how1 rfl
  have hA := (hA.post hal how1 rfl).pre hal how1 rfl
  have hE := lw_EK hk (by decide) hxo hmo hE
  have hM := lw_kM hk hI.1 hmo (by decide) hM
  have hpp1 := hp
  have hMc := hM
  clear hp hk
  clear h3
  refine lv_pop2_2 hx hb dL_law_294 rfl ?_
  refine lv_aload_n hx hb dL_law_295 rfl (lv_at hl 1 rfl) ?_
  have h3 := (q_bd hI hmo (rfl : q_bn 12 24 = (0, 3))).2
  refine q_cl_ (q_runV (As := []) (rest := []) E (hml.trans hl.1.symm) hI (c_X12_bottom l X σ1 mo hmo) kl_26 hmo ⟨rfl, by decide⟩ (show vwCl[11]? = some (RX12, TX12, 46) from rfl) rfl ⟨Nat.le_of_ble_eq_true rfl, Nat.le_of_ble_eq_true rfl⟩ hcs rfl (Nat.le_of_ble_eq_true rfl) dL_law_296) hI (by decide) (fun r2 σ2 H locs hp hk hI => ?_)
  obtain ⟨hex2, how2⟩ := hp
  have hp := True.intro
  have hB := lw_BK how2 hI.1 hxo hmo rfl rfl (how2.1 xo 5 (by rw [hxo]; rfl)) hB
  have hA := (hA.post hal how2 rfl).pre hal how2 rfl
  have hE := lw_EK hk (by decide) hxo hmo hE
  have hM := lw_up (lw_kM hk hI.1 hmo (by decide) hM) (q_bd hI hmo (rfl : q_bn 12 24 = (0, 3))).2
  have hpp2 := hp
  clear hp hk
  clear h3
  refine lv_pop2_2 hx hb dL_law_299 rfl ?_
  refine lv_goto (tgt := 1796) hx hb dL_law_300 (by decide) ?_
  exact kk _ _ _ hI hM hE hB hA

set_option maxRecDepth 100000 in
set_option maxHeartbeats 4000000 in
theorem lw_c3 {p : Program} {l : Launch} {e : Env} {s : State} {m : MethodId} {below : List Frame} {meth : Method} {c : Code} {b L : Nat} {xs : Nat → Int32} {X : XW} {xo mo : Nat} {σ0 : ST} {cells slots : Nat} {Q : State → Prop} {lb : Nat → Nat} (hcl : tb_Cls X lb xo mo) (hal : al_C X lb xo mo) (E : q_E p c cL_law s m #[Value.ref b] RL X) (hX : va_X b L xs s s.heap) (hbl : b < s.heap.size) (hbA : ¬ q_reg X b) (hml : c.maxLocals = 4) (hxo : q_kd X xo = 11) (hmo : q_kd X mo = 12) (hcs : cells ≤ room_1.cells ∧ slots ≤ room_1.slots) (hL : L ≤ 3072) {i : Nat} (hi : i + 6 ≤ L) {n : Int} (hn : 0 ≤ n ∧ n ≤ 199000) {σ : ST} {H : Heap} {locs : List Loc} {ls : Array Slot} (hI : q_I X 0 σ0 s.heap locs σ H) (hM : m_M (m_c X σ mo) (σ.1 mo 24).toInt n) (hl : lv_has ls 4 [(3, .int (nI i)), (2, .ref mo), (1, .ref xo), (0, .ref b)]) (hE : lw_E xo mo σ) (hB : lw_B X xo mo σ) (hA : al_R X xo mo σ σ)
    (kk : ∀ (σ : ST) (H : Heap) (locs : List Loc), q_I X 0 σ0 s.heap locs σ H → m_M (m_c X σ mo) (σ.1 mo 24).toInt (n + 301) → lw_E xo mo σ → lw_B X xo mo σ → al_R X xo mo σ σ → W p l e room_1 s m #[Value.ref b] below meth c H locs cells slots Q (F0 m 1796 ls [])) : W p l e room_1 s m #[Value.ref b] below meth c H locs cells slots Q (F0 m 303 ls []) := by
  have hx := E.1
  have hb := E.2.1
  have hI0 := hI
  have hE0 := hE
  have hB0 := hB
  have hA0 := hA
  have hM0 := hM
  refine lv_aload_n hx hb dL_law_303 rfl (lv_at hl 2 rfl) ?_
  refine lv_aload_n hx hb dL_law_304 rfl (lv_at hl 3 rfl) ?_
  refine lv_iload_n hx hb dL_law_305 rfl (lv_at hl 0 rfl) ?_
  refine lv_iconst (v := 1) hx hb dL_law_306 (by decide) ?_
  refine lv_iadd hx hb dL_law_307 ?_
  refine va_sld hx hb hX hbl hbA hI.S (lw_in (j := 1) (by decide) (by omega) hL) dL_law_308 ?_
  refine lv_aload_n hx hb dL_law_309 rfl (lv_at hl 3 rfl) ?_
  refine lv_iload_n hx hb dL_law_310 rfl (lv_at hl 0 rfl) ?_
  refine lv_iconst (v := 2) hx hb dL_law_311 (by decide) ?_
  refine lv_iadd hx hb dL_law_312 ?_
  refine va_sld hx hb hX hbl hbA hI.S (lw_in (j := 2) (by decide) (by omega) hL) dL_law_313 ?_
  refine lv_aload_n hx hb dL_law_314 rfl (lv_at hl 3 rfl) ?_
  refine lv_iload_n hx hb dL_law_315 rfl (lv_at hl 0 rfl) ?_
  refine lv_iconst (v := 3) hx hb dL_law_316 (by decide) ?_
  refine lv_iadd hx hb dL_law_317 ?_
  refine va_sld hx hb hX hbl hbA hI.S (lw_in (j := 3) (by decide) (by omega) hL) dL_law_318 ?_
  have h3 := (q_bd hI hmo (rfl : q_bn 12 24 = (0, 3))).2
  refine q_ci (q_runV (As := [.int (xs (nI i + 1).toNatClampNeg), .int (xs (nI i + 2).toNatClampNeg), .int (xs (nI i + 3).toNatClampNeg)]) (rest := []) E (hml.trans hl.1.symm) hI (c_X11_tray l X σ xo ((xs (nI i + 1).toNatClampNeg)) ((xs (nI i + 2).toNatClampNeg)) ((xs (nI i + 3).toNatClampNeg)) hxo) kl_27 hxo ⟨rfl, by decide⟩ (show vwCl[10]? = some (RX11, TX11, 17) from rfl) rfl ⟨Nat.le_of_ble_eq_true rfl, Nat.le_of_ble_eq_true rfl⟩ hcs rfl (Nat.le_of_ble_eq_true rfl) dL_law_319) hI (by decide) (fun r1 σ1 H locs hp hk hI => ?_)
  obtain ⟨pq0, pq1, pq2, pq3, pq4, hex1, how1⟩ := hp
  have hp := And.intro pq0 (And.intro pq1 (And.intro pq2 (And.intro pq3 pq4)))
  have hB := lw_BK how1 hI.1 hxo hmo rfl rfl (how1.1 xo 5 (by rw [hxo]; rfl)) hB
  have hA1 := hA0.pre hal how1 rfl
  have hA := (hA.post hal how1 rfl).pre hal how1 rfl
  have hE := lw_ET hp.1 hp.2.2.1 hp.2.1 hp.2.2.2.2 hI.1 hmo hxo hE
  have hKS := hp.2.1
  have hM := lw_kT hp.1 hp.2.2.1 hp.2.1 hp.2.2.2.2 hI.1 hmo hxo hM
  have hpp1 := hp
  have hMc := hM
  clear hp hk
  clear h3
  refine lv_pop hx hb dL_law_322 rfl ?_
  refine lv_aload_n hx hb dL_law_323 rfl (lv_at hl 1 rfl) ?_
  refine lv_aload_n hx hb dL_law_324 rfl (lv_at hl 3 rfl) ?_
  refine lv_iload_n hx hb dL_law_325 rfl (lv_at hl 0 rfl) ?_
  refine lv_iconst (v := 1) hx hb dL_law_326 (by decide) ?_
  refine lv_iadd hx hb dL_law_327 ?_
  refine va_sld hx hb hX hbl hbA hI.S (lw_in (j := 1) (by decide) (by omega) hL) dL_law_328 ?_
  refine lv_aload_n hx hb dL_law_329 rfl (lv_at hl 3 rfl) ?_
  refine lv_iload_n hx hb dL_law_330 rfl (lv_at hl 0 rfl) ?_
  refine lv_iconst (v := 2) hx hb dL_law_331 (by decide) ?_
  refine lv_iadd hx hb dL_law_332 ?_
  refine va_sld hx hb hX hbl hbA hI.S (lw_in (j := 2) (by decide) (by omega) hL) dL_law_333 ?_
  refine lv_aload_n hx hb dL_law_334 rfl (lv_at hl 3 rfl) ?_
  refine lv_iload_n hx hb dL_law_335 rfl (lv_at hl 0 rfl) ?_
  refine lv_iconst (v := 3) hx hb dL_law_336 (by decide) ?_
  refine lv_iadd hx hb dL_law_337 ?_
  refine va_sld hx hb hX hbl hbA hI.S (lw_in (j := 3) (by decide) (by omega) hL) dL_law_338 ?_
  have h3 := (q_bd hI hmo (rfl : q_bn 12 24 = (0, 3))).2
  refine q_ci (q_runV (As := [.int (xs (nI i + 1).toNatClampNeg), .int (xs (nI i + 2).toNatClampNeg), .int (xs (nI i + 3).toNatClampNeg)]) (rest := []) E (hml.trans hl.1.symm) hI (c_X12_tray l X σ1 mo ((xs (nI i + 1).toNatClampNeg)) ((xs (nI i + 2).toNatClampNeg)) ((xs (nI i + 3).toNatClampNeg)) hmo) kl_31 hmo ⟨rfl, by decide⟩ (show vwCl[11]? = some (RX12, TX12, 46) from rfl) rfl ⟨Nat.le_of_ble_eq_true rfl, Nat.le_of_ble_eq_true rfl⟩ hcs rfl (Nat.le_of_ble_eq_true rfl) dL_law_339) hI (by decide) (fun r2 σ2 H locs hp hk hI => ?_)
  obtain ⟨pq0, pq1, pq2, pq3, pq4, hex2, how2⟩ := hp
  have hp := And.intro pq0 (And.intro pq1 (And.intro pq2 (And.intro pq3 pq4)))
  have hB := lw_BK how2 hI.1 hxo hmo rfl rfl (how2.1 xo 5 (by rw [hxo]; rfl)) hB
  have hA := (hA.post hal how2 rfl).pre hal how2 rfl
  have hE := lw_ES hp.2.1 (by decide) hxo hmo (fun z => z.1.elim (fun z => m_ne hxo (q_c30 hI.1 hmo) (by decide) z) (fun z => m_ne hxo (q_c31 hI.1 hmo) (by decide) z)) (fun z => z.1.elim (fun z => m_ne hxo (q_c30 hI.1 hmo) (by decide) z) (fun z => m_ne hxo (q_c31 hI.1 hmo) (by decide) z)) (fun z => z.1.elim (fun z => m_ne hmo (q_c30 hI.1 hmo) (by decide) z) (fun z => m_ne hmo (q_c31 hI.1 hmo) (by decide) z)) (fun z => z.1.elim (fun z => m_ne hmo (q_c30 hI.1 hmo) (by decide) z) (fun z => m_ne hmo (q_c31 hI.1 hmo) (by decide) z)) hE
  have hM := lw_up (lw_kS hp.2.1 hI.1 hmo (fun j z => z.1.elim (fun z => m_ne (q_c34 hI.1 hmo) (q_c30 hI.1 hmo) (by decide) z) (fun z => m_ne (q_c34 hI.1 hmo) (q_c31 hI.1 hmo) (by decide) z)) (fun z => z.1.elim (fun z => m_ne hmo (q_c30 hI.1 hmo) (by decide) z) (fun z => m_ne hmo (q_c31 hI.1 hmo) (by decide) z)) hM) (q_bd hI hmo (rfl : q_bn 12 24 = (0, 3))).2
  have hpp2 := hp
  clear hp hk
  clear h3
  refine lv_pop hx hb dL_law_342 rfl ?_
  refine lv_goto (tgt := 1796) hx hb dL_law_343 (by decide) ?_
  exact kk _ _ _ hI hM hE hB hA

set_option maxRecDepth 100000 in
set_option maxHeartbeats 4000000 in
theorem lw_c4 {p : Program} {l : Launch} {e : Env} {s : State} {m : MethodId} {below : List Frame} {meth : Method} {c : Code} {b L : Nat} {xs : Nat → Int32} {X : XW} {xo mo : Nat} {σ0 : ST} {cells slots : Nat} {Q : State → Prop} {lb : Nat → Nat} (hcl : tb_Cls X lb xo mo) (hal : al_C X lb xo mo) (E : q_E p c cL_law s m #[Value.ref b] RL X) (hX : va_X b L xs s s.heap) (hbl : b < s.heap.size) (hbA : ¬ q_reg X b) (hml : c.maxLocals = 4) (hxo : q_kd X xo = 11) (hmo : q_kd X mo = 12) (hcs : cells ≤ room_1.cells ∧ slots ≤ room_1.slots) (hL : L ≤ 3072) {i : Nat} (hi : i + 6 ≤ L) {n : Int} (hn : 0 ≤ n ∧ n ≤ 199000) {σ : ST} {H : Heap} {locs : List Loc} {ls : Array Slot} (hI : q_I X 0 σ0 s.heap locs σ H) (hM : m_M (m_c X σ mo) (σ.1 mo 24).toInt n) (hl : lv_has ls 4 [(3, .int (nI i)), (2, .ref mo), (1, .ref xo), (0, .ref b)]) (hE : lw_E xo mo σ) (hB : lw_B X xo mo σ) (hA : al_R X xo mo σ σ)
    (kk : ∀ (σ : ST) (H : Heap) (locs : List Loc), q_I X 0 σ0 s.heap locs σ H → m_M (m_c X σ mo) (σ.1 mo 24).toInt (n + 301) → lw_E xo mo σ → lw_B X xo mo σ → al_R X xo mo σ σ → W p l e room_1 s m #[Value.ref b] below meth c H locs cells slots Q (F0 m 1796 ls [])) : W p l e room_1 s m #[Value.ref b] below meth c H locs cells slots Q (F0 m 346 ls []) := by
  have hx := E.1
  have hb := E.2.1
  have hI0 := hI
  have hE0 := hE
  have hB0 := hB
  have hA0 := hA
  have hM0 := hM
  refine lv_aload_n hx hb dL_law_346 rfl (lv_at hl 2 rfl) ?_
  refine lv_aload_n hx hb dL_law_347 rfl (lv_at hl 3 rfl) ?_
  refine lv_iload_n hx hb dL_law_348 rfl (lv_at hl 0 rfl) ?_
  refine lv_iconst (v := 1) hx hb dL_law_349 (by decide) ?_
  refine lv_iadd hx hb dL_law_350 ?_
  refine va_sld hx hb hX hbl hbA hI.S (lw_in (j := 1) (by decide) (by omega) hL) dL_law_351 ?_
  refine lv_aload_n hx hb dL_law_352 rfl (lv_at hl 3 rfl) ?_
  refine lv_iload_n hx hb dL_law_353 rfl (lv_at hl 0 rfl) ?_
  refine lv_iconst (v := 2) hx hb dL_law_354 (by decide) ?_
  refine lv_iadd hx hb dL_law_355 ?_
  refine va_sld hx hb hX hbl hbA hI.S (lw_in (j := 2) (by decide) (by omega) hL) dL_law_356 ?_
  refine lv_aload_n hx hb dL_law_357 rfl (lv_at hl 3 rfl) ?_
  refine lv_iload_n hx hb dL_law_358 rfl (lv_at hl 0 rfl) ?_
  refine lv_iconst (v := 3) hx hb dL_law_359 (by decide) ?_
  refine lv_iadd hx hb dL_law_360 ?_
  refine va_sld hx hb hX hbl hbA hI.S (lw_in (j := 3) (by decide) (by omega) hL) dL_law_361 ?_
  refine lv_i2l hx hb dL_law_362 rfl ?_
  refine lv_bipush (v := 32) hx hb dL_law_363 (by decide) ?_
  refine lv_lshl hx hb dL_law_365 rfl ?_
  refine lv_aload_n hx hb dL_law_366 rfl (lv_at hl 3 rfl) ?_
  refine lv_iload_n hx hb dL_law_367 rfl (lv_at hl 0 rfl) ?_
  refine lv_iconst (v := 4) hx hb dL_law_368 (by decide) ?_
  refine lv_iadd hx hb dL_law_369 ?_
  refine va_sld hx hb hX hbl hbA hI.S (lw_in (j := 4) (by decide) (by omega) hL) dL_law_370 ?_
  refine lv_i2l hx hb dL_law_371 rfl ?_
  refine lv_ldc2 (v := (4294967295 : Int64)) hx hb E.2.2.1 (E.2.2.2.1 _ (q_in_t9 (i := 204) (by first | rfl | decide +kernel) rfl)) dL_law_372 ?_
  refine lv_land hx hb dL_law_375 ?_
  refine lv_lor hx hb dL_law_376 ?_
  have h3 := (q_bd hI hmo (rfl : q_bn 12 24 = (0, 3))).2
  refine q_ci (q_runV (As := [.int (xs (nI i + 1).toNatClampNeg), .int (xs (nI i + 2).toNatClampNeg), .long ((((xs (nI i + 3).toNatClampNeg)).toInt64 <<< ((32 : Int32).toInt64 &&& 63)) ||| (((xs (nI i + 4).toNatClampNeg)).toInt64 &&& (4294967295 : Int64)))]) (rest := []) E (hml.trans hl.1.symm) hI (c_X11_write l X σ xo ((xs (nI i + 1).toNatClampNeg)) ((xs (nI i + 2).toNatClampNeg)) (((((xs (nI i + 3).toNatClampNeg)).toInt64 <<< ((32 : Int32).toInt64 &&& 63)) ||| (((xs (nI i + 4).toNatClampNeg)).toInt64 &&& (4294967295 : Int64)))) hxo) kl_34 hxo ⟨rfl, by decide⟩ (show vwCl[10]? = some (RX11, TX11, 17) from rfl) rfl ⟨Nat.le_of_ble_eq_true rfl, Nat.le_of_ble_eq_true rfl⟩ hcs rfl (Nat.le_of_ble_eq_true rfl) dL_law_377) hI (by decide) (fun r1 σ1 H locs hp hk hI => ?_)
  obtain ⟨pq0, pq1, hex1, how1⟩ := hp
  have hp := And.intro pq0 pq1
  have hB := lw_BK how1 hI.1 hxo hmo rfl rfl (how1.1 xo 5 (by rw [hxo]; rfl)) hB
  have hA1 := hA0.pre hal how1 rfl
  have hA := (hA.post hal how1 rfl).pre hal how1 rfl
  have hE := lw_EK hk (by decide) hxo hmo hE
  have hM := lw_kM hk hI.1 hmo (by decide) hM
  have hpp1 := hp
  have hMc := hM
  clear hp hk
  clear h3
  refine lv_pop hx hb dL_law_380 rfl ?_
  refine lv_aload_n hx hb dL_law_381 rfl (lv_at hl 1 rfl) ?_
  refine lv_aload_n hx hb dL_law_382 rfl (lv_at hl 3 rfl) ?_
  refine lv_iload_n hx hb dL_law_383 rfl (lv_at hl 0 rfl) ?_
  refine lv_iconst (v := 1) hx hb dL_law_384 (by decide) ?_
  refine lv_iadd hx hb dL_law_385 ?_
  refine va_sld hx hb hX hbl hbA hI.S (lw_in (j := 1) (by decide) (by omega) hL) dL_law_386 ?_
  refine lv_aload_n hx hb dL_law_387 rfl (lv_at hl 3 rfl) ?_
  refine lv_iload_n hx hb dL_law_388 rfl (lv_at hl 0 rfl) ?_
  refine lv_iconst (v := 2) hx hb dL_law_389 (by decide) ?_
  refine lv_iadd hx hb dL_law_390 ?_
  refine va_sld hx hb hX hbl hbA hI.S (lw_in (j := 2) (by decide) (by omega) hL) dL_law_391 ?_
  refine lv_aload_n hx hb dL_law_392 rfl (lv_at hl 3 rfl) ?_
  refine lv_iload_n hx hb dL_law_393 rfl (lv_at hl 0 rfl) ?_
  refine lv_iconst (v := 3) hx hb dL_law_394 (by decide) ?_
  refine lv_iadd hx hb dL_law_395 ?_
  refine va_sld hx hb hX hbl hbA hI.S (lw_in (j := 3) (by decide) (by omega) hL) dL_law_396 ?_
  refine lv_i2l hx hb dL_law_397 rfl ?_
  refine lv_bipush (v := 32) hx hb dL_law_398 (by decide) ?_
  refine lv_lshl hx hb dL_law_400 rfl ?_
  refine lv_aload_n hx hb dL_law_401 rfl (lv_at hl 3 rfl) ?_
  refine lv_iload_n hx hb dL_law_402 rfl (lv_at hl 0 rfl) ?_
  refine lv_iconst (v := 4) hx hb dL_law_403 (by decide) ?_
  refine lv_iadd hx hb dL_law_404 ?_
  refine va_sld hx hb hX hbl hbA hI.S (lw_in (j := 4) (by decide) (by omega) hL) dL_law_405 ?_
  refine lv_i2l hx hb dL_law_406 rfl ?_
  refine lv_ldc2 (v := (4294967295 : Int64)) hx hb E.2.2.1 (E.2.2.2.1 _ (q_in_t9 (i := 204) (by first | rfl | decide +kernel) rfl)) dL_law_407 ?_
  refine lv_land hx hb dL_law_410 ?_
  refine lv_lor hx hb dL_law_411 ?_
  have h3 := (q_bd hI hmo (rfl : q_bn 12 24 = (0, 3))).2
  refine q_ci (q_runV (As := [.int (xs (nI i + 1).toNatClampNeg), .int (xs (nI i + 2).toNatClampNeg), .long ((((xs (nI i + 3).toNatClampNeg)).toInt64 <<< ((32 : Int32).toInt64 &&& 63)) ||| (((xs (nI i + 4).toNatClampNeg)).toInt64 &&& (4294967295 : Int64)))]) (rest := []) E (hml.trans hl.1.symm) hI (c_X12_write l X σ1 mo ((xs (nI i + 1).toNatClampNeg)) ((xs (nI i + 2).toNatClampNeg)) (((((xs (nI i + 3).toNatClampNeg)).toInt64 <<< ((32 : Int32).toInt64 &&& 63)) ||| (((xs (nI i + 4).toNatClampNeg)).toInt64 &&& (4294967295 : Int64)))) hmo) kl_38 hmo ⟨rfl, by decide⟩ (show vwCl[11]? = some (RX12, TX12, 46) from rfl) rfl ⟨Nat.le_of_ble_eq_true rfl, Nat.le_of_ble_eq_true rfl⟩ hcs rfl (Nat.le_of_ble_eq_true rfl) dL_law_412) hI (by decide) (fun r2 σ2 H locs hp hk hI => ?_)
  obtain ⟨pq0, pq1, hex2, how2⟩ := hp
  have hp := And.intro pq0 pq1
  have hB := lw_BK how2 hI.1 hxo hmo rfl rfl (how2.1 xo 5 (by rw [hxo]; rfl)) hB
  have hA := (hA.post hal how2 rfl).pre hal how2 rfl
  have hE := lw_EK hk (by decide) hxo hmo hE
  have hM := lw_up (lw_kM hk hI.1 hmo (by decide) hM) (q_bd hI hmo (rfl : q_bn 12 24 = (0, 3))).2
  have hpp2 := hp
  clear hp hk
  clear h3
  refine lv_pop hx hb dL_law_415 rfl ?_
  refine lv_goto (tgt := 1796) hx hb dL_law_416 (by decide) ?_
  exact kk _ _ _ hI hM hE hB hA

set_option maxRecDepth 100000 in
set_option maxHeartbeats 4000000 in
theorem lw_c5 {p : Program} {l : Launch} {e : Env} {s : State} {m : MethodId} {below : List Frame} {meth : Method} {c : Code} {b L : Nat} {xs : Nat → Int32} {X : XW} {xo mo : Nat} {σ0 : ST} {cells slots : Nat} {Q : State → Prop} {lb : Nat → Nat} (hcl : tb_Cls X lb xo mo) (hal : al_C X lb xo mo) (E : q_E p c cL_law s m #[Value.ref b] RL X) (hX : va_X b L xs s s.heap) (hbl : b < s.heap.size) (hbA : ¬ q_reg X b) (hml : c.maxLocals = 4) (hxo : q_kd X xo = 11) (hmo : q_kd X mo = 12) (hcs : cells ≤ room_1.cells ∧ slots ≤ room_1.slots) (hL : L ≤ 3072) {i : Nat} (hi : i + 6 ≤ L) {n : Int} (hn : 0 ≤ n ∧ n ≤ 199000) {σ : ST} {H : Heap} {locs : List Loc} {ls : Array Slot} (hI : q_I X 0 σ0 s.heap locs σ H) (hM : m_M (m_c X σ mo) (σ.1 mo 24).toInt n) (hl : lv_has ls 4 [(3, .int (nI i)), (2, .ref mo), (1, .ref xo), (0, .ref b)]) (hE : lw_E xo mo σ) (hB : lw_B X xo mo σ) (hA : al_R X xo mo σ σ)
    (kk : ∀ (σ : ST) (H : Heap) (locs : List Loc), q_I X 0 σ0 s.heap locs σ H → m_M (m_c X σ mo) (σ.1 mo 24).toInt (n + 301) → lw_E xo mo σ → lw_B X xo mo σ → al_R X xo mo σ σ → W p l e room_1 s m #[Value.ref b] below meth c H locs cells slots Q (F0 m 1796 ls [])) : W p l e room_1 s m #[Value.ref b] below meth c H locs cells slots Q (F0 m 419 ls []) := by
  have hx := E.1
  have hb := E.2.1
  have hI0 := hI
  have hE0 := hE
  have hB0 := hB
  have hA0 := hA
  have hM0 := hM
  refine lv_aload_n hx hb dL_law_419 rfl (lv_at hl 2 rfl) ?_
  refine lv_aload_n hx hb dL_law_420 rfl (lv_at hl 3 rfl) ?_
  refine lv_iload_n hx hb dL_law_421 rfl (lv_at hl 0 rfl) ?_
  refine lv_iconst (v := 1) hx hb dL_law_422 (by decide) ?_
  refine lv_iadd hx hb dL_law_423 ?_
  refine va_sld hx hb hX hbl hbA hI.S (lw_in (j := 1) (by decide) (by omega) hL) dL_law_424 ?_
  refine lv_aload_n hx hb dL_law_425 rfl (lv_at hl 3 rfl) ?_
  refine lv_iload_n hx hb dL_law_426 rfl (lv_at hl 0 rfl) ?_
  refine lv_iconst (v := 2) hx hb dL_law_427 (by decide) ?_
  refine lv_iadd hx hb dL_law_428 ?_
  refine va_sld hx hb hX hbl hbA hI.S (lw_in (j := 2) (by decide) (by omega) hL) dL_law_429 ?_
  have h3 := (q_bd hI hmo (rfl : q_bn 12 24 = (0, 3))).2
  refine q_cl_ (q_runV (As := [.int (xs (nI i + 1).toNatClampNeg), .int (xs (nI i + 2).toNatClampNeg)]) (rest := []) E (hml.trans hl.1.symm) hI (c_X11_read l X σ xo ((xs (nI i + 1).toNatClampNeg)) ((xs (nI i + 2).toNatClampNeg)) hxo) kl_39 hxo ⟨rfl, by decide⟩ (show vwCl[10]? = some (RX11, TX11, 17) from rfl) rfl ⟨Nat.le_of_ble_eq_true rfl, Nat.le_of_ble_eq_true rfl⟩ hcs rfl (Nat.le_of_ble_eq_true rfl) dL_law_430) hI (by decide) (fun r1 σ1 H locs hp hk hI => ?_)
  obtain ⟨hex1, how1⟩ := hp
  have hp := True.intro
  have hB := lw_BK how1 hI.1 hxo hmo rfl rfl (how1.1 xo 5 (by rw [hxo]; rfl)) hB
  have hA1 := hA0.pre hal how1 rfl
  have hA := (hA.post hal how1 rfl).pre hal how1 rfl
  have hE := lw_EK hk (by decide) hxo hmo hE
  have hM := lw_kM hk hI.1 hmo (by decide) hM
  have hpp1 := hp
  have hMc := hM
  clear hp hk
  clear h3
  refine lv_pop2_2 hx hb dL_law_433 rfl ?_
  refine lv_aload_n hx hb dL_law_434 rfl (lv_at hl 1 rfl) ?_
  refine lv_aload_n hx hb dL_law_435 rfl (lv_at hl 3 rfl) ?_
  refine lv_iload_n hx hb dL_law_436 rfl (lv_at hl 0 rfl) ?_
  refine lv_iconst (v := 1) hx hb dL_law_437 (by decide) ?_
  refine lv_iadd hx hb dL_law_438 ?_
  refine va_sld hx hb hX hbl hbA hI.S (lw_in (j := 1) (by decide) (by omega) hL) dL_law_439 ?_
  refine lv_aload_n hx hb dL_law_440 rfl (lv_at hl 3 rfl) ?_
  refine lv_iload_n hx hb dL_law_441 rfl (lv_at hl 0 rfl) ?_
  refine lv_iconst (v := 2) hx hb dL_law_442 (by decide) ?_
  refine lv_iadd hx hb dL_law_443 ?_
  refine va_sld hx hb hX hbl hbA hI.S (lw_in (j := 2) (by decide) (by omega) hL) dL_law_444 ?_
  have h3 := (q_bd hI hmo (rfl : q_bn 12 24 = (0, 3))).2
  refine q_cl_ (q_runV (As := [.int (xs (nI i + 1).toNatClampNeg), .int (xs (nI i + 2).toNatClampNeg)]) (rest := []) E (hml.trans hl.1.symm) hI (c_X12_read l X σ1 mo ((xs (nI i + 1).toNatClampNeg)) ((xs (nI i + 2).toNatClampNeg)) hmo) kl_43 hmo ⟨rfl, by decide⟩ (show vwCl[11]? = some (RX12, TX12, 46) from rfl) rfl ⟨Nat.le_of_ble_eq_true rfl, Nat.le_of_ble_eq_true rfl⟩ hcs rfl (Nat.le_of_ble_eq_true rfl) dL_law_445) hI (by decide) (fun r2 σ2 H locs hp hk hI => ?_)
  obtain ⟨hex2, how2⟩ := hp
  have hp := True.intro
  have hB := lw_BK how2 hI.1 hxo hmo rfl rfl (how2.1 xo 5 (by rw [hxo]; rfl)) hB
  have hA := (hA.post hal how2 rfl).pre hal how2 rfl
  have hE := lw_EK hk (by decide) hxo hmo hE
  have hM := lw_up (lw_kM hk hI.1 hmo (by decide) hM) (q_bd hI hmo (rfl : q_bn 12 24 = (0, 3))).2
  have hpp2 := hp
  clear hp hk
  clear h3
  refine lv_pop2_2 hx hb dL_law_448 rfl ?_
  refine lv_goto (tgt := 1796) hx hb dL_law_449 (by decide) ?_
  exact kk _ _ _ hI hM hE hB hA

set_option maxRecDepth 100000 in
set_option maxHeartbeats 4000000 in
theorem lw_c6 {p : Program} {l : Launch} {e : Env} {s : State} {m : MethodId} {below : List Frame} {meth : Method} {c : Code} {b L : Nat} {xs : Nat → Int32} {X : XW} {xo mo : Nat} {σ0 : ST} {cells slots : Nat} {Q : State → Prop} {lb : Nat → Nat} (hcl : tb_Cls X lb xo mo) (hal : al_C X lb xo mo) (E : q_E p c cL_law s m #[Value.ref b] RL X) (hX : va_X b L xs s s.heap) (hbl : b < s.heap.size) (hbA : ¬ q_reg X b) (hml : c.maxLocals = 4) (hxo : q_kd X xo = 11) (hmo : q_kd X mo = 12) (hcs : cells ≤ room_1.cells ∧ slots ≤ room_1.slots) (hL : L ≤ 3072) {i : Nat} (hi : i + 6 ≤ L) {n : Int} (hn : 0 ≤ n ∧ n ≤ 199000) {σ : ST} {H : Heap} {locs : List Loc} {ls : Array Slot} (hI : q_I X 0 σ0 s.heap locs σ H) (hM : m_M (m_c X σ mo) (σ.1 mo 24).toInt n) (hl : lv_has ls 4 [(3, .int (nI i)), (2, .ref mo), (1, .ref xo), (0, .ref b)]) (hE : lw_E xo mo σ) (hB : lw_B X xo mo σ) (hA : al_R X xo mo σ σ)
    (kk : ∀ (σ : ST) (H : Heap) (locs : List Loc), q_I X 0 σ0 s.heap locs σ H → m_M (m_c X σ mo) (σ.1 mo 24).toInt (n + 301) → lw_E xo mo σ → lw_B X xo mo σ → al_R X xo mo σ σ → W p l e room_1 s m #[Value.ref b] below meth c H locs cells slots Q (F0 m 1796 ls [])) : W p l e room_1 s m #[Value.ref b] below meth c H locs cells slots Q (F0 m 452 ls []) := by
  have hx := E.1
  have hb := E.2.1
  have hI0 := hI
  have hE0 := hE
  have hB0 := hB
  have hA0 := hA
  have hM0 := hM
  refine lv_aload_n hx hb dL_law_452 rfl (lv_at hl 2 rfl) ?_
  refine lv_aload_n hx hb dL_law_453 rfl (lv_at hl 3 rfl) ?_
  refine lv_iload_n hx hb dL_law_454 rfl (lv_at hl 0 rfl) ?_
  refine lv_iconst (v := 1) hx hb dL_law_455 (by decide) ?_
  refine lv_iadd hx hb dL_law_456 ?_
  refine va_sld hx hb hX hbl hbA hI.S (lw_in (j := 1) (by decide) (by omega) hL) dL_law_457 ?_
  refine lv_aload_n hx hb dL_law_458 rfl (lv_at hl 3 rfl) ?_
  refine lv_iload_n hx hb dL_law_459 rfl (lv_at hl 0 rfl) ?_
  refine lv_iconst (v := 2) hx hb dL_law_460 (by decide) ?_
  refine lv_iadd hx hb dL_law_461 ?_
  refine va_sld hx hb hX hbl hbA hI.S (lw_in (j := 2) (by decide) (by omega) hL) dL_law_462 ?_
  refine lv_aload_n hx hb dL_law_463 rfl (lv_at hl 3 rfl) ?_
  refine lv_iload_n hx hb dL_law_464 rfl (lv_at hl 0 rfl) ?_
  refine lv_iconst (v := 3) hx hb dL_law_465 (by decide) ?_
  refine lv_iadd hx hb dL_law_466 ?_
  refine va_sld hx hb hX hbl hbA hI.S (lw_in (j := 3) (by decide) (by omega) hL) dL_law_467 ?_
  refine lv_aload_n hx hb dL_law_468 rfl (lv_at hl 3 rfl) ?_
  refine lv_iload_n hx hb dL_law_469 rfl (lv_at hl 0 rfl) ?_
  refine lv_iconst (v := 4) hx hb dL_law_470 (by decide) ?_
  refine lv_iadd hx hb dL_law_471 ?_
  refine va_sld hx hb hX hbl hbA hI.S (lw_in (j := 4) (by decide) (by omega) hL) dL_law_472 ?_
  refine lv_aload_n hx hb dL_law_473 rfl (lv_at hl 3 rfl) ?_
  refine lv_iload_n hx hb dL_law_474 rfl (lv_at hl 0 rfl) ?_
  refine lv_iconst (v := 5) hx hb dL_law_475 (by decide) ?_
  refine lv_iadd hx hb dL_law_476 ?_
  refine va_sld hx hb hX hbl hbA hI.S (lw_in (j := 5) (by decide) (by omega) hL) dL_law_477 ?_
  have h3 := (q_bd hI hmo (rfl : q_bn 12 24 = (0, 3))).2
  refine q_ci (q_runV (As := [.int (xs (nI i + 1).toNatClampNeg), .int (xs (nI i + 2).toNatClampNeg), .int (xs (nI i + 3).toNatClampNeg), .int (xs (nI i + 4).toNatClampNeg), .int (xs (nI i + 5).toNatClampNeg)]) (rest := []) E (hml.trans hl.1.symm) hI (c_X11_pour l X σ xo ((xs (nI i + 1).toNatClampNeg)) ((xs (nI i + 2).toNatClampNeg)) ((xs (nI i + 3).toNatClampNeg)) ((xs (nI i + 4).toNatClampNeg)) ((xs (nI i + 5).toNatClampNeg)) hxo) kl_44 hxo ⟨rfl, by decide⟩ (show vwCl[10]? = some (RX11, TX11, 17) from rfl) rfl ⟨Nat.le_of_ble_eq_true rfl, Nat.le_of_ble_eq_true rfl⟩ hcs rfl (Nat.le_of_ble_eq_true rfl) dL_law_478) hI (by decide) (fun r1 σ1 H locs hp hk hI => ?_)
  obtain ⟨pq0, pq1, hex1, how1⟩ := hp
  have hp := And.intro pq0 pq1
  have hB := lw_BK how1 hI.1 hxo hmo rfl rfl (how1.1 xo 5 (by rw [hxo]; rfl)) hB
  have hA1 := hA0.pre hal how1 rfl
  have hA := (hA.post hal how1 rfl).pre hal how1 rfl
  have hE := lw_EK hk (by decide) hxo hmo hE
  have hM := lw_kM hk hI.1 hmo (by decide) hM
  have hpp1 := hp
  have hMc := hM
  clear hp hk
  clear h3
  refine lv_pop hx hb dL_law_481 rfl ?_
  refine lv_aload_n hx hb dL_law_482 rfl (lv_at hl 1 rfl) ?_
  refine lv_aload_n hx hb dL_law_483 rfl (lv_at hl 3 rfl) ?_
  refine lv_iload_n hx hb dL_law_484 rfl (lv_at hl 0 rfl) ?_
  refine lv_iconst (v := 1) hx hb dL_law_485 (by decide) ?_
  refine lv_iadd hx hb dL_law_486 ?_
  refine va_sld hx hb hX hbl hbA hI.S (lw_in (j := 1) (by decide) (by omega) hL) dL_law_487 ?_
  refine lv_aload_n hx hb dL_law_488 rfl (lv_at hl 3 rfl) ?_
  refine lv_iload_n hx hb dL_law_489 rfl (lv_at hl 0 rfl) ?_
  refine lv_iconst (v := 2) hx hb dL_law_490 (by decide) ?_
  refine lv_iadd hx hb dL_law_491 ?_
  refine va_sld hx hb hX hbl hbA hI.S (lw_in (j := 2) (by decide) (by omega) hL) dL_law_492 ?_
  refine lv_aload_n hx hb dL_law_493 rfl (lv_at hl 3 rfl) ?_
  refine lv_iload_n hx hb dL_law_494 rfl (lv_at hl 0 rfl) ?_
  refine lv_iconst (v := 3) hx hb dL_law_495 (by decide) ?_
  refine lv_iadd hx hb dL_law_496 ?_
  refine va_sld hx hb hX hbl hbA hI.S (lw_in (j := 3) (by decide) (by omega) hL) dL_law_497 ?_
  refine lv_aload_n hx hb dL_law_498 rfl (lv_at hl 3 rfl) ?_
  refine lv_iload_n hx hb dL_law_499 rfl (lv_at hl 0 rfl) ?_
  refine lv_iconst (v := 4) hx hb dL_law_500 (by decide) ?_
  refine lv_iadd hx hb dL_law_501 ?_
  refine va_sld hx hb hX hbl hbA hI.S (lw_in (j := 4) (by decide) (by omega) hL) dL_law_502 ?_
  refine lv_aload_n hx hb dL_law_503 rfl (lv_at hl 3 rfl) ?_
  refine lv_iload_n hx hb dL_law_504 rfl (lv_at hl 0 rfl) ?_
  refine lv_iconst (v := 5) hx hb dL_law_505 (by decide) ?_
  refine lv_iadd hx hb dL_law_506 ?_
  refine va_sld hx hb hX hbl hbA hI.S (lw_in (j := 5) (by decide) (by omega) hL) dL_law_507 ?_
  have h3 := (q_bd hI hmo (rfl : q_bn 12 24 = (0, 3))).2
  refine q_ci (q_runV (As := [.int (xs (nI i + 1).toNatClampNeg), .int (xs (nI i + 2).toNatClampNeg), .int (xs (nI i + 3).toNatClampNeg), .int (xs (nI i + 4).toNatClampNeg), .int (xs (nI i + 5).toNatClampNeg)]) (rest := []) E (hml.trans hl.1.symm) hI (c_X12_pour l X σ1 mo ((xs (nI i + 1).toNatClampNeg)) ((xs (nI i + 2).toNatClampNeg)) ((xs (nI i + 3).toNatClampNeg)) ((xs (nI i + 4).toNatClampNeg)) ((xs (nI i + 5).toNatClampNeg)) hmo) kl_48 hmo ⟨rfl, by decide⟩ (show vwCl[11]? = some (RX12, TX12, 46) from rfl) rfl ⟨Nat.le_of_ble_eq_true rfl, Nat.le_of_ble_eq_true rfl⟩ hcs rfl (Nat.le_of_ble_eq_true rfl) dL_law_508) hI (by decide) (fun r2 σ2 H locs hp hk hI => ?_)
  obtain ⟨pq0, pq1, hex2, how2⟩ := hp
  have hp := And.intro pq0 pq1
  have hB := lw_BK how2 hI.1 hxo hmo rfl rfl (how2.1 xo 5 (by rw [hxo]; rfl)) hB
  have hA := (hA.post hal how2 rfl).pre hal how2 rfl
  have hE := lw_EK hk (by decide) hxo hmo hE
  have hM := lw_up (lw_kM hk hI.1 hmo (by decide) hM) (q_bd hI hmo (rfl : q_bn 12 24 = (0, 3))).2
  have hpp2 := hp
  clear hp hk
  clear h3
  refine lv_pop hx hb dL_law_511 rfl ?_
  refine lv_goto (tgt := 1796) hx hb dL_law_512 (by decide) ?_
  exact kk _ _ _ hI hM hE hB hA

set_option maxRecDepth 100000 in
set_option maxHeartbeats 4000000 in
theorem lw_c7 {p : Program} {l : Launch} {e : Env} {s : State} {m : MethodId} {below : List Frame} {meth : Method} {c : Code} {b L : Nat} {xs : Nat → Int32} {X : XW} {xo mo : Nat} {σ0 : ST} {cells slots : Nat} {Q : State → Prop} {lb : Nat → Nat} (hcl : tb_Cls X lb xo mo) (hal : al_C X lb xo mo) (E : q_E p c cL_law s m #[Value.ref b] RL X) (hX : va_X b L xs s s.heap) (hbl : b < s.heap.size) (hbA : ¬ q_reg X b) (hml : c.maxLocals = 4) (hxo : q_kd X xo = 11) (hmo : q_kd X mo = 12) (hcs : cells ≤ room_1.cells ∧ slots ≤ room_1.slots) (hL : L ≤ 3072) {i : Nat} (hi : i + 6 ≤ L) {n : Int} (hn : 0 ≤ n ∧ n ≤ 199000) {σ : ST} {H : Heap} {locs : List Loc} {ls : Array Slot} (hI : q_I X 0 σ0 s.heap locs σ H) (hM : m_M (m_c X σ mo) (σ.1 mo 24).toInt n) (hl : lv_has ls 4 [(3, .int (nI i)), (2, .ref mo), (1, .ref xo), (0, .ref b)]) (hE : lw_E xo mo σ) (hB : lw_B X xo mo σ) (hA : al_R X xo mo σ σ)
    (kk : ∀ (σ : ST) (H : Heap) (locs : List Loc), q_I X 0 σ0 s.heap locs σ H → m_M (m_c X σ mo) (σ.1 mo 24).toInt (n + 301) → lw_E xo mo σ → lw_B X xo mo σ → al_R X xo mo σ σ → W p l e room_1 s m #[Value.ref b] below meth c H locs cells slots Q (F0 m 1796 ls [])) : W p l e room_1 s m #[Value.ref b] below meth c H locs cells slots Q (F0 m 515 ls []) := by
  have hx := E.1
  have hb := E.2.1
  have hI0 := hI
  have hE0 := hE
  have hB0 := hB
  have hA0 := hA
  have hM0 := hM
  refine lv_aload_n hx hb dL_law_515 rfl (lv_at hl 2 rfl) ?_
  refine lv_aload_n hx hb dL_law_516 rfl (lv_at hl 3 rfl) ?_
  refine lv_iload_n hx hb dL_law_517 rfl (lv_at hl 0 rfl) ?_
  refine lv_iconst (v := 1) hx hb dL_law_518 (by decide) ?_
  refine lv_iadd hx hb dL_law_519 ?_
  refine va_sld hx hb hX hbl hbA hI.S (lw_in (j := 1) (by decide) (by omega) hL) dL_law_520 ?_
  refine lv_aload_n hx hb dL_law_521 rfl (lv_at hl 3 rfl) ?_
  refine lv_iload_n hx hb dL_law_522 rfl (lv_at hl 0 rfl) ?_
  refine lv_iconst (v := 2) hx hb dL_law_523 (by decide) ?_
  refine lv_iadd hx hb dL_law_524 ?_
  refine va_sld hx hb hX hbl hbA hI.S (lw_in (j := 2) (by decide) (by omega) hL) dL_law_525 ?_
  refine lv_aload_n hx hb dL_law_526 rfl (lv_at hl 3 rfl) ?_
  refine lv_iload_n hx hb dL_law_527 rfl (lv_at hl 0 rfl) ?_
  refine lv_iconst (v := 3) hx hb dL_law_528 (by decide) ?_
  refine lv_iadd hx hb dL_law_529 ?_
  refine va_sld hx hb hX hbl hbA hI.S (lw_in (j := 3) (by decide) (by omega) hL) dL_law_530 ?_
  refine lv_aload_n hx hb dL_law_531 rfl (lv_at hl 3 rfl) ?_
  refine lv_iload_n hx hb dL_law_532 rfl (lv_at hl 0 rfl) ?_
  refine lv_iconst (v := 4) hx hb dL_law_533 (by decide) ?_
  refine lv_iadd hx hb dL_law_534 ?_
  refine va_sld hx hb hX hbl hbA hI.S (lw_in (j := 4) (by decide) (by omega) hL) dL_law_535 ?_
  refine lv_aload_n hx hb dL_law_536 rfl (lv_at hl 3 rfl) ?_
  refine lv_iload_n hx hb dL_law_537 rfl (lv_at hl 0 rfl) ?_
  refine lv_iconst (v := 5) hx hb dL_law_538 (by decide) ?_
  refine lv_iadd hx hb dL_law_539 ?_
  refine va_sld hx hb hX hbl hbA hI.S (lw_in (j := 5) (by decide) (by omega) hL) dL_law_540 ?_
  have h3 := (q_bd hI hmo (rfl : q_bn 12 24 = (0, 3))).2
  refine q_ci (q_runV (As := [.int (xs (nI i + 1).toNatClampNeg), .int (xs (nI i + 2).toNatClampNeg), .int (xs (nI i + 3).toNatClampNeg), .int (xs (nI i + 4).toNatClampNeg), .int (xs (nI i + 5).toNatClampNeg)]) (rest := []) E (hml.trans hl.1.symm) hI (c_X11_feed l X σ xo ((xs (nI i + 1).toNatClampNeg)) ((xs (nI i + 2).toNatClampNeg)) ((xs (nI i + 3).toNatClampNeg)) ((xs (nI i + 4).toNatClampNeg)) ((xs (nI i + 5).toNatClampNeg)) hxo) kl_49 hxo ⟨rfl, by decide⟩ (show vwCl[10]? = some (RX11, TX11, 17) from rfl) rfl ⟨Nat.le_of_ble_eq_true rfl, Nat.le_of_ble_eq_true rfl⟩ hcs rfl (Nat.le_of_ble_eq_true rfl) dL_law_541) hI (by decide) (fun r1 σ1 H locs hp hk hI => ?_)
  obtain ⟨pq0, pq1, pq2, hex1, how1⟩ := hp
  have hp := And.intro pq0 (And.intro pq1 pq2)
  have hA1 := hA0.pre hal how1 rfl
  have hA := (hA.post hal how1 rfl).pre hal how1 rfl
  have hM := lw_kS hp.1 hI.1 hmo (fun j z => m_ne (q_c34 hI.1 hmo) hxo (by decide) z.1) (fun z => m_ne hmo hxo (by decide) z.1) hM
  have hpp1 := hp
  have hMc := hM
  clear hp hk
  clear h3
  refine lv_pop hx hb dL_law_544 rfl ?_
  refine lv_aload_n hx hb dL_law_545 rfl (lv_at hl 1 rfl) ?_
  refine lv_aload_n hx hb dL_law_546 rfl (lv_at hl 3 rfl) ?_
  refine lv_iload_n hx hb dL_law_547 rfl (lv_at hl 0 rfl) ?_
  refine lv_iconst (v := 1) hx hb dL_law_548 (by decide) ?_
  refine lv_iadd hx hb dL_law_549 ?_
  refine va_sld hx hb hX hbl hbA hI.S (lw_in (j := 1) (by decide) (by omega) hL) dL_law_550 ?_
  refine lv_aload_n hx hb dL_law_551 rfl (lv_at hl 3 rfl) ?_
  refine lv_iload_n hx hb dL_law_552 rfl (lv_at hl 0 rfl) ?_
  refine lv_iconst (v := 2) hx hb dL_law_553 (by decide) ?_
  refine lv_iadd hx hb dL_law_554 ?_
  refine va_sld hx hb hX hbl hbA hI.S (lw_in (j := 2) (by decide) (by omega) hL) dL_law_555 ?_
  refine lv_aload_n hx hb dL_law_556 rfl (lv_at hl 3 rfl) ?_
  refine lv_iload_n hx hb dL_law_557 rfl (lv_at hl 0 rfl) ?_
  refine lv_iconst (v := 3) hx hb dL_law_558 (by decide) ?_
  refine lv_iadd hx hb dL_law_559 ?_
  refine va_sld hx hb hX hbl hbA hI.S (lw_in (j := 3) (by decide) (by omega) hL) dL_law_560 ?_
  refine lv_aload_n hx hb dL_law_561 rfl (lv_at hl 3 rfl) ?_
  refine lv_iload_n hx hb dL_law_562 rfl (lv_at hl 0 rfl) ?_
  refine lv_iconst (v := 4) hx hb dL_law_563 (by decide) ?_
  refine lv_iadd hx hb dL_law_564 ?_
  refine va_sld hx hb hX hbl hbA hI.S (lw_in (j := 4) (by decide) (by omega) hL) dL_law_565 ?_
  refine lv_aload_n hx hb dL_law_566 rfl (lv_at hl 3 rfl) ?_
  refine lv_iload_n hx hb dL_law_567 rfl (lv_at hl 0 rfl) ?_
  refine lv_iconst (v := 5) hx hb dL_law_568 (by decide) ?_
  refine lv_iadd hx hb dL_law_569 ?_
  refine va_sld hx hb hX hbl hbA hI.S (lw_in (j := 5) (by decide) (by omega) hL) dL_law_570 ?_
  have h3 := (q_bd hI hmo (rfl : q_bn 12 24 = (0, 3))).2
  refine q_ci (q_runV (As := [.int (xs (nI i + 1).toNatClampNeg), .int (xs (nI i + 2).toNatClampNeg), .int (xs (nI i + 3).toNatClampNeg), .int (xs (nI i + 4).toNatClampNeg), .int (xs (nI i + 5).toNatClampNeg)]) (rest := []) E (hml.trans hl.1.symm) hI (c_X12_feed l X σ1 mo ((xs (nI i + 1).toNatClampNeg)) ((xs (nI i + 2).toNatClampNeg)) ((xs (nI i + 3).toNatClampNeg)) ((xs (nI i + 4).toNatClampNeg)) ((xs (nI i + 5).toNatClampNeg)) hmo) kl_53 hmo ⟨rfl, by decide⟩ (show vwCl[11]? = some (RX12, TX12, 46) from rfl) rfl ⟨Nat.le_of_ble_eq_true rfl, Nat.le_of_ble_eq_true rfl⟩ hcs rfl (Nat.le_of_ble_eq_true rfl) dL_law_571) hI (by decide) (fun r2 σ2 H locs hp hk hI => ?_)
  obtain ⟨pq0, pq1, pq2, hex2, how2⟩ := hp
  have hp := And.intro pq0 (And.intro pq1 pq2)
  have hBF := lw_Bfeed hex1 hex2 how1 how2 hI.1 hxo hmo rfl rfl rfl rfl hE0.2 (q_bd hI0 hxo (rfl : q_bn 11 5 = (0, 900))) hB0
  have hB := hBF.2
  have hA := (hA.post hal how2 rfl).pre hal how2 rfl
  have hF := lw_Efeed hxo hmo hE hpp1.1 hpp1.2.1 hpp1.2.2 hp.1 hp.2.1 hp.2.2
  have hE := hF.1
  have hM := lw_up (lw_kS hp.1 hI.1 hmo (fun j z => m_ne (q_c34 hI.1 hmo) hmo (by decide) z.1) (fun z => absurd z.2 (by decide)) hM) (q_bd hI hmo (rfl : q_bn 12 24 = (0, 3))).2
  have hpp2 := hp
  clear hp hk
  clear h3
  refine lv_pop hx hb dL_law_574 rfl ?_
  refine lv_goto (tgt := 1796) hx hb dL_law_575 (by decide) ?_
  exact kk _ _ _ hI hM hE hB hA

set_option maxRecDepth 100000 in
set_option maxHeartbeats 4000000 in
theorem lw_c8 {p : Program} {l : Launch} {e : Env} {s : State} {m : MethodId} {below : List Frame} {meth : Method} {c : Code} {b L : Nat} {xs : Nat → Int32} {X : XW} {xo mo : Nat} {σ0 : ST} {cells slots : Nat} {Q : State → Prop} {lb : Nat → Nat} (hcl : tb_Cls X lb xo mo) (hal : al_C X lb xo mo) (E : q_E p c cL_law s m #[Value.ref b] RL X) (hX : va_X b L xs s s.heap) (hbl : b < s.heap.size) (hbA : ¬ q_reg X b) (hml : c.maxLocals = 4) (hxo : q_kd X xo = 11) (hmo : q_kd X mo = 12) (hcs : cells ≤ room_1.cells ∧ slots ≤ room_1.slots) (hL : L ≤ 3072) {i : Nat} (hi : i + 6 ≤ L) {n : Int} (hn : 0 ≤ n ∧ n ≤ 199000) {σ : ST} {H : Heap} {locs : List Loc} {ls : Array Slot} (hI : q_I X 0 σ0 s.heap locs σ H) (hM : m_M (m_c X σ mo) (σ.1 mo 24).toInt n) (hl : lv_has ls 4 [(3, .int (nI i)), (2, .ref mo), (1, .ref xo), (0, .ref b)]) (hE : lw_E xo mo σ) (hB : lw_B X xo mo σ) (hA : al_R X xo mo σ σ)
    (kk : ∀ (σ : ST) (H : Heap) (locs : List Loc), q_I X 0 σ0 s.heap locs σ H → m_M (m_c X σ mo) (σ.1 mo 24).toInt (n + 301) → lw_E xo mo σ → lw_B X xo mo σ → al_R X xo mo σ σ → W p l e room_1 s m #[Value.ref b] below meth c H locs cells slots Q (F0 m 1796 ls [])) : W p l e room_1 s m #[Value.ref b] below meth c H locs cells slots Q (F0 m 578 ls []) := by
  have hx := E.1
  have hb := E.2.1
  have hI0 := hI
  have hE0 := hE
  have hB0 := hB
  have hA0 := hA
  have hM0 := hM
  refine lv_aload_n hx hb dL_law_578 rfl (lv_at hl 2 rfl) ?_
  refine lv_aload_n hx hb dL_law_579 rfl (lv_at hl 3 rfl) ?_
  refine lv_iload_n hx hb dL_law_580 rfl (lv_at hl 0 rfl) ?_
  refine lv_iconst (v := 1) hx hb dL_law_581 (by decide) ?_
  refine lv_iadd hx hb dL_law_582 ?_
  refine va_sld hx hb hX hbl hbA hI.S (lw_in (j := 1) (by decide) (by omega) hL) dL_law_583 ?_
  have h3 := (q_bd hI hmo (rfl : q_bn 12 24 = (0, 3))).2
  refine q_ci (q_runV (As := [.int (xs (nI i + 1).toNatClampNeg)]) (rest := []) E (hml.trans hl.1.symm) hI (c_X11_table l X σ xo ((xs (nI i + 1).toNatClampNeg)) hxo) kl_54 hxo ⟨rfl, by decide⟩ (show vwCl[10]? = some (RX11, TX11, 17) from rfl) rfl ⟨Nat.le_of_ble_eq_true rfl, Nat.le_of_ble_eq_true rfl⟩ hcs rfl (Nat.le_of_ble_eq_true rfl) dL_law_584) hI (by decide) (fun r1 σ1 H locs hp hk hI => ?_)
  obtain ⟨pq0, pq1, pq2, hex1, how1⟩ := hp
  have hp := And.intro pq0 (And.intro pq1 pq2)
  have hA1 := hA0.pre hal how1 rfl
  have hM := lw_kS hp.1 hI.1 hmo (fun j z => m_ne (q_c34 hI.1 hmo) hxo (by decide) z.1) (fun z => m_ne hmo hxo (by decide) z.1) hM
  have hpp1 := hp
  have hMc := hM
  clear hp hk
  clear h3
  refine lv_pop hx hb dL_law_587 rfl ?_
  refine lv_aload_n hx hb dL_law_588 rfl (lv_at hl 1 rfl) ?_
  refine lv_aload_n hx hb dL_law_589 rfl (lv_at hl 3 rfl) ?_
  refine lv_iload_n hx hb dL_law_590 rfl (lv_at hl 0 rfl) ?_
  refine lv_iconst (v := 1) hx hb dL_law_591 (by decide) ?_
  refine lv_iadd hx hb dL_law_592 ?_
  refine va_sld hx hb hX hbl hbA hI.S (lw_in (j := 1) (by decide) (by omega) hL) dL_law_593 ?_
  have h3 := (q_bd hI hmo (rfl : q_bn 12 24 = (0, 3))).2
  refine q_ci (q_runV (As := [.int (xs (nI i + 1).toNatClampNeg)]) (rest := []) E (hml.trans hl.1.symm) hI (c_X12_table l X σ1 mo ((xs (nI i + 1).toNatClampNeg)) n hmo hM.1.1 hM.1.2 hn.1) kl_58 hmo ⟨rfl, by decide⟩ (show vwCl[11]? = some (RX12, TX12, 46) from rfl) rfl ⟨Nat.le_of_ble_eq_true rfl, Nat.le_of_ble_eq_true rfl⟩ hcs rfl (Nat.le_of_ble_eq_true rfl) dL_law_594) hI (by decide) (fun r2 σ2 H locs hp hk hI => ?_)
  obtain ⟨pq0, pq1, pq2, pq3, pq4, pq5, hex2, how2⟩ := hp
  have hp := And.intro pq0 (And.intro pq1 (And.intro pq2 (And.intro pq3 (And.intro pq4 pq5))))
  have hB := lw_B2 how1 how2 hI.1 hxo hmo rfl rfl rfl rfl (lw_h5t hpp1.2.1 hpp1.2.2 (how2.1 xo 5 (by rw [hxo]; rfl))) hB
  have hO := lw_Atable hcl hal hA1 hMc hex1 hex2 how1 how2 hI.1 hxo hmo rfl rfl rfl hE0.2 (q_bd hI0 hxo (rfl : q_bn 11 5 = (0, 900))) hB0 (hp.2.1) rfl rfl rfl
  have hA := hO.2.1
  have hF := lw_Etable hxo hmo hE hpp1.1 hpp1.2.1 hpp1.2.2 hp.1 hp.2.2.2.2.1 hp.2.2.2.2.2
  have hE := hF.1
  have hM := lw_wr (hp.1 mo 24 (by rw [hmo]; decide) (fun z => by omega)) hp.2.1 (m_W.le hp.2.2.1 (show n ≤ n + 301 by omega)) hp.2.2.2.1 hM h3 (by omega)
  have hpp2 := hp
  clear hp hk
  clear h3
  refine lv_pop hx hb dL_law_597 rfl ?_
  refine lv_goto (tgt := 1796) hx hb dL_law_598 (by decide) ?_
  exact kk _ _ _ hI hM hE hB hA

set_option maxRecDepth 100000 in
set_option maxHeartbeats 4000000 in
theorem lw_c9 {p : Program} {l : Launch} {e : Env} {s : State} {m : MethodId} {below : List Frame} {meth : Method} {c : Code} {b L : Nat} {xs : Nat → Int32} {X : XW} {xo mo : Nat} {σ0 : ST} {cells slots : Nat} {Q : State → Prop} {lb : Nat → Nat} (hcl : tb_Cls X lb xo mo) (hal : al_C X lb xo mo) (E : q_E p c cL_law s m #[Value.ref b] RL X) (hX : va_X b L xs s s.heap) (hbl : b < s.heap.size) (hbA : ¬ q_reg X b) (hml : c.maxLocals = 4) (hxo : q_kd X xo = 11) (hmo : q_kd X mo = 12) (hcs : cells ≤ room_1.cells ∧ slots ≤ room_1.slots) (hL : L ≤ 3072) {i : Nat} (hi : i + 6 ≤ L) {n : Int} (hn : 0 ≤ n ∧ n ≤ 199000) {σ : ST} {H : Heap} {locs : List Loc} {ls : Array Slot} (hI : q_I X 0 σ0 s.heap locs σ H) (hM : m_M (m_c X σ mo) (σ.1 mo 24).toInt n) (hl : lv_has ls 4 [(3, .int (nI i)), (2, .ref mo), (1, .ref xo), (0, .ref b)]) (hE : lw_E xo mo σ) (hB : lw_B X xo mo σ) (hA : al_R X xo mo σ σ)
    (kk : ∀ (σ : ST) (H : Heap) (locs : List Loc), q_I X 0 σ0 s.heap locs σ H → m_M (m_c X σ mo) (σ.1 mo 24).toInt (n + 301) → lw_E xo mo σ → lw_B X xo mo σ → al_R X xo mo σ σ → W p l e room_1 s m #[Value.ref b] below meth c H locs cells slots Q (F0 m 1796 ls [])) : W p l e room_1 s m #[Value.ref b] below meth c H locs cells slots Q (F0 m 601 ls []) := by
  have hx := E.1
  have hb := E.2.1
  have hI0 := hI
  have hE0 := hE
  have hB0 := hB
  have hA0 := hA
  have hM0 := hM
  refine lv_aload_n hx hb dL_law_601 rfl (lv_at hl 2 rfl) ?_
  refine lv_aload_n hx hb dL_law_602 rfl (lv_at hl 3 rfl) ?_
  refine lv_iload_n hx hb dL_law_603 rfl (lv_at hl 0 rfl) ?_
  refine lv_iconst (v := 1) hx hb dL_law_604 (by decide) ?_
  refine lv_iadd hx hb dL_law_605 ?_
  refine va_sld hx hb hX hbl hbA hI.S (lw_in (j := 1) (by decide) (by omega) hL) dL_law_606 ?_
  have h3 := (q_bd hI hmo (rfl : q_bn 12 24 = (0, 3))).2
  refine q_ci (q_runV (As := [.int (xs (nI i + 1).toNatClampNeg)]) (rest := []) E (hml.trans hl.1.symm) hI (c_X11_round l X σ xo ((xs (nI i + 1).toNatClampNeg)) hxo) kl_59 hxo ⟨rfl, by decide⟩ (show vwCl[10]? = some (RX11, TX11, 17) from rfl) rfl ⟨Nat.le_of_ble_eq_true rfl, Nat.le_of_ble_eq_true rfl⟩ hcs rfl (Nat.le_of_ble_eq_true rfl) dL_law_607) hI (by decide) (fun r1 σ1 H locs hp hk hI => ?_)
  obtain ⟨pq0, pq1, pq2, hex1, how1⟩ := hp
  have hp := And.intro pq0 (And.intro pq1 pq2)
  have hA1 := hA0.pre hal how1 rfl
  have hM := lw_kS hp.1 hI.1 hmo (fun j z => m_ne (q_c34 hI.1 hmo) hxo (by decide) z.1) (fun z => m_ne hmo hxo (by decide) z.1) hM
  have hpp1 := hp
  have hMc := hM
  clear hp hk
  clear h3
  refine lv_pop hx hb dL_law_610 rfl ?_
  refine lv_aload_n hx hb dL_law_611 rfl (lv_at hl 1 rfl) ?_
  refine lv_aload_n hx hb dL_law_612 rfl (lv_at hl 3 rfl) ?_
  refine lv_iload_n hx hb dL_law_613 rfl (lv_at hl 0 rfl) ?_
  refine lv_iconst (v := 1) hx hb dL_law_614 (by decide) ?_
  refine lv_iadd hx hb dL_law_615 ?_
  refine va_sld hx hb hX hbl hbA hI.S (lw_in (j := 1) (by decide) (by omega) hL) dL_law_616 ?_
  have h3 := (q_bd hI hmo (rfl : q_bn 12 24 = (0, 3))).2
  refine q_ci (q_runV (As := [.int (xs (nI i + 1).toNatClampNeg)]) (rest := []) E (hml.trans hl.1.symm) hI (c_X12_round l X σ1 mo ((xs (nI i + 1).toNatClampNeg)) n hmo hM.1.1 hM.1.2 hn.1) kl_62 hmo ⟨rfl, by decide⟩ (show vwCl[11]? = some (RX12, TX12, 46) from rfl) rfl ⟨Nat.le_of_ble_eq_true rfl, Nat.le_of_ble_eq_true rfl⟩ hcs rfl (Nat.le_of_ble_eq_true rfl) dL_law_617) hI (by decide) (fun r2 σ2 H locs hp hk hI => ?_)
  obtain ⟨pq0, pq1, pq2, pq3, pq4, pq5, hex2, how2⟩ := hp
  have hp := And.intro pq0 (And.intro pq1 (And.intro pq2 (And.intro pq3 (And.intro pq4 pq5))))
  have hB := lw_B2 how1 how2 hI.1 hxo hmo rfl rfl rfl rfl (lw_h5r hpp1.2.1 hpp1.2.2 (how2.1 xo 5 (by rw [hxo]; rfl))) hB
  have hO := lw_Around hcl hal hA1 hMc hex1 hex2 how1 how2 hI.1 hxo hmo rfl rfl rfl hE0.2 (q_bd hI0 hxo (rfl : q_bn 11 5 = (0, 900))) hB0
  have hA := hO.2.1
  have hF := lw_Eround hxo hmo hE hpp1.1 hpp1.2.1 hpp1.2.2 hp.1 hp.2.2.2.2.1 hp.2.2.2.2.2
  have hE := hF.1
  have hM := lw_wr (hp.1 mo 24 (by rw [hmo]; decide) (fun z => by omega)) hp.2.1 (m_W.le hp.2.2.1 (show n ≤ n + 301 by omega)) hp.2.2.2.1 hM h3 (by omega)
  have hpp2 := hp
  clear hp hk
  clear h3
  refine lv_pop hx hb dL_law_620 rfl ?_
  refine lv_goto (tgt := 1796) hx hb dL_law_621 (by decide) ?_
  exact kk _ _ _ hI hM hE hB hA

set_option maxRecDepth 100000 in
set_option maxHeartbeats 4000000 in
theorem lw_c10 {p : Program} {l : Launch} {e : Env} {s : State} {m : MethodId} {below : List Frame} {meth : Method} {c : Code} {b L : Nat} {xs : Nat → Int32} {X : XW} {xo mo : Nat} {σ0 : ST} {cells slots : Nat} {Q : State → Prop} {lb : Nat → Nat} (hcl : tb_Cls X lb xo mo) (hal : al_C X lb xo mo) (E : q_E p c cL_law s m #[Value.ref b] RL X) (hX : va_X b L xs s s.heap) (hbl : b < s.heap.size) (hbA : ¬ q_reg X b) (hml : c.maxLocals = 4) (hxo : q_kd X xo = 11) (hmo : q_kd X mo = 12) (hcs : cells ≤ room_1.cells ∧ slots ≤ room_1.slots) (hL : L ≤ 3072) {i : Nat} (hi : i + 6 ≤ L) {n : Int} (hn : 0 ≤ n ∧ n ≤ 199000) {σ : ST} {H : Heap} {locs : List Loc} {ls : Array Slot} (hI : q_I X 0 σ0 s.heap locs σ H) (hM : m_M (m_c X σ mo) (σ.1 mo 24).toInt n) (hl : lv_has ls 4 [(3, .int (nI i)), (2, .ref mo), (1, .ref xo), (0, .ref b)]) (hE : lw_E xo mo σ) (hB : lw_B X xo mo σ) (hA : al_R X xo mo σ σ)
    (kk : ∀ (σ : ST) (H : Heap) (locs : List Loc), q_I X 0 σ0 s.heap locs σ H → m_M (m_c X σ mo) (σ.1 mo 24).toInt (n + 301) → lw_E xo mo σ → lw_B X xo mo σ → al_R X xo mo σ σ → W p l e room_1 s m #[Value.ref b] below meth c H locs cells slots Q (F0 m 1796 ls [])) : W p l e room_1 s m #[Value.ref b] below meth c H locs cells slots Q (F0 m 624 ls []) := by
  have hx := E.1
  have hb := E.2.1
  have hI0 := hI
  have hE0 := hE
  have hB0 := hB
  have hA0 := hA
  have hM0 := hM
  refine lv_aload_n hx hb dL_law_624 rfl (lv_at hl 2 rfl) ?_
  refine lv_aload_n hx hb dL_law_625 rfl (lv_at hl 3 rfl) ?_
  refine lv_iload_n hx hb dL_law_626 rfl (lv_at hl 0 rfl) ?_
  refine lv_iconst (v := 1) hx hb dL_law_627 (by decide) ?_
  refine lv_iadd hx hb dL_law_628 ?_
  refine va_sld hx hb hX hbl hbA hI.S (lw_in (j := 1) (by decide) (by omega) hL) dL_law_629 ?_
  have h3 := (q_bd hI hmo (rfl : q_bn 12 24 = (0, 3))).2
  refine q_ci (q_runV (As := [.int (xs (nI i + 1).toNatClampNeg)]) (rest := []) E (hml.trans hl.1.symm) hI (c_X11_fault l X σ xo ((xs (nI i + 1).toNatClampNeg)) hxo) kl_63 hxo ⟨rfl, by decide⟩ (show vwCl[10]? = some (RX11, TX11, 17) from rfl) rfl ⟨Nat.le_of_ble_eq_true rfl, Nat.le_of_ble_eq_true rfl⟩ hcs rfl (Nat.le_of_ble_eq_true rfl) dL_law_630) hI (by decide) (fun r1 σ1 H locs hp hk hI => ?_)
  obtain ⟨hs1, hex1⟩ := hp
  have how1 : q_ow [] [] X σ σ1 := by rw [hs1]; exact q_ow.rf
  have hp := True.intro
  have hB := lw_BK how1 hI.1 hxo hmo rfl rfl (how1.1 xo 5 (by rw [hxo]; rfl)) hB
  have hA1 := hA0.pre hal how1 rfl
  have hA := (hA.post hal how1 rfl).pre hal how1 rfl
  have hE := lw_EK hk (by decide) hxo hmo hE
  have hM := lw_kM hk hI.1 hmo (by decide) hM
  have hpp1 := hp
  have hMc := hM
  clear hp hk
  clear h3
  refine lv_pop hx hb dL_law_633 rfl ?_
  refine lv_aload_n hx hb dL_law_634 rfl (lv_at hl 1 rfl) ?_
  refine lv_aload_n hx hb dL_law_635 rfl (lv_at hl 3 rfl) ?_
  refine lv_iload_n hx hb dL_law_636 rfl (lv_at hl 0 rfl) ?_
  refine lv_iconst (v := 1) hx hb dL_law_637 (by decide) ?_
  refine lv_iadd hx hb dL_law_638 ?_
  refine va_sld hx hb hX hbl hbA hI.S (lw_in (j := 1) (by decide) (by omega) hL) dL_law_639 ?_
  have h3 := (q_bd hI hmo (rfl : q_bn 12 24 = (0, 3))).2
  refine q_ci (q_runV (As := [.int (xs (nI i + 1).toNatClampNeg)]) (rest := []) E (hml.trans hl.1.symm) hI (c_X12_fault l X σ1 mo ((xs (nI i + 1).toNatClampNeg)) hmo) kl_66 hmo ⟨rfl, by decide⟩ (show vwCl[11]? = some (RX12, TX12, 46) from rfl) rfl ⟨Nat.le_of_ble_eq_true rfl, Nat.le_of_ble_eq_true rfl⟩ hcs rfl (Nat.le_of_ble_eq_true rfl) dL_law_640) hI (by decide) (fun r2 σ2 H locs hp hk hI => ?_)
  obtain ⟨hex2, how2⟩ := hp
  have hp := True.intro
  have hB := lw_BK how2 hI.1 hxo hmo rfl rfl (how2.1 xo 5 (by rw [hxo]; rfl)) hB
  have hA := (hA.post hal how2 rfl).pre hal how2 rfl
  have hE := lw_EK hk (by decide) hxo hmo hE
  have hM := lw_up (lw_kM hk hI.1 hmo (by decide) hM) (q_bd hI hmo (rfl : q_bn 12 24 = (0, 3))).2
  have hpp2 := hp
  clear hp hk
  clear h3
  refine lv_pop hx hb dL_law_643 rfl ?_
  refine lv_goto (tgt := 1796) hx hb dL_law_644 (by decide) ?_
  exact kk _ _ _ hI hM hE hB hA

set_option maxRecDepth 100000 in
set_option maxHeartbeats 4000000 in
theorem lw_c11 {p : Program} {l : Launch} {e : Env} {s : State} {m : MethodId} {below : List Frame} {meth : Method} {c : Code} {b L : Nat} {xs : Nat → Int32} {X : XW} {xo mo : Nat} {σ0 : ST} {cells slots : Nat} {Q : State → Prop} {lb : Nat → Nat} (hcl : tb_Cls X lb xo mo) (hal : al_C X lb xo mo) (E : q_E p c cL_law s m #[Value.ref b] RL X) (hX : va_X b L xs s s.heap) (hbl : b < s.heap.size) (hbA : ¬ q_reg X b) (hml : c.maxLocals = 4) (hxo : q_kd X xo = 11) (hmo : q_kd X mo = 12) (hcs : cells ≤ room_1.cells ∧ slots ≤ room_1.slots) (hL : L ≤ 3072) {i : Nat} (hi : i + 6 ≤ L) {n : Int} (hn : 0 ≤ n ∧ n ≤ 199000) {σ : ST} {H : Heap} {locs : List Loc} {ls : Array Slot} (hI : q_I X 0 σ0 s.heap locs σ H) (hM : m_M (m_c X σ mo) (σ.1 mo 24).toInt n) (hl : lv_has ls 4 [(3, .int (nI i)), (2, .ref mo), (1, .ref xo), (0, .ref b)]) (hE : lw_E xo mo σ) (hB : lw_B X xo mo σ) (hA : al_R X xo mo σ σ)
    (kk : ∀ (σ : ST) (H : Heap) (locs : List Loc), q_I X 0 σ0 s.heap locs σ H → m_M (m_c X σ mo) (σ.1 mo 24).toInt (n + 301) → lw_E xo mo σ → lw_B X xo mo σ → al_R X xo mo σ σ → W p l e room_1 s m #[Value.ref b] below meth c H locs cells slots Q (F0 m 1796 ls [])) : W p l e room_1 s m #[Value.ref b] below meth c H locs cells slots Q (F0 m 647 ls []) := by
  have hx := E.1
  have hb := E.2.1
  have hI0 := hI
  have hE0 := hE
  have hB0 := hB
  have hA0 := hA
  have hM0 := hM
  refine lv_aload_n hx hb dL_law_647 rfl (lv_at hl 2 rfl) ?_
  refine lv_aload_n hx hb dL_law_648 rfl (lv_at hl 3 rfl) ?_
  refine lv_iload_n hx hb dL_law_649 rfl (lv_at hl 0 rfl) ?_
  refine lv_iconst (v := 1) hx hb dL_law_650 (by decide) ?_
  refine lv_iadd hx hb dL_law_651 ?_
  refine va_sld hx hb hX hbl hbA hI.S (lw_in (j := 1) (by decide) (by omega) hL) dL_law_652 ?_
  have h3 := (q_bd hI hmo (rfl : q_bn 12 24 = (0, 3))).2
  refine q_ci (q_runV (As := [.int (xs (nI i + 1).toNatClampNeg)]) (rest := []) E (hml.trans hl.1.symm) hI (c_X11_many l X σ xo ((xs (nI i + 1).toNatClampNeg)) hxo) kl_67 hxo ⟨rfl, by decide⟩ (show vwCl[10]? = some (RX11, TX11, 17) from rfl) rfl ⟨Nat.le_of_ble_eq_true rfl, Nat.le_of_ble_eq_true rfl⟩ hcs rfl (Nat.le_of_ble_eq_true rfl) dL_law_653) hI (by decide) (fun r1 σ1 H locs hp hk hI => ?_)
  obtain ⟨hex1, how1⟩ := hp
  have hp := True.intro
  have hB := lw_BK how1 hI.1 hxo hmo rfl rfl (how1.1 xo 5 (by rw [hxo]; rfl)) hB
  have hA1 := hA0.pre hal how1 rfl
  have hA := (hA.post hal how1 rfl).pre hal how1 rfl
  have hE := lw_EK hk (by decide) hxo hmo hE
  have hM := lw_kM hk hI.1 hmo (by decide) hM
  have hpp1 := hp
  have hMc := hM
  clear hp hk
  clear h3
  refine lv_pop hx hb dL_law_656 rfl ?_
  refine lv_aload_n hx hb dL_law_657 rfl (lv_at hl 1 rfl) ?_
  refine lv_aload_n hx hb dL_law_658 rfl (lv_at hl 3 rfl) ?_
  refine lv_iload_n hx hb dL_law_659 rfl (lv_at hl 0 rfl) ?_
  refine lv_iconst (v := 1) hx hb dL_law_660 (by decide) ?_
  refine lv_iadd hx hb dL_law_661 ?_
  refine va_sld hx hb hX hbl hbA hI.S (lw_in (j := 1) (by decide) (by omega) hL) dL_law_662 ?_
  have h3 := (q_bd hI hmo (rfl : q_bn 12 24 = (0, 3))).2
  refine q_ci (q_runV (As := [.int (xs (nI i + 1).toNatClampNeg)]) (rest := []) E (hml.trans hl.1.symm) hI (c_X12_many l X σ1 mo ((xs (nI i + 1).toNatClampNeg)) hmo hM.1.1) kl_70 hmo ⟨rfl, by decide⟩ (show vwCl[11]? = some (RX12, TX12, 46) from rfl) rfl ⟨Nat.le_of_ble_eq_true rfl, Nat.le_of_ble_eq_true rfl⟩ hcs rfl (Nat.le_of_ble_eq_true rfl) dL_law_663) hI (by decide) (fun r2 σ2 H locs hp hk hI => ?_)
  obtain ⟨hex2, how2⟩ := hp
  have hp := True.intro
  have hB := lw_BK how2 hI.1 hxo hmo rfl rfl (how2.1 xo 5 (by rw [hxo]; rfl)) hB
  have hA := (hA.post hal how2 rfl).pre hal how2 rfl
  have hE := lw_EK hk (by decide) hxo hmo hE
  have hM := lw_up (lw_kM hk hI.1 hmo (by decide) hM) (q_bd hI hmo (rfl : q_bn 12 24 = (0, 3))).2
  have hpp2 := hp
  clear hp hk
  clear h3
  refine lv_pop hx hb dL_law_666 rfl ?_
  refine lv_goto (tgt := 1796) hx hb dL_law_667 (by decide) ?_
  exact kk _ _ _ hI hM hE hB hA

set_option maxRecDepth 100000 in
set_option maxHeartbeats 4000000 in
theorem lw_c12 {p : Program} {l : Launch} {e : Env} {s : State} {m : MethodId} {below : List Frame} {meth : Method} {c : Code} {b L : Nat} {xs : Nat → Int32} {X : XW} {xo mo : Nat} {σ0 : ST} {cells slots : Nat} {Q : State → Prop} {lb : Nat → Nat} (hcl : tb_Cls X lb xo mo) (hal : al_C X lb xo mo) (E : q_E p c cL_law s m #[Value.ref b] RL X) (hX : va_X b L xs s s.heap) (hbl : b < s.heap.size) (hbA : ¬ q_reg X b) (hml : c.maxLocals = 4) (hxo : q_kd X xo = 11) (hmo : q_kd X mo = 12) (hcs : cells ≤ room_1.cells ∧ slots ≤ room_1.slots) (hL : L ≤ 3072) {i : Nat} (hi : i + 6 ≤ L) {n : Int} (hn : 0 ≤ n ∧ n ≤ 199000) {σ : ST} {H : Heap} {locs : List Loc} {ls : Array Slot} (hI : q_I X 0 σ0 s.heap locs σ H) (hM : m_M (m_c X σ mo) (σ.1 mo 24).toInt n) (hl : lv_has ls 4 [(3, .int (nI i)), (2, .ref mo), (1, .ref xo), (0, .ref b)]) (hE : lw_E xo mo σ) (hB : lw_B X xo mo σ) (hA : al_R X xo mo σ σ)
    (kk : ∀ (σ : ST) (H : Heap) (locs : List Loc), q_I X 0 σ0 s.heap locs σ H → m_M (m_c X σ mo) (σ.1 mo 24).toInt (n + 301) → lw_E xo mo σ → lw_B X xo mo σ → al_R X xo mo σ σ → W p l e room_1 s m #[Value.ref b] below meth c H locs cells slots Q (F0 m 1796 ls [])) : W p l e room_1 s m #[Value.ref b] below meth c H locs cells slots Q (F0 m 670 ls []) := by
  have hx := E.1
  have hb := E.2.1
  have hI0 := hI
  have hE0 := hE
  have hB0 := hB
  have hA0 := hA
  have hM0 := hM
  refine lv_aload_n hx hb dL_law_670 rfl (lv_at hl 2 rfl) ?_
  refine lv_aload_n hx hb dL_law_671 rfl (lv_at hl 3 rfl) ?_
  refine lv_iload_n hx hb dL_law_672 rfl (lv_at hl 0 rfl) ?_
  refine lv_iconst (v := 1) hx hb dL_law_673 (by decide) ?_
  refine lv_iadd hx hb dL_law_674 ?_
  refine va_sld hx hb hX hbl hbA hI.S (lw_in (j := 1) (by decide) (by omega) hL) dL_law_675 ?_
  refine lv_aload_n hx hb dL_law_676 rfl (lv_at hl 3 rfl) ?_
  refine lv_iload_n hx hb dL_law_677 rfl (lv_at hl 0 rfl) ?_
  refine lv_iconst (v := 2) hx hb dL_law_678 (by decide) ?_
  refine lv_iadd hx hb dL_law_679 ?_
  refine va_sld hx hb hX hbl hbA hI.S (lw_in (j := 2) (by decide) (by omega) hL) dL_law_680 ?_
  have h3 := (q_bd hI hmo (rfl : q_bn 12 24 = (0, 3))).2
  refine q_ci (q_runV (As := [.int (xs (nI i + 1).toNatClampNeg), .int (xs (nI i + 2).toNatClampNeg)]) (rest := []) E (hml.trans hl.1.symm) hI (c_X11_player l X σ xo ((xs (nI i + 1).toNatClampNeg)) ((xs (nI i + 2).toNatClampNeg)) hxo) kl_71 hxo ⟨rfl, by decide⟩ (show vwCl[10]? = some (RX11, TX11, 17) from rfl) rfl ⟨Nat.le_of_ble_eq_true rfl, Nat.le_of_ble_eq_true rfl⟩ hcs rfl (Nat.le_of_ble_eq_true rfl) dL_law_681) hI (by decide) (fun r1 σ1 H locs hp hk hI => ?_)
  obtain ⟨hex1, how1⟩ := hp
  have hp := True.intro
  have hB := lw_BK how1 hI.1 hxo hmo rfl rfl (how1.1 xo 5 (by rw [hxo]; rfl)) hB
  have hA1 := hA0.pre hal how1 rfl
  have hA := (hA.post hal how1 rfl).pre hal how1 rfl
  have hE := lw_EK hk (by decide) hxo hmo hE
  have hM := lw_kM hk hI.1 hmo (by decide) hM
  have hpp1 := hp
  have hMc := hM
  clear hp hk
  clear h3
  refine lv_pop hx hb dL_law_684 rfl ?_
  refine lv_aload_n hx hb dL_law_685 rfl (lv_at hl 1 rfl) ?_
  refine lv_aload_n hx hb dL_law_686 rfl (lv_at hl 3 rfl) ?_
  refine lv_iload_n hx hb dL_law_687 rfl (lv_at hl 0 rfl) ?_
  refine lv_iconst (v := 1) hx hb dL_law_688 (by decide) ?_
  refine lv_iadd hx hb dL_law_689 ?_
  refine va_sld hx hb hX hbl hbA hI.S (lw_in (j := 1) (by decide) (by omega) hL) dL_law_690 ?_
  refine lv_aload_n hx hb dL_law_691 rfl (lv_at hl 3 rfl) ?_
  refine lv_iload_n hx hb dL_law_692 rfl (lv_at hl 0 rfl) ?_
  refine lv_iconst (v := 2) hx hb dL_law_693 (by decide) ?_
  refine lv_iadd hx hb dL_law_694 ?_
  refine va_sld hx hb hX hbl hbA hI.S (lw_in (j := 2) (by decide) (by omega) hL) dL_law_695 ?_
  have h3 := (q_bd hI hmo (rfl : q_bn 12 24 = (0, 3))).2
  refine q_ci (q_runV (As := [.int (xs (nI i + 1).toNatClampNeg), .int (xs (nI i + 2).toNatClampNeg)]) (rest := []) E (hml.trans hl.1.symm) hI (c_X12_player l X σ1 mo ((xs (nI i + 1).toNatClampNeg)) ((xs (nI i + 2).toNatClampNeg)) hmo hM.1.1) kl_75 hmo ⟨rfl, by decide⟩ (show vwCl[11]? = some (RX12, TX12, 46) from rfl) rfl ⟨Nat.le_of_ble_eq_true rfl, Nat.le_of_ble_eq_true rfl⟩ hcs rfl (Nat.le_of_ble_eq_true rfl) dL_law_696) hI (by decide) (fun r2 σ2 H locs hp hk hI => ?_)
  obtain ⟨hex2, how2⟩ := hp
  have hp := True.intro
  have hB := lw_BK how2 hI.1 hxo hmo rfl rfl (how2.1 xo 5 (by rw [hxo]; rfl)) hB
  have hA := (hA.post hal how2 rfl).pre hal how2 rfl
  have hE := lw_EK hk (by decide) hxo hmo hE
  have hM := lw_up (lw_kM hk hI.1 hmo (by decide) hM) (q_bd hI hmo (rfl : q_bn 12 24 = (0, 3))).2
  have hpp2 := hp
  clear hp hk
  clear h3
  refine lv_pop hx hb dL_law_699 rfl ?_
  refine lv_goto (tgt := 1796) hx hb dL_law_700 (by decide) ?_
  exact kk _ _ _ hI hM hE hB hA

set_option maxRecDepth 100000 in
set_option maxHeartbeats 4000000 in
theorem lw_c13 {p : Program} {l : Launch} {e : Env} {s : State} {m : MethodId} {below : List Frame} {meth : Method} {c : Code} {b L : Nat} {xs : Nat → Int32} {X : XW} {xo mo : Nat} {σ0 : ST} {cells slots : Nat} {Q : State → Prop} {lb : Nat → Nat} (hcl : tb_Cls X lb xo mo) (hal : al_C X lb xo mo) (E : q_E p c cL_law s m #[Value.ref b] RL X) (hX : va_X b L xs s s.heap) (hbl : b < s.heap.size) (hbA : ¬ q_reg X b) (hml : c.maxLocals = 4) (hxo : q_kd X xo = 11) (hmo : q_kd X mo = 12) (hcs : cells ≤ room_1.cells ∧ slots ≤ room_1.slots) (hL : L ≤ 3072) {i : Nat} (hi : i + 6 ≤ L) {n : Int} (hn : 0 ≤ n ∧ n ≤ 199000) {σ : ST} {H : Heap} {locs : List Loc} {ls : Array Slot} (hI : q_I X 0 σ0 s.heap locs σ H) (hM : m_M (m_c X σ mo) (σ.1 mo 24).toInt n) (hl : lv_has ls 4 [(3, .int (nI i)), (2, .ref mo), (1, .ref xo), (0, .ref b)]) (hE : lw_E xo mo σ) (hB : lw_B X xo mo σ) (hA : al_R X xo mo σ σ)
    (kk : ∀ (σ : ST) (H : Heap) (locs : List Loc), q_I X 0 σ0 s.heap locs σ H → m_M (m_c X σ mo) (σ.1 mo 24).toInt (n + 301) → lw_E xo mo σ → lw_B X xo mo σ → al_R X xo mo σ σ → W p l e room_1 s m #[Value.ref b] below meth c H locs cells slots Q (F0 m 1796 ls [])) : W p l e room_1 s m #[Value.ref b] below meth c H locs cells slots Q (F0 m 703 ls []) := by
  have hx := E.1
  have hb := E.2.1
  have hI0 := hI
  have hE0 := hE
  have hB0 := hB
  have hA0 := hA
  have hM0 := hM
  refine lv_aload_n hx hb dL_law_703 rfl (lv_at hl 2 rfl) ?_
  refine lv_aload_n hx hb dL_law_704 rfl (lv_at hl 3 rfl) ?_
  refine lv_iload_n hx hb dL_law_705 rfl (lv_at hl 0 rfl) ?_
  refine lv_iconst (v := 1) hx hb dL_law_706 (by decide) ?_
  refine lv_iadd hx hb dL_law_707 ?_
  refine va_sld hx hb hX hbl hbA hI.S (lw_in (j := 1) (by decide) (by omega) hL) dL_law_708 ?_
  refine lv_aload_n hx hb dL_law_709 rfl (lv_at hl 3 rfl) ?_
  refine lv_iload_n hx hb dL_law_710 rfl (lv_at hl 0 rfl) ?_
  refine lv_iconst (v := 2) hx hb dL_law_711 (by decide) ?_
  refine lv_iadd hx hb dL_law_712 ?_
  refine va_sld hx hb hX hbl hbA hI.S (lw_in (j := 2) (by decide) (by omega) hL) dL_law_713 ?_
  have h3 := (q_bd hI hmo (rfl : q_bn 12 24 = (0, 3))).2
  refine q_ci (q_runV (As := [.int (xs (nI i + 1).toNatClampNeg), .int (xs (nI i + 2).toNatClampNeg)]) (rest := []) E (hml.trans hl.1.symm) hI (c_X11_hand l X σ xo ((xs (nI i + 1).toNatClampNeg)) ((xs (nI i + 2).toNatClampNeg)) hxo) kl_76 hxo ⟨rfl, by decide⟩ (show vwCl[10]? = some (RX11, TX11, 17) from rfl) rfl ⟨Nat.le_of_ble_eq_true rfl, Nat.le_of_ble_eq_true rfl⟩ hcs rfl (Nat.le_of_ble_eq_true rfl) dL_law_714) hI (by decide) (fun r1 σ1 H locs hp hk hI => ?_)
  obtain ⟨hex1, how1⟩ := hp
  have hp := True.intro
  have hB := lw_BK how1 hI.1 hxo hmo rfl rfl (how1.1 xo 5 (by rw [hxo]; rfl)) hB
  have hA1 := hA0.pre hal how1 rfl
  have hA := (hA.post hal how1 rfl).pre hal how1 rfl
  have hE := lw_EK hk (by decide) hxo hmo hE
  have hM := lw_kM hk hI.1 hmo (by decide) hM
  have hpp1 := hp
  have hMc := hM
  clear hp hk
  clear h3
  refine lv_pop hx hb dL_law_717 rfl ?_
  refine lv_aload_n hx hb dL_law_718 rfl (lv_at hl 1 rfl) ?_
  refine lv_aload_n hx hb dL_law_719 rfl (lv_at hl 3 rfl) ?_
  refine lv_iload_n hx hb dL_law_720 rfl (lv_at hl 0 rfl) ?_
  refine lv_iconst (v := 1) hx hb dL_law_721 (by decide) ?_
  refine lv_iadd hx hb dL_law_722 ?_
  refine va_sld hx hb hX hbl hbA hI.S (lw_in (j := 1) (by decide) (by omega) hL) dL_law_723 ?_
  refine lv_aload_n hx hb dL_law_724 rfl (lv_at hl 3 rfl) ?_
  refine lv_iload_n hx hb dL_law_725 rfl (lv_at hl 0 rfl) ?_
  refine lv_iconst (v := 2) hx hb dL_law_726 (by decide) ?_
  refine lv_iadd hx hb dL_law_727 ?_
  refine va_sld hx hb hX hbl hbA hI.S (lw_in (j := 2) (by decide) (by omega) hL) dL_law_728 ?_
  have h3 := (q_bd hI hmo (rfl : q_bn 12 24 = (0, 3))).2
  refine q_ci (q_runV (As := [.int (xs (nI i + 1).toNatClampNeg), .int (xs (nI i + 2).toNatClampNeg)]) (rest := []) E (hml.trans hl.1.symm) hI (c_X12_hand l X σ1 mo ((xs (nI i + 1).toNatClampNeg)) ((xs (nI i + 2).toNatClampNeg)) hmo hM.1.1) kl_79 hmo ⟨rfl, by decide⟩ (show vwCl[11]? = some (RX12, TX12, 46) from rfl) rfl ⟨Nat.le_of_ble_eq_true rfl, Nat.le_of_ble_eq_true rfl⟩ hcs rfl (Nat.le_of_ble_eq_true rfl) dL_law_729) hI (by decide) (fun r2 σ2 H locs hp hk hI => ?_)
  obtain ⟨hex2, how2⟩ := hp
  have hp := True.intro
  have hB := lw_BK how2 hI.1 hxo hmo rfl rfl (how2.1 xo 5 (by rw [hxo]; rfl)) hB
  have hA := (hA.post hal how2 rfl).pre hal how2 rfl
  have hE := lw_EK hk (by decide) hxo hmo hE
  have hM := lw_up (lw_kM hk hI.1 hmo (by decide) hM) (q_bd hI hmo (rfl : q_bn 12 24 = (0, 3))).2
  have hpp2 := hp
  clear hp hk
  clear h3
  refine lv_pop hx hb dL_law_732 rfl ?_
  refine lv_goto (tgt := 1796) hx hb dL_law_733 (by decide) ?_
  exact kk _ _ _ hI hM hE hB hA

set_option maxRecDepth 100000 in
set_option maxHeartbeats 4000000 in
theorem lw_c14 {p : Program} {l : Launch} {e : Env} {s : State} {m : MethodId} {below : List Frame} {meth : Method} {c : Code} {b L : Nat} {xs : Nat → Int32} {X : XW} {xo mo : Nat} {σ0 : ST} {cells slots : Nat} {Q : State → Prop} {lb : Nat → Nat} (hcl : tb_Cls X lb xo mo) (hal : al_C X lb xo mo) (E : q_E p c cL_law s m #[Value.ref b] RL X) (hX : va_X b L xs s s.heap) (hbl : b < s.heap.size) (hbA : ¬ q_reg X b) (hml : c.maxLocals = 4) (hxo : q_kd X xo = 11) (hmo : q_kd X mo = 12) (hcs : cells ≤ room_1.cells ∧ slots ≤ room_1.slots) (hL : L ≤ 3072) {i : Nat} (hi : i + 6 ≤ L) {n : Int} (hn : 0 ≤ n ∧ n ≤ 199000) {σ : ST} {H : Heap} {locs : List Loc} {ls : Array Slot} (hI : q_I X 0 σ0 s.heap locs σ H) (hM : m_M (m_c X σ mo) (σ.1 mo 24).toInt n) (hl : lv_has ls 4 [(3, .int (nI i)), (2, .ref mo), (1, .ref xo), (0, .ref b)]) (hE : lw_E xo mo σ) (hB : lw_B X xo mo σ) (hA : al_R X xo mo σ σ)
    (kk : ∀ (σ : ST) (H : Heap) (locs : List Loc), q_I X 0 σ0 s.heap locs σ H → m_M (m_c X σ mo) (σ.1 mo 24).toInt (n + 301) → lw_E xo mo σ → lw_B X xo mo σ → al_R X xo mo σ σ → W p l e room_1 s m #[Value.ref b] below meth c H locs cells slots Q (F0 m 1796 ls [])) : W p l e room_1 s m #[Value.ref b] below meth c H locs cells slots Q (F0 m 736 ls []) := by
  have hx := E.1
  have hb := E.2.1
  have hI0 := hI
  have hE0 := hE
  have hB0 := hB
  have hA0 := hA
  have hM0 := hM
  refine lv_aload_n hx hb dL_law_736 rfl (lv_at hl 2 rfl) ?_
  refine lv_aload_n hx hb dL_law_737 rfl (lv_at hl 3 rfl) ?_
  refine lv_iload_n hx hb dL_law_738 rfl (lv_at hl 0 rfl) ?_
  refine lv_iconst (v := 1) hx hb dL_law_739 (by decide) ?_
  refine lv_iadd hx hb dL_law_740 ?_
  refine va_sld hx hb hX hbl hbA hI.S (lw_in (j := 1) (by decide) (by omega) hL) dL_law_741 ?_
  have h3 := (q_bd hI hmo (rfl : q_bn 12 24 = (0, 3))).2
  refine q_ci (q_runV (As := [.int (xs (nI i + 1).toNatClampNeg)]) (rest := []) E (hml.trans hl.1.symm) hI (c_X11_inGame l X σ xo ((xs (nI i + 1).toNatClampNeg)) hxo) kl_80 hxo ⟨rfl, by decide⟩ (show vwCl[10]? = some (RX11, TX11, 17) from rfl) rfl ⟨Nat.le_of_ble_eq_true rfl, Nat.le_of_ble_eq_true rfl⟩ hcs rfl (Nat.le_of_ble_eq_true rfl) dL_law_742) hI (by decide) (fun r1 σ1 H locs hp hk hI => ?_)
  obtain ⟨hex1, how1⟩ := hp
  have hp := True.intro
  have hB := lw_BK how1 hI.1 hxo hmo rfl rfl (how1.1 xo 5 (by rw [hxo]; rfl)) hB
  have hA1 := hA0.pre hal how1 rfl
  have hA := (hA.post hal how1 rfl).pre hal how1 rfl
  have hE := lw_EK hk (by decide) hxo hmo hE
  have hM := lw_kM hk hI.1 hmo (by decide) hM
  have hpp1 := hp
  have hMc := hM
  clear hp hk
  clear h3
  refine lv_pop hx hb dL_law_745 rfl ?_
  refine lv_aload_n hx hb dL_law_746 rfl (lv_at hl 1 rfl) ?_
  refine lv_aload_n hx hb dL_law_747 rfl (lv_at hl 3 rfl) ?_
  refine lv_iload_n hx hb dL_law_748 rfl (lv_at hl 0 rfl) ?_
  refine lv_iconst (v := 1) hx hb dL_law_749 (by decide) ?_
  refine lv_iadd hx hb dL_law_750 ?_
  refine va_sld hx hb hX hbl hbA hI.S (lw_in (j := 1) (by decide) (by omega) hL) dL_law_751 ?_
  have h3 := (q_bd hI hmo (rfl : q_bn 12 24 = (0, 3))).2
  refine q_ci (q_runV (As := [.int (xs (nI i + 1).toNatClampNeg)]) (rest := []) E (hml.trans hl.1.symm) hI (c_X12_inGame l X σ1 mo ((xs (nI i + 1).toNatClampNeg)) hmo hM.1.1) kl_83 hmo ⟨rfl, by decide⟩ (show vwCl[11]? = some (RX12, TX12, 46) from rfl) rfl ⟨Nat.le_of_ble_eq_true rfl, Nat.le_of_ble_eq_true rfl⟩ hcs rfl (Nat.le_of_ble_eq_true rfl) dL_law_752) hI (by decide) (fun r2 σ2 H locs hp hk hI => ?_)
  obtain ⟨hex2, how2⟩ := hp
  have hp := True.intro
  have hB := lw_BK how2 hI.1 hxo hmo rfl rfl (how2.1 xo 5 (by rw [hxo]; rfl)) hB
  have hA := (hA.post hal how2 rfl).pre hal how2 rfl
  have hE := lw_EK hk (by decide) hxo hmo hE
  have hM := lw_up (lw_kM hk hI.1 hmo (by decide) hM) (q_bd hI hmo (rfl : q_bn 12 24 = (0, 3))).2
  have hpp2 := hp
  clear hp hk
  clear h3
  refine lv_pop hx hb dL_law_755 rfl ?_
  refine lv_goto (tgt := 1796) hx hb dL_law_756 (by decide) ?_
  exact kk _ _ _ hI hM hE hB hA

set_option maxRecDepth 100000 in
set_option maxHeartbeats 4000000 in
theorem lw_c15 {p : Program} {l : Launch} {e : Env} {s : State} {m : MethodId} {below : List Frame} {meth : Method} {c : Code} {b L : Nat} {xs : Nat → Int32} {X : XW} {xo mo : Nat} {σ0 : ST} {cells slots : Nat} {Q : State → Prop} {lb : Nat → Nat} (hcl : tb_Cls X lb xo mo) (hal : al_C X lb xo mo) (E : q_E p c cL_law s m #[Value.ref b] RL X) (hX : va_X b L xs s s.heap) (hbl : b < s.heap.size) (hbA : ¬ q_reg X b) (hml : c.maxLocals = 4) (hxo : q_kd X xo = 11) (hmo : q_kd X mo = 12) (hcs : cells ≤ room_1.cells ∧ slots ≤ room_1.slots) (hL : L ≤ 3072) {i : Nat} (hi : i + 6 ≤ L) {n : Int} (hn : 0 ≤ n ∧ n ≤ 199000) {σ : ST} {H : Heap} {locs : List Loc} {ls : Array Slot} (hI : q_I X 0 σ0 s.heap locs σ H) (hM : m_M (m_c X σ mo) (σ.1 mo 24).toInt n) (hl : lv_has ls 4 [(3, .int (nI i)), (2, .ref mo), (1, .ref xo), (0, .ref b)]) (hE : lw_E xo mo σ) (hB : lw_B X xo mo σ) (hA : al_R X xo mo σ σ)
    (kk : ∀ (σ : ST) (H : Heap) (locs : List Loc), q_I X 0 σ0 s.heap locs σ H → m_M (m_c X σ mo) (σ.1 mo 24).toInt (n + 301) → lw_E xo mo σ → lw_B X xo mo σ → al_R X xo mo σ σ → W p l e room_1 s m #[Value.ref b] below meth c H locs cells slots Q (F0 m 1796 ls [])) : W p l e room_1 s m #[Value.ref b] below meth c H locs cells slots Q (F0 m 759 ls []) := by
  have hx := E.1
  have hb := E.2.1
  have hI0 := hI
  have hE0 := hE
  have hB0 := hB
  have hA0 := hA
  have hM0 := hM
  refine lv_aload_n hx hb dL_law_759 rfl (lv_at hl 2 rfl) ?_
  refine lv_aload_n hx hb dL_law_760 rfl (lv_at hl 3 rfl) ?_
  refine lv_iload_n hx hb dL_law_761 rfl (lv_at hl 0 rfl) ?_
  refine lv_iconst (v := 1) hx hb dL_law_762 (by decide) ?_
  refine lv_iadd hx hb dL_law_763 ?_
  refine va_sld hx hb hX hbl hbA hI.S (lw_in (j := 1) (by decide) (by omega) hL) dL_law_764 ?_
  refine lv_aload_n hx hb dL_law_765 rfl (lv_at hl 3 rfl) ?_
  refine lv_iload_n hx hb dL_law_766 rfl (lv_at hl 0 rfl) ?_
  refine lv_iconst (v := 2) hx hb dL_law_767 (by decide) ?_
  refine lv_iadd hx hb dL_law_768 ?_
  refine va_sld hx hb hX hbl hbA hI.S (lw_in (j := 2) (by decide) (by omega) hL) dL_law_769 ?_
  have h3 := (q_bd hI hmo (rfl : q_bn 12 24 = (0, 3))).2
  refine q_ci (q_runV (As := [.int (xs (nI i + 1).toNatClampNeg), .int (xs (nI i + 2).toNatClampNeg)]) (rest := []) E (hml.trans hl.1.symm) hI (c_X11_laying l X σ xo ((xs (nI i + 1).toNatClampNeg)) ((xs (nI i + 2).toNatClampNeg)) hxo) kl_84 hxo ⟨rfl, by decide⟩ (show vwCl[10]? = some (RX11, TX11, 17) from rfl) rfl ⟨Nat.le_of_ble_eq_true rfl, Nat.le_of_ble_eq_true rfl⟩ hcs rfl (Nat.le_of_ble_eq_true rfl) dL_law_770) hI (by decide) (fun r1 σ1 H locs hp hk hI => ?_)
  obtain ⟨hex1, how1⟩ := hp
  have hp := True.intro
  have hB := lw_BK how1 hI.1 hxo hmo rfl rfl (how1.1 xo 5 (by rw [hxo]; rfl)) hB
  have hA1 := hA0.pre hal how1 rfl
  have hA := (hA.post hal how1 rfl).pre hal how1 rfl
  have hE := lw_EK hk (by decide) hxo hmo hE
  have hM := lw_kM hk hI.1 hmo (by decide) hM
  have hpp1 := hp
  have hMc := hM
  clear hp hk
  clear h3
  refine lv_pop hx hb dL_law_773 rfl ?_
  refine lv_aload_n hx hb dL_law_774 rfl (lv_at hl 1 rfl) ?_
  refine lv_aload_n hx hb dL_law_775 rfl (lv_at hl 3 rfl) ?_
  refine lv_iload_n hx hb dL_law_776 rfl (lv_at hl 0 rfl) ?_
  refine lv_iconst (v := 1) hx hb dL_law_777 (by decide) ?_
  refine lv_iadd hx hb dL_law_778 ?_
  refine va_sld hx hb hX hbl hbA hI.S (lw_in (j := 1) (by decide) (by omega) hL) dL_law_779 ?_
  refine lv_aload_n hx hb dL_law_780 rfl (lv_at hl 3 rfl) ?_
  refine lv_iload_n hx hb dL_law_781 rfl (lv_at hl 0 rfl) ?_
  refine lv_iconst (v := 2) hx hb dL_law_782 (by decide) ?_
  refine lv_iadd hx hb dL_law_783 ?_
  refine va_sld hx hb hX hbl hbA hI.S (lw_in (j := 2) (by decide) (by omega) hL) dL_law_784 ?_
  have h3 := (q_bd hI hmo (rfl : q_bn 12 24 = (0, 3))).2
  refine q_ci (q_runV (As := [.int (xs (nI i + 1).toNatClampNeg), .int (xs (nI i + 2).toNatClampNeg)]) (rest := []) E (hml.trans hl.1.symm) hI (c_X12_laying l X σ1 mo ((xs (nI i + 1).toNatClampNeg)) ((xs (nI i + 2).toNatClampNeg)) hmo hM.1.1) kl_87 hmo ⟨rfl, by decide⟩ (show vwCl[11]? = some (RX12, TX12, 46) from rfl) rfl ⟨Nat.le_of_ble_eq_true rfl, Nat.le_of_ble_eq_true rfl⟩ hcs rfl (Nat.le_of_ble_eq_true rfl) dL_law_785) hI (by decide) (fun r2 σ2 H locs hp hk hI => ?_)
  obtain ⟨hex2, how2⟩ := hp
  have hp := True.intro
  have hB := lw_BK how2 hI.1 hxo hmo rfl rfl (how2.1 xo 5 (by rw [hxo]; rfl)) hB
  have hA := (hA.post hal how2 rfl).pre hal how2 rfl
  have hE := lw_EK hk (by decide) hxo hmo hE
  have hM := lw_up (lw_kM hk hI.1 hmo (by decide) hM) (q_bd hI hmo (rfl : q_bn 12 24 = (0, 3))).2
  have hpp2 := hp
  clear hp hk
  clear h3
  refine lv_pop hx hb dL_law_788 rfl ?_
  refine lv_goto (tgt := 1796) hx hb dL_law_789 (by decide) ?_
  exact kk _ _ _ hI hM hE hB hA

set_option maxRecDepth 100000 in
set_option maxHeartbeats 4000000 in
theorem lw_c16 {p : Program} {l : Launch} {e : Env} {s : State} {m : MethodId} {below : List Frame} {meth : Method} {c : Code} {b L : Nat} {xs : Nat → Int32} {X : XW} {xo mo : Nat} {σ0 : ST} {cells slots : Nat} {Q : State → Prop} {lb : Nat → Nat} (hcl : tb_Cls X lb xo mo) (hal : al_C X lb xo mo) (E : q_E p c cL_law s m #[Value.ref b] RL X) (hX : va_X b L xs s s.heap) (hbl : b < s.heap.size) (hbA : ¬ q_reg X b) (hml : c.maxLocals = 4) (hxo : q_kd X xo = 11) (hmo : q_kd X mo = 12) (hcs : cells ≤ room_1.cells ∧ slots ≤ room_1.slots) (hL : L ≤ 3072) {i : Nat} (hi : i + 6 ≤ L) {n : Int} (hn : 0 ≤ n ∧ n ≤ 199000) {σ : ST} {H : Heap} {locs : List Loc} {ls : Array Slot} (hI : q_I X 0 σ0 s.heap locs σ H) (hM : m_M (m_c X σ mo) (σ.1 mo 24).toInt n) (hl : lv_has ls 4 [(3, .int (nI i)), (2, .ref mo), (1, .ref xo), (0, .ref b)]) (hE : lw_E xo mo σ) (hB : lw_B X xo mo σ) (hA : al_R X xo mo σ σ)
    (kk : ∀ (σ : ST) (H : Heap) (locs : List Loc), q_I X 0 σ0 s.heap locs σ H → m_M (m_c X σ mo) (σ.1 mo 24).toInt (n + 301) → lw_E xo mo σ → lw_B X xo mo σ → al_R X xo mo σ σ → W p l e room_1 s m #[Value.ref b] below meth c H locs cells slots Q (F0 m 1796 ls [])) : W p l e room_1 s m #[Value.ref b] below meth c H locs cells slots Q (F0 m 792 ls []) := by
  have hx := E.1
  have hb := E.2.1
  have hI0 := hI
  have hE0 := hE
  have hB0 := hB
  have hA0 := hA
  have hM0 := hM
  refine lv_aload_n hx hb dL_law_792 rfl (lv_at hl 2 rfl) ?_
  refine lv_aload_n hx hb dL_law_793 rfl (lv_at hl 3 rfl) ?_
  refine lv_iload_n hx hb dL_law_794 rfl (lv_at hl 0 rfl) ?_
  refine lv_iconst (v := 1) hx hb dL_law_795 (by decide) ?_
  refine lv_iadd hx hb dL_law_796 ?_
  refine va_sld hx hb hX hbl hbA hI.S (lw_in (j := 1) (by decide) (by omega) hL) dL_law_797 ?_
  refine lv_aload_n hx hb dL_law_798 rfl (lv_at hl 3 rfl) ?_
  refine lv_iload_n hx hb dL_law_799 rfl (lv_at hl 0 rfl) ?_
  refine lv_iconst (v := 2) hx hb dL_law_800 (by decide) ?_
  refine lv_iadd hx hb dL_law_801 ?_
  refine va_sld hx hb hX hbl hbA hI.S (lw_in (j := 2) (by decide) (by omega) hL) dL_law_802 ?_
  have h3 := (q_bd hI hmo (rfl : q_bn 12 24 = (0, 3))).2
  refine q_ci (q_runV (As := [.int (xs (nI i + 1).toNatClampNeg), .int (xs (nI i + 2).toNatClampNeg)]) (rest := []) E (hml.trans hl.1.symm) hI (c_X11_cardOf l X σ xo ((xs (nI i + 1).toNatClampNeg)) ((xs (nI i + 2).toNatClampNeg)) hxo) kl_88 hxo ⟨rfl, by decide⟩ (show vwCl[10]? = some (RX11, TX11, 17) from rfl) rfl ⟨Nat.le_of_ble_eq_true rfl, Nat.le_of_ble_eq_true rfl⟩ hcs rfl (Nat.le_of_ble_eq_true rfl) dL_law_803) hI (by decide) (fun r1 σ1 H locs hp hk hI => ?_)
  obtain ⟨hex1, how1⟩ := hp
  have hp := True.intro
  have hB := lw_BK how1 hI.1 hxo hmo rfl rfl (how1.1 xo 5 (by rw [hxo]; rfl)) hB
  have hA1 := hA0.pre hal how1 rfl
  have hA := (hA.post hal how1 rfl).pre hal how1 rfl
  have hE := lw_EK hk (by decide) hxo hmo hE
  have hM := lw_kM hk hI.1 hmo (by decide) hM
  have hpp1 := hp
  have hMc := hM
  clear hp hk
  clear h3
  refine lv_pop hx hb dL_law_806 rfl ?_
  refine lv_aload_n hx hb dL_law_807 rfl (lv_at hl 1 rfl) ?_
  refine lv_aload_n hx hb dL_law_808 rfl (lv_at hl 3 rfl) ?_
  refine lv_iload_n hx hb dL_law_809 rfl (lv_at hl 0 rfl) ?_
  refine lv_iconst (v := 1) hx hb dL_law_810 (by decide) ?_
  refine lv_iadd hx hb dL_law_811 ?_
  refine va_sld hx hb hX hbl hbA hI.S (lw_in (j := 1) (by decide) (by omega) hL) dL_law_812 ?_
  refine lv_aload_n hx hb dL_law_813 rfl (lv_at hl 3 rfl) ?_
  refine lv_iload_n hx hb dL_law_814 rfl (lv_at hl 0 rfl) ?_
  refine lv_iconst (v := 2) hx hb dL_law_815 (by decide) ?_
  refine lv_iadd hx hb dL_law_816 ?_
  refine va_sld hx hb hX hbl hbA hI.S (lw_in (j := 2) (by decide) (by omega) hL) dL_law_817 ?_
  have h3 := (q_bd hI hmo (rfl : q_bn 12 24 = (0, 3))).2
  refine q_ci (q_runV (As := [.int (xs (nI i + 1).toNatClampNeg), .int (xs (nI i + 2).toNatClampNeg)]) (rest := []) E (hml.trans hl.1.symm) hI (c_X12_cardOf l X σ1 mo ((xs (nI i + 1).toNatClampNeg)) ((xs (nI i + 2).toNatClampNeg)) hmo hM.1.1) kl_91 hmo ⟨rfl, by decide⟩ (show vwCl[11]? = some (RX12, TX12, 46) from rfl) rfl ⟨Nat.le_of_ble_eq_true rfl, Nat.le_of_ble_eq_true rfl⟩ hcs rfl (Nat.le_of_ble_eq_true rfl) dL_law_818) hI (by decide) (fun r2 σ2 H locs hp hk hI => ?_)
  obtain ⟨hex2, how2⟩ := hp
  have hp := True.intro
  have hB := lw_BK how2 hI.1 hxo hmo rfl rfl (how2.1 xo 5 (by rw [hxo]; rfl)) hB
  have hA := (hA.post hal how2 rfl).pre hal how2 rfl
  have hE := lw_EK hk (by decide) hxo hmo hE
  have hM := lw_up (lw_kM hk hI.1 hmo (by decide) hM) (q_bd hI hmo (rfl : q_bn 12 24 = (0, 3))).2
  have hpp2 := hp
  clear hp hk
  clear h3
  refine lv_pop hx hb dL_law_821 rfl ?_
  refine lv_goto (tgt := 1796) hx hb dL_law_822 (by decide) ?_
  exact kk _ _ _ hI hM hE hB hA

set_option maxRecDepth 100000 in
set_option maxHeartbeats 4000000 in
theorem lw_c17 {p : Program} {l : Launch} {e : Env} {s : State} {m : MethodId} {below : List Frame} {meth : Method} {c : Code} {b L : Nat} {xs : Nat → Int32} {X : XW} {xo mo : Nat} {σ0 : ST} {cells slots : Nat} {Q : State → Prop} {lb : Nat → Nat} (hcl : tb_Cls X lb xo mo) (hal : al_C X lb xo mo) (E : q_E p c cL_law s m #[Value.ref b] RL X) (hX : va_X b L xs s s.heap) (hbl : b < s.heap.size) (hbA : ¬ q_reg X b) (hml : c.maxLocals = 4) (hxo : q_kd X xo = 11) (hmo : q_kd X mo = 12) (hcs : cells ≤ room_1.cells ∧ slots ≤ room_1.slots) (hL : L ≤ 3072) {i : Nat} (hi : i + 6 ≤ L) {n : Int} (hn : 0 ≤ n ∧ n ≤ 199000) {σ : ST} {H : Heap} {locs : List Loc} {ls : Array Slot} (hI : q_I X 0 σ0 s.heap locs σ H) (hM : m_M (m_c X σ mo) (σ.1 mo 24).toInt n) (hl : lv_has ls 4 [(3, .int (nI i)), (2, .ref mo), (1, .ref xo), (0, .ref b)]) (hE : lw_E xo mo σ) (hB : lw_B X xo mo σ) (hA : al_R X xo mo σ σ)
    (kk : ∀ (σ : ST) (H : Heap) (locs : List Loc), q_I X 0 σ0 s.heap locs σ H → m_M (m_c X σ mo) (σ.1 mo 24).toInt (n + 301) → lw_E xo mo σ → lw_B X xo mo σ → al_R X xo mo σ σ → W p l e room_1 s m #[Value.ref b] below meth c H locs cells slots Q (F0 m 1796 ls [])) : W p l e room_1 s m #[Value.ref b] below meth c H locs cells slots Q (F0 m 825 ls []) := by
  have hx := E.1
  have hb := E.2.1
  have hI0 := hI
  have hE0 := hE
  have hB0 := hB
  have hA0 := hA
  have hM0 := hM
  refine lv_aload_n hx hb dL_law_825 rfl (lv_at hl 2 rfl) ?_
  refine lv_aload_n hx hb dL_law_826 rfl (lv_at hl 3 rfl) ?_
  refine lv_iload_n hx hb dL_law_827 rfl (lv_at hl 0 rfl) ?_
  refine lv_iconst (v := 1) hx hb dL_law_828 (by decide) ?_
  refine lv_iadd hx hb dL_law_829 ?_
  refine va_sld hx hb hX hbl hbA hI.S (lw_in (j := 1) (by decide) (by omega) hL) dL_law_830 ?_
  refine lv_aload_n hx hb dL_law_831 rfl (lv_at hl 3 rfl) ?_
  refine lv_iload_n hx hb dL_law_832 rfl (lv_at hl 0 rfl) ?_
  refine lv_iconst (v := 2) hx hb dL_law_833 (by decide) ?_
  refine lv_iadd hx hb dL_law_834 ?_
  refine va_sld hx hb hX hbl hbA hI.S (lw_in (j := 2) (by decide) (by omega) hL) dL_law_835 ?_
  have h3 := (q_bd hI hmo (rfl : q_bn 12 24 = (0, 3))).2
  refine q_ci (q_runV (As := [.int (xs (nI i + 1).toNatClampNeg), .int (xs (nI i + 2).toNatClampNeg)]) (rest := []) E (hml.trans hl.1.symm) hI (c_X11_copyHand l X σ xo ((xs (nI i + 1).toNatClampNeg)) ((xs (nI i + 2).toNatClampNeg)) hxo) kl_92 hxo ⟨rfl, by decide⟩ (show vwCl[10]? = some (RX11, TX11, 17) from rfl) rfl ⟨Nat.le_of_ble_eq_true rfl, Nat.le_of_ble_eq_true rfl⟩ hcs rfl (Nat.le_of_ble_eq_true rfl) dL_law_836) hI (by decide) (fun r1 σ1 H locs hp hk hI => ?_)
  obtain ⟨hex1, how1⟩ := hp
  have hp := True.intro
  have hB := lw_BK how1 hI.1 hxo hmo rfl rfl (how1.1 xo 5 (by rw [hxo]; rfl)) hB
  have hA1 := hA0.pre hal how1 rfl
  have hA := (hA.post hal how1 rfl).pre hal how1 rfl
  have hE := lw_EK hk (by decide) hxo hmo hE
  have hM := lw_kM hk hI.1 hmo (by decide) hM
  have hpp1 := hp
  have hMc := hM
  clear hp hk
  clear h3
  refine lv_pop hx hb dL_law_839 rfl ?_
  refine lv_aload_n hx hb dL_law_840 rfl (lv_at hl 1 rfl) ?_
  refine lv_aload_n hx hb dL_law_841 rfl (lv_at hl 3 rfl) ?_
  refine lv_iload_n hx hb dL_law_842 rfl (lv_at hl 0 rfl) ?_
  refine lv_iconst (v := 1) hx hb dL_law_843 (by decide) ?_
  refine lv_iadd hx hb dL_law_844 ?_
  refine va_sld hx hb hX hbl hbA hI.S (lw_in (j := 1) (by decide) (by omega) hL) dL_law_845 ?_
  refine lv_aload_n hx hb dL_law_846 rfl (lv_at hl 3 rfl) ?_
  refine lv_iload_n hx hb dL_law_847 rfl (lv_at hl 0 rfl) ?_
  refine lv_iconst (v := 2) hx hb dL_law_848 (by decide) ?_
  refine lv_iadd hx hb dL_law_849 ?_
  refine va_sld hx hb hX hbl hbA hI.S (lw_in (j := 2) (by decide) (by omega) hL) dL_law_850 ?_
  have h3 := (q_bd hI hmo (rfl : q_bn 12 24 = (0, 3))).2
  refine q_ci (q_runV (As := [.int (xs (nI i + 1).toNatClampNeg), .int (xs (nI i + 2).toNatClampNeg)]) (rest := []) E (hml.trans hl.1.symm) hI (c_X12_copyHand l X σ1 mo ((xs (nI i + 1).toNatClampNeg)) ((xs (nI i + 2).toNatClampNeg)) hmo hM.1.1) kl_95 hmo ⟨rfl, by decide⟩ (show vwCl[11]? = some (RX12, TX12, 46) from rfl) rfl ⟨Nat.le_of_ble_eq_true rfl, Nat.le_of_ble_eq_true rfl⟩ hcs rfl (Nat.le_of_ble_eq_true rfl) dL_law_851) hI (by decide) (fun r2 σ2 H locs hp hk hI => ?_)
  obtain ⟨hex2, how2⟩ := hp
  have hp := True.intro
  have hB := lw_BK how2 hI.1 hxo hmo rfl rfl (how2.1 xo 5 (by rw [hxo]; rfl)) hB
  have hA := (hA.post hal how2 rfl).pre hal how2 rfl
  have hE := lw_EK hk (by decide) hxo hmo hE
  have hM := lw_up (lw_kM hk hI.1 hmo (by decide) hM) (q_bd hI hmo (rfl : q_bn 12 24 = (0, 3))).2
  have hpp2 := hp
  clear hp hk
  clear h3
  refine lv_pop hx hb dL_law_854 rfl ?_
  refine lv_goto (tgt := 1796) hx hb dL_law_855 (by decide) ?_
  exact kk _ _ _ hI hM hE hB hA

set_option maxRecDepth 100000 in
set_option maxHeartbeats 4000000 in
theorem lw_c18 {p : Program} {l : Launch} {e : Env} {s : State} {m : MethodId} {below : List Frame} {meth : Method} {c : Code} {b L : Nat} {xs : Nat → Int32} {X : XW} {xo mo : Nat} {σ0 : ST} {cells slots : Nat} {Q : State → Prop} {lb : Nat → Nat} (hcl : tb_Cls X lb xo mo) (hal : al_C X lb xo mo) (E : q_E p c cL_law s m #[Value.ref b] RL X) (hX : va_X b L xs s s.heap) (hbl : b < s.heap.size) (hbA : ¬ q_reg X b) (hml : c.maxLocals = 4) (hxo : q_kd X xo = 11) (hmo : q_kd X mo = 12) (hcs : cells ≤ room_1.cells ∧ slots ≤ room_1.slots) (hL : L ≤ 3072) {i : Nat} (hi : i + 6 ≤ L) {n : Int} (hn : 0 ≤ n ∧ n ≤ 199000) {σ : ST} {H : Heap} {locs : List Loc} {ls : Array Slot} (hI : q_I X 0 σ0 s.heap locs σ H) (hM : m_M (m_c X σ mo) (σ.1 mo 24).toInt n) (hl : lv_has ls 4 [(3, .int (nI i)), (2, .ref mo), (1, .ref xo), (0, .ref b)]) (hE : lw_E xo mo σ) (hB : lw_B X xo mo σ) (hA : al_R X xo mo σ σ)
    (kk : ∀ (σ : ST) (H : Heap) (locs : List Loc), q_I X 0 σ0 s.heap locs σ H → m_M (m_c X σ mo) (σ.1 mo 24).toInt (n + 301) → lw_E xo mo σ → lw_B X xo mo σ → al_R X xo mo σ σ → W p l e room_1 s m #[Value.ref b] below meth c H locs cells slots Q (F0 m 1796 ls [])) : W p l e room_1 s m #[Value.ref b] below meth c H locs cells slots Q (F0 m 858 ls []) := by
  have hx := E.1
  have hb := E.2.1
  have hI0 := hI
  have hE0 := hE
  have hB0 := hB
  have hA0 := hA
  have hM0 := hM
  refine lv_aload_n hx hb dL_law_858 rfl (lv_at hl 2 rfl) ?_
  refine lv_aload_n hx hb dL_law_859 rfl (lv_at hl 3 rfl) ?_
  refine lv_iload_n hx hb dL_law_860 rfl (lv_at hl 0 rfl) ?_
  refine lv_iconst (v := 1) hx hb dL_law_861 (by decide) ?_
  refine lv_iadd hx hb dL_law_862 ?_
  refine va_sld hx hb hX hbl hbA hI.S (lw_in (j := 1) (by decide) (by omega) hL) dL_law_863 ?_
  refine lv_aload_n hx hb dL_law_864 rfl (lv_at hl 3 rfl) ?_
  refine lv_iload_n hx hb dL_law_865 rfl (lv_at hl 0 rfl) ?_
  refine lv_iconst (v := 2) hx hb dL_law_866 (by decide) ?_
  refine lv_iadd hx hb dL_law_867 ?_
  refine va_sld hx hb hX hbl hbA hI.S (lw_in (j := 2) (by decide) (by omega) hL) dL_law_868 ?_
  refine lv_aload_n hx hb dL_law_869 rfl (lv_at hl 3 rfl) ?_
  refine lv_iload_n hx hb dL_law_870 rfl (lv_at hl 0 rfl) ?_
  refine lv_iconst (v := 3) hx hb dL_law_871 (by decide) ?_
  refine lv_iadd hx hb dL_law_872 ?_
  refine va_sld hx hb hX hbl hbA hI.S (lw_in (j := 3) (by decide) (by omega) hL) dL_law_873 ?_
  refine lv_aload_n hx hb dL_law_874 rfl (lv_at hl 3 rfl) ?_
  refine lv_iload_n hx hb dL_law_875 rfl (lv_at hl 0 rfl) ?_
  refine lv_iconst (v := 4) hx hb dL_law_876 (by decide) ?_
  refine lv_iadd hx hb dL_law_877 ?_
  refine va_sld hx hb hX hbl hbA hI.S (lw_in (j := 4) (by decide) (by omega) hL) dL_law_878 ?_
  have h3 := (q_bd hI hmo (rfl : q_bn 12 24 = (0, 3))).2
  refine q_ci (q_runV (As := [.int (xs (nI i + 1).toNatClampNeg), .int (xs (nI i + 2).toNatClampNeg), .int (xs (nI i + 3).toNatClampNeg), .int (xs (nI i + 4).toNatClampNeg)]) (rest := []) E (hml.trans hl.1.symm) hI (c_X11_lay l X σ xo ((xs (nI i + 1).toNatClampNeg)) ((xs (nI i + 2).toNatClampNeg)) ((xs (nI i + 3).toNatClampNeg)) ((xs (nI i + 4).toNatClampNeg)) hxo) kl_96 hxo ⟨rfl, by decide⟩ (show vwCl[10]? = some (RX11, TX11, 17) from rfl) rfl ⟨Nat.le_of_ble_eq_true rfl, Nat.le_of_ble_eq_true rfl⟩ hcs rfl (Nat.le_of_ble_eq_true rfl) dL_law_879) hI (by decide) (fun r1 σ1 H locs hp hk hI => ?_)
  obtain ⟨hex1, how1⟩ := hp
  have hp := True.intro
  have hB := lw_BK how1 hI.1 hxo hmo rfl rfl (how1.1 xo 5 (by rw [hxo]; rfl)) hB
  have hA1 := hA0.pre hal how1 rfl
  have hE := lw_EK hk (by decide) hxo hmo hE
  have hM := lw_kM hk hI.1 hmo (by decide) hM
  have hpp1 := hp
  have hMc := hM
  clear hp hk
  clear h3
  refine lv_pop hx hb dL_law_882 rfl ?_
  refine lv_aload_n hx hb dL_law_883 rfl (lv_at hl 1 rfl) ?_
  refine lv_aload_n hx hb dL_law_884 rfl (lv_at hl 3 rfl) ?_
  refine lv_iload_n hx hb dL_law_885 rfl (lv_at hl 0 rfl) ?_
  refine lv_iconst (v := 1) hx hb dL_law_886 (by decide) ?_
  refine lv_iadd hx hb dL_law_887 ?_
  refine va_sld hx hb hX hbl hbA hI.S (lw_in (j := 1) (by decide) (by omega) hL) dL_law_888 ?_
  refine lv_aload_n hx hb dL_law_889 rfl (lv_at hl 3 rfl) ?_
  refine lv_iload_n hx hb dL_law_890 rfl (lv_at hl 0 rfl) ?_
  refine lv_iconst (v := 2) hx hb dL_law_891 (by decide) ?_
  refine lv_iadd hx hb dL_law_892 ?_
  refine va_sld hx hb hX hbl hbA hI.S (lw_in (j := 2) (by decide) (by omega) hL) dL_law_893 ?_
  refine lv_aload_n hx hb dL_law_894 rfl (lv_at hl 3 rfl) ?_
  refine lv_iload_n hx hb dL_law_895 rfl (lv_at hl 0 rfl) ?_
  refine lv_iconst (v := 3) hx hb dL_law_896 (by decide) ?_
  refine lv_iadd hx hb dL_law_897 ?_
  refine va_sld hx hb hX hbl hbA hI.S (lw_in (j := 3) (by decide) (by omega) hL) dL_law_898 ?_
  refine lv_aload_n hx hb dL_law_899 rfl (lv_at hl 3 rfl) ?_
  refine lv_iload_n hx hb dL_law_900 rfl (lv_at hl 0 rfl) ?_
  refine lv_iconst (v := 4) hx hb dL_law_901 (by decide) ?_
  refine lv_iadd hx hb dL_law_902 ?_
  refine va_sld hx hb hX hbl hbA hI.S (lw_in (j := 4) (by decide) (by omega) hL) dL_law_903 ?_
  have h3 := (q_bd hI hmo (rfl : q_bn 12 24 = (0, 3))).2
  refine q_ci (q_runV (As := [.int (xs (nI i + 1).toNatClampNeg), .int (xs (nI i + 2).toNatClampNeg), .int (xs (nI i + 3).toNatClampNeg), .int (xs (nI i + 4).toNatClampNeg)]) (rest := []) E (hml.trans hl.1.symm) hI (c_X12_lay l X σ1 mo ((xs (nI i + 1).toNatClampNeg)) ((xs (nI i + 2).toNatClampNeg)) ((xs (nI i + 3).toNatClampNeg)) ((xs (nI i + 4).toNatClampNeg)) n hmo hM.1.1 hM.1.2 (by omega)) kl_100 hmo ⟨rfl, by decide⟩ (show vwCl[11]? = some (RX12, TX12, 46) from rfl) rfl ⟨Nat.le_of_ble_eq_true rfl, Nat.le_of_ble_eq_true rfl⟩ hcs rfl (Nat.le_of_ble_eq_true rfl) dL_law_904) hI (by decide) (fun r2 σ2 H locs hp hk hI => ?_)
  obtain ⟨pq0, pq1, pq2, hex2, how2⟩ := hp
  have hp := And.intro pq0 (And.intro pq1 pq2)
  have hB := lw_BK how2 hI.1 hxo hmo rfl rfl (how2.1 xo 5 (by rw [hxo]; rfl)) hB
  have hO := lw_Aob hal (ob_lay hal hA1 hMc ((xs (nI i + 1).toNatClampNeg)) ((xs (nI i + 2).toNatClampNeg)) ((xs (nI i + 3).toNatClampNeg)) ((xs (nI i + 4).toNatClampNeg))) hex1 hex2 how2 rfl
  have hA := hO.2
  have hE := lw_EK hk (by decide) hxo hmo hE
  have hM := lw_wr (hk mo 24 (by rw [hmo]; decide)) hp.1 hp.2.1 hp.2.2 hM h3 (by omega)
  have hpp2 := hp
  clear hp hk
  clear h3
  refine lv_pop hx hb dL_law_907 rfl ?_
  refine lv_goto (tgt := 1796) hx hb dL_law_908 (by decide) ?_
  exact kk _ _ _ hI hM hE hB hA

set_option maxRecDepth 100000 in
set_option maxHeartbeats 4000000 in
theorem lw_c19 {p : Program} {l : Launch} {e : Env} {s : State} {m : MethodId} {below : List Frame} {meth : Method} {c : Code} {b L : Nat} {xs : Nat → Int32} {X : XW} {xo mo : Nat} {σ0 : ST} {cells slots : Nat} {Q : State → Prop} {lb : Nat → Nat} (hcl : tb_Cls X lb xo mo) (hal : al_C X lb xo mo) (E : q_E p c cL_law s m #[Value.ref b] RL X) (hX : va_X b L xs s s.heap) (hbl : b < s.heap.size) (hbA : ¬ q_reg X b) (hml : c.maxLocals = 4) (hxo : q_kd X xo = 11) (hmo : q_kd X mo = 12) (hcs : cells ≤ room_1.cells ∧ slots ≤ room_1.slots) (hL : L ≤ 3072) {i : Nat} (hi : i + 6 ≤ L) {n : Int} (hn : 0 ≤ n ∧ n ≤ 199000) {σ : ST} {H : Heap} {locs : List Loc} {ls : Array Slot} (hI : q_I X 0 σ0 s.heap locs σ H) (hM : m_M (m_c X σ mo) (σ.1 mo 24).toInt n) (hl : lv_has ls 4 [(3, .int (nI i)), (2, .ref mo), (1, .ref xo), (0, .ref b)]) (hE : lw_E xo mo σ) (hB : lw_B X xo mo σ) (hA : al_R X xo mo σ σ)
    (kk : ∀ (σ : ST) (H : Heap) (locs : List Loc), q_I X 0 σ0 s.heap locs σ H → m_M (m_c X σ mo) (σ.1 mo 24).toInt (n + 301) → lw_E xo mo σ → lw_B X xo mo σ → al_R X xo mo σ σ → W p l e room_1 s m #[Value.ref b] below meth c H locs cells slots Q (F0 m 1796 ls [])) : W p l e room_1 s m #[Value.ref b] below meth c H locs cells slots Q (F0 m 911 ls []) := by
  have hx := E.1
  have hb := E.2.1
  have hI0 := hI
  have hE0 := hE
  have hB0 := hB
  have hA0 := hA
  have hM0 := hM
  refine lv_aload_n hx hb dL_law_911 rfl (lv_at hl 2 rfl) ?_
  have h3 := (q_bd hI hmo (rfl : q_bn 12 24 = (0, 3))).2
  refine q_ci (q_runV (As := []) (rest := []) E (hml.trans hl.1.symm) hI (c_X11_leave l X σ xo hxo) kl_101 hxo ⟨rfl, by decide⟩ (show vwCl[10]? = some (RX11, TX11, 17) from rfl) rfl ⟨Nat.le_of_ble_eq_true rfl, Nat.le_of_ble_eq_true rfl⟩ hcs rfl (Nat.le_of_ble_eq_true rfl) dL_law_912) hI (by decide) (fun r1 σ1 H locs hp hk hI => ?_)
  obtain ⟨hex1, how1⟩ := hp
  have hp := True.intro
  have hB := lw_BK how1 hI.1 hxo hmo rfl rfl (how1.1 xo 5 (by rw [hxo]; rfl)) hB
  have hA1 := hA0.pre hal how1 rfl
  have hE := lw_EK hk (by decide) hxo hmo hE
  have hM := lw_kM hk hI.1 hmo (by decide) hM
  have hpp1 := hp
  have hMc := hM
  clear hp hk
  clear h3
  refine lv_pop hx hb dL_law_915 rfl ?_
  refine lv_aload_n hx hb dL_law_916 rfl (lv_at hl 1 rfl) ?_
  have h3 := (q_bd hI hmo (rfl : q_bn 12 24 = (0, 3))).2
  refine q_ci (q_runV (As := []) (rest := []) E (hml.trans hl.1.symm) hI (c_X12_leave l X σ1 mo n hmo hM.1.1 hM.1.2 (by omega)) kl_104 hmo ⟨rfl, by decide⟩ (show vwCl[11]? = some (RX12, TX12, 46) from rfl) rfl ⟨Nat.le_of_ble_eq_true rfl, Nat.le_of_ble_eq_true rfl⟩ hcs rfl (Nat.le_of_ble_eq_true rfl) dL_law_917) hI (by decide) (fun r2 σ2 H locs hp hk hI => ?_)
  obtain ⟨pq0, pq1, pq2, hex2, how2⟩ := hp
  have hp := And.intro pq0 (And.intro pq1 pq2)
  have hB := lw_BK how2 hI.1 hxo hmo rfl rfl (how2.1 xo 5 (by rw [hxo]; rfl)) hB
  have hO := lw_Aob hal (ob_leave hal hA1 hMc) hex1 hex2 how2 rfl
  have hA := hO.2
  have hE := lw_EK hk (by decide) hxo hmo hE
  have hM := lw_wr (hk mo 24 (by rw [hmo]; decide)) hp.1 hp.2.1 hp.2.2 hM h3 (by omega)
  have hpp2 := hp
  clear hp hk
  clear h3
  refine lv_pop hx hb dL_law_920 rfl ?_
  refine lv_goto (tgt := 1796) hx hb dL_law_921 (by decide) ?_
  exact kk _ _ _ hI hM hE hB hA

set_option maxRecDepth 100000 in
set_option maxHeartbeats 4000000 in
theorem lw_c20 {p : Program} {l : Launch} {e : Env} {s : State} {m : MethodId} {below : List Frame} {meth : Method} {c : Code} {b L : Nat} {xs : Nat → Int32} {X : XW} {xo mo : Nat} {σ0 : ST} {cells slots : Nat} {Q : State → Prop} {lb : Nat → Nat} (hcl : tb_Cls X lb xo mo) (hal : al_C X lb xo mo) (E : q_E p c cL_law s m #[Value.ref b] RL X) (hX : va_X b L xs s s.heap) (hbl : b < s.heap.size) (hbA : ¬ q_reg X b) (hml : c.maxLocals = 4) (hxo : q_kd X xo = 11) (hmo : q_kd X mo = 12) (hcs : cells ≤ room_1.cells ∧ slots ≤ room_1.slots) (hL : L ≤ 3072) {i : Nat} (hi : i + 6 ≤ L) {n : Int} (hn : 0 ≤ n ∧ n ≤ 199000) {σ : ST} {H : Heap} {locs : List Loc} {ls : Array Slot} (hI : q_I X 0 σ0 s.heap locs σ H) (hM : m_M (m_c X σ mo) (σ.1 mo 24).toInt n) (hl : lv_has ls 4 [(3, .int (nI i)), (2, .ref mo), (1, .ref xo), (0, .ref b)]) (hE : lw_E xo mo σ) (hB : lw_B X xo mo σ) (hA : al_R X xo mo σ σ)
    (kk : ∀ (σ : ST) (H : Heap) (locs : List Loc), q_I X 0 σ0 s.heap locs σ H → m_M (m_c X σ mo) (σ.1 mo 24).toInt (n + 301) → lw_E xo mo σ → lw_B X xo mo σ → al_R X xo mo σ σ → W p l e room_1 s m #[Value.ref b] below meth c H locs cells slots Q (F0 m 1796 ls [])) : W p l e room_1 s m #[Value.ref b] below meth c H locs cells slots Q (F0 m 924 ls []) := by
  have hx := E.1
  have hb := E.2.1
  have hI0 := hI
  have hE0 := hE
  have hB0 := hB
  have hA0 := hA
  have hM0 := hM
  refine lv_aload_n hx hb dL_law_924 rfl (lv_at hl 2 rfl) ?_
  refine lv_aload_n hx hb dL_law_925 rfl (lv_at hl 3 rfl) ?_
  refine lv_iload_n hx hb dL_law_926 rfl (lv_at hl 0 rfl) ?_
  refine lv_iconst (v := 1) hx hb dL_law_927 (by decide) ?_
  refine lv_iadd hx hb dL_law_928 ?_
  refine va_sld hx hb hX hbl hbA hI.S (lw_in (j := 1) (by decide) (by omega) hL) dL_law_929 ?_
  have h3 := (q_bd hI hmo (rfl : q_bn 12 24 = (0, 3))).2
  refine q_ci (q_runV (As := [.int (xs (nI i + 1).toNatClampNeg)]) (rest := []) E (hml.trans hl.1.symm) hI (c_X11_doubt l X σ xo ((xs (nI i + 1).toNatClampNeg)) hxo) kl_105 hxo ⟨rfl, by decide⟩ (show vwCl[10]? = some (RX11, TX11, 17) from rfl) rfl ⟨Nat.le_of_ble_eq_true rfl, Nat.le_of_ble_eq_true rfl⟩ hcs rfl (Nat.le_of_ble_eq_true rfl) dL_law_930) hI (by decide) (fun r1 σ1 H locs hp hk hI => ?_)
  obtain ⟨hex1, how1⟩ := hp
  have hp := True.intro
  have hB := lw_BK how1 hI.1 hxo hmo rfl rfl (how1.1 xo 5 (by rw [hxo]; rfl)) hB
  have hA1 := hA0.pre hal how1 rfl
  have hE := lw_EK hk (by decide) hxo hmo hE
  have hM := lw_kM hk hI.1 hmo (by decide) hM
  have hpp1 := hp
  have hMc := hM
  clear hp hk
  clear h3
  refine lv_pop hx hb dL_law_933 rfl ?_
  refine lv_aload_n hx hb dL_law_934 rfl (lv_at hl 1 rfl) ?_
  refine lv_aload_n hx hb dL_law_935 rfl (lv_at hl 3 rfl) ?_
  refine lv_iload_n hx hb dL_law_936 rfl (lv_at hl 0 rfl) ?_
  refine lv_iconst (v := 1) hx hb dL_law_937 (by decide) ?_
  refine lv_iadd hx hb dL_law_938 ?_
  refine va_sld hx hb hX hbl hbA hI.S (lw_in (j := 1) (by decide) (by omega) hL) dL_law_939 ?_
  have h3 := (q_bd hI hmo (rfl : q_bn 12 24 = (0, 3))).2
  refine q_ci (q_runV (As := [.int (xs (nI i + 1).toNatClampNeg)]) (rest := []) E (hml.trans hl.1.symm) hI (c_X12_doubt l X σ1 mo ((xs (nI i + 1).toNatClampNeg)) n hmo hM.1.1 hM.1.2 (by omega)) kl_108 hmo ⟨rfl, by decide⟩ (show vwCl[11]? = some (RX12, TX12, 46) from rfl) rfl ⟨Nat.le_of_ble_eq_true rfl, Nat.le_of_ble_eq_true rfl⟩ hcs rfl (Nat.le_of_ble_eq_true rfl) dL_law_940) hI (by decide) (fun r2 σ2 H locs hp hk hI => ?_)
  obtain ⟨pq0, pq1, pq2, hex2, how2⟩ := hp
  have hp := And.intro pq0 (And.intro pq1 pq2)
  have hB := lw_BK how2 hI.1 hxo hmo rfl rfl (how2.1 xo 5 (by rw [hxo]; rfl)) hB
  have hO := lw_Aob hal (ob_doubt hal hA1 hMc (by omega) ((xs (nI i + 1).toNatClampNeg))) hex1 hex2 how2 rfl
  have hA := hO.2
  have hE := lw_EK hk (by decide) hxo hmo hE
  have hM := lw_wr (hk mo 24 (by rw [hmo]; decide)) hp.1 hp.2.1 hp.2.2 hM h3 (by omega)
  have hpp2 := hp
  clear hp hk
  clear h3
  refine lv_pop hx hb dL_law_943 rfl ?_
  refine lv_goto (tgt := 1796) hx hb dL_law_944 (by decide) ?_
  exact kk _ _ _ hI hM hE hB hA

set_option maxRecDepth 100000 in
set_option maxHeartbeats 4000000 in
theorem lw_c21 {p : Program} {l : Launch} {e : Env} {s : State} {m : MethodId} {below : List Frame} {meth : Method} {c : Code} {b L : Nat} {xs : Nat → Int32} {X : XW} {xo mo : Nat} {σ0 : ST} {cells slots : Nat} {Q : State → Prop} {lb : Nat → Nat} (hcl : tb_Cls X lb xo mo) (hal : al_C X lb xo mo) (E : q_E p c cL_law s m #[Value.ref b] RL X) (hX : va_X b L xs s s.heap) (hbl : b < s.heap.size) (hbA : ¬ q_reg X b) (hml : c.maxLocals = 4) (hxo : q_kd X xo = 11) (hmo : q_kd X mo = 12) (hcs : cells ≤ room_1.cells ∧ slots ≤ room_1.slots) (hL : L ≤ 3072) {i : Nat} (hi : i + 6 ≤ L) {n : Int} (hn : 0 ≤ n ∧ n ≤ 199000) {σ : ST} {H : Heap} {locs : List Loc} {ls : Array Slot} (hI : q_I X 0 σ0 s.heap locs σ H) (hM : m_M (m_c X σ mo) (σ.1 mo 24).toInt n) (hl : lv_has ls 4 [(3, .int (nI i)), (2, .ref mo), (1, .ref xo), (0, .ref b)]) (hE : lw_E xo mo σ) (hB : lw_B X xo mo σ) (hA : al_R X xo mo σ σ)
    (kk : ∀ (σ : ST) (H : Heap) (locs : List Loc), q_I X 0 σ0 s.heap locs σ H → m_M (m_c X σ mo) (σ.1 mo 24).toInt (n + 301) → lw_E xo mo σ → lw_B X xo mo σ → al_R X xo mo σ σ → W p l e room_1 s m #[Value.ref b] below meth c H locs cells slots Q (F0 m 1796 ls [])) : W p l e room_1 s m #[Value.ref b] below meth c H locs cells slots Q (F0 m 947 ls []) := by
  have hx := E.1
  have hb := E.2.1
  have hI0 := hI
  have hE0 := hE
  have hB0 := hB
  have hA0 := hA
  have hM0 := hM
  refine lv_aload_n hx hb dL_law_947 rfl (lv_at hl 2 rfl) ?_
  refine lv_aload_n hx hb dL_law_948 rfl (lv_at hl 3 rfl) ?_
  refine lv_iload_n hx hb dL_law_949 rfl (lv_at hl 0 rfl) ?_
  refine lv_iconst (v := 1) hx hb dL_law_950 (by decide) ?_
  refine lv_iadd hx hb dL_law_951 ?_
  refine va_sld hx hb hX hbl hbA hI.S (lw_in (j := 1) (by decide) (by omega) hL) dL_law_952 ?_
  refine lv_aload_n hx hb dL_law_953 rfl (lv_at hl 3 rfl) ?_
  refine lv_iload_n hx hb dL_law_954 rfl (lv_at hl 0 rfl) ?_
  refine lv_iconst (v := 2) hx hb dL_law_955 (by decide) ?_
  refine lv_iadd hx hb dL_law_956 ?_
  refine va_sld hx hb hX hbl hbA hI.S (lw_in (j := 2) (by decide) (by omega) hL) dL_law_957 ?_
  refine lv_aload_n hx hb dL_law_958 rfl (lv_at hl 3 rfl) ?_
  refine lv_iload_n hx hb dL_law_959 rfl (lv_at hl 0 rfl) ?_
  refine lv_iconst (v := 3) hx hb dL_law_960 (by decide) ?_
  refine lv_iadd hx hb dL_law_961 ?_
  refine va_sld hx hb hX hbl hbA hI.S (lw_in (j := 3) (by decide) (by omega) hL) dL_law_962 ?_
  have h3 := (q_bd hI hmo (rfl : q_bn 12 24 = (0, 3))).2
  refine q_ci (q_runV (As := [.int (xs (nI i + 1).toNatClampNeg), .int (xs (nI i + 2).toNatClampNeg), .int (xs (nI i + 3).toNatClampNeg)]) (rest := []) E (hml.trans hl.1.symm) hI (c_X11_bend l X σ xo ((xs (nI i + 1).toNatClampNeg)) ((xs (nI i + 2).toNatClampNeg)) ((xs (nI i + 3).toNatClampNeg)) hxo) kl_109 hxo ⟨rfl, by decide⟩ (show vwCl[10]? = some (RX11, TX11, 17) from rfl) rfl ⟨Nat.le_of_ble_eq_true rfl, Nat.le_of_ble_eq_true rfl⟩ hcs rfl (Nat.le_of_ble_eq_true rfl) dL_law_963) hI (by decide) (fun r1 σ1 H locs hp hk hI => ?_)
  obtain ⟨pq0, hex1, how1⟩ := hp
  have hp := pq0
  have hB := lw_BK how1 hI.1 hxo hmo rfl rfl (how1.1 xo 5 (by rw [hxo]; rfl)) hB
  have hA1 := hA0.pre hal how1 rfl
  have hE := lw_EK hk (by decide) hxo hmo hE
  have hM := lw_kM hk hI.1 hmo (by decide) hM
  have hpp1 := hp
  have hMc := hM
  clear hp hk
  clear h3
  refine lv_pop hx hb dL_law_966 rfl ?_
  refine lv_aload_n hx hb dL_law_967 rfl (lv_at hl 1 rfl) ?_
  refine lv_aload_n hx hb dL_law_968 rfl (lv_at hl 3 rfl) ?_
  refine lv_iload_n hx hb dL_law_969 rfl (lv_at hl 0 rfl) ?_
  refine lv_iconst (v := 1) hx hb dL_law_970 (by decide) ?_
  refine lv_iadd hx hb dL_law_971 ?_
  refine va_sld hx hb hX hbl hbA hI.S (lw_in (j := 1) (by decide) (by omega) hL) dL_law_972 ?_
  refine lv_aload_n hx hb dL_law_973 rfl (lv_at hl 3 rfl) ?_
  refine lv_iload_n hx hb dL_law_974 rfl (lv_at hl 0 rfl) ?_
  refine lv_iconst (v := 2) hx hb dL_law_975 (by decide) ?_
  refine lv_iadd hx hb dL_law_976 ?_
  refine va_sld hx hb hX hbl hbA hI.S (lw_in (j := 2) (by decide) (by omega) hL) dL_law_977 ?_
  refine lv_aload_n hx hb dL_law_978 rfl (lv_at hl 3 rfl) ?_
  refine lv_iload_n hx hb dL_law_979 rfl (lv_at hl 0 rfl) ?_
  refine lv_iconst (v := 3) hx hb dL_law_980 (by decide) ?_
  refine lv_iadd hx hb dL_law_981 ?_
  refine va_sld hx hb hX hbl hbA hI.S (lw_in (j := 3) (by decide) (by omega) hL) dL_law_982 ?_
  have h3 := (q_bd hI hmo (rfl : q_bn 12 24 = (0, 3))).2
  refine q_ci (q_runV (As := [.int (xs (nI i + 1).toNatClampNeg), .int (xs (nI i + 2).toNatClampNeg), .int (xs (nI i + 3).toNatClampNeg)]) (rest := []) E (hml.trans hl.1.symm) hI (c_X12_bend l X σ1 mo ((xs (nI i + 1).toNatClampNeg)) ((xs (nI i + 2).toNatClampNeg)) ((xs (nI i + 3).toNatClampNeg)) n hmo hM.1.1 hM.1.2 (by omega)) kl_112 hmo ⟨rfl, by decide⟩ (show vwCl[11]? = some (RX12, TX12, 46) from rfl) rfl ⟨Nat.le_of_ble_eq_true rfl, Nat.le_of_ble_eq_true rfl⟩ hcs rfl (Nat.le_of_ble_eq_true rfl) dL_law_983) hI (by decide) (fun r2 σ2 H locs hp hk hI => ?_)
  obtain ⟨pq0, pq1, pq2, pq3, hex2, how2⟩ := hp
  have hp := And.intro pq0 (And.intro pq1 (And.intro pq2 pq3))
  have hB := lw_BK how2 hI.1 hxo hmo rfl rfl (how2.1 xo 5 (by rw [hxo]; rfl)) hB
  have hO := lw_Aob hal (ob_bend hal hA1 hMc ((xs (nI i + 1).toNatClampNeg)) ((xs (nI i + 2).toNatClampNeg)) ((xs (nI i + 3).toNatClampNeg))) hex1 hex2 how2 rfl
  have hA := hO.2
  have hE := lw_EK hk (by decide) hxo hmo hE
  have hM := lw_wr (hk mo 24 (by rw [hmo]; decide)) hp.2.1 hp.2.2.1 hp.2.2.2 hM h3 (by omega)
  have hpp2 := hp
  clear hp hk
  clear h3
  refine lv_pop hx hb dL_law_986 rfl ?_
  refine lv_goto (tgt := 1796) hx hb dL_law_987 (by decide) ?_
  exact kk _ _ _ hI hM hE hB hA

set_option maxRecDepth 100000 in
set_option maxHeartbeats 4000000 in
theorem lw_c22 {p : Program} {l : Launch} {e : Env} {s : State} {m : MethodId} {below : List Frame} {meth : Method} {c : Code} {b L : Nat} {xs : Nat → Int32} {X : XW} {xo mo : Nat} {σ0 : ST} {cells slots : Nat} {Q : State → Prop} {lb : Nat → Nat} (hcl : tb_Cls X lb xo mo) (hal : al_C X lb xo mo) (E : q_E p c cL_law s m #[Value.ref b] RL X) (hX : va_X b L xs s s.heap) (hbl : b < s.heap.size) (hbA : ¬ q_reg X b) (hml : c.maxLocals = 4) (hxo : q_kd X xo = 11) (hmo : q_kd X mo = 12) (hcs : cells ≤ room_1.cells ∧ slots ≤ room_1.slots) (hL : L ≤ 3072) {i : Nat} (hi : i + 6 ≤ L) {n : Int} (hn : 0 ≤ n ∧ n ≤ 199000) {σ : ST} {H : Heap} {locs : List Loc} {ls : Array Slot} (hI : q_I X 0 σ0 s.heap locs σ H) (hM : m_M (m_c X σ mo) (σ.1 mo 24).toInt n) (hl : lv_has ls 4 [(3, .int (nI i)), (2, .ref mo), (1, .ref xo), (0, .ref b)]) (hE : lw_E xo mo σ) (hB : lw_B X xo mo σ) (hA : al_R X xo mo σ σ)
    (kk : ∀ (σ : ST) (H : Heap) (locs : List Loc), q_I X 0 σ0 s.heap locs σ H → m_M (m_c X σ mo) (σ.1 mo 24).toInt (n + 301) → lw_E xo mo σ → lw_B X xo mo σ → al_R X xo mo σ σ → W p l e room_1 s m #[Value.ref b] below meth c H locs cells slots Q (F0 m 1796 ls [])) : W p l e room_1 s m #[Value.ref b] below meth c H locs cells slots Q (F0 m 990 ls []) := by
  have hx := E.1
  have hb := E.2.1
  have hI0 := hI
  have hE0 := hE
  have hB0 := hB
  have hA0 := hA
  have hM0 := hM
  refine lv_aload_n hx hb dL_law_990 rfl (lv_at hl 2 rfl) ?_
  refine lv_aload_n hx hb dL_law_991 rfl (lv_at hl 3 rfl) ?_
  refine lv_iload_n hx hb dL_law_992 rfl (lv_at hl 0 rfl) ?_
  refine lv_iconst (v := 1) hx hb dL_law_993 (by decide) ?_
  refine lv_iadd hx hb dL_law_994 ?_
  refine va_sld hx hb hX hbl hbA hI.S (lw_in (j := 1) (by decide) (by omega) hL) dL_law_995 ?_
  refine lv_aload_n hx hb dL_law_996 rfl (lv_at hl 3 rfl) ?_
  refine lv_iload_n hx hb dL_law_997 rfl (lv_at hl 0 rfl) ?_
  refine lv_iconst (v := 2) hx hb dL_law_998 (by decide) ?_
  refine lv_iadd hx hb dL_law_999 ?_
  refine va_sld hx hb hX hbl hbA hI.S (lw_in (j := 2) (by decide) (by omega) hL) dL_law_1000 ?_
  have h3 := (q_bd hI hmo (rfl : q_bn 12 24 = (0, 3))).2
  refine q_ci (q_runV (As := [.int (xs (nI i + 1).toNatClampNeg), .int (xs (nI i + 2).toNatClampNeg)]) (rest := []) E (hml.trans hl.1.symm) hI (c_X11_known l X σ xo ((xs (nI i + 1).toNatClampNeg)) ((xs (nI i + 2).toNatClampNeg)) hxo) kl_113 hxo ⟨rfl, by decide⟩ (show vwCl[10]? = some (RX11, TX11, 17) from rfl) rfl ⟨Nat.le_of_ble_eq_true rfl, Nat.le_of_ble_eq_true rfl⟩ hcs rfl (Nat.le_of_ble_eq_true rfl) dL_law_1001) hI (by decide) (fun r1 σ1 H locs hp hk hI => ?_)
  obtain ⟨hex1, how1⟩ := hp
  have hp := True.intro
  have hB := lw_BK how1 hI.1 hxo hmo rfl rfl (how1.1 xo 5 (by rw [hxo]; rfl)) hB
  have hA1 := hA0.pre hal how1 rfl
  have hA := (hA.post hal how1 rfl).pre hal how1 rfl
  have hE := lw_EK hk (by decide) hxo hmo hE
  have hM := lw_kM hk hI.1 hmo (by decide) hM
  have hpp1 := hp
  have hMc := hM
  clear hp hk
  clear h3
  refine lv_pop hx hb dL_law_1004 rfl ?_
  refine lv_aload_n hx hb dL_law_1005 rfl (lv_at hl 1 rfl) ?_
  refine lv_aload_n hx hb dL_law_1006 rfl (lv_at hl 3 rfl) ?_
  refine lv_iload_n hx hb dL_law_1007 rfl (lv_at hl 0 rfl) ?_
  refine lv_iconst (v := 1) hx hb dL_law_1008 (by decide) ?_
  refine lv_iadd hx hb dL_law_1009 ?_
  refine va_sld hx hb hX hbl hbA hI.S (lw_in (j := 1) (by decide) (by omega) hL) dL_law_1010 ?_
  refine lv_aload_n hx hb dL_law_1011 rfl (lv_at hl 3 rfl) ?_
  refine lv_iload_n hx hb dL_law_1012 rfl (lv_at hl 0 rfl) ?_
  refine lv_iconst (v := 2) hx hb dL_law_1013 (by decide) ?_
  refine lv_iadd hx hb dL_law_1014 ?_
  refine va_sld hx hb hX hbl hbA hI.S (lw_in (j := 2) (by decide) (by omega) hL) dL_law_1015 ?_
  have h3 := (q_bd hI hmo (rfl : q_bn 12 24 = (0, 3))).2
  refine q_ci (q_runV (As := [.int (xs (nI i + 1).toNatClampNeg), .int (xs (nI i + 2).toNatClampNeg)]) (rest := []) E (hml.trans hl.1.symm) hI (c_X12_known l X σ1 mo ((xs (nI i + 1).toNatClampNeg)) ((xs (nI i + 2).toNatClampNeg)) hmo hM.1.1) kl_116 hmo ⟨rfl, by decide⟩ (show vwCl[11]? = some (RX12, TX12, 46) from rfl) rfl ⟨Nat.le_of_ble_eq_true rfl, Nat.le_of_ble_eq_true rfl⟩ hcs rfl (Nat.le_of_ble_eq_true rfl) dL_law_1016) hI (by decide) (fun r2 σ2 H locs hp hk hI => ?_)
  obtain ⟨hex2, how2⟩ := hp
  have hp := True.intro
  have hB := lw_BK how2 hI.1 hxo hmo rfl rfl (how2.1 xo 5 (by rw [hxo]; rfl)) hB
  have hA := (hA.post hal how2 rfl).pre hal how2 rfl
  have hE := lw_EK hk (by decide) hxo hmo hE
  have hM := lw_up (lw_kM hk hI.1 hmo (by decide) hM) (q_bd hI hmo (rfl : q_bn 12 24 = (0, 3))).2
  have hpp2 := hp
  clear hp hk
  clear h3
  refine lv_pop hx hb dL_law_1019 rfl ?_
  refine lv_goto (tgt := 1796) hx hb dL_law_1020 (by decide) ?_
  exact kk _ _ _ hI hM hE hB hA

set_option maxRecDepth 100000 in
set_option maxHeartbeats 4000000 in
theorem lw_c23 {p : Program} {l : Launch} {e : Env} {s : State} {m : MethodId} {below : List Frame} {meth : Method} {c : Code} {b L : Nat} {xs : Nat → Int32} {X : XW} {xo mo : Nat} {σ0 : ST} {cells slots : Nat} {Q : State → Prop} {lb : Nat → Nat} (hcl : tb_Cls X lb xo mo) (hal : al_C X lb xo mo) (E : q_E p c cL_law s m #[Value.ref b] RL X) (hX : va_X b L xs s s.heap) (hbl : b < s.heap.size) (hbA : ¬ q_reg X b) (hml : c.maxLocals = 4) (hxo : q_kd X xo = 11) (hmo : q_kd X mo = 12) (hcs : cells ≤ room_1.cells ∧ slots ≤ room_1.slots) (hL : L ≤ 3072) {i : Nat} (hi : i + 6 ≤ L) {n : Int} (hn : 0 ≤ n ∧ n ≤ 199000) {σ : ST} {H : Heap} {locs : List Loc} {ls : Array Slot} (hI : q_I X 0 σ0 s.heap locs σ H) (hM : m_M (m_c X σ mo) (σ.1 mo 24).toInt n) (hl : lv_has ls 4 [(3, .int (nI i)), (2, .ref mo), (1, .ref xo), (0, .ref b)]) (hE : lw_E xo mo σ) (hB : lw_B X xo mo σ) (hA : al_R X xo mo σ σ)
    (kk : ∀ (σ : ST) (H : Heap) (locs : List Loc), q_I X 0 σ0 s.heap locs σ H → m_M (m_c X σ mo) (σ.1 mo 24).toInt (n + 301) → lw_E xo mo σ → lw_B X xo mo σ → al_R X xo mo σ σ → W p l e room_1 s m #[Value.ref b] below meth c H locs cells slots Q (F0 m 1796 ls [])) : W p l e room_1 s m #[Value.ref b] below meth c H locs cells slots Q (F0 m 1023 ls []) := by
  have hx := E.1
  have hb := E.2.1
  have hI0 := hI
  have hE0 := hE
  have hB0 := hB
  have hA0 := hA
  have hM0 := hM
  refine lv_aload_n hx hb dL_law_1023 rfl (lv_at hl 2 rfl) ?_
  refine lv_aload_n hx hb dL_law_1024 rfl (lv_at hl 3 rfl) ?_
  refine lv_iload_n hx hb dL_law_1025 rfl (lv_at hl 0 rfl) ?_
  refine lv_iconst (v := 1) hx hb dL_law_1026 (by decide) ?_
  refine lv_iadd hx hb dL_law_1027 ?_
  refine va_sld hx hb hX hbl hbA hI.S (lw_in (j := 1) (by decide) (by omega) hL) dL_law_1028 ?_
  refine lv_aload_n hx hb dL_law_1029 rfl (lv_at hl 3 rfl) ?_
  refine lv_iload_n hx hb dL_law_1030 rfl (lv_at hl 0 rfl) ?_
  refine lv_iconst (v := 2) hx hb dL_law_1031 (by decide) ?_
  refine lv_iadd hx hb dL_law_1032 ?_
  refine va_sld hx hb hX hbl hbA hI.S (lw_in (j := 2) (by decide) (by omega) hL) dL_law_1033 ?_
  have h3 := (q_bd hI hmo (rfl : q_bn 12 24 = (0, 3))).2
  refine q_ci (q_runV (As := [.int (xs (nI i + 1).toNatClampNeg), .int (xs (nI i + 2).toNatClampNeg)]) (rest := []) E (hml.trans hl.1.symm) hI (c_X11_unknown l X σ xo ((xs (nI i + 1).toNatClampNeg)) ((xs (nI i + 2).toNatClampNeg)) hxo) kl_117 hxo ⟨rfl, by decide⟩ (show vwCl[10]? = some (RX11, TX11, 17) from rfl) rfl ⟨Nat.le_of_ble_eq_true rfl, Nat.le_of_ble_eq_true rfl⟩ hcs rfl (Nat.le_of_ble_eq_true rfl) dL_law_1034) hI (by decide) (fun r1 σ1 H locs hp hk hI => ?_)
  obtain ⟨hex1, how1⟩ := hp
  have hp := True.intro
  have hB := lw_BK how1 hI.1 hxo hmo rfl rfl (how1.1 xo 5 (by rw [hxo]; rfl)) hB
  have hA1 := hA0.pre hal how1 rfl
  have hA := (hA.post hal how1 rfl).pre hal how1 rfl
  have hE := lw_EK hk (by decide) hxo hmo hE
  have hM := lw_kM hk hI.1 hmo (by decide) hM
  have hpp1 := hp
  have hMc := hM
  clear hp hk
  clear h3
  refine lv_pop hx hb dL_law_1037 rfl ?_
  refine lv_aload_n hx hb dL_law_1038 rfl (lv_at hl 1 rfl) ?_
  refine lv_aload_n hx hb dL_law_1039 rfl (lv_at hl 3 rfl) ?_
  refine lv_iload_n hx hb dL_law_1040 rfl (lv_at hl 0 rfl) ?_
  refine lv_iconst (v := 1) hx hb dL_law_1041 (by decide) ?_
  refine lv_iadd hx hb dL_law_1042 ?_
  refine va_sld hx hb hX hbl hbA hI.S (lw_in (j := 1) (by decide) (by omega) hL) dL_law_1043 ?_
  refine lv_aload_n hx hb dL_law_1044 rfl (lv_at hl 3 rfl) ?_
  refine lv_iload_n hx hb dL_law_1045 rfl (lv_at hl 0 rfl) ?_
  refine lv_iconst (v := 2) hx hb dL_law_1046 (by decide) ?_
  refine lv_iadd hx hb dL_law_1047 ?_
  refine va_sld hx hb hX hbl hbA hI.S (lw_in (j := 2) (by decide) (by omega) hL) dL_law_1048 ?_
  have h3 := (q_bd hI hmo (rfl : q_bn 12 24 = (0, 3))).2
  refine q_ci (q_runV (As := [.int (xs (nI i + 1).toNatClampNeg), .int (xs (nI i + 2).toNatClampNeg)]) (rest := []) E (hml.trans hl.1.symm) hI (c_X12_unknown l X σ1 mo ((xs (nI i + 1).toNatClampNeg)) ((xs (nI i + 2).toNatClampNeg)) hmo hM.1.1) kl_120 hmo ⟨rfl, by decide⟩ (show vwCl[11]? = some (RX12, TX12, 46) from rfl) rfl ⟨Nat.le_of_ble_eq_true rfl, Nat.le_of_ble_eq_true rfl⟩ hcs rfl (Nat.le_of_ble_eq_true rfl) dL_law_1049) hI (by decide) (fun r2 σ2 H locs hp hk hI => ?_)
  obtain ⟨hex2, how2⟩ := hp
  have hp := True.intro
  have hB := lw_BK how2 hI.1 hxo hmo rfl rfl (how2.1 xo 5 (by rw [hxo]; rfl)) hB
  have hA := (hA.post hal how2 rfl).pre hal how2 rfl
  have hE := lw_EK hk (by decide) hxo hmo hE
  have hM := lw_up (lw_kM hk hI.1 hmo (by decide) hM) (q_bd hI hmo (rfl : q_bn 12 24 = (0, 3))).2
  have hpp2 := hp
  clear hp hk
  clear h3
  refine lv_pop hx hb dL_law_1052 rfl ?_
  refine lv_goto (tgt := 1796) hx hb dL_law_1053 (by decide) ?_
  exact kk _ _ _ hI hM hE hB hA

set_option maxRecDepth 100000 in
set_option maxHeartbeats 4000000 in
theorem lw_c24 {p : Program} {l : Launch} {e : Env} {s : State} {m : MethodId} {below : List Frame} {meth : Method} {c : Code} {b L : Nat} {xs : Nat → Int32} {X : XW} {xo mo : Nat} {σ0 : ST} {cells slots : Nat} {Q : State → Prop} {lb : Nat → Nat} (hcl : tb_Cls X lb xo mo) (hal : al_C X lb xo mo) (E : q_E p c cL_law s m #[Value.ref b] RL X) (hX : va_X b L xs s s.heap) (hbl : b < s.heap.size) (hbA : ¬ q_reg X b) (hml : c.maxLocals = 4) (hxo : q_kd X xo = 11) (hmo : q_kd X mo = 12) (hcs : cells ≤ room_1.cells ∧ slots ≤ room_1.slots) (hL : L ≤ 3072) {i : Nat} (hi : i + 6 ≤ L) {n : Int} (hn : 0 ≤ n ∧ n ≤ 199000) {σ : ST} {H : Heap} {locs : List Loc} {ls : Array Slot} (hI : q_I X 0 σ0 s.heap locs σ H) (hM : m_M (m_c X σ mo) (σ.1 mo 24).toInt n) (hl : lv_has ls 4 [(3, .int (nI i)), (2, .ref mo), (1, .ref xo), (0, .ref b)]) (hE : lw_E xo mo σ) (hB : lw_B X xo mo σ) (hA : al_R X xo mo σ σ)
    (kk : ∀ (σ : ST) (H : Heap) (locs : List Loc), q_I X 0 σ0 s.heap locs σ H → m_M (m_c X σ mo) (σ.1 mo 24).toInt (n + 301) → lw_E xo mo σ → lw_B X xo mo σ → al_R X xo mo σ σ → W p l e room_1 s m #[Value.ref b] below meth c H locs cells slots Q (F0 m 1796 ls [])) : W p l e room_1 s m #[Value.ref b] below meth c H locs cells slots Q (F0 m 1056 ls []) := by
  have hx := E.1
  have hb := E.2.1
  have hI0 := hI
  have hE0 := hE
  have hB0 := hB
  have hA0 := hA
  have hM0 := hM
  refine lv_aload_n hx hb dL_law_1056 rfl (lv_at hl 2 rfl) ?_
  refine lv_aload_n hx hb dL_law_1057 rfl (lv_at hl 3 rfl) ?_
  refine lv_iload_n hx hb dL_law_1058 rfl (lv_at hl 0 rfl) ?_
  refine lv_iconst (v := 1) hx hb dL_law_1059 (by decide) ?_
  refine lv_iadd hx hb dL_law_1060 ?_
  refine va_sld hx hb hX hbl hbA hI.S (lw_in (j := 1) (by decide) (by omega) hL) dL_law_1061 ?_
  have h3 := (q_bd hI hmo (rfl : q_bn 12 24 = (0, 3))).2
  refine q_ci (q_runV (As := [.int (xs (nI i + 1).toNatClampNeg)]) (rest := []) E (hml.trans hl.1.symm) hI (c_X11_impossible l X σ xo ((xs (nI i + 1).toNatClampNeg)) hxo) kl_121 hxo ⟨rfl, by decide⟩ (show vwCl[10]? = some (RX11, TX11, 17) from rfl) rfl ⟨Nat.le_of_ble_eq_true rfl, Nat.le_of_ble_eq_true rfl⟩ hcs rfl (Nat.le_of_ble_eq_true rfl) dL_law_1062) hI (by decide) (fun r1 σ1 H locs hp hk hI => ?_)
  obtain ⟨hex1, how1⟩ := hp
  have hp := True.intro
  have hB := lw_BK how1 hI.1 hxo hmo rfl rfl (how1.1 xo 5 (by rw [hxo]; rfl)) hB
  have hA1 := hA0.pre hal how1 rfl
  have hA := (hA.post hal how1 rfl).pre hal how1 rfl
  have hE := lw_EK hk (by decide) hxo hmo hE
  have hM := lw_kM hk hI.1 hmo (by decide) hM
  have hpp1 := hp
  have hMc := hM
  clear hp hk
  clear h3
  refine lv_pop hx hb dL_law_1065 rfl ?_
  refine lv_aload_n hx hb dL_law_1066 rfl (lv_at hl 1 rfl) ?_
  refine lv_aload_n hx hb dL_law_1067 rfl (lv_at hl 3 rfl) ?_
  refine lv_iload_n hx hb dL_law_1068 rfl (lv_at hl 0 rfl) ?_
  refine lv_iconst (v := 1) hx hb dL_law_1069 (by decide) ?_
  refine lv_iadd hx hb dL_law_1070 ?_
  refine va_sld hx hb hX hbl hbA hI.S (lw_in (j := 1) (by decide) (by omega) hL) dL_law_1071 ?_
  have h3 := (q_bd hI hmo (rfl : q_bn 12 24 = (0, 3))).2
  refine q_ci (q_runV (As := [.int (xs (nI i + 1).toNatClampNeg)]) (rest := []) E (hml.trans hl.1.symm) hI (c_X12_impossible l X σ1 mo ((xs (nI i + 1).toNatClampNeg)) hmo hM.1.1) kl_124 hmo ⟨rfl, by decide⟩ (show vwCl[11]? = some (RX12, TX12, 46) from rfl) rfl ⟨Nat.le_of_ble_eq_true rfl, Nat.le_of_ble_eq_true rfl⟩ hcs rfl (Nat.le_of_ble_eq_true rfl) dL_law_1072) hI (by decide) (fun r2 σ2 H locs hp hk hI => ?_)
  obtain ⟨hex2, how2⟩ := hp
  have hp := True.intro
  have hB := lw_BK how2 hI.1 hxo hmo rfl rfl (how2.1 xo 5 (by rw [hxo]; rfl)) hB
  have hA := (hA.post hal how2 rfl).pre hal how2 rfl
  have hE := lw_EK hk (by decide) hxo hmo hE
  have hM := lw_up (lw_kM hk hI.1 hmo (by decide) hM) (q_bd hI hmo (rfl : q_bn 12 24 = (0, 3))).2
  have hpp2 := hp
  clear hp hk
  clear h3
  refine lv_pop hx hb dL_law_1075 rfl ?_
  refine lv_goto (tgt := 1796) hx hb dL_law_1076 (by decide) ?_
  exact kk _ _ _ hI hM hE hB hA

set_option maxRecDepth 100000 in
set_option maxHeartbeats 4000000 in
theorem lw_c25 {p : Program} {l : Launch} {e : Env} {s : State} {m : MethodId} {below : List Frame} {meth : Method} {c : Code} {b L : Nat} {xs : Nat → Int32} {X : XW} {xo mo : Nat} {σ0 : ST} {cells slots : Nat} {Q : State → Prop} {lb : Nat → Nat} (hcl : tb_Cls X lb xo mo) (hal : al_C X lb xo mo) (E : q_E p c cL_law s m #[Value.ref b] RL X) (hX : va_X b L xs s s.heap) (hbl : b < s.heap.size) (hbA : ¬ q_reg X b) (hml : c.maxLocals = 4) (hxo : q_kd X xo = 11) (hmo : q_kd X mo = 12) (hcs : cells ≤ room_1.cells ∧ slots ≤ room_1.slots) (hL : L ≤ 3072) {i : Nat} (hi : i + 6 ≤ L) {n : Int} (hn : 0 ≤ n ∧ n ≤ 199000) {σ : ST} {H : Heap} {locs : List Loc} {ls : Array Slot} (hI : q_I X 0 σ0 s.heap locs σ H) (hM : m_M (m_c X σ mo) (σ.1 mo 24).toInt n) (hl : lv_has ls 4 [(3, .int (nI i)), (2, .ref mo), (1, .ref xo), (0, .ref b)]) (hE : lw_E xo mo σ) (hB : lw_B X xo mo σ) (hA : al_R X xo mo σ σ)
    (kk : ∀ (σ : ST) (H : Heap) (locs : List Loc), q_I X 0 σ0 s.heap locs σ H → m_M (m_c X σ mo) (σ.1 mo 24).toInt (n + 301) → lw_E xo mo σ → lw_B X xo mo σ → al_R X xo mo σ σ → W p l e room_1 s m #[Value.ref b] below meth c H locs cells slots Q (F0 m 1796 ls [])) : W p l e room_1 s m #[Value.ref b] below meth c H locs cells slots Q (F0 m 1079 ls []) := by
  have hx := E.1
  have hb := E.2.1
  have hI0 := hI
  have hE0 := hE
  have hB0 := hB
  have hA0 := hA
  have hM0 := hM
  refine lv_aload_n hx hb dL_law_1079 rfl (lv_at hl 2 rfl) ?_
  refine lv_aload_n hx hb dL_law_1080 rfl (lv_at hl 3 rfl) ?_
  refine lv_iload_n hx hb dL_law_1081 rfl (lv_at hl 0 rfl) ?_
  refine lv_iconst (v := 1) hx hb dL_law_1082 (by decide) ?_
  refine lv_iadd hx hb dL_law_1083 ?_
  refine va_sld hx hb hX hbl hbA hI.S (lw_in (j := 1) (by decide) (by omega) hL) dL_law_1084 ?_
  have h3 := (q_bd hI hmo (rfl : q_bn 12 24 = (0, 3))).2
  refine q_ci (q_runV (As := [.int (xs (nI i + 1).toNatClampNeg)]) (rest := []) E (hml.trans hl.1.symm) hI (c_X11_blind l X σ xo ((xs (nI i + 1).toNatClampNeg)) hxo) kl_125 hxo ⟨rfl, by decide⟩ (show vwCl[10]? = some (RX11, TX11, 17) from rfl) rfl ⟨Nat.le_of_ble_eq_true rfl, Nat.le_of_ble_eq_true rfl⟩ hcs rfl (Nat.le_of_ble_eq_true rfl) dL_law_1085) hI (by decide) (fun r1 σ1 H locs hp hk hI => ?_)
  obtain ⟨pq0, hex1, how1⟩ := hp
  have hp := pq0
  have hB := lw_BK how1 hI.1 hxo hmo rfl rfl (how1.1 xo 5 (by rw [hxo]; rfl)) hB
  have hA1 := hA0.pre hal how1 rfl
  have hA := (hA.post hal how1 rfl).pre hal how1 rfl
  have hE := lw_EK hk (by decide) hxo hmo hE
  have hM := lw_kM hk hI.1 hmo (by decide) hM
  have hpp1 := hp
  have hMc := hM
  clear hp hk
  clear h3
  refine lv_pop hx hb dL_law_1088 rfl ?_
  refine lv_aload_n hx hb dL_law_1089 rfl (lv_at hl 1 rfl) ?_
  refine lv_aload_n hx hb dL_law_1090 rfl (lv_at hl 3 rfl) ?_
  refine lv_iload_n hx hb dL_law_1091 rfl (lv_at hl 0 rfl) ?_
  refine lv_iconst (v := 1) hx hb dL_law_1092 (by decide) ?_
  refine lv_iadd hx hb dL_law_1093 ?_
  refine va_sld hx hb hX hbl hbA hI.S (lw_in (j := 1) (by decide) (by omega) hL) dL_law_1094 ?_
  have h3 := (q_bd hI hmo (rfl : q_bn 12 24 = (0, 3))).2
  refine q_ci (q_runV (As := [.int (xs (nI i + 1).toNatClampNeg)]) (rest := []) E (hml.trans hl.1.symm) hI (c_X12_blind l X σ1 mo ((xs (nI i + 1).toNatClampNeg)) hmo hM.1.1) kl_129 hmo ⟨rfl, by decide⟩ (show vwCl[11]? = some (RX12, TX12, 46) from rfl) rfl ⟨Nat.le_of_ble_eq_true rfl, Nat.le_of_ble_eq_true rfl⟩ hcs rfl (Nat.le_of_ble_eq_true rfl) dL_law_1095) hI (by decide) (fun r2 σ2 H locs hp hk hI => ?_)
  obtain ⟨pq0, hex2, how2⟩ := hp
  have hp := pq0
  have hB := lw_BK how2 hI.1 hxo hmo rfl rfl (how2.1 xo 5 (by rw [hxo]; rfl)) hB
  have hA := (hA.post hal how2 rfl).pre hal how2 rfl
  have hE := lw_EK hk (by decide) hxo hmo hE
  have hM := lw_up (lw_kM hk hI.1 hmo (by decide) hM) (q_bd hI hmo (rfl : q_bn 12 24 = (0, 3))).2
  have hpp2 := hp
  clear hp hk
  clear h3
  refine lv_pop hx hb dL_law_1098 rfl ?_
  refine lv_goto (tgt := 1796) hx hb dL_law_1099 (by decide) ?_
  exact kk _ _ _ hI hM hE hB hA

set_option maxRecDepth 100000 in
set_option maxHeartbeats 4000000 in
theorem lw_c26 {p : Program} {l : Launch} {e : Env} {s : State} {m : MethodId} {below : List Frame} {meth : Method} {c : Code} {b L : Nat} {xs : Nat → Int32} {X : XW} {xo mo : Nat} {σ0 : ST} {cells slots : Nat} {Q : State → Prop} {lb : Nat → Nat} (hcl : tb_Cls X lb xo mo) (hal : al_C X lb xo mo) (E : q_E p c cL_law s m #[Value.ref b] RL X) (hX : va_X b L xs s s.heap) (hbl : b < s.heap.size) (hbA : ¬ q_reg X b) (hml : c.maxLocals = 4) (hxo : q_kd X xo = 11) (hmo : q_kd X mo = 12) (hcs : cells ≤ room_1.cells ∧ slots ≤ room_1.slots) (hL : L ≤ 3072) {i : Nat} (hi : i + 6 ≤ L) {n : Int} (hn : 0 ≤ n ∧ n ≤ 199000) {σ : ST} {H : Heap} {locs : List Loc} {ls : Array Slot} (hI : q_I X 0 σ0 s.heap locs σ H) (hM : m_M (m_c X σ mo) (σ.1 mo 24).toInt n) (hl : lv_has ls 4 [(3, .int (nI i)), (2, .ref mo), (1, .ref xo), (0, .ref b)]) (hE : lw_E xo mo σ) (hB : lw_B X xo mo σ) (hA : al_R X xo mo σ σ)
    (kk : ∀ (σ : ST) (H : Heap) (locs : List Loc), q_I X 0 σ0 s.heap locs σ H → m_M (m_c X σ mo) (σ.1 mo 24).toInt (n + 301) → lw_E xo mo σ → lw_B X xo mo σ → al_R X xo mo σ σ → W p l e room_1 s m #[Value.ref b] below meth c H locs cells slots Q (F0 m 1796 ls [])) : W p l e room_1 s m #[Value.ref b] below meth c H locs cells slots Q (F0 m 1102 ls []) := by
  have hx := E.1
  have hb := E.2.1
  have hI0 := hI
  have hE0 := hE
  have hB0 := hB
  have hA0 := hA
  have hM0 := hM
  refine lv_aload_n hx hb dL_law_1102 rfl (lv_at hl 2 rfl) ?_
  refine lv_aload_n hx hb dL_law_1103 rfl (lv_at hl 3 rfl) ?_
  refine lv_iload_n hx hb dL_law_1104 rfl (lv_at hl 0 rfl) ?_
  refine lv_iconst (v := 1) hx hb dL_law_1105 (by decide) ?_
  refine lv_iadd hx hb dL_law_1106 ?_
  refine va_sld hx hb hX hbl hbA hI.S (lw_in (j := 1) (by decide) (by omega) hL) dL_law_1107 ?_
  have h3 := (q_bd hI hmo (rfl : q_bn 12 24 = (0, 3))).2
  refine q_ci (q_runV (As := [.int (xs (nI i + 1).toNatClampNeg)]) (rest := []) E (hml.trans hl.1.symm) hI (c_X11_honest l X σ xo ((xs (nI i + 1).toNatClampNeg)) hxo) kl_130 hxo ⟨rfl, by decide⟩ (show vwCl[10]? = some (RX11, TX11, 17) from rfl) rfl ⟨Nat.le_of_ble_eq_true rfl, Nat.le_of_ble_eq_true rfl⟩ hcs rfl (Nat.le_of_ble_eq_true rfl) dL_law_1108) hI (by decide) (fun r1 σ1 H locs hp hk hI => ?_)
  obtain ⟨pq0, hex1, how1⟩ := hp
  have hp := pq0
  have hB := lw_BK how1 hI.1 hxo hmo rfl rfl (how1.1 xo 5 (by rw [hxo]; rfl)) hB
  have hA1 := hA0.pre hal how1 rfl
  have hA := (hA.post hal how1 rfl).pre hal how1 rfl
  have hE := lw_EK hk (by decide) hxo hmo hE
  have hM := lw_kM hk hI.1 hmo (by decide) hM
  have hpp1 := hp
  have hMc := hM
  clear hp hk
  clear h3
  refine lv_pop hx hb dL_law_1111 rfl ?_
  refine lv_aload_n hx hb dL_law_1112 rfl (lv_at hl 1 rfl) ?_
  refine lv_aload_n hx hb dL_law_1113 rfl (lv_at hl 3 rfl) ?_
  refine lv_iload_n hx hb dL_law_1114 rfl (lv_at hl 0 rfl) ?_
  refine lv_iconst (v := 1) hx hb dL_law_1115 (by decide) ?_
  refine lv_iadd hx hb dL_law_1116 ?_
  refine va_sld hx hb hX hbl hbA hI.S (lw_in (j := 1) (by decide) (by omega) hL) dL_law_1117 ?_
  have h3 := (q_bd hI hmo (rfl : q_bn 12 24 = (0, 3))).2
  refine q_ci (q_runV (As := [.int (xs (nI i + 1).toNatClampNeg)]) (rest := []) E (hml.trans hl.1.symm) hI (c_X12_honest l X σ1 mo ((xs (nI i + 1).toNatClampNeg)) n hmo hM.1.1 hM.1.2 (by omega)) kl_133 hmo ⟨rfl, by decide⟩ (show vwCl[11]? = some (RX12, TX12, 46) from rfl) rfl ⟨Nat.le_of_ble_eq_true rfl, Nat.le_of_ble_eq_true rfl⟩ hcs rfl (Nat.le_of_ble_eq_true rfl) dL_law_1118) hI (by decide) (fun r2 σ2 H locs hp hk hI => ?_)
  obtain ⟨pq0, hex2, how2⟩ := hp
  have hp := pq0
  have hB := lw_BK how2 hI.1 hxo hmo rfl rfl (how2.1 xo 5 (by rw [hxo]; rfl)) hB
  have hA := (hA.post hal how2 rfl).pre hal how2 rfl
  have hE := lw_EK hk (by decide) hxo hmo hE
  have hM := lw_up (lw_kM hk hI.1 hmo (by decide) hM) (q_bd hI hmo (rfl : q_bn 12 24 = (0, 3))).2
  have hpp2 := hp
  clear hp hk
  clear h3
  refine lv_pop hx hb dL_law_1121 rfl ?_
  refine lv_goto (tgt := 1796) hx hb dL_law_1122 (by decide) ?_
  exact kk _ _ _ hI hM hE hB hA
end
