/-! FROM 27.fmodel.lean.txt -/
section
noncomputable def F_X12_status (X : XW) (σ : ST) (a : Nat) : Int32 × ST :=
  q_let (q_si σ a 1 (0 : Int32) : ST) (fun σ_1 => q_let (σ_1.1 a 0 : Int32) (fun f_2 => (f_2, σ_1)))

noncomputable def F_X12_top (X : XW) (σ : ST) (a : Nat) : Int64 × ST :=
  q_let (q_si σ a 1 (0 : Int32) : ST) (fun σ_1 => q_let (σ_1.2.1 a 2 : Int64) (fun g_2 => (g_2, σ_1)))

noncomputable def F_X12_bottom (X : XW) (σ : ST) (a : Nat) : Int64 × ST :=
  q_let (q_si σ a 1 (0 : Int32) : ST) (fun σ_1 => q_let (σ_1.2.1 a 3 : Int64) (fun g_2 => (g_2, σ_1)))

noncomputable def F_X12_no (X : XW) (σ : ST) (a : Nat) (v1 : Int32) : Int32 × ST :=
  q_let (q_si σ a 0 v1 : ST) (fun σ_1 => ((0 : Int32), σ_1))

noncomputable def F_X12_refuse (X : XW) (σ : ST) (a : Nat) (v1 : Int32) : Int32 × ST :=
  q_let (q_si σ a 0 v1 : ST) (fun σ_1 => (((-1) : Int32), σ_1))

noncomputable def F_X12_trayed (X : XW) (σ : ST) (a : Nat) (v1 : Int32) : Int32 :=
  if v1.toInt < 0 then (1 : Int32) else if v1.toInt < 4 then q_let (σ.1 (q_rf X a 5) v1.toNatClampNeg : Int32) (fun f_3 => if f_3.toInt < 0 then (3 : Int32) else (0 : Int32)) else (1 : Int32)

noncomputable def F_X12_placed (X : XW) (σ : ST) (a : Nat) (v1 : Int32) (v2 : Int32) : Int32 :=
  q_let (F_X12_trayed X σ a v1 : Int32) (fun r_1 => if 0 < r_1.toInt then r_1 else if v2.toInt < 0 then (4 : Int32) else q_let (σ.1 (q_rf X a 5) v1.toNatClampNeg : Int32) (fun f_5 => if v2.toInt < f_5.toInt then (0 : Int32) else (4 : Int32)))

noncomputable def F_X12_cut (X : XW) (σ : ST) (v0 : Int32) (v1 : Int64) : Int64 :=
  if v0.toInt = 0 then q_let (v1.toInt32 : Int32) (fun z_9 => q_let (z_9.toInt8.toInt32 : Int32) (fun z_10 => q_let (z_10.toInt64 : Int64) (fun y_11 => y_11))) else if v0.toInt = 1 then q_let (v1.toInt32 : Int32) (fun z_6 => q_let (z_6.toInt16.toInt32 : Int32) (fun z_7 => q_let (z_7.toInt64 : Int64) (fun y_8 => y_8))) else if v0.toInt = 2 then q_let (v1.toInt32 : Int32) (fun z_4 => q_let (z_4.toInt64 : Int64) (fun y_5 => y_5)) else v1

noncomputable def F_X12_tray_B74_1 (X : XW) (v3 : Int32) (v1 : Int32) (a : Nat) (B74_1 : Int32 → ST → Int32 × ST) (x_20 : Int32) (σ_21 : ST) : Int32 × ST :=
  if x_20.toInt < v3.toInt then q_let ((60 : Int32) * v1 : Int32) (fun z_24 => q_let (z_24 + x_20 : Int32) (fun z_25 => q_let (q_sl σ_21 (q_rf X a 6) z_25.toNatClampNeg (0 : Int64) : ST) (fun σ_26 => q_let (x_20 + 1 : Int32) (fun z_27 => B74_1 z_27 σ_26)))) else ((1 : Int32), σ_21)

noncomputable def F_X12_tray_L74_1 (X : XW) (v3 : Int32) (v1 : Int32) (a : Nat) : Nat → Int32 → ST → Int32 × ST
  | 0 => fun x_20 σ_21 => ((0 : Int32), σ_21)
  | k_ + 1 => F_X12_tray_B74_1 X v3 v1 a (F_X12_tray_L74_1 X v3 v1 a k_)

theorem F_X12_tray_L74_1_s {X : XW} {v3 : Int32} {v1 : Int32} {a : Nat} {k_ : Nat} {x_20 : Int32} {σ_21 : ST} : F_X12_tray_L74_1 X v3 v1 a (k_ + 1) x_20 σ_21 = F_X12_tray_B74_1 X v3 v1 a (F_X12_tray_L74_1 X v3 v1 a k_) x_20 σ_21 := rfl

noncomputable def F_X12_tray (X : XW) (σ : ST) (a : Nat) (v1 : Int32) (v2 : Int32) (v3 : Int32) : Int32 × ST :=
  q_let (q_si σ a 1 (0 : Int32) : ST) (fun σ_1 => q_let (q_si σ_1 a 0 (0 : Int32) : ST) (fun σ_2 => if v1.toInt < 0 then q_bi (F_X12_no X σ_2 a (1 : Int32)) (fun r_5 σ_6 => (r_5, σ_6)) else if v1.toInt < 4 then if v2.toInt < 0 then q_bi (F_X12_no X σ_2 a (1 : Int32)) (fun r_13 σ_14 => (r_13, σ_14)) else if 3 < v2.toInt then q_bi (F_X12_no X σ_2 a (1 : Int32)) (fun r_35 σ_36 => (r_35, σ_36)) else if 60 < v3.toInt then q_bi (F_X12_no X σ_2 a (5 : Int32)) (fun r_32 σ_33 => (r_32, σ_33)) else if v3.toInt < 0 then q_bi (F_X12_no X σ_2 a (6 : Int32)) (fun r_29 σ_30 => (r_29, σ_30)) else q_let (q_si σ_2 (q_rf X a 4) v1.toNatClampNeg v2 : ST) (fun σ_18 => q_let (q_si σ_18 (q_rf X a 5) v1.toNatClampNeg v3 : ST) (fun σ_19 => F_X12_tray_L74_1 X v3 v1 a ((2147483647 - (0 : Int32).toInt).toNat + 1) (0 : Int32) σ_19)) else q_bi (F_X12_no X σ_2 a (1 : Int32)) (fun r_9 σ_10 => (r_9, σ_10))))

noncomputable def F_X12_write (X : XW) (σ : ST) (a : Nat) (v1 : Int32) (v2 : Int32) (v3 : Int64) : Int32 × ST :=
  q_let (q_si σ a 1 (0 : Int32) : ST) (fun σ_1 => q_let (F_X12_placed X σ_1 a v1 v2 : Int32) (fun r_2 => q_let (q_si σ_1 a 0 r_2 : ST) (fun σ_4 => q_let (σ_4.1 a 0 : Int32) (fun f_5 => if 0 < f_5.toInt then ((0 : Int32), σ_4) else q_let ((60 : Int32) * v1 : Int32) (fun z_7 => q_let (z_7 + v2 : Int32) (fun z_8 => q_let (σ_4.1 (q_rf X a 4) v1.toNatClampNeg : Int32) (fun f_9 => q_let (F_X12_cut X σ_4 f_9 v3 : Int64) (fun r_10 => q_let (q_sl σ_4 (q_rf X a 6) z_8.toNatClampNeg r_10 : ST) (fun σ_12 => ((1 : Int32), σ_12))))))))))

noncomputable def F_X12_read (X : XW) (σ : ST) (a : Nat) (v1 : Int32) (v2 : Int32) : Int64 × ST :=
  q_let (q_si σ a 1 (0 : Int32) : ST) (fun σ_1 => q_let (F_X12_placed X σ_1 a v1 v2 : Int32) (fun r_2 => q_let (q_si σ_1 a 0 r_2 : ST) (fun σ_4 => q_let (σ_4.1 a 0 : Int32) (fun f_5 => if 0 < f_5.toInt then (((-1) : Int64), σ_4) else q_let ((60 : Int32) * v1 : Int32) (fun z_7 => q_let (z_7 + v2 : Int32) (fun z_8 => q_let (σ_4.2.1 (q_rf X a 6) z_8.toNatClampNeg : Int64) (fun g_9 => (g_9, σ_4))))))))

noncomputable def F_X12_pour_B158_1 (X : XW) (v5 : Int32) (v3 : Int32) (v4 : Int32) (v1 : Int32) (v2 : Int32) (a : Nat) (B158_1 : Int32 → ST → Int32 × ST) (x_53 : Int32) (σ_54 : ST) : Int32 × ST :=
  if x_53.toInt < v5.toInt then if (0 : Int) = 0 then q_let ((60 : Int32) * v3 : Int32) (fun z_58 => q_let (z_58 + v4 : Int32) (fun z_59 => q_let (z_59 + x_53 : Int32) (fun z_60 => q_let ((60 : Int32) * v1 : Int32) (fun z_61 => q_let (z_61 + v2 : Int32) (fun z_62 => q_let (z_62 + x_53 : Int32) (fun z_63 => q_let (σ_54.2.1 (q_rf X a 6) z_63.toNatClampNeg : Int64) (fun g_64 => q_let (q_sl σ_54 (q_rf X a 6) z_60.toNatClampNeg g_64 : ST) (fun σ_65 => q_let (x_53 + 1 : Int32) (fun z_66 => B158_1 z_66 σ_65))))))))) else q_let (v5 - (1 : Int32) : Int32) (fun z_67 => q_let (z_67 - x_53 : Int32) (fun z_68 => q_let ((60 : Int32) * v3 : Int32) (fun z_69 => q_let (z_69 + v4 : Int32) (fun z_70 => q_let (z_70 + z_68 : Int32) (fun z_71 => q_let ((60 : Int32) * v1 : Int32) (fun z_72 => q_let (z_72 + v2 : Int32) (fun z_73 => q_let (z_73 + z_68 : Int32) (fun z_74 => q_let (σ_54.2.1 (q_rf X a 6) z_74.toNatClampNeg : Int64) (fun g_75 => q_let (q_sl σ_54 (q_rf X a 6) z_71.toNatClampNeg g_75 : ST) (fun σ_76 => q_let (x_53 + 1 : Int32) (fun z_77 => B158_1 z_77 σ_76))))))))))) else ((1 : Int32), σ_54)

noncomputable def F_X12_pour_L158_1 (X : XW) (v5 : Int32) (v3 : Int32) (v4 : Int32) (v1 : Int32) (v2 : Int32) (a : Nat) : Nat → Int32 → ST → Int32 × ST
  | 0 => fun x_53 σ_54 => ((0 : Int32), σ_54)
  | k_ + 1 => F_X12_pour_B158_1 X v5 v3 v4 v1 v2 a (F_X12_pour_L158_1 X v5 v3 v4 v1 v2 a k_)

theorem F_X12_pour_L158_1_s {X : XW} {v5 : Int32} {v3 : Int32} {v4 : Int32} {v1 : Int32} {v2 : Int32} {a : Nat} {k_ : Nat} {x_53 : Int32} {σ_54 : ST} : F_X12_pour_L158_1 X v5 v3 v4 v1 v2 a (k_ + 1) x_53 σ_54 = F_X12_pour_B158_1 X v5 v3 v4 v1 v2 a (F_X12_pour_L158_1 X v5 v3 v4 v1 v2 a k_) x_53 σ_54 := rfl

noncomputable def F_X12_pour_B158_3 (X : XW) (v5 : Int32) (v3 : Int32) (v4 : Int32) (v1 : Int32) (v2 : Int32) (a : Nat) (B158_3 : Int32 → ST → Int32 × ST) (x_78 : Int32) (σ_79 : ST) : Int32 × ST :=
  if x_78.toInt < v5.toInt then if (1 : Int) = 0 then q_let ((60 : Int32) * v3 : Int32) (fun z_83 => q_let (z_83 + v4 : Int32) (fun z_84 => q_let (z_84 + x_78 : Int32) (fun z_85 => q_let ((60 : Int32) * v1 : Int32) (fun z_86 => q_let (z_86 + v2 : Int32) (fun z_87 => q_let (z_87 + x_78 : Int32) (fun z_88 => q_let (σ_79.2.1 (q_rf X a 6) z_88.toNatClampNeg : Int64) (fun g_89 => q_let (q_sl σ_79 (q_rf X a 6) z_85.toNatClampNeg g_89 : ST) (fun σ_90 => q_let (x_78 + 1 : Int32) (fun z_91 => B158_3 z_91 σ_90))))))))) else q_let (v5 - (1 : Int32) : Int32) (fun z_92 => q_let (z_92 - x_78 : Int32) (fun z_93 => q_let ((60 : Int32) * v3 : Int32) (fun z_94 => q_let (z_94 + v4 : Int32) (fun z_95 => q_let (z_95 + z_93 : Int32) (fun z_96 => q_let ((60 : Int32) * v1 : Int32) (fun z_97 => q_let (z_97 + v2 : Int32) (fun z_98 => q_let (z_98 + z_93 : Int32) (fun z_99 => q_let (σ_79.2.1 (q_rf X a 6) z_99.toNatClampNeg : Int64) (fun g_100 => q_let (q_sl σ_79 (q_rf X a 6) z_96.toNatClampNeg g_100 : ST) (fun σ_101 => q_let (x_78 + 1 : Int32) (fun z_102 => B158_3 z_102 σ_101))))))))))) else ((1 : Int32), σ_79)

noncomputable def F_X12_pour_L158_3 (X : XW) (v5 : Int32) (v3 : Int32) (v4 : Int32) (v1 : Int32) (v2 : Int32) (a : Nat) : Nat → Int32 → ST → Int32 × ST
  | 0 => fun x_78 σ_79 => ((0 : Int32), σ_79)
  | k_ + 1 => F_X12_pour_B158_3 X v5 v3 v4 v1 v2 a (F_X12_pour_L158_3 X v5 v3 v4 v1 v2 a k_)

theorem F_X12_pour_L158_3_s {X : XW} {v5 : Int32} {v3 : Int32} {v4 : Int32} {v1 : Int32} {v2 : Int32} {a : Nat} {k_ : Nat} {x_78 : Int32} {σ_79 : ST} : F_X12_pour_L158_3 X v5 v3 v4 v1 v2 a (k_ + 1) x_78 σ_79 = F_X12_pour_B158_3 X v5 v3 v4 v1 v2 a (F_X12_pour_L158_3 X v5 v3 v4 v1 v2 a k_) x_78 σ_79 := rfl

noncomputable def F_X12_pour (X : XW) (σ : ST) (a : Nat) (v1 : Int32) (v2 : Int32) (v3 : Int32) (v4 : Int32) (v5 : Int32) : Int32 × ST :=
  q_let (q_si σ a 1 (0 : Int32) : ST) (fun σ_1 => q_let (q_si σ_1 a 0 (0 : Int32) : ST) (fun σ_2 => if v1.toInt < 0 then q_bi (F_X12_no X σ_2 a (1 : Int32)) (fun r_5 σ_6 => (r_5, σ_6)) else if v1.toInt < 4 then if v3.toInt < 0 then q_bi (F_X12_no X σ_2 a (1 : Int32)) (fun r_13 σ_14 => (r_13, σ_14)) else if v3.toInt < 4 then q_let (σ_2.1 (q_rf X a 5) v1.toNatClampNeg : Int32) (fun f_16 => if f_16.toInt < 0 then q_bi (F_X12_no X σ_2 a (3 : Int32)) (fun r_19 σ_20 => (r_19, σ_20)) else q_let (σ_2.1 (q_rf X a 5) v3.toNatClampNeg : Int32) (fun f_21 => if f_21.toInt < 0 then q_bi (F_X12_no X σ_2 a (3 : Int32)) (fun r_113 σ_114 => (r_113, σ_114)) else q_let (σ_2.1 (q_rf X a 4) v1.toNatClampNeg : Int32) (fun f_23 => q_let (σ_2.1 (q_rf X a 4) v3.toNatClampNeg : Int32) (fun f_24 => if f_23.toInt = f_24.toInt then if v5.toInt < 0 then q_bi (F_X12_no X σ_2 a (6 : Int32)) (fun r_107 σ_108 => (r_107, σ_108)) else if v2.toInt < 0 then q_bi (F_X12_no X σ_2 a (4 : Int32)) (fun r_29 σ_30 => (r_29, σ_30)) else if v4.toInt < 0 then q_bi (F_X12_no X σ_2 a (4 : Int32)) (fun r_33 σ_34 => (r_33, σ_34)) else q_let (v2.toInt64 : Int64) (fun y_35 => q_let (v5.toInt64 : Int64) (fun y_36 => q_let (y_35 + y_36 : Int64) (fun y_37 => q_let (σ_2.1 (q_rf X a 5) v1.toNatClampNeg : Int32) (fun f_38 => q_let (f_38.toInt64 : Int64) (fun y_39 => q_let (lg_cmp y_37 y_39 : Int32) (fun z_40 => if 0 < z_40.toInt then q_bi (F_X12_no X σ_2 a (4 : Int32)) (fun r_43 σ_44 => (r_43, σ_44)) else q_let (v4.toInt64 : Int64) (fun y_45 => q_let (v5.toInt64 : Int64) (fun y_46 => q_let (y_45 + y_46 : Int64) (fun y_47 => q_let (σ_2.1 (q_rf X a 5) v3.toNatClampNeg : Int32) (fun f_48 => q_let (f_48.toInt64 : Int64) (fun y_49 => q_let (lg_cmp y_47 y_49 : Int32) (fun z_50 => if 0 < z_50.toInt then q_bi (F_X12_no X σ_2 a (4 : Int32)) (fun r_104 σ_105 => (r_104, σ_105)) else if v2.toInt < v4.toInt then F_X12_pour_L158_3 X v5 v3 v4 v1 v2 a ((2147483647 - (0 : Int32).toInt).toNat + 1) (0 : Int32) σ_2 else F_X12_pour_L158_1 X v5 v3 v4 v1 v2 a ((2147483647 - (0 : Int32).toInt).toNat + 1) (0 : Int32) σ_2)))))))))))) else q_bi (F_X12_no X σ_2 a (11 : Int32)) (fun r_110 σ_111 => (r_110, σ_111)))))) else q_bi (F_X12_no X σ_2 a (1 : Int32)) (fun r_116 σ_117 => (r_116, σ_117)) else q_bi (F_X12_no X σ_2 a (1 : Int32)) (fun r_9 σ_10 => (r_9, σ_10))))

noncomputable def F_X12_lays_B2_1 (X : XW) (a : Nat) (v1 : Int32) (B2_1 : Int32 → ST → ST) (x_1 : Int32) (σ_2 : ST) : ST :=
  if x_1.toInt < 0 then σ_2 else q_let (σ_2.1 a 8 : Int32) (fun f_5 => q_let ((8 : Int32) * x_1 : Int32) (fun z_6 => q_let (v1 >>> (z_6 &&& 31) : Int32) (fun z_7 => q_let (z_7.toInt8.toInt32 : Int32) (fun z_8 => q_let (q_si σ_2 (q_rf X a 7) f_5.toNatClampNeg z_8.toInt8.toInt32 : ST) (fun σ_9 => q_let (σ_9.1 a 8 : Int32) (fun f_10 => q_let (f_10 + (1 : Int32) : Int32) (fun z_11 => q_let (q_si σ_9 a 8 z_11 : ST) (fun σ_12 => q_let (x_1 + (-1) : Int32) (fun z_13 => B2_1 z_13 σ_12)))))))))

noncomputable def F_X12_lays_L2_1 (X : XW) (a : Nat) (v1 : Int32) : Nat → Int32 → ST → ST
  | 0 => fun x_1 σ_2 => σ_2
  | k_ + 1 => F_X12_lays_B2_1 X a v1 (F_X12_lays_L2_1 X a v1 k_)

theorem F_X12_lays_L2_1_s {X : XW} {a : Nat} {v1 : Int32} {k_ : Nat} {x_1 : Int32} {σ_2 : ST} : F_X12_lays_L2_1 X a v1 (k_ + 1) x_1 σ_2 = F_X12_lays_B2_1 X a v1 (F_X12_lays_L2_1 X a v1 k_) x_1 σ_2 := rfl

noncomputable def F_X12_lays (X : XW) (σ : ST) (a : Nat) (v1 : Int32) : ST :=
  F_X12_lays_L2_1 X a v1 (((3 : Int32).toInt + 2147483656).toNat + 1) (3 : Int32) σ

noncomputable def F_X12_feed (X : XW) (σ : ST) (a : Nat) (v1 : Int32) (v2 : Int32) (v3 : Int32) (v4 : Int32) (v5 : Int32) : Int32 × ST :=
  q_let (q_si σ a 1 (0 : Int32) : ST) (fun σ_1 => q_let (σ_1.1 a 8 : Int32) (fun f_2 => q_let (f_2 + (20 : Int32) : Int32) (fun z_3 => if 900 < z_3.toInt then (((-1) : Int32), σ_1) else q_let (F_X12_lays X σ_1 a v1 : ST) (fun σ_6 => q_let (F_X12_lays X σ_6 a v2 : ST) (fun σ_8 => q_let (F_X12_lays X σ_8 a v3 : ST) (fun σ_10 => q_let (F_X12_lays X σ_10 a v4 : ST) (fun σ_12 => q_let (F_X12_lays X σ_12 a v5 : ST) (fun σ_14 => q_let (σ_14.1 a 8 : Int32) (fun f_15 => (f_15, σ_14))))))))))

noncomputable def F_X12_fault (X : XW) (σ : ST) (a : Nat) (v1 : Int32) : Int32 × ST :=
  q_let (q_si σ a 1 (0 : Int32) : ST) (fun σ_1 => if v1.toInt = 0 then q_let (σ_1.1 a 10 : Int32) (fun f_5 => (f_5, σ_1)) else if v1.toInt = 1 then q_let (σ_1.1 a 11 : Int32) (fun f_4 => (f_4, σ_1)) else (((-1) : Int32), σ_1))

noncomputable def F_X12_isIn (X : XW) (σ : ST) (v0 : Int64) (v1 : Int64) (v2 : Int64) : Int32 :=
  q_let (lg_cmp v0 v1 : Int32) (fun z_1 => if z_1.toInt < 0 then (0 : Int32) else q_let (lg_cmp v0 v2 : Int32) (fun z_3 => if 0 < z_3.toInt then (0 : Int32) else (1 : Int32)))

noncomputable def F_X12_look2 (X : XW) (σ : ST) (a : Nat) (v1 : Int32) : Int32 :=
  q_let (σ.1 a 9 : Int32) (fun f_1 => if v1.toInt < f_1.toInt then q_let (σ.1 (q_rf X a 7) v1.toNatClampNeg : Int32) (fun f_3 => q_let (f_3 &&& (255 : Int32) : Int32) (fun z_4 => z_4)) else (0 : Int32))

noncomputable def F_X12_isLetter (X : XW) (σ : ST) (v0 : Int32) : Int32 :=
  if v0.toInt < 97 then (0 : Int32) else if 122 < v0.toInt then (0 : Int32) else (1 : Int32)

noncomputable def F_X12_isDigit (X : XW) (σ : ST) (v0 : Int32) : Int32 :=
  if v0.toInt < 48 then (0 : Int32) else if 57 < v0.toInt then (0 : Int32) else (1 : Int32)

noncomputable def F_X12_isSignByte (X : XW) (σ : ST) (a : Nat) (v1 : Int32) : Int32 :=
  if v1.toInt = 59 then (1 : Int32) else if v1.toInt = 60 then (1 : Int32) else if v1.toInt = 62 then (1 : Int32) else if v1.toInt = 61 then (1 : Int32) else (0 : Int32)

noncomputable def F_X12_isSign (X : XW) (σ : ST) (a : Nat) (v1 : Int32) : Int32 :=
  q_let (σ.1 a 14 : Int32) (fun f_1 => if f_1.toInt = 3 then q_let (σ.1 a 17 : Int32) (fun f_3 => if f_3.toInt = v1.toInt then (1 : Int32) else (0 : Int32)) else (0 : Int32))

noncomputable def F_X12_isWord (X : XW) (σ : ST) (a : Nat) (v1 : Int64) : Int32 :=
  q_let (σ.1 a 14 : Int32) (fun f_1 => if f_1.toInt = 1 then q_let (σ.2.1 a 19 : Int64) (fun g_3 => q_let (lg_cmp g_3 v1 : Int32) (fun z_4 => if z_4.toInt = 0 then (1 : Int32) else (0 : Int32))) else (0 : Int32))

noncomputable def F_X12_fail (X : XW) (σ : ST) (a : Nat) (v1 : Int32) (v2 : Int32) : ST :=
  q_let (σ.1 a 12 : Int32) (fun f_1 => if 0 < f_1.toInt then σ else q_let (q_si σ a 12 v1 : ST) (fun σ_3 => q_let (q_si σ_3 a 13 v2 : ST) (fun σ_4 => σ_4)))

noncomputable def F_X12_wrong (X : XW) (σ : ST) (a : Nat) : ST :=
  q_let (σ.1 a 14 : Int32) (fun f_1 => if f_1.toInt = 4 then q_let (σ.1 a 15 : Int32) (fun f_7 => q_let (F_X12_fail X σ a (1 : Int32) f_7 : ST) (fun σ_10 => σ_10)) else q_let (σ.1 a 15 : Int32) (fun f_3 => q_let (F_X12_fail X σ a (2 : Int32) f_3 : ST) (fun σ_6 => σ_6)))

noncomputable def F_X12_next_E273_4 (X : XW) (σ_31 : ST) (a : Nat) : ST :=
  q_let (σ_31.1 a 16 : Int32) (fun f_39 => q_let (σ_31.1 a 15 : Int32) (fun f_40 => q_let (f_39 - f_40 : Int32) (fun z_41 => if 4 < z_41.toInt then q_let (q_si σ_31 a 14 (4 : Int32) : ST) (fun σ_44 => σ_44) else q_let (q_si σ_31 a 14 (2 : Int32) : ST) (fun σ_43 => σ_43))))

noncomputable def F_X12_next_B210_3 (X : XW) (a : Nat) (B210_3 : ST → ST) (σ_31 : ST) : ST :=
  q_let (σ_31.1 a 16 : Int32) (fun f_33 => q_let (F_X12_look2 X σ_31 a f_33 : Int32) (fun r_34 => q_let (F_X12_isDigit X σ_31 r_34 : Int32) (fun r_36 => if r_36.toInt = 0 then F_X12_next_E273_4 X σ_31 a else q_let (σ_31.1 a 16 : Int32) (fun f_45 => q_let (σ_31.1 a 15 : Int32) (fun f_46 => q_let (f_45 - f_46 : Int32) (fun z_47 => if z_47.toInt < 4 then q_let (σ_31.1 a 17 : Int32) (fun f_52 => q_let ((10 : Int32) * f_52 : Int32) (fun z_53 => q_let (σ_31.1 a 16 : Int32) (fun f_54 => q_let (F_X12_look2 X σ_31 a f_54 : Int32) (fun r_55 => q_let (z_53 + r_55 : Int32) (fun z_57 => q_let (z_57 - (48 : Int32) : Int32) (fun z_58 => q_let (q_si σ_31 a 17 z_58 : ST) (fun σ_59 => q_let (σ_59.1 a 16 : Int32) (fun f_60 => q_let (f_60 + (1 : Int32) : Int32) (fun z_61 => q_let (q_si σ_59 a 16 z_61 : ST) (fun σ_62 => B210_3 σ_62)))))))))) else q_let (σ_31.1 a 16 : Int32) (fun f_49 => q_let (f_49 + (1 : Int32) : Int32) (fun z_50 => q_let (q_si σ_31 a 16 z_50 : ST) (fun σ_51 => B210_3 σ_51)))))))))

noncomputable def F_X12_next_L210_3 (X : XW) (a : Nat) : Nat → ST → ST
  | 0 => fun σ_31 => σ_31
  | k_ + 1 => F_X12_next_B210_3 X a (F_X12_next_L210_3 X a k_)

theorem F_X12_next_L210_3_s {X : XW} {a : Nat} {k_ : Nat} {σ_31 : ST} : F_X12_next_L210_3 X a (k_ + 1) σ_31 = F_X12_next_B210_3 X a (F_X12_next_L210_3 X a k_) σ_31 := rfl

noncomputable def F_X12_next_E182_6 (X : XW) (σ_65 : ST) (a : Nat) : ST :=
  q_let (σ_65.1 a 16 : Int32) (fun f_73 => q_let (σ_65.1 a 15 : Int32) (fun f_74 => q_let (f_73 - f_74 : Int32) (fun z_75 => q_let (q_si σ_65 a 18 z_75 : ST) (fun σ_76 => σ_76))))

noncomputable def F_X12_next_B109_5 (X : XW) (a : Nat) (B109_5 : ST → ST) (σ_65 : ST) : ST :=
  q_let (σ_65.1 a 16 : Int32) (fun f_67 => q_let (F_X12_look2 X σ_65 a f_67 : Int32) (fun r_68 => q_let (F_X12_isLetter X σ_65 r_68 : Int32) (fun r_70 => if r_70.toInt = 0 then F_X12_next_E182_6 X σ_65 a else q_let (σ_65.1 a 16 : Int32) (fun f_77 => q_let (σ_65.1 a 15 : Int32) (fun f_78 => q_let (f_77 - f_78 : Int32) (fun z_79 => if z_79.toInt < 8 then q_let (σ_65.2.1 a 19 : Int64) (fun g_85 => q_let (g_85 * (32 : Int64) : Int64) (fun y_86 => q_let (σ_65.1 a 16 : Int32) (fun f_87 => q_let (F_X12_look2 X σ_65 a f_87 : Int32) (fun r_88 => q_let (r_88.toInt64 : Int64) (fun y_90 => q_let (y_86 + y_90 : Int64) (fun y_91 => q_let (y_91 - (96 : Int64) : Int64) (fun y_92 => q_let (q_sl σ_65 a 19 y_92 : ST) (fun σ_93 => q_let (σ_93.1 a 16 : Int32) (fun f_94 => q_let (f_94 + (1 : Int32) : Int32) (fun z_95 => q_let (q_si σ_93 a 16 z_95 : ST) (fun σ_96 => B109_5 σ_96))))))))))) else q_let (q_sl σ_65 a 19 ((-1) : Int64) : ST) (fun σ_81 => q_let (σ_81.1 a 16 : Int32) (fun f_82 => q_let (f_82 + (1 : Int32) : Int32) (fun z_83 => q_let (q_si σ_81 a 16 z_83 : ST) (fun σ_84 => B109_5 σ_84))))))))))

noncomputable def F_X12_next_L109_5 (X : XW) (a : Nat) : Nat → ST → ST
  | 0 => fun σ_65 => σ_65
  | k_ + 1 => F_X12_next_B109_5 X a (F_X12_next_L109_5 X a k_)

theorem F_X12_next_L109_5_s {X : XW} {a : Nat} {k_ : Nat} {σ_65 : ST} : F_X12_next_L109_5 X a (k_ + 1) σ_65 = F_X12_next_B109_5 X a (F_X12_next_L109_5 X a k_) σ_65 := rfl

noncomputable def F_X12_next_J58_2 (X : XW) (σ_3 : ST) (a : Nat) : ST :=
  q_let (σ_3.1 a 15 : Int32) (fun f_7 => q_let (q_si σ_3 a 16 f_7 : ST) (fun σ_8 => q_let (σ_8.1 a 15 : Int32) (fun f_9 => q_let (σ_8.1 a 9 : Int32) (fun f_10 => if f_9.toInt < f_10.toInt then q_let (σ_8.1 a 15 : Int32) (fun f_12 => q_let (F_X12_look2 X σ_8 a f_12 : Int32) (fun r_13 => q_let (F_X12_isLetter X σ_8 r_13 : Int32) (fun r_15 => if r_15.toInt = 0 then q_let (F_X12_isDigit X σ_8 r_13 : Int32) (fun r_18 => if r_18.toInt = 0 then q_let (σ_8.1 a 15 : Int32) (fun f_21 => q_let (f_21 + (1 : Int32) : Int32) (fun z_22 => q_let (q_si σ_8 a 16 z_22 : ST) (fun σ_23 => q_let (q_si σ_23 a 17 r_13 : ST) (fun σ_24 => q_let (F_X12_isSignByte X σ_24 a r_13 : Int32) (fun r_25 => if r_25.toInt = 0 then q_let (q_si σ_24 a 14 (4 : Int32) : ST) (fun σ_28 => σ_28) else q_let (q_si σ_24 a 14 (3 : Int32) : ST) (fun σ_29 => σ_29)))))) else q_let (q_si σ_8 a 17 (0 : Int32) : ST) (fun σ_30 => F_X12_next_L210_3 X a (((σ_30.1 a 9).toInt - (σ_30.1 a 16).toInt).toNat + 1) σ_30)) else q_let (q_si σ_8 a 14 (1 : Int32) : ST) (fun σ_63 => q_let (q_sl σ_63 a 19 (0 : Int64) : ST) (fun σ_64 => F_X12_next_L109_5 X a (((σ_64.1 a 9).toInt - (σ_64.1 a 16).toInt).toNat + 1) σ_64))))) else q_let (q_si σ_8 a 14 (0 : Int32) : ST) (fun σ_97 => σ_97)))))

noncomputable def F_X12_next_B8_1 (X : XW) (a : Nat) (B8_1 : ST → ST) (σ_3 : ST) : ST :=
  q_let (σ_3.1 a 15 : Int32) (fun f_5 => q_let (σ_3.1 a 9 : Int32) (fun f_6 => if f_5.toInt < f_6.toInt then q_let (σ_3.1 a 15 : Int32) (fun f_99 => q_let (F_X12_look2 X σ_3 a f_99 : Int32) (fun r_100 => if r_100.toInt = 10 then q_let (σ_3.1 a 15 : Int32) (fun f_103 => q_let (f_103 + (1 : Int32) : Int32) (fun z_104 => q_let (q_si σ_3 a 15 z_104 : ST) (fun σ_105 => B8_1 σ_105))) else q_let (σ_3.1 a 15 : Int32) (fun f_106 => q_let (F_X12_look2 X σ_3 a f_106 : Int32) (fun r_107 => if r_107.toInt = 32 then q_let (σ_3.1 a 15 : Int32) (fun f_110 => q_let (f_110 + (1 : Int32) : Int32) (fun z_111 => q_let (q_si σ_3 a 15 z_111 : ST) (fun σ_112 => B8_1 σ_112))) else F_X12_next_J58_2 X σ_3 a)))) else F_X12_next_J58_2 X σ_3 a))

noncomputable def F_X12_next_L8_1 (X : XW) (a : Nat) : Nat → ST → ST
  | 0 => fun σ_3 => σ_3
  | k_ + 1 => F_X12_next_B8_1 X a (F_X12_next_L8_1 X a k_)

theorem F_X12_next_L8_1_s {X : XW} {a : Nat} {k_ : Nat} {σ_3 : ST} : F_X12_next_L8_1 X a (k_ + 1) σ_3 = F_X12_next_B8_1 X a (F_X12_next_L8_1 X a k_) σ_3 := rfl

noncomputable def F_X12_next (X : XW) (σ : ST) (a : Nat) : ST :=
  q_let (σ.1 a 16 : Int32) (fun f_1 => q_let (q_si σ a 15 f_1 : ST) (fun σ_2 => F_X12_next_L8_1 X a (((σ_2.1 a 9).toInt - (σ_2.1 a 15).toInt).toNat + 1) σ_2))

noncomputable def F_X12_must (X : XW) (σ : ST) (a : Nat) (v1 : Int32) : ST :=
  q_let (σ.1 a 12 : Int32) (fun f_1 => if 0 < f_1.toInt then σ else if v1.toInt = 0 then q_let (F_X12_wrong X σ a : ST) (fun σ_5 => σ_5) else q_let (F_X12_next X σ a : ST) (fun σ_7 => σ_7))

noncomputable def F_X12_count_J19_1 (X : XW) (a : Nat) (v1 : Int32) (v2 : Int32) (σ_2 : ST) : Int32 × ST :=
  q_let (σ_2.1 a 12 : Int32) (fun f_3 => if f_3.toInt = 0 then q_let (σ_2.1 a 17 : Int32) (fun f_10 => q_let (f_10.toInt64 : Int64) (fun y_11 => q_let (v1.toInt64 : Int64) (fun y_12 => q_let (v2.toInt64 : Int64) (fun y_13 => q_let (F_X12_isIn X σ_2 y_11 y_12 y_13 : Int32) (fun r_14 => if r_14.toInt = 0 then q_let (σ_2.1 a 15 : Int32) (fun f_22 => q_let (F_X12_fail X σ_2 a (4 : Int32) f_22 : ST) (fun σ_25 => q_let (σ_25.1 a 12 : Int32) (fun f_26 => if 0 < f_26.toInt then ((0 : Int32), σ_25) else q_let (σ_25.1 a 17 : Int32) (fun f_28 => q_let (F_X12_next X σ_25 a : ST) (fun σ_30 => (f_28, σ_30)))))) else q_let (σ_2.1 a 12 : Int32) (fun f_17 => if 0 < f_17.toInt then ((0 : Int32), σ_2) else q_let (σ_2.1 a 17 : Int32) (fun f_19 => q_let (F_X12_next X σ_2 a : ST) (fun σ_21 => (f_19, σ_21))))))))) else q_let (σ_2.1 a 12 : Int32) (fun f_5 => if 0 < f_5.toInt then ((0 : Int32), σ_2) else q_let (σ_2.1 a 17 : Int32) (fun f_7 => q_let (F_X12_next X σ_2 a : ST) (fun σ_9 => (f_7, σ_9)))))

noncomputable def F_X12_count (X : XW) (σ : ST) (a : Nat) (v1 : Int32) (v2 : Int32) : Int32 × ST :=
  q_let (σ.1 a 12 : Int32) (fun f_1 => if f_1.toInt = 0 then q_let (σ.1 a 14 : Int32) (fun f_32 => if f_32.toInt = 2 then F_X12_count_J19_1 X a v1 v2 σ else q_let (F_X12_wrong X σ a : ST) (fun σ_35 => F_X12_count_J19_1 X a v1 v2 σ_35)) else F_X12_count_J19_1 X a v1 v2 σ)

noncomputable def F_X12_spelled (X : XW) (σ : ST) (v0 : Int32) (v1 : Int32) (v2 : Int32) (v3 : Int32) (v4 : Int32) (v5 : Int32) : Int64 :=
  q_let (v0.toInt64 : Int64) (fun y_1 => q_let (y_1 - (96 : Int64) : Int64) (fun y_2 => q_let (y_2 * (32 : Int64) : Int64) (fun y_3 => q_let (v1.toInt64 : Int64) (fun y_4 => q_let (y_3 + y_4 : Int64) (fun y_5 => q_let (y_5 - (96 : Int64) : Int64) (fun y_6 => if 0 < v2.toInt then q_let (y_6 * (32 : Int64) : Int64) (fun y_43 => q_let (v2.toInt64 : Int64) (fun y_44 => q_let (y_43 + y_44 : Int64) (fun y_45 => q_let (y_45 - (96 : Int64) : Int64) (fun y_46 => if 0 < v3.toInt then q_let (y_46 * (32 : Int64) : Int64) (fun y_63 => q_let (v3.toInt64 : Int64) (fun y_64 => q_let (y_63 + y_64 : Int64) (fun y_65 => q_let (y_65 - (96 : Int64) : Int64) (fun y_66 => if 0 < v4.toInt then q_let (y_66 * (32 : Int64) : Int64) (fun y_73 => q_let (v4.toInt64 : Int64) (fun y_74 => q_let (y_73 + y_74 : Int64) (fun y_75 => q_let (y_75 - (96 : Int64) : Int64) (fun y_76 => if 0 < v5.toInt then q_let (y_76 * (32 : Int64) : Int64) (fun y_78 => q_let (v5.toInt64 : Int64) (fun y_79 => q_let (y_78 + y_79 : Int64) (fun y_80 => q_let (y_80 - (96 : Int64) : Int64) (fun y_81 => y_81)))) else y_76)))) else if 0 < v5.toInt then q_let (y_66 * (32 : Int64) : Int64) (fun y_69 => q_let (v5.toInt64 : Int64) (fun y_70 => q_let (y_69 + y_70 : Int64) (fun y_71 => q_let (y_71 - (96 : Int64) : Int64) (fun y_72 => y_72)))) else y_66)))) else if 0 < v4.toInt then q_let (y_46 * (32 : Int64) : Int64) (fun y_54 => q_let (v4.toInt64 : Int64) (fun y_55 => q_let (y_54 + y_55 : Int64) (fun y_56 => q_let (y_56 - (96 : Int64) : Int64) (fun y_57 => if 0 < v5.toInt then q_let (y_57 * (32 : Int64) : Int64) (fun y_59 => q_let (v5.toInt64 : Int64) (fun y_60 => q_let (y_59 + y_60 : Int64) (fun y_61 => q_let (y_61 - (96 : Int64) : Int64) (fun y_62 => y_62)))) else y_57)))) else if 0 < v5.toInt then q_let (y_46 * (32 : Int64) : Int64) (fun y_50 => q_let (v5.toInt64 : Int64) (fun y_51 => q_let (y_50 + y_51 : Int64) (fun y_52 => q_let (y_52 - (96 : Int64) : Int64) (fun y_53 => y_53)))) else y_46)))) else if 0 < v3.toInt then q_let (y_6 * (32 : Int64) : Int64) (fun y_24 => q_let (v3.toInt64 : Int64) (fun y_25 => q_let (y_24 + y_25 : Int64) (fun y_26 => q_let (y_26 - (96 : Int64) : Int64) (fun y_27 => if 0 < v4.toInt then q_let (y_27 * (32 : Int64) : Int64) (fun y_34 => q_let (v4.toInt64 : Int64) (fun y_35 => q_let (y_34 + y_35 : Int64) (fun y_36 => q_let (y_36 - (96 : Int64) : Int64) (fun y_37 => if 0 < v5.toInt then q_let (y_37 * (32 : Int64) : Int64) (fun y_39 => q_let (v5.toInt64 : Int64) (fun y_40 => q_let (y_39 + y_40 : Int64) (fun y_41 => q_let (y_41 - (96 : Int64) : Int64) (fun y_42 => y_42)))) else y_37)))) else if 0 < v5.toInt then q_let (y_27 * (32 : Int64) : Int64) (fun y_30 => q_let (v5.toInt64 : Int64) (fun y_31 => q_let (y_30 + y_31 : Int64) (fun y_32 => q_let (y_32 - (96 : Int64) : Int64) (fun y_33 => y_33)))) else y_27)))) else if 0 < v4.toInt then q_let (y_6 * (32 : Int64) : Int64) (fun y_15 => q_let (v4.toInt64 : Int64) (fun y_16 => q_let (y_15 + y_16 : Int64) (fun y_17 => q_let (y_17 - (96 : Int64) : Int64) (fun y_18 => if 0 < v5.toInt then q_let (y_18 * (32 : Int64) : Int64) (fun y_20 => q_let (v5.toInt64 : Int64) (fun y_21 => q_let (y_20 + y_21 : Int64) (fun y_22 => q_let (y_22 - (96 : Int64) : Int64) (fun y_23 => y_23)))) else y_18)))) else if 0 < v5.toInt then q_let (y_6 * (32 : Int64) : Int64) (fun y_11 => q_let (v5.toInt64 : Int64) (fun y_12 => q_let (y_11 + y_12 : Int64) (fun y_13 => q_let (y_13 - (96 : Int64) : Int64) (fun y_14 => y_14)))) else y_6))))))

noncomputable def F_X12_isKinds (X : XW) (σ : ST) (a : Nat) : Int32 :=
  q_let (F_X12_spelled X σ (107 : Int32) (105 : Int32) (110 : Int32) (100 : Int32) (115 : Int32) (0 : Int32) : Int64) (fun r_7 => q_let (F_X12_isWord X σ a r_7 : Int32) (fun r_9 => r_9))

noncomputable def F_X12_isEach (X : XW) (σ : ST) (a : Nat) : Int32 :=
  q_let (F_X12_spelled X σ (101 : Int32) (97 : Int32) (99 : Int32) (104 : Int32) (0 : Int32) (0 : Int32) : Int64) (fun r_7 => q_let (F_X12_isWord X σ a r_7 : Int32) (fun r_9 => r_9))

noncomputable def F_X12_isLaw (X : XW) (σ : ST) (a : Nat) : Int32 :=
  q_let (F_X12_spelled X σ (108 : Int32) (97 : Int32) (119 : Int32) (0 : Int32) (0 : Int32) (0 : Int32) : Int64) (fun r_7 => q_let (F_X12_isWord X σ a r_7 : Int32) (fun r_9 => r_9))

noncomputable def F_X12_isMost (X : XW) (σ : ST) (a : Nat) : Int32 :=
  q_let (F_X12_spelled X σ (109 : Int32) (111 : Int32) (115 : Int32) (116 : Int32) (0 : Int32) (0 : Int32) : Int64) (fun r_7 => q_let (F_X12_isWord X σ a r_7 : Int32) (fun r_9 => r_9))

noncomputable def F_X12_isPlayer (X : XW) (σ : ST) (a : Nat) : Int32 :=
  q_let (F_X12_spelled X σ (112 : Int32) (108 : Int32) (97 : Int32) (121 : Int32) (101 : Int32) (114 : Int32) : Int64) (fun r_7 => q_let (F_X12_isWord X σ a r_7 : Int32) (fun r_9 => r_9))

noncomputable def F_X12_isLies (X : XW) (σ : ST) (a : Nat) : Int32 :=
  q_let (F_X12_spelled X σ (108 : Int32) (105 : Int32) (101 : Int32) (115 : Int32) (0 : Int32) (0 : Int32) : Int64) (fun r_7 => q_let (F_X12_isWord X σ a r_7 : Int32) (fun r_9 => r_9))

noncomputable def F_X12_isDoubts (X : XW) (σ : ST) (a : Nat) : Int32 :=
  q_let (F_X12_spelled X σ (100 : Int32) (111 : Int32) (117 : Int32) (98 : Int32) (116 : Int32) (115 : Int32) : Int64) (fun r_7 => q_let (F_X12_isWord X σ a r_7 : Int32) (fun r_9 => r_9))

noncomputable def F_X12_isHand (X : XW) (σ : ST) (a : Nat) : Int32 :=
  q_let (F_X12_spelled X σ (104 : Int32) (97 : Int32) (110 : Int32) (100 : Int32) (0 : Int32) (0 : Int32) : Int64) (fun r_7 => q_let (F_X12_isWord X σ a r_7 : Int32) (fun r_9 => r_9))

noncomputable def F_X12_isOf (X : XW) (σ : ST) (a : Nat) : Int32 :=
  q_let (F_X12_spelled X σ (111 : Int32) (102 : Int32) (0 : Int32) (0 : Int32) (0 : Int32) (0 : Int32) : Int64) (fun r_7 => q_let (F_X12_isWord X σ a r_7 : Int32) (fun r_9 => r_9))

noncomputable def F_X12_isEnd (X : XW) (σ : ST) (a : Nat) : Int32 :=
  q_let (F_X12_spelled X σ (101 : Int32) (110 : Int32) (100 : Int32) (0 : Int32) (0 : Int32) (0 : Int32) : Int64) (fun r_7 => q_let (F_X12_isWord X σ a r_7 : Int32) (fun r_9 => r_9))

noncomputable def F_X12_lawWord (X : XW) (σ : ST) (a : Nat) : Int32 :=
  q_let (F_X12_spelled X σ (117 : Int32) (112 : Int32) (0 : Int32) (0 : Int32) (0 : Int32) (0 : Int32) : Int64) (fun r_7 => q_let (F_X12_isWord X σ a r_7 : Int32) (fun r_9 => if r_9.toInt = 0 then q_let (F_X12_spelled X σ (100 : Int32) (111 : Int32) (119 : Int32) (110 : Int32) (0 : Int32) (0 : Int32) : Int64) (fun r_18 => q_let (F_X12_isWord X σ a r_18 : Int32) (fun r_20 => if r_20.toInt = 0 then q_let (F_X12_spelled X σ (115 : Int32) (97 : Int32) (109 : Int32) (101 : Int32) (0 : Int32) (0 : Int32) : Int64) (fun r_29 => q_let (F_X12_isWord X σ a r_29 : Int32) (fun r_31 => if r_31.toInt = 0 then ((-1) : Int32) else (2 : Int32))) else (1 : Int32))) else (0 : Int32)))

noncomputable def F_X12_stepWord (X : XW) (σ : ST) (a : Nat) : Int32 :=
  q_let (F_X12_spelled X σ (116 : Int32) (117 : Int32) (114 : Int32) (110 : Int32) (0 : Int32) (0 : Int32) : Int64) (fun r_7 => q_let (F_X12_isWord X σ a r_7 : Int32) (fun r_9 => if r_9.toInt = 0 then q_let (F_X12_isLies X σ a : Int32) (fun r_12 => if r_12.toInt = 0 then q_let (F_X12_isDoubts X σ a : Int32) (fun r_15 => if r_15.toInt = 0 then q_let (F_X12_spelled X σ (119 : Int32) (104 : Int32) (101 : Int32) (110 : Int32) (0 : Int32) (0 : Int32) : Int64) (fun r_24 => q_let (F_X12_isWord X σ a r_24 : Int32) (fun r_26 => if r_26.toInt = 0 then q_let (F_X12_spelled X σ (108 : Int32) (111 : Int32) (111 : Int32) (112 : Int32) (0 : Int32) (0 : Int32) : Int64) (fun r_35 => q_let (F_X12_isWord X σ a r_35 : Int32) (fun r_37 => if r_37.toInt = 0 then q_let (F_X12_spelled X σ (115 : Int32) (116 : Int32) (111 : Int32) (112 : Int32) (0 : Int32) (0 : Int32) : Int64) (fun r_46 => q_let (F_X12_isWord X σ a r_46 : Int32) (fun r_48 => if r_48.toInt = 0 then ((-1) : Int32) else (5 : Int32))) else (4 : Int32))) else (3 : Int32))) else (2 : Int32)) else (1 : Int32)) else (0 : Int32)))

noncomputable def F_X12_testWord (X : XW) (σ : ST) (a : Nat) : Int32 :=
  q_let (F_X12_spelled X σ (99 : Int32) (97 : Int32) (114 : Int32) (100 : Int32) (115 : Int32) (0 : Int32) : Int64) (fun r_7 => q_let (F_X12_isWord X σ a r_7 : Int32) (fun r_9 => if r_9.toInt = 0 then q_let (F_X12_spelled X σ (104 : Int32) (101 : Int32) (97 : Int32) (112 : Int32) (0 : Int32) (0 : Int32) : Int64) (fun r_18 => q_let (F_X12_isWord X σ a r_18 : Int32) (fun r_20 => if r_20.toInt = 0 then q_let (F_X12_spelled X σ (115 : Int32) (104 : Int32) (111 : Int32) (119 : Int32) (110 : Int32) (0 : Int32) : Int64) (fun r_29 => q_let (F_X12_isWord X σ a r_29 : Int32) (fun r_31 => if r_31.toInt = 0 then q_let (F_X12_spelled X σ (119 : Int32) (111 : Int32) (110 : Int32) (0 : Int32) (0 : Int32) (0 : Int32) : Int64) (fun r_40 => q_let (F_X12_isWord X σ a r_40 : Int32) (fun r_42 => if r_42.toInt = 0 then ((-1) : Int32) else (3 : Int32))) else (2 : Int32))) else (1 : Int32))) else (0 : Int32)))

noncomputable def F_X12_isKept (X : XW) (σ : ST) (a : Nat) : Int32 :=
  q_let (F_X12_isKinds X σ a : Int32) (fun r_1 => if r_1.toInt = 0 then q_let (F_X12_isEach X σ a : Int32) (fun r_4 => if r_4.toInt = 0 then q_let (F_X12_isLaw X σ a : Int32) (fun r_7 => if r_7.toInt = 0 then q_let (F_X12_isMost X σ a : Int32) (fun r_10 => if r_10.toInt = 0 then q_let (F_X12_isPlayer X σ a : Int32) (fun r_13 => if r_13.toInt = 0 then q_let (F_X12_isHand X σ a : Int32) (fun r_16 => if r_16.toInt = 0 then q_let (F_X12_isOf X σ a : Int32) (fun r_19 => if r_19.toInt = 0 then q_let (F_X12_lawWord X σ a : Int32) (fun r_22 => if r_22.toInt < 0 then q_let (F_X12_stepWord X σ a : Int32) (fun r_25 => if r_25.toInt < 0 then q_let (F_X12_testWord X σ a : Int32) (fun r_28 => if r_28.toInt < 0 then q_let (F_X12_isEnd X σ a : Int32) (fun r_31 => if r_31.toInt = 0 then (0 : Int32) else (1 : Int32)) else (1 : Int32)) else (1 : Int32)) else (1 : Int32)) else (1 : Int32)) else (1 : Int32)) else (1 : Int32)) else (1 : Int32)) else (1 : Int32)) else (1 : Int32)) else (1 : Int32))

noncomputable def F_X12_isName (X : XW) (σ : ST) (a : Nat) : Int32 :=
  q_let (σ.1 a 14 : Int32) (fun f_1 => if f_1.toInt = 1 then q_let (σ.1 a 18 : Int32) (fun f_3 => if 8 < f_3.toInt then (0 : Int32) else q_let (F_X12_isKept X σ a : Int32) (fun r_5 => if r_5.toInt = 0 then (1 : Int32) else (0 : Int32))) else (0 : Int32))

noncomputable def F_X12_named_B2_1 (X : XW) (v1 : Int32) (σ : ST) (a : Nat) (B2_1 : Int32 → Int32) (x_1 : Int32) : Int32 :=
  q_let ((930 : Int32) * v1 : Int32) (fun z_3 => q_let (z_3 + (2 : Int32) : Int32) (fun z_4 => q_let (σ.1 (q_rf X a 20) z_4.toNatClampNeg : Int32) (fun f_5 => if x_1.toInt < f_5.toInt then q_let ((6 : Int32) * v1 : Int32) (fun z_7 => q_let (z_7 + x_1 : Int32) (fun z_8 => q_let (σ.2.1 (q_rf X a 23) z_8.toNatClampNeg : Int64) (fun g_9 => q_let (σ.2.1 a 19 : Int64) (fun g_10 => q_let (lg_cmp g_9 g_10 : Int32) (fun z_11 => if z_11.toInt = 0 then x_1 else q_let (x_1 + 1 : Int32) (fun z_13 => B2_1 z_13)))))) else ((-1) : Int32))))

noncomputable def F_X12_named_L2_1 (X : XW) (v1 : Int32) (σ : ST) (a : Nat) : Nat → Int32 → Int32
  | 0 => fun x_1 => (0 : Int32)
  | k_ + 1 => F_X12_named_B2_1 X v1 σ a (F_X12_named_L2_1 X v1 σ a k_)

theorem F_X12_named_L2_1_s {X : XW} {v1 : Int32} {σ : ST} {a : Nat} {k_ : Nat} {x_1 : Int32} : F_X12_named_L2_1 X v1 σ a (k_ + 1) x_1 = F_X12_named_B2_1 X v1 σ a (F_X12_named_L2_1 X v1 σ a k_) x_1 := rfl

noncomputable def F_X12_named (X : XW) (σ : ST) (a : Nat) (v1 : Int32) : Int32 :=
  F_X12_named_L2_1 X v1 σ a ((2147483647 - (0 : Int32).toInt).toNat + 1) (0 : Int32)

noncomputable def F_X12_readTold_J18_1 (X : XW) (a : Nat) (v1 : Int32) (σ_2 : ST) : Int32 × ST :=
  q_let (σ_2.1 a 12 : Int32) (fun f_3 => if f_3.toInt = 0 then q_let (F_X12_named X σ_2 a v1 : Int32) (fun r_33 => q_let (σ_2.1 a 12 : Int32) (fun f_35 => if f_35.toInt = 0 then if r_33.toInt < 0 then q_let (σ_2.1 a 15 : Int32) (fun f_50 => q_let (F_X12_fail X σ_2 a (3 : Int32) f_50 : ST) (fun σ_53 => q_let (F_X12_must X σ_53 a (1 : Int32) : ST) (fun σ_56 => q_let (F_J9_max_7cf53 X σ_56 (0 : Int32) r_33 : Int32) (fun r_58 => (r_58, σ_56))))) else q_let (F_X12_must X σ_2 a (1 : Int32) : ST) (fun σ_46 => q_let (F_J9_max_7cf53 X σ_46 (0 : Int32) r_33 : Int32) (fun r_48 => (r_48, σ_46))) else q_let (F_X12_must X σ_2 a (1 : Int32) : ST) (fun σ_39 => q_let (F_J9_max_7cf53 X σ_39 (0 : Int32) r_33 : Int32) (fun r_41 => (r_41, σ_39))))) else q_let (σ_2.1 a 12 : Int32) (fun f_5 => if f_5.toInt = 0 then if (0 : Int) < 0 then q_let (σ_2.1 a 15 : Int32) (fun f_22 => q_let (F_X12_fail X σ_2 a (3 : Int32) f_22 : ST) (fun σ_25 => q_let (F_X12_must X σ_25 a (1 : Int32) : ST) (fun σ_28 => q_let (F_J9_max_7cf53 X σ_28 (0 : Int32) (0 : Int32) : Int32) (fun r_31 => (r_31, σ_28))))) else q_let (F_X12_must X σ_2 a (1 : Int32) : ST) (fun σ_17 => q_let (F_J9_max_7cf53 X σ_17 (0 : Int32) (0 : Int32) : Int32) (fun r_20 => (r_20, σ_17))) else q_let (F_X12_must X σ_2 a (1 : Int32) : ST) (fun σ_9 => q_let (F_J9_max_7cf53 X σ_9 (0 : Int32) (0 : Int32) : Int32) (fun r_12 => (r_12, σ_9)))))

noncomputable def F_X12_readTold (X : XW) (σ : ST) (a : Nat) (v1 : Int32) : Int32 × ST :=
  q_let (σ.1 a 12 : Int32) (fun f_1 => if f_1.toInt = 0 then q_let (F_X12_isName X σ a : Int32) (fun r_61 => if r_61.toInt = 0 then q_let (F_X12_wrong X σ a : ST) (fun σ_65 => F_X12_readTold_J18_1 X a v1 σ_65) else F_X12_readTold_J18_1 X a v1 σ) else F_X12_readTold_J18_1 X a v1 σ)

noncomputable def F_X12_toldOf_B4_1 (X : XW) (v1 : Int32) (σ : ST) (a : Nat) (B4_1 : Int32 → Int32 → Int32) (x_1 : Int32) (x_2 : Int32) : Int32 :=
  if x_2.toInt < 6 then q_let ((10 : Int32) * x_2 : Int32) (fun z_5 => q_let ((3754 : Int32) + z_5 : Int32) (fun z_6 => q_let (z_6 + v1 : Int32) (fun z_7 => q_let (σ.1 (q_rf X a 20) z_7.toNatClampNeg : Int32) (fun f_8 => q_let (x_1 + f_8 : Int32) (fun z_9 => q_let (x_2 + 1 : Int32) (fun z_10 => B4_1 z_9 z_10)))))) else x_1

noncomputable def F_X12_toldOf_L4_1 (X : XW) (v1 : Int32) (σ : ST) (a : Nat) : Nat → Int32 → Int32 → Int32
  | 0 => fun x_1 x_2 => (0 : Int32)
  | k_ + 1 => F_X12_toldOf_B4_1 X v1 σ a (F_X12_toldOf_L4_1 X v1 σ a k_)

theorem F_X12_toldOf_L4_1_s {X : XW} {v1 : Int32} {σ : ST} {a : Nat} {k_ : Nat} {x_1 : Int32} {x_2 : Int32} : F_X12_toldOf_L4_1 X v1 σ a (k_ + 1) x_1 x_2 = F_X12_toldOf_B4_1 X v1 σ a (F_X12_toldOf_L4_1 X v1 σ a k_) x_1 x_2 := rfl

noncomputable def F_X12_toldOf (X : XW) (σ : ST) (a : Nat) (v1 : Int32) : Int32 :=
  F_X12_toldOf_L4_1 X v1 σ a ((2147483647 - (0 : Int32).toInt).toNat + 1) (0 : Int32) (0 : Int32)

noncomputable def F_X12_readLaw (X : XW) (σ : ST) (a : Nat) : ST :=
  q_let (σ.1 a 25 : Int32) (fun f_1 => if f_1.toInt = 0 then q_let (σ.1 a 12 : Int32) (fun f_3 => if 0 < f_3.toInt then σ else q_let (q_si σ a 25 (1 : Int32) : ST) (fun σ_5 => q_let (F_X12_next X σ_5 a : ST) (fun σ_7 => q_let (F_X12_lawWord X σ_7 a : Int32) (fun r_8 => q_let (F_J9_max_7cf53 X σ_7 (0 : Int32) r_8 : Int32) (fun r_11 => q_let (q_si σ_7 (q_rf X a 20) (3723 : Int32).toNatClampNeg r_11 : ST) (fun σ_13 => q_let (F_X12_lawWord X σ_13 a : Int32) (fun r_14 => if r_14.toInt < 0 then q_let (F_X12_must X σ_13 a (0 : Int32) : ST) (fun σ_19 => σ_19) else q_let (F_X12_must X σ_13 a (1 : Int32) : ST) (fun σ_22 => σ_22)))))))) else q_let (σ.1 a 15 : Int32) (fun f_23 => q_let (F_X12_fail X σ a (5 : Int32) f_23 : ST) (fun σ_26 => q_let (σ_26.1 a 12 : Int32) (fun f_27 => if 0 < f_27.toInt then σ_26 else q_let (q_si σ_26 a 25 (1 : Int32) : ST) (fun σ_29 => q_let (F_X12_next X σ_29 a : ST) (fun σ_31 => q_let (F_X12_lawWord X σ_31 a : Int32) (fun r_32 => q_let (F_J9_max_7cf53 X σ_31 (0 : Int32) r_32 : Int32) (fun r_35 => q_let (q_si σ_31 (q_rf X a 20) (3723 : Int32).toNatClampNeg r_35 : ST) (fun σ_37 => q_let (F_X12_lawWord X σ_37 a : Int32) (fun r_38 => if r_38.toInt < 0 then q_let (F_X12_must X σ_37 a (0 : Int32) : ST) (fun σ_43 => σ_43) else q_let (F_X12_must X σ_37 a (1 : Int32) : ST) (fun σ_46 => σ_46)))))))))))

noncomputable def F_X12_readMost (X : XW) (σ : ST) (a : Nat) : ST :=
  q_let (σ.1 a 26 : Int32) (fun f_1 => if f_1.toInt = 0 then q_let (σ.1 a 12 : Int32) (fun f_3 => if 0 < f_3.toInt then σ else q_let (q_si σ a 26 (1 : Int32) : ST) (fun σ_5 => q_let (F_X12_next X σ_5 a : ST) (fun σ_7 => q_bi (F_X12_count X σ_7 a (1 : Int32) (4 : Int32)) (fun r_10 σ_11 => q_let (q_si σ_11 (q_rf X a 20) (3724 : Int32).toNatClampNeg r_10 : ST) (fun σ_12 => σ_12))))) else q_let (σ.1 a 15 : Int32) (fun f_13 => q_let (F_X12_fail X σ a (5 : Int32) f_13 : ST) (fun σ_16 => q_let (σ_16.1 a 12 : Int32) (fun f_17 => if 0 < f_17.toInt then σ_16 else q_let (q_si σ_16 a 26 (1 : Int32) : ST) (fun σ_19 => q_let (F_X12_next X σ_19 a : ST) (fun σ_21 => q_bi (F_X12_count X σ_21 a (1 : Int32) (4 : Int32)) (fun r_24 σ_25 => q_let (q_si σ_25 (q_rf X a 20) (3724 : Int32).toNatClampNeg r_24 : ST) (fun σ_26 => σ_26))))))))

noncomputable def F_X12_readPlayer_J160_5 (X : XW) (a : Nat) (σ_23 : ST) : ST :=
  q_let (σ_23.1 a 12 : Int32) (fun f_24 => if f_24.toInt = 0 then q_let (σ_23.1 (q_rf X a 20) (3722 : Int32).toNatClampNeg : Int32) (fun f_26 => q_let (f_26 + (1 : Int32) : Int32) (fun z_27 => q_let (q_si σ_23 (q_rf X a 20) (3722 : Int32).toNatClampNeg z_27 : ST) (fun σ_28 => σ_28))) else σ_23)

noncomputable def F_X12_readPlayer_J125_4 (X : XW) (a : Nat) (f_1 : Int32) (σ_21 : ST) : ST :=
  q_let (σ_21.1 a 12 : Int32) (fun f_22 => if f_22.toInt = 0 then q_let (F_X12_isDoubts X σ_21 a : Int32) (fun r_30 => if r_30.toInt = 0 then F_X12_readPlayer_J160_5 X a σ_21 else q_let (F_X12_next X σ_21 a : ST) (fun σ_34 => q_let ((3736 : Int32) + f_1 : Int32) (fun z_35 => q_bi (F_X12_count X σ_34 a (0 : Int32) (16 : Int32)) (fun r_38 σ_39 => q_let (q_si σ_39 (q_rf X a 20) z_35.toNatClampNeg r_38 : ST) (fun σ_40 => F_X12_readPlayer_J160_5 X a σ_40))))) else F_X12_readPlayer_J160_5 X a σ_21)

noncomputable def F_X12_readPlayer_J72_3 (X : XW) (a : Nat) (f_1 : Int32) (σ_11 : ST) : ST :=
  q_let (σ_11.1 a 12 : Int32) (fun f_12 => if 0 < f_12.toInt then σ_11 else q_let ((24 : Int32) + f_1 : Int32) (fun z_14 => q_let (σ_11.2.1 a 19 : Int64) (fun g_15 => q_let (q_sl σ_11 (q_rf X a 23) z_14.toNatClampNeg g_15 : ST) (fun σ_16 => q_let (F_X12_next X σ_16 a : ST) (fun σ_18 => q_let (F_X12_isLies X σ_18 a : Int32) (fun r_19 => if r_19.toInt = 0 then F_X12_readPlayer_J125_4 X a f_1 σ_18 else q_let (F_X12_next X σ_18 a : ST) (fun σ_43 => q_let ((3730 : Int32) + f_1 : Int32) (fun z_44 => q_bi (F_X12_count X σ_43 a (0 : Int32) (16 : Int32)) (fun r_47 σ_48 => q_let (q_si σ_48 (q_rf X a 20) z_44.toNatClampNeg r_47 : ST) (fun σ_49 => F_X12_readPlayer_J125_4 X a f_1 σ_49))))))))))

noncomputable def F_X12_readPlayer_J48_2 (X : XW) (a : Nat) (f_1 : Int32) (σ_9 : ST) : ST :=
  q_let (σ_9.1 a 12 : Int32) (fun f_10 => if f_10.toInt = 0 then q_let (F_X12_named X σ_9 a (4 : Int32) : Int32) (fun r_52 => if r_52.toInt < 0 then F_X12_readPlayer_J72_3 X a f_1 σ_9 else q_let (σ_9.1 a 15 : Int32) (fun f_55 => q_let (F_X12_fail X σ_9 a (3 : Int32) f_55 : ST) (fun σ_58 => F_X12_readPlayer_J72_3 X a f_1 σ_58))) else F_X12_readPlayer_J72_3 X a f_1 σ_9)

noncomputable def F_X12_readPlayer_J25_1 (X : XW) (a : Nat) (f_1 : Int32) (σ_2 : ST) : ST :=
  q_let (σ_2.1 a 12 : Int32) (fun f_3 => if 0 < f_3.toInt then σ_2 else q_let (F_X12_next X σ_2 a : ST) (fun σ_6 => q_let (F_X12_isName X σ_6 a : Int32) (fun r_7 => if r_7.toInt = 0 then q_let (F_X12_wrong X σ_6 a : ST) (fun σ_61 => F_X12_readPlayer_J48_2 X a f_1 σ_61) else F_X12_readPlayer_J48_2 X a f_1 σ_6)))

noncomputable def F_X12_readPlayer (X : XW) (σ : ST) (a : Nat) : ST :=
  q_let (σ.1 (q_rf X a 20) (3722 : Int32).toNatClampNeg : Int32) (fun f_1 => if f_1.toInt = 6 then q_let (σ.1 a 15 : Int32) (fun f_63 => q_let (F_X12_fail X σ a (6 : Int32) f_63 : ST) (fun σ_66 => F_X12_readPlayer_J25_1 X a f_1 σ_66)) else F_X12_readPlayer_J25_1 X a f_1 σ)

noncomputable def F_X12_readHand (X : XW) (σ : ST) (a : Nat) : ST :=
  q_let (F_X12_next X σ a : ST) (fun σ_2 => q_bi (F_X12_readTold X σ_2 a (4 : Int32)) (fun r_4 σ_5 => q_bi (F_X12_count X σ_5 a (0 : Int32) (8 : Int32)) (fun r_8 σ_9 => q_let (F_X12_isOf X σ_9 a : Int32) (fun r_10 => q_let (F_X12_must X σ_9 a r_10 : ST) (fun σ_13 => q_let (σ_13.1 a 15 : Int32) (fun f_14 => q_let (σ_13.1 (q_rf X a 20) (3720 : Int32).toNatClampNeg : Int32) (fun f_15 => q_let (f_15 - (1 : Int32) : Int32) (fun z_16 => q_bi (F_X12_count X σ_13 a (0 : Int32) z_16) (fun r_18 σ_19 => q_let ((10 : Int32) * r_4 : Int32) (fun z_20 => q_let (z_20 + r_18 : Int32) (fun z_21 => q_let (σ_19.1 a 12 : Int32) (fun f_22 => if f_22.toInt = 0 then q_let (σ_19.1 (q_rf X a 22) z_21.toNatClampNeg : Int32) (fun f_29 => if f_29.toInt = 1 then q_let (F_X12_fail X σ_19 a (5 : Int32) f_14 : ST) (fun σ_33 => q_let (σ_33.1 a 12 : Int32) (fun f_34 => if 0 < f_34.toInt then σ_33 else q_let (q_si σ_33 (q_rf X a 22) z_21.toNatClampNeg (1 : Int32) : ST) (fun σ_36 => q_let ((3754 : Int32) + z_21 : Int32) (fun z_37 => q_let (q_si σ_36 (q_rf X a 20) z_37.toNatClampNeg r_8 : ST) (fun σ_38 => σ_38))))) else q_let (F_X12_toldOf X σ_19 a r_18 : Int32) (fun r_39 => q_let (r_39 + r_8 : Int32) (fun z_41 => q_let (σ_19.1 (q_rf X a 20) (3721 : Int32).toNatClampNeg : Int32) (fun f_42 => if f_42.toInt < z_41.toInt then q_let (F_X12_fail X σ_19 a (5 : Int32) f_14 : ST) (fun σ_51 => q_let (σ_51.1 a 12 : Int32) (fun f_52 => if 0 < f_52.toInt then σ_51 else q_let (q_si σ_51 (q_rf X a 22) z_21.toNatClampNeg (1 : Int32) : ST) (fun σ_54 => q_let ((3754 : Int32) + z_21 : Int32) (fun z_55 => q_let (q_si σ_54 (q_rf X a 20) z_55.toNatClampNeg r_8 : ST) (fun σ_56 => σ_56))))) else q_let (σ_19.1 a 12 : Int32) (fun f_44 => if 0 < f_44.toInt then σ_19 else q_let (q_si σ_19 (q_rf X a 22) z_21.toNatClampNeg (1 : Int32) : ST) (fun σ_46 => q_let ((3754 : Int32) + z_21 : Int32) (fun z_47 => q_let (q_si σ_46 (q_rf X a 20) z_47.toNatClampNeg r_8 : ST) (fun σ_48 => σ_48)))))))) else q_let (σ_19.1 a 12 : Int32) (fun f_24 => if 0 < f_24.toInt then σ_19 else q_let (q_si σ_19 (q_rf X a 22) z_21.toNatClampNeg (1 : Int32) : ST) (fun σ_26 => q_let ((3754 : Int32) + z_21 : Int32) (fun z_27 => q_let (q_si σ_26 (q_rf X a 20) z_27.toNatClampNeg r_8 : ST) (fun σ_28 => σ_28))))))))))))))))

noncomputable def F_X12_opens (X : XW) (σ : ST) (a : Nat) (v1 : Int32) (v2 : Int32) : Int32 × ST :=
  if v1.toInt < 0 then q_bi (F_X12_no X σ a (5 : Int32)) (fun r_3 σ_4 => (r_3, σ_4)) else q_let (σ.1 a 8 : Int32) (fun f_5 => if f_5.toInt < v1.toInt then q_bi (F_X12_no X σ a (5 : Int32)) (fun r_8 σ_9 => (r_8, σ_9)) else if v2.toInt < v1.toInt then q_bi (F_X12_no X σ a (5 : Int32)) (fun r_18 σ_19 => (r_18, σ_19)) else q_let (q_si σ a 9 v1 : ST) (fun σ_11 => q_let (q_si σ_11 a 8 (0 : Int32) : ST) (fun σ_12 => q_let (q_si σ_12 a 16 (0 : Int32) : ST) (fun σ_13 => q_let (q_si σ_13 a 12 (0 : Int32) : ST) (fun σ_14 => q_let (F_X12_next X σ_14 a : ST) (fun σ_16 => ((1 : Int32), σ_16)))))))

noncomputable def F_X12_isWell (X : XW) (σ : ST) (a : Nat) : Int32 × ST :=
  q_let (σ.1 a 12 : Int32) (fun f_1 => q_let (q_si σ a 10 f_1 : ST) (fun σ_2 => q_let (σ_2.1 a 12 : Int32) (fun f_3 => if f_3.toInt = 0 then q_let (q_si σ_2 a 11 ((-1) : Int32) : ST) (fun σ_13 => q_let (σ_13.1 a 12 : Int32) (fun f_14 => if f_14.toInt = 0 then ((1 : Int32), σ_13) else q_bi (F_X12_no X σ_13 a (10 : Int32)) (fun r_17 σ_18 => if r_17.toInt = 0 then ((0 : Int32), σ_18) else ((1 : Int32), σ_18)))) else q_let (σ_2.1 a 13 : Int32) (fun f_5 => q_let (q_si σ_2 a 11 f_5 : ST) (fun σ_6 => q_let (σ_6.1 a 12 : Int32) (fun f_7 => if f_7.toInt = 0 then ((1 : Int32), σ_6) else q_bi (F_X12_no X σ_6 a (10 : Int32)) (fun r_10 σ_11 => if r_10.toInt = 0 then ((0 : Int32), σ_11) else ((1 : Int32), σ_11))))))))

noncomputable def F_X12_copy_B41_3 (X : XW) (v2 : Int32) (v1 : Int32) (a : Nat) (B41_3 : Int32 → ST → ST) (x_5 : Int32) (σ_6 : ST) : ST :=
  if x_5.toInt < 6 then q_let ((6 : Int32) * v2 : Int32) (fun z_9 => q_let (z_9 + x_5 : Int32) (fun z_10 => q_let ((6 : Int32) * v1 : Int32) (fun z_11 => q_let (z_11 + x_5 : Int32) (fun z_12 => q_let (σ_6.2.1 (q_rf X a 23) z_12.toNatClampNeg : Int64) (fun g_13 => q_let (q_sl σ_6 (q_rf X a 23) z_10.toNatClampNeg g_13 : ST) (fun σ_14 => q_let (x_5 + 1 : Int32) (fun z_15 => B41_3 z_15 σ_14))))))) else σ_6

noncomputable def F_X12_copy_L41_3 (X : XW) (v2 : Int32) (v1 : Int32) (a : Nat) : Nat → Int32 → ST → ST
  | 0 => fun x_5 σ_6 => σ_6
  | k_ + 1 => F_X12_copy_B41_3 X v2 v1 a (F_X12_copy_L41_3 X v2 v1 a k_)

theorem F_X12_copy_L41_3_s {X : XW} {v2 : Int32} {v1 : Int32} {a : Nat} {k_ : Nat} {x_5 : Int32} {σ_6 : ST} : F_X12_copy_L41_3 X v2 v1 a (k_ + 1) x_5 σ_6 = F_X12_copy_B41_3 X v2 v1 a (F_X12_copy_L41_3 X v2 v1 a k_) x_5 σ_6 := rfl

noncomputable def F_X12_copy_B2_1 (X : XW) (v2 : Int32) (v1 : Int32) (a : Nat) (B2_1 : Int32 → ST → ST) (x_1 : Int32) (σ_2 : ST) : ST :=
  if x_1.toInt < 930 then q_let ((930 : Int32) * v2 : Int32) (fun z_16 => q_let (z_16 + x_1 : Int32) (fun z_17 => q_let ((930 : Int32) * v1 : Int32) (fun z_18 => q_let (z_18 + x_1 : Int32) (fun z_19 => q_let (σ_2.1 (q_rf X a 20) z_19.toNatClampNeg : Int32) (fun f_20 => q_let (q_si σ_2 (q_rf X a 20) z_17.toNatClampNeg f_20 : ST) (fun σ_21 => q_let (x_1 + 1 : Int32) (fun z_22 => B2_1 z_22 σ_21))))))) else F_X12_copy_L41_3 X v2 v1 a ((2147483647 - (0 : Int32).toInt).toNat + 1) (0 : Int32) σ_2

noncomputable def F_X12_copy_L2_1 (X : XW) (v2 : Int32) (v1 : Int32) (a : Nat) : Nat → Int32 → ST → ST
  | 0 => fun x_1 σ_2 => σ_2
  | k_ + 1 => F_X12_copy_B2_1 X v2 v1 a (F_X12_copy_L2_1 X v2 v1 a k_)

theorem F_X12_copy_L2_1_s {X : XW} {v2 : Int32} {v1 : Int32} {a : Nat} {k_ : Nat} {x_1 : Int32} {σ_2 : ST} : F_X12_copy_L2_1 X v2 v1 a (k_ + 1) x_1 σ_2 = F_X12_copy_B2_1 X v2 v1 a (F_X12_copy_L2_1 X v2 v1 a k_) x_1 σ_2 := rfl

noncomputable def F_X12_copy (X : XW) (σ : ST) (a : Nat) (v1 : Int32) (v2 : Int32) : ST :=
  F_X12_copy_L2_1 X v2 v1 a ((2147483647 - (0 : Int32).toInt).toNat + 1) (0 : Int32) σ

noncomputable def F_X12_table_E232_6 (X : XW) (σ_41 : ST) (a : Nat) : Int32 × ST :=
  q_bi (F_X12_isWell X σ_41 a) (fun r_45 σ_46 => if r_45.toInt = 0 then (((-1) : Int32), σ_46) else q_let (q_si σ_46 (q_rf X a 20) (3728 : Int32).toNatClampNeg ((-1) : Int32) : ST) (fun σ_48 => q_let (σ_48.1 (q_rf X a 20) (3722 : Int32).toNatClampNeg : Int32) (fun f_49 => if f_49.toInt = 0 then q_let (q_si σ_48 (q_rf X a 20) (3726 : Int32).toNatClampNeg ((-1) : Int32) : ST) (fun σ_57 => q_let (F_X12_copy X σ_57 a (4 : Int32) (0 : Int32) : ST) (fun σ_61 => q_let (σ_61.1 (q_rf X a 20) (2 : Int32).toNatClampNeg : Int32) (fun f_62 => (f_62, σ_61)))) else q_let (q_si σ_48 (q_rf X a 20) (3726 : Int32).toNatClampNeg (0 : Int32) : ST) (fun σ_51 => q_let (F_X12_copy X σ_51 a (4 : Int32) (0 : Int32) : ST) (fun σ_55 => q_let (σ_55.1 (q_rf X a 20) (2 : Int32).toNatClampNeg : Int32) (fun f_56 => (f_56, σ_55)))))))

noncomputable def F_X12_table_E232_7 (X : XW) (σ_41 : ST) (a : Nat) : Int32 × ST :=
  q_bi (F_X12_isWell X σ_41 a) (fun r_65 σ_66 => if r_65.toInt = 0 then (((-1) : Int32), σ_66) else q_let (q_si σ_66 (q_rf X a 20) (3728 : Int32).toNatClampNeg ((-1) : Int32) : ST) (fun σ_68 => q_let (σ_68.1 (q_rf X a 20) (3722 : Int32).toNatClampNeg : Int32) (fun f_69 => if f_69.toInt = 0 then q_let (q_si σ_68 (q_rf X a 20) (3726 : Int32).toNatClampNeg ((-1) : Int32) : ST) (fun σ_77 => q_let (F_X12_copy X σ_77 a (4 : Int32) (0 : Int32) : ST) (fun σ_81 => q_let (σ_81.1 (q_rf X a 20) (2 : Int32).toNatClampNeg : Int32) (fun f_82 => (f_82, σ_81)))) else q_let (q_si σ_68 (q_rf X a 20) (3726 : Int32).toNatClampNeg (0 : Int32) : ST) (fun σ_71 => q_let (F_X12_copy X σ_71 a (4 : Int32) (0 : Int32) : ST) (fun σ_75 => q_let (σ_75.1 (q_rf X a 20) (2 : Int32).toNatClampNeg : Int32) (fun f_76 => (f_76, σ_75)))))))

noncomputable def F_X12_table_B145_5 (X : XW) (a : Nat) (B145_5 : ST → Int32 × ST) (σ_41 : ST) : Int32 × ST :=
  q_let (σ_41.1 a 12 : Int32) (fun f_43 => if f_43.toInt = 0 then q_let (σ_41.1 a 14 : Int32) (fun f_63 => if f_63.toInt = 0 then F_X12_table_E232_7 X σ_41 a else q_let (F_X12_isLaw X σ_41 a : Int32) (fun r_83 => if r_83.toInt = 0 then q_let (F_X12_isMost X σ_41 a : Int32) (fun r_86 => if r_86.toInt = 0 then q_let (F_X12_isPlayer X σ_41 a : Int32) (fun r_89 => if r_89.toInt = 0 then q_let (F_X12_isHand X σ_41 a : Int32) (fun r_92 => if r_92.toInt = 0 then q_let (F_X12_wrong X σ_41 a : ST) (fun σ_96 => q_let (F_X12_isSign X σ_96 a (59 : Int32) : Int32) (fun r_98 => q_let (F_X12_must X σ_96 a r_98 : ST) (fun σ_101 => B145_5 σ_101))) else q_let (F_X12_readHand X σ_41 a : ST) (fun σ_103 => q_let (F_X12_isSign X σ_103 a (59 : Int32) : Int32) (fun r_105 => q_let (F_X12_must X σ_103 a r_105 : ST) (fun σ_108 => B145_5 σ_108)))) else q_let (F_X12_readPlayer X σ_41 a : ST) (fun σ_110 => q_let (F_X12_isSign X σ_110 a (59 : Int32) : Int32) (fun r_112 => q_let (F_X12_must X σ_110 a r_112 : ST) (fun σ_115 => B145_5 σ_115)))) else q_let (F_X12_readMost X σ_41 a : ST) (fun σ_117 => q_let (F_X12_isSign X σ_117 a (59 : Int32) : Int32) (fun r_119 => q_let (F_X12_must X σ_117 a r_119 : ST) (fun σ_122 => B145_5 σ_122)))) else q_let (F_X12_readLaw X σ_41 a : ST) (fun σ_124 => q_let (F_X12_isSign X σ_124 a (59 : Int32) : Int32) (fun r_126 => q_let (F_X12_must X σ_124 a r_126 : ST) (fun σ_129 => B145_5 σ_129))))) else F_X12_table_E232_6 X σ_41 a)

noncomputable def F_X12_table_L145_5 (X : XW) (a : Nat) : Nat → ST → Int32 × ST
  | 0 => fun σ_41 => ((0 : Int32), σ_41)
  | k_ + 1 => F_X12_table_B145_5 X a (F_X12_table_L145_5 X a k_)

theorem F_X12_table_L145_5_s {X : XW} {a : Nat} {k_ : Nat} {σ_41 : ST} : F_X12_table_L145_5 X a (k_ + 1) σ_41 = F_X12_table_B145_5 X a (F_X12_table_L145_5 X a k_) σ_41 := rfl

noncomputable def F_X12_table_E70_7 (X : XW) (σ_12 : ST) (a : Nat) : Int32 × ST :=
  q_let (q_si σ_12 a 25 (0 : Int32) : ST) (fun σ_15 => q_let (q_si σ_15 a 26 (0 : Int32) : ST) (fun σ_16 => q_let (q_si σ_16 (q_rf X a 20) (3724 : Int32).toNatClampNeg (4 : Int32) : ST) (fun σ_17 => q_let (F_X12_isKinds X σ_17 a : Int32) (fun r_18 => q_let (F_X12_must X σ_17 a r_18 : ST) (fun σ_21 => q_bi (F_X12_count X σ_21 a (2 : Int32) (10 : Int32)) (fun r_24 σ_25 => q_let (q_si σ_25 (q_rf X a 20) (3720 : Int32).toNatClampNeg r_24 : ST) (fun σ_26 => q_let (F_X12_isEach X σ_26 a : Int32) (fun r_27 => q_let (F_X12_must X σ_26 a r_27 : ST) (fun σ_30 => q_bi (F_X12_count X σ_30 a (1 : Int32) (8 : Int32)) (fun r_33 σ_34 => q_let (q_si σ_34 (q_rf X a 20) (3721 : Int32).toNatClampNeg r_33 : ST) (fun σ_35 => q_let (F_X12_isSign X σ_35 a (59 : Int32) : Int32) (fun r_37 => q_let (F_X12_must X σ_35 a r_37 : ST) (fun σ_40 => F_X12_table_L145_5 X a ((901 - (σ_40.1 a 15).toInt).toNat + (1 - (σ_40.1 a 12).toInt).toNat + 1) σ_40)))))))))))))

noncomputable def F_X12_table_B51_3 (X : XW) (a : Nat) (B51_3 : Int32 → ST → Int32 × ST) (x_11 : Int32) (σ_12 : ST) : Int32 × ST :=
  if x_11.toInt < 60 then q_let (q_si σ_12 (q_rf X a 22) x_11.toNatClampNeg (0 : Int32) : ST) (fun σ_130 => q_let (x_11 + 1 : Int32) (fun z_131 => B51_3 z_131 σ_130)) else F_X12_table_E70_7 X σ_12 a

noncomputable def F_X12_table_L51_3 (X : XW) (a : Nat) : Nat → Int32 → ST → Int32 × ST
  | 0 => fun x_11 σ_12 => ((0 : Int32), σ_12)
  | k_ + 1 => F_X12_table_B51_3 X a (F_X12_table_L51_3 X a k_)

theorem F_X12_table_L51_3_s {X : XW} {a : Nat} {k_ : Nat} {x_11 : Int32} {σ_12 : ST} : F_X12_table_L51_3 X a (k_ + 1) x_11 σ_12 = F_X12_table_B51_3 X a (F_X12_table_L51_3 X a k_) x_11 σ_12 := rfl

noncomputable def F_X12_table_B25_1 (X : XW) (a : Nat) (B25_1 : Int32 → ST → Int32 × ST) (x_7 : Int32) (σ_8 : ST) : Int32 × ST :=
  if x_7.toInt < 930 then q_let ((3720 : Int32) + x_7 : Int32) (fun z_132 => q_let (q_si σ_8 (q_rf X a 20) z_132.toNatClampNeg (0 : Int32) : ST) (fun σ_133 => q_let (x_7 + 1 : Int32) (fun z_134 => B25_1 z_134 σ_133))) else F_X12_table_L51_3 X a ((2147483647 - (0 : Int32).toInt).toNat + 1) (0 : Int32) σ_8

noncomputable def F_X12_table_L25_1 (X : XW) (a : Nat) : Nat → Int32 → ST → Int32 × ST
  | 0 => fun x_7 σ_8 => ((0 : Int32), σ_8)
  | k_ + 1 => F_X12_table_B25_1 X a (F_X12_table_L25_1 X a k_)

theorem F_X12_table_L25_1_s {X : XW} {a : Nat} {k_ : Nat} {x_7 : Int32} {σ_8 : ST} : F_X12_table_L25_1 X a (k_ + 1) x_7 σ_8 = F_X12_table_B25_1 X a (F_X12_table_L25_1 X a k_) x_7 σ_8 := rfl

noncomputable def F_X12_table (X : XW) (σ : ST) (a : Nat) (v1 : Int32) : Int32 × ST :=
  q_let (q_si σ a 1 (0 : Int32) : ST) (fun σ_1 => q_let (q_si σ_1 a 0 (0 : Int32) : ST) (fun σ_2 => q_bi (F_X12_opens X σ_2 a v1 (900 : Int32)) (fun r_4 σ_5 => if r_4.toInt = 0 then (((-1) : Int32), σ_5) else F_X12_table_L25_1 X a ((2147483647 - (0 : Int32).toInt).toNat + 1) (0 : Int32) σ_5)))

noncomputable def F_X12_readTest_J50_2 (X : XW) (a : Nat) (r_1 : Int32) (v1 : Int32) (σ_8 : ST) : ST :=
  q_let (σ_8.1 a 12 : Int32) (fun f_9 => if 0 < f_9.toInt then σ_8 else if r_1.toInt = 3 then σ_8 else q_let (v1 + (7 : Int32) : Int32) (fun z_12 => q_let (σ_8.1 a 14 : Int32) (fun f_13 => if f_13.toInt = 3 then q_let (σ_8.1 a 17 : Int32) (fun f_89 => q_let (q_si σ_8 (q_rf X a 20) z_12.toNatClampNeg f_89 : ST) (fun σ_90 => q_let (F_X12_isSign X σ_90 a (60 : Int32) : Int32) (fun r_92 => if r_92.toInt = 0 then q_let (F_X12_isSign X σ_90 a (62 : Int32) : Int32) (fun r_111 => if r_111.toInt = 0 then q_let (F_X12_isSign X σ_90 a (61 : Int32) : Int32) (fun r_130 => if r_130.toInt = 0 then q_let (F_X12_must X σ_90 a (0 : Int32) : ST) (fun σ_135 => q_let (v1 + (2 : Int32) : Int32) (fun z_136 => if r_1.toInt = 2 then q_bi (F_X12_count X σ_135 a (0 : Int32) (999 : Int32)) (fun r_145 σ_146 => q_let (q_si σ_146 (q_rf X a 20) z_136.toNatClampNeg r_145 : ST) (fun σ_147 => σ_147)) else q_bi (F_X12_count X σ_135 a (0 : Int32) (80 : Int32)) (fun r_140 σ_141 => q_let (q_si σ_141 (q_rf X a 20) z_136.toNatClampNeg r_140 : ST) (fun σ_142 => σ_142)))) else q_let (F_X12_must X σ_90 a (1 : Int32) : ST) (fun σ_150 => q_let (v1 + (2 : Int32) : Int32) (fun z_151 => if r_1.toInt = 2 then q_bi (F_X12_count X σ_150 a (0 : Int32) (999 : Int32)) (fun r_160 σ_161 => q_let (q_si σ_161 (q_rf X a 20) z_151.toNatClampNeg r_160 : ST) (fun σ_162 => σ_162)) else q_bi (F_X12_count X σ_150 a (0 : Int32) (80 : Int32)) (fun r_155 σ_156 => q_let (q_si σ_156 (q_rf X a 20) z_151.toNatClampNeg r_155 : ST) (fun σ_157 => σ_157))))) else q_let (F_X12_must X σ_90 a (1 : Int32) : ST) (fun σ_116 => q_let (v1 + (2 : Int32) : Int32) (fun z_117 => if r_1.toInt = 2 then q_bi (F_X12_count X σ_116 a (0 : Int32) (999 : Int32)) (fun r_126 σ_127 => q_let (q_si σ_127 (q_rf X a 20) z_117.toNatClampNeg r_126 : ST) (fun σ_128 => σ_128)) else q_bi (F_X12_count X σ_116 a (0 : Int32) (80 : Int32)) (fun r_121 σ_122 => q_let (q_si σ_122 (q_rf X a 20) z_117.toNatClampNeg r_121 : ST) (fun σ_123 => σ_123))))) else q_let (F_X12_must X σ_90 a (1 : Int32) : ST) (fun σ_97 => q_let (v1 + (2 : Int32) : Int32) (fun z_98 => if r_1.toInt = 2 then q_bi (F_X12_count X σ_97 a (0 : Int32) (999 : Int32)) (fun r_107 σ_108 => q_let (q_si σ_108 (q_rf X a 20) z_98.toNatClampNeg r_107 : ST) (fun σ_109 => σ_109)) else q_bi (F_X12_count X σ_97 a (0 : Int32) (80 : Int32)) (fun r_102 σ_103 => q_let (q_si σ_103 (q_rf X a 20) z_98.toNatClampNeg r_102 : ST) (fun σ_104 => σ_104))))))) else q_let (q_si σ_8 (q_rf X a 20) z_12.toNatClampNeg (0 : Int32) : ST) (fun σ_15 => q_let (F_X12_isSign X σ_15 a (60 : Int32) : Int32) (fun r_18 => if r_18.toInt = 0 then q_let (F_X12_isSign X σ_15 a (62 : Int32) : Int32) (fun r_37 => if r_37.toInt = 0 then q_let (F_X12_isSign X σ_15 a (61 : Int32) : Int32) (fun r_56 => if r_56.toInt = 0 then q_let (F_X12_must X σ_15 a (0 : Int32) : ST) (fun σ_61 => q_let (v1 + (2 : Int32) : Int32) (fun z_62 => if r_1.toInt = 2 then q_bi (F_X12_count X σ_61 a (0 : Int32) (999 : Int32)) (fun r_71 σ_72 => q_let (q_si σ_72 (q_rf X a 20) z_62.toNatClampNeg r_71 : ST) (fun σ_73 => σ_73)) else q_bi (F_X12_count X σ_61 a (0 : Int32) (80 : Int32)) (fun r_66 σ_67 => q_let (q_si σ_67 (q_rf X a 20) z_62.toNatClampNeg r_66 : ST) (fun σ_68 => σ_68)))) else q_let (F_X12_must X σ_15 a (1 : Int32) : ST) (fun σ_76 => q_let (v1 + (2 : Int32) : Int32) (fun z_77 => if r_1.toInt = 2 then q_bi (F_X12_count X σ_76 a (0 : Int32) (999 : Int32)) (fun r_86 σ_87 => q_let (q_si σ_87 (q_rf X a 20) z_77.toNatClampNeg r_86 : ST) (fun σ_88 => σ_88)) else q_bi (F_X12_count X σ_76 a (0 : Int32) (80 : Int32)) (fun r_81 σ_82 => q_let (q_si σ_82 (q_rf X a 20) z_77.toNatClampNeg r_81 : ST) (fun σ_83 => σ_83))))) else q_let (F_X12_must X σ_15 a (1 : Int32) : ST) (fun σ_42 => q_let (v1 + (2 : Int32) : Int32) (fun z_43 => if r_1.toInt = 2 then q_bi (F_X12_count X σ_42 a (0 : Int32) (999 : Int32)) (fun r_52 σ_53 => q_let (q_si σ_53 (q_rf X a 20) z_43.toNatClampNeg r_52 : ST) (fun σ_54 => σ_54)) else q_bi (F_X12_count X σ_42 a (0 : Int32) (80 : Int32)) (fun r_47 σ_48 => q_let (q_si σ_48 (q_rf X a 20) z_43.toNatClampNeg r_47 : ST) (fun σ_49 => σ_49))))) else q_let (F_X12_must X σ_15 a (1 : Int32) : ST) (fun σ_23 => q_let (v1 + (2 : Int32) : Int32) (fun z_24 => if r_1.toInt = 2 then q_bi (F_X12_count X σ_23 a (0 : Int32) (999 : Int32)) (fun r_33 σ_34 => q_let (q_si σ_34 (q_rf X a 20) z_24.toNatClampNeg r_33 : ST) (fun σ_35 => σ_35)) else q_bi (F_X12_count X σ_23 a (0 : Int32) (80 : Int32)) (fun r_28 σ_29 => q_let (q_si σ_29 (q_rf X a 20) z_24.toNatClampNeg r_28 : ST) (fun σ_30 => σ_30)))))))))

noncomputable def F_X12_readTest_J15_1 (X : XW) (σ : ST) (a : Nat) (v1 : Int32) (r_1 : Int32) (x_3 : Int32) : ST :=
  q_let (F_X12_must X σ a x_3 : ST) (fun σ_5 => q_let (v1 + (6 : Int32) : Int32) (fun z_6 => q_let (q_si σ_5 (q_rf X a 20) z_6.toNatClampNeg r_1 : ST) (fun σ_7 => if r_1.toInt = 0 then q_let (v1 + (1 : Int32) : Int32) (fun z_164 => q_bi (F_X12_readTold X σ_7 a (0 : Int32)) (fun r_166 σ_167 => q_let (q_si σ_167 (q_rf X a 20) z_164.toNatClampNeg r_166 : ST) (fun σ_168 => F_X12_readTest_J50_2 X a r_1 v1 σ_168))) else if r_1.toInt = 2 then q_let (v1 + (1 : Int32) : Int32) (fun z_170 => q_bi (F_X12_readTold X σ_7 a (0 : Int32)) (fun r_172 σ_173 => q_let (q_si σ_173 (q_rf X a 20) z_170.toNatClampNeg r_172 : ST) (fun σ_174 => F_X12_readTest_J50_2 X a r_1 v1 σ_174))) else F_X12_readTest_J50_2 X a r_1 v1 σ_7)))

noncomputable def F_X12_readTest (X : XW) (σ : ST) (a : Nat) (v1 : Int32) : ST :=
  q_let (F_X12_testWord X σ a : Int32) (fun r_1 => if r_1.toInt < 0 then F_X12_readTest_J15_1 X σ a v1 r_1 (0 : Int32) else F_X12_readTest_J15_1 X σ a v1 r_1 (1 : Int32))

noncomputable def F_X12_readRest (X : XW) (σ : ST) (a : Nat) (v1 : Int32) : ST :=
  q_let (σ.1 (q_rf X a 20) v1.toNatClampNeg : Int32) (fun f_1 => if f_1.toInt = 1 then q_let (v1 + (1 : Int32) : Int32) (fun z_3 => q_bi (F_X12_readTold X σ a (0 : Int32)) (fun r_5 σ_6 => q_let (q_si σ_6 (q_rf X a 20) z_3.toNatClampNeg r_5 : ST) (fun σ_7 => q_let (v1 + (2 : Int32) : Int32) (fun z_8 => q_bi (F_X12_count X σ_7 a (0 : Int32) (16 : Int32)) (fun r_11 σ_12 => q_let (q_si σ_12 (q_rf X a 20) z_8.toNatClampNeg r_11 : ST) (fun σ_13 => σ_13)))))) else if f_1.toInt = 2 then q_let (v1 + (1 : Int32) : Int32) (fun z_25 => q_bi (F_X12_readTold X σ a (0 : Int32)) (fun r_27 σ_28 => q_let (q_si σ_28 (q_rf X a 20) z_25.toNatClampNeg r_27 : ST) (fun σ_29 => q_let (v1 + (2 : Int32) : Int32) (fun z_30 => q_bi (F_X12_count X σ_29 a (0 : Int32) (16 : Int32)) (fun r_33 σ_34 => q_let (q_si σ_34 (q_rf X a 20) z_30.toNatClampNeg r_33 : ST) (fun σ_35 => σ_35)))))) else if f_1.toInt = 3 then q_let (F_X12_readTest X σ a v1 : ST) (fun σ_24 => σ_24) else if f_1.toInt = 4 then q_let (v1 + (1 : Int32) : Int32) (fun z_17 => q_bi (F_X12_count X σ a (1 : Int32) (99 : Int32)) (fun r_20 σ_21 => q_let (q_si σ_21 (q_rf X a 20) z_17.toNatClampNeg r_20 : ST) (fun σ_22 => σ_22))) else σ)

noncomputable def F_X12_readStep_d0_E168_6 (X : XW) (x_3 : Int32) (z_13 : Int32) (σ_27 : ST) (a : Nat) : ST :=
  if x_3.toInt = 0 then q_let (z_13 + (8 : Int32) : Int32) (fun z_31 => q_let (σ_27.1 a 27 : Int32) (fun f_32 => q_let (q_si σ_27 (q_rf X a 20) z_31.toNatClampNeg f_32 : ST) (fun σ_33 => σ_33))) else q_let (F_X12_isEnd X σ_27 a : Int32) (fun r_34 => q_let (F_X12_must X σ_27 a r_34 : ST) (fun σ_37 => q_let (F_X12_isSign X σ_37 a (59 : Int32) : Int32) (fun r_39 => q_let (F_X12_must X σ_37 a r_39 : ST) (fun σ_42 => q_let (z_13 + (8 : Int32) : Int32) (fun z_43 => q_let (σ_42.1 a 27 : Int32) (fun f_44 => q_let (q_si σ_42 (q_rf X a 20) z_43.toNatClampNeg f_44 : ST) (fun σ_45 => σ_45)))))))

noncomputable def F_X12_readStep_d0_B140_5 (X : XW) (x_3 : Int32) (z_13 : Int32) (a : Nat) (B140_5 : ST → ST) (σ_27 : ST) : ST :=
  if x_3.toInt = 0 then F_X12_readStep_d0_E168_6 X x_3 z_13 σ_27 a else σ_27

noncomputable def F_X12_readStep_d0_L140_5 (X : XW) (x_3 : Int32) (z_13 : Int32) (a : Nat) : Nat → ST → ST
  | 0 => fun σ_27 => σ_27
  | k_ + 1 => F_X12_readStep_d0_B140_5 X x_3 z_13 a (F_X12_readStep_d0_L140_5 X x_3 z_13 a k_)

theorem F_X12_readStep_d0_L140_5_s {X : XW} {x_3 : Int32} {z_13 : Int32} {a : Nat} {k_ : Nat} {σ_27 : ST} : F_X12_readStep_d0_L140_5 X x_3 z_13 a (k_ + 1) σ_27 = F_X12_readStep_d0_B140_5 X x_3 z_13 a (F_X12_readStep_d0_L140_5 X x_3 z_13 a k_) σ_27 := rfl

noncomputable def F_X12_readStep_d0_J81_4 (X : XW) (a : Nat) (r_1 : Int32) (x_3 : Int32) (σ_8 : ST) : ST :=
  q_let (σ_8.1 a 12 : Int32) (fun f_9 => if 0 < f_9.toInt then σ_8 else q_let (σ_8.1 a 27 : Int32) (fun f_11 => q_let ((9 : Int32) * f_11 : Int32) (fun z_12 => q_let ((4376 : Int32) + z_12 : Int32) (fun z_13 => q_let (σ_8.1 a 27 : Int32) (fun f_14 => q_let (f_14 + (1 : Int32) : Int32) (fun z_15 => q_let (q_si σ_8 a 27 z_15 : ST) (fun σ_16 => q_let (F_X12_next X σ_16 a : ST) (fun σ_18 => q_let (q_si σ_18 (q_rf X a 20) z_13.toNatClampNeg r_1 : ST) (fun σ_19 => q_let (F_X12_readRest X σ_19 a z_13 : ST) (fun σ_21 => q_let (F_X12_isSign X σ_21 a (59 : Int32) : Int32) (fun r_23 => q_let (F_X12_must X σ_21 a r_23 : ST) (fun σ_26 => F_X12_readStep_d0_L140_5 X x_3 z_13 a ((901 - (σ_26.1 a 15).toInt).toNat + (1 - (σ_26.1 a 12).toInt).toNat + 1) σ_26))))))))))))

noncomputable def F_X12_readStep_d0_J55_3 (X : XW) (a : Nat) (x_3 : Int32) (r_1 : Int32) (v1 : Int32) (σ_6 : ST) : ST :=
  q_let (σ_6.1 a 12 : Int32) (fun f_7 => if f_7.toInt = 0 then if x_3.toInt = 0 then F_X12_readStep_d0_J81_4 X a r_1 x_3 σ_6 else if v1.toInt = 3 then q_let (σ_6.1 a 15 : Int32) (fun f_49 => q_let (F_X12_fail X σ_6 a (7 : Int32) f_49 : ST) (fun σ_52 => F_X12_readStep_d0_J81_4 X a r_1 x_3 σ_52)) else F_X12_readStep_d0_J81_4 X a r_1 x_3 σ_6 else F_X12_readStep_d0_J81_4 X a r_1 x_3 σ_6)

noncomputable def F_X12_readStep_d0_J29_2 (X : XW) (a : Nat) (x_3 : Int32) (r_1 : Int32) (v1 : Int32) (σ_4 : ST) : ST :=
  q_let (σ_4.1 a 12 : Int32) (fun f_5 => if f_5.toInt = 0 then q_let (σ_4.1 a 27 : Int32) (fun f_54 => if f_54.toInt = 30 then q_let (σ_4.1 a 15 : Int32) (fun f_56 => q_let (F_X12_fail X σ_4 a (6 : Int32) f_56 : ST) (fun σ_59 => F_X12_readStep_d0_J55_3 X a x_3 r_1 v1 σ_59)) else F_X12_readStep_d0_J55_3 X a x_3 r_1 v1 σ_4) else F_X12_readStep_d0_J55_3 X a x_3 r_1 v1 σ_4)

noncomputable def F_X12_readStep_d0_J20_1 (X : XW) (r_1 : Int32) (σ : ST) (a : Nat) (v1 : Int32) (x_3 : Int32) : ST :=
  if r_1.toInt < 0 then q_let (F_X12_wrong X σ a : ST) (fun σ_62 => F_X12_readStep_d0_J29_2 X a x_3 r_1 v1 σ_62) else F_X12_readStep_d0_J29_2 X a x_3 r_1 v1 σ

noncomputable def F_X12_readStep_d0 (X : XW) (σ : ST) (a : Nat) (v1 : Int32) : ST :=
  q_let (F_X12_stepWord X σ a : Int32) (fun r_1 => if r_1.toInt = 3 then F_X12_readStep_d0_J20_1 X r_1 σ a v1 (1 : Int32) else if r_1.toInt = 4 then F_X12_readStep_d0_J20_1 X r_1 σ a v1 (1 : Int32) else F_X12_readStep_d0_J20_1 X r_1 σ a v1 (0 : Int32))

noncomputable def F_X12_readStep_d1_E168_6 (X : XW) (x_3 : Int32) (z_13 : Int32) (σ_27 : ST) (a : Nat) : ST :=
  if x_3.toInt = 0 then q_let (z_13 + (8 : Int32) : Int32) (fun z_31 => q_let (σ_27.1 a 27 : Int32) (fun f_32 => q_let (q_si σ_27 (q_rf X a 20) z_31.toNatClampNeg f_32 : ST) (fun σ_33 => σ_33))) else q_let (F_X12_isEnd X σ_27 a : Int32) (fun r_34 => q_let (F_X12_must X σ_27 a r_34 : ST) (fun σ_37 => q_let (F_X12_isSign X σ_37 a (59 : Int32) : Int32) (fun r_39 => q_let (F_X12_must X σ_37 a r_39 : ST) (fun σ_42 => q_let (z_13 + (8 : Int32) : Int32) (fun z_43 => q_let (σ_42.1 a 27 : Int32) (fun f_44 => q_let (q_si σ_42 (q_rf X a 20) z_43.toNatClampNeg f_44 : ST) (fun σ_45 => σ_45)))))))

noncomputable def F_X12_readStep_d1_E168_7 (X : XW) (x_3 : Int32) (z_13 : Int32) (σ_27 : ST) (a : Nat) : ST :=
  if x_3.toInt = 0 then q_let (z_13 + (8 : Int32) : Int32) (fun z_49 => q_let (σ_27.1 a 27 : Int32) (fun f_50 => q_let (q_si σ_27 (q_rf X a 20) z_49.toNatClampNeg f_50 : ST) (fun σ_51 => σ_51))) else q_let (F_X12_isEnd X σ_27 a : Int32) (fun r_52 => q_let (F_X12_must X σ_27 a r_52 : ST) (fun σ_55 => q_let (F_X12_isSign X σ_55 a (59 : Int32) : Int32) (fun r_57 => q_let (F_X12_must X σ_55 a r_57 : ST) (fun σ_60 => q_let (z_13 + (8 : Int32) : Int32) (fun z_61 => q_let (σ_60.1 a 27 : Int32) (fun f_62 => q_let (q_si σ_60 (q_rf X a 20) z_61.toNatClampNeg f_62 : ST) (fun σ_63 => σ_63)))))))

noncomputable def F_X12_readStep_d1_E168_8 (X : XW) (x_3 : Int32) (z_13 : Int32) (σ_27 : ST) (a : Nat) : ST :=
  if x_3.toInt = 0 then q_let (z_13 + (8 : Int32) : Int32) (fun z_68 => q_let (σ_27.1 a 27 : Int32) (fun f_69 => q_let (q_si σ_27 (q_rf X a 20) z_68.toNatClampNeg f_69 : ST) (fun σ_70 => σ_70))) else q_let (F_X12_isEnd X σ_27 a : Int32) (fun r_71 => q_let (F_X12_must X σ_27 a r_71 : ST) (fun σ_74 => q_let (F_X12_isSign X σ_74 a (59 : Int32) : Int32) (fun r_76 => q_let (F_X12_must X σ_74 a r_76 : ST) (fun σ_79 => q_let (z_13 + (8 : Int32) : Int32) (fun z_80 => q_let (σ_79.1 a 27 : Int32) (fun f_81 => q_let (q_si σ_79 (q_rf X a 20) z_80.toNatClampNeg f_81 : ST) (fun σ_82 => σ_82)))))))

noncomputable def F_X12_readStep_d1_B140_5 (X : XW) (x_3 : Int32) (z_13 : Int32) (a : Nat) (v1 : Int32) (B140_5 : ST → ST) (σ_27 : ST) : ST :=
  if x_3.toInt = 0 then F_X12_readStep_d1_E168_6 X x_3 z_13 σ_27 a else q_let (σ_27.1 a 12 : Int32) (fun f_46 => if f_46.toInt = 0 then q_let (F_X12_isEnd X σ_27 a : Int32) (fun r_64 => if r_64.toInt = 0 then q_let (v1 + (1 : Int32) : Int32) (fun z_83 => q_let (F_X12_readStep_d0 X σ_27 a z_83 : ST) (fun σ_85 => B140_5 σ_85)) else F_X12_readStep_d1_E168_8 X x_3 z_13 σ_27 a) else F_X12_readStep_d1_E168_7 X x_3 z_13 σ_27 a)

noncomputable def F_X12_readStep_d1_L140_5 (X : XW) (x_3 : Int32) (z_13 : Int32) (a : Nat) (v1 : Int32) : Nat → ST → ST
  | 0 => fun σ_27 => σ_27
  | k_ + 1 => F_X12_readStep_d1_B140_5 X x_3 z_13 a v1 (F_X12_readStep_d1_L140_5 X x_3 z_13 a v1 k_)

theorem F_X12_readStep_d1_L140_5_s {X : XW} {x_3 : Int32} {z_13 : Int32} {a : Nat} {v1 : Int32} {k_ : Nat} {σ_27 : ST} : F_X12_readStep_d1_L140_5 X x_3 z_13 a v1 (k_ + 1) σ_27 = F_X12_readStep_d1_B140_5 X x_3 z_13 a v1 (F_X12_readStep_d1_L140_5 X x_3 z_13 a v1 k_) σ_27 := rfl

noncomputable def F_X12_readStep_d1_J81_4 (X : XW) (a : Nat) (r_1 : Int32) (x_3 : Int32) (v1 : Int32) (σ_8 : ST) : ST :=
  q_let (σ_8.1 a 12 : Int32) (fun f_9 => if 0 < f_9.toInt then σ_8 else q_let (σ_8.1 a 27 : Int32) (fun f_11 => q_let ((9 : Int32) * f_11 : Int32) (fun z_12 => q_let ((4376 : Int32) + z_12 : Int32) (fun z_13 => q_let (σ_8.1 a 27 : Int32) (fun f_14 => q_let (f_14 + (1 : Int32) : Int32) (fun z_15 => q_let (q_si σ_8 a 27 z_15 : ST) (fun σ_16 => q_let (F_X12_next X σ_16 a : ST) (fun σ_18 => q_let (q_si σ_18 (q_rf X a 20) z_13.toNatClampNeg r_1 : ST) (fun σ_19 => q_let (F_X12_readRest X σ_19 a z_13 : ST) (fun σ_21 => q_let (F_X12_isSign X σ_21 a (59 : Int32) : Int32) (fun r_23 => q_let (F_X12_must X σ_21 a r_23 : ST) (fun σ_26 => F_X12_readStep_d1_L140_5 X x_3 z_13 a v1 ((901 - (σ_26.1 a 15).toInt).toNat + (1 - (σ_26.1 a 12).toInt).toNat + 1) σ_26))))))))))))

noncomputable def F_X12_readStep_d1_J55_3 (X : XW) (a : Nat) (x_3 : Int32) (r_1 : Int32) (v1 : Int32) (σ_6 : ST) : ST :=
  q_let (σ_6.1 a 12 : Int32) (fun f_7 => if f_7.toInt = 0 then if x_3.toInt = 0 then F_X12_readStep_d1_J81_4 X a r_1 x_3 v1 σ_6 else if v1.toInt = 3 then q_let (σ_6.1 a 15 : Int32) (fun f_89 => q_let (F_X12_fail X σ_6 a (7 : Int32) f_89 : ST) (fun σ_92 => F_X12_readStep_d1_J81_4 X a r_1 x_3 v1 σ_92)) else F_X12_readStep_d1_J81_4 X a r_1 x_3 v1 σ_6 else F_X12_readStep_d1_J81_4 X a r_1 x_3 v1 σ_6)

noncomputable def F_X12_readStep_d1_J29_2 (X : XW) (a : Nat) (x_3 : Int32) (r_1 : Int32) (v1 : Int32) (σ_4 : ST) : ST :=
  q_let (σ_4.1 a 12 : Int32) (fun f_5 => if f_5.toInt = 0 then q_let (σ_4.1 a 27 : Int32) (fun f_94 => if f_94.toInt = 30 then q_let (σ_4.1 a 15 : Int32) (fun f_96 => q_let (F_X12_fail X σ_4 a (6 : Int32) f_96 : ST) (fun σ_99 => F_X12_readStep_d1_J55_3 X a x_3 r_1 v1 σ_99)) else F_X12_readStep_d1_J55_3 X a x_3 r_1 v1 σ_4) else F_X12_readStep_d1_J55_3 X a x_3 r_1 v1 σ_4)

noncomputable def F_X12_readStep_d1_J20_1 (X : XW) (r_1 : Int32) (σ : ST) (a : Nat) (v1 : Int32) (x_3 : Int32) : ST :=
  if r_1.toInt < 0 then q_let (F_X12_wrong X σ a : ST) (fun σ_102 => F_X12_readStep_d1_J29_2 X a x_3 r_1 v1 σ_102) else F_X12_readStep_d1_J29_2 X a x_3 r_1 v1 σ

noncomputable def F_X12_readStep_d1 (X : XW) (σ : ST) (a : Nat) (v1 : Int32) : ST :=
  q_let (F_X12_stepWord X σ a : Int32) (fun r_1 => if r_1.toInt = 3 then F_X12_readStep_d1_J20_1 X r_1 σ a v1 (1 : Int32) else if r_1.toInt = 4 then F_X12_readStep_d1_J20_1 X r_1 σ a v1 (1 : Int32) else F_X12_readStep_d1_J20_1 X r_1 σ a v1 (0 : Int32))

noncomputable def F_X12_readStep_d2_E168_6 (X : XW) (x_3 : Int32) (z_13 : Int32) (σ_27 : ST) (a : Nat) : ST :=
  if x_3.toInt = 0 then q_let (z_13 + (8 : Int32) : Int32) (fun z_31 => q_let (σ_27.1 a 27 : Int32) (fun f_32 => q_let (q_si σ_27 (q_rf X a 20) z_31.toNatClampNeg f_32 : ST) (fun σ_33 => σ_33))) else q_let (F_X12_isEnd X σ_27 a : Int32) (fun r_34 => q_let (F_X12_must X σ_27 a r_34 : ST) (fun σ_37 => q_let (F_X12_isSign X σ_37 a (59 : Int32) : Int32) (fun r_39 => q_let (F_X12_must X σ_37 a r_39 : ST) (fun σ_42 => q_let (z_13 + (8 : Int32) : Int32) (fun z_43 => q_let (σ_42.1 a 27 : Int32) (fun f_44 => q_let (q_si σ_42 (q_rf X a 20) z_43.toNatClampNeg f_44 : ST) (fun σ_45 => σ_45)))))))

noncomputable def F_X12_readStep_d2_E168_7 (X : XW) (x_3 : Int32) (z_13 : Int32) (σ_27 : ST) (a : Nat) : ST :=
  if x_3.toInt = 0 then q_let (z_13 + (8 : Int32) : Int32) (fun z_49 => q_let (σ_27.1 a 27 : Int32) (fun f_50 => q_let (q_si σ_27 (q_rf X a 20) z_49.toNatClampNeg f_50 : ST) (fun σ_51 => σ_51))) else q_let (F_X12_isEnd X σ_27 a : Int32) (fun r_52 => q_let (F_X12_must X σ_27 a r_52 : ST) (fun σ_55 => q_let (F_X12_isSign X σ_55 a (59 : Int32) : Int32) (fun r_57 => q_let (F_X12_must X σ_55 a r_57 : ST) (fun σ_60 => q_let (z_13 + (8 : Int32) : Int32) (fun z_61 => q_let (σ_60.1 a 27 : Int32) (fun f_62 => q_let (q_si σ_60 (q_rf X a 20) z_61.toNatClampNeg f_62 : ST) (fun σ_63 => σ_63)))))))

noncomputable def F_X12_readStep_d2_E168_8 (X : XW) (x_3 : Int32) (z_13 : Int32) (σ_27 : ST) (a : Nat) : ST :=
  if x_3.toInt = 0 then q_let (z_13 + (8 : Int32) : Int32) (fun z_68 => q_let (σ_27.1 a 27 : Int32) (fun f_69 => q_let (q_si σ_27 (q_rf X a 20) z_68.toNatClampNeg f_69 : ST) (fun σ_70 => σ_70))) else q_let (F_X12_isEnd X σ_27 a : Int32) (fun r_71 => q_let (F_X12_must X σ_27 a r_71 : ST) (fun σ_74 => q_let (F_X12_isSign X σ_74 a (59 : Int32) : Int32) (fun r_76 => q_let (F_X12_must X σ_74 a r_76 : ST) (fun σ_79 => q_let (z_13 + (8 : Int32) : Int32) (fun z_80 => q_let (σ_79.1 a 27 : Int32) (fun f_81 => q_let (q_si σ_79 (q_rf X a 20) z_80.toNatClampNeg f_81 : ST) (fun σ_82 => σ_82)))))))

noncomputable def F_X12_readStep_d2_B140_5 (X : XW) (x_3 : Int32) (z_13 : Int32) (a : Nat) (v1 : Int32) (B140_5 : ST → ST) (σ_27 : ST) : ST :=
  if x_3.toInt = 0 then F_X12_readStep_d2_E168_6 X x_3 z_13 σ_27 a else q_let (σ_27.1 a 12 : Int32) (fun f_46 => if f_46.toInt = 0 then q_let (F_X12_isEnd X σ_27 a : Int32) (fun r_64 => if r_64.toInt = 0 then q_let (v1 + (1 : Int32) : Int32) (fun z_83 => q_let (F_X12_readStep_d1 X σ_27 a z_83 : ST) (fun σ_85 => B140_5 σ_85)) else F_X12_readStep_d2_E168_8 X x_3 z_13 σ_27 a) else F_X12_readStep_d2_E168_7 X x_3 z_13 σ_27 a)

noncomputable def F_X12_readStep_d2_L140_5 (X : XW) (x_3 : Int32) (z_13 : Int32) (a : Nat) (v1 : Int32) : Nat → ST → ST
  | 0 => fun σ_27 => σ_27
  | k_ + 1 => F_X12_readStep_d2_B140_5 X x_3 z_13 a v1 (F_X12_readStep_d2_L140_5 X x_3 z_13 a v1 k_)

theorem F_X12_readStep_d2_L140_5_s {X : XW} {x_3 : Int32} {z_13 : Int32} {a : Nat} {v1 : Int32} {k_ : Nat} {σ_27 : ST} : F_X12_readStep_d2_L140_5 X x_3 z_13 a v1 (k_ + 1) σ_27 = F_X12_readStep_d2_B140_5 X x_3 z_13 a v1 (F_X12_readStep_d2_L140_5 X x_3 z_13 a v1 k_) σ_27 := rfl

noncomputable def F_X12_readStep_d2_J81_4 (X : XW) (a : Nat) (r_1 : Int32) (x_3 : Int32) (v1 : Int32) (σ_8 : ST) : ST :=
  q_let (σ_8.1 a 12 : Int32) (fun f_9 => if 0 < f_9.toInt then σ_8 else q_let (σ_8.1 a 27 : Int32) (fun f_11 => q_let ((9 : Int32) * f_11 : Int32) (fun z_12 => q_let ((4376 : Int32) + z_12 : Int32) (fun z_13 => q_let (σ_8.1 a 27 : Int32) (fun f_14 => q_let (f_14 + (1 : Int32) : Int32) (fun z_15 => q_let (q_si σ_8 a 27 z_15 : ST) (fun σ_16 => q_let (F_X12_next X σ_16 a : ST) (fun σ_18 => q_let (q_si σ_18 (q_rf X a 20) z_13.toNatClampNeg r_1 : ST) (fun σ_19 => q_let (F_X12_readRest X σ_19 a z_13 : ST) (fun σ_21 => q_let (F_X12_isSign X σ_21 a (59 : Int32) : Int32) (fun r_23 => q_let (F_X12_must X σ_21 a r_23 : ST) (fun σ_26 => F_X12_readStep_d2_L140_5 X x_3 z_13 a v1 ((901 - (σ_26.1 a 15).toInt).toNat + (1 - (σ_26.1 a 12).toInt).toNat + 1) σ_26))))))))))))

noncomputable def F_X12_readStep_d2_J55_3 (X : XW) (a : Nat) (x_3 : Int32) (r_1 : Int32) (v1 : Int32) (σ_6 : ST) : ST :=
  q_let (σ_6.1 a 12 : Int32) (fun f_7 => if f_7.toInt = 0 then if x_3.toInt = 0 then F_X12_readStep_d2_J81_4 X a r_1 x_3 v1 σ_6 else if v1.toInt = 3 then q_let (σ_6.1 a 15 : Int32) (fun f_89 => q_let (F_X12_fail X σ_6 a (7 : Int32) f_89 : ST) (fun σ_92 => F_X12_readStep_d2_J81_4 X a r_1 x_3 v1 σ_92)) else F_X12_readStep_d2_J81_4 X a r_1 x_3 v1 σ_6 else F_X12_readStep_d2_J81_4 X a r_1 x_3 v1 σ_6)

noncomputable def F_X12_readStep_d2_J29_2 (X : XW) (a : Nat) (x_3 : Int32) (r_1 : Int32) (v1 : Int32) (σ_4 : ST) : ST :=
  q_let (σ_4.1 a 12 : Int32) (fun f_5 => if f_5.toInt = 0 then q_let (σ_4.1 a 27 : Int32) (fun f_94 => if f_94.toInt = 30 then q_let (σ_4.1 a 15 : Int32) (fun f_96 => q_let (F_X12_fail X σ_4 a (6 : Int32) f_96 : ST) (fun σ_99 => F_X12_readStep_d2_J55_3 X a x_3 r_1 v1 σ_99)) else F_X12_readStep_d2_J55_3 X a x_3 r_1 v1 σ_4) else F_X12_readStep_d2_J55_3 X a x_3 r_1 v1 σ_4)

noncomputable def F_X12_readStep_d2_J20_1 (X : XW) (r_1 : Int32) (σ : ST) (a : Nat) (v1 : Int32) (x_3 : Int32) : ST :=
  if r_1.toInt < 0 then q_let (F_X12_wrong X σ a : ST) (fun σ_102 => F_X12_readStep_d2_J29_2 X a x_3 r_1 v1 σ_102) else F_X12_readStep_d2_J29_2 X a x_3 r_1 v1 σ

noncomputable def F_X12_readStep_d2 (X : XW) (σ : ST) (a : Nat) (v1 : Int32) : ST :=
  q_let (F_X12_stepWord X σ a : Int32) (fun r_1 => if r_1.toInt = 3 then F_X12_readStep_d2_J20_1 X r_1 σ a v1 (1 : Int32) else if r_1.toInt = 4 then F_X12_readStep_d2_J20_1 X r_1 σ a v1 (1 : Int32) else F_X12_readStep_d2_J20_1 X r_1 σ a v1 (0 : Int32))

noncomputable def F_X12_readStep_d3_E168_6 (X : XW) (x_3 : Int32) (z_13 : Int32) (σ_27 : ST) (a : Nat) : ST :=
  if x_3.toInt = 0 then q_let (z_13 + (8 : Int32) : Int32) (fun z_31 => q_let (σ_27.1 a 27 : Int32) (fun f_32 => q_let (q_si σ_27 (q_rf X a 20) z_31.toNatClampNeg f_32 : ST) (fun σ_33 => σ_33))) else q_let (F_X12_isEnd X σ_27 a : Int32) (fun r_34 => q_let (F_X12_must X σ_27 a r_34 : ST) (fun σ_37 => q_let (F_X12_isSign X σ_37 a (59 : Int32) : Int32) (fun r_39 => q_let (F_X12_must X σ_37 a r_39 : ST) (fun σ_42 => q_let (z_13 + (8 : Int32) : Int32) (fun z_43 => q_let (σ_42.1 a 27 : Int32) (fun f_44 => q_let (q_si σ_42 (q_rf X a 20) z_43.toNatClampNeg f_44 : ST) (fun σ_45 => σ_45)))))))

noncomputable def F_X12_readStep_d3_E168_7 (X : XW) (x_3 : Int32) (z_13 : Int32) (σ_27 : ST) (a : Nat) : ST :=
  if x_3.toInt = 0 then q_let (z_13 + (8 : Int32) : Int32) (fun z_49 => q_let (σ_27.1 a 27 : Int32) (fun f_50 => q_let (q_si σ_27 (q_rf X a 20) z_49.toNatClampNeg f_50 : ST) (fun σ_51 => σ_51))) else q_let (F_X12_isEnd X σ_27 a : Int32) (fun r_52 => q_let (F_X12_must X σ_27 a r_52 : ST) (fun σ_55 => q_let (F_X12_isSign X σ_55 a (59 : Int32) : Int32) (fun r_57 => q_let (F_X12_must X σ_55 a r_57 : ST) (fun σ_60 => q_let (z_13 + (8 : Int32) : Int32) (fun z_61 => q_let (σ_60.1 a 27 : Int32) (fun f_62 => q_let (q_si σ_60 (q_rf X a 20) z_61.toNatClampNeg f_62 : ST) (fun σ_63 => σ_63)))))))

noncomputable def F_X12_readStep_d3_E168_8 (X : XW) (x_3 : Int32) (z_13 : Int32) (σ_27 : ST) (a : Nat) : ST :=
  if x_3.toInt = 0 then q_let (z_13 + (8 : Int32) : Int32) (fun z_68 => q_let (σ_27.1 a 27 : Int32) (fun f_69 => q_let (q_si σ_27 (q_rf X a 20) z_68.toNatClampNeg f_69 : ST) (fun σ_70 => σ_70))) else q_let (F_X12_isEnd X σ_27 a : Int32) (fun r_71 => q_let (F_X12_must X σ_27 a r_71 : ST) (fun σ_74 => q_let (F_X12_isSign X σ_74 a (59 : Int32) : Int32) (fun r_76 => q_let (F_X12_must X σ_74 a r_76 : ST) (fun σ_79 => q_let (z_13 + (8 : Int32) : Int32) (fun z_80 => q_let (σ_79.1 a 27 : Int32) (fun f_81 => q_let (q_si σ_79 (q_rf X a 20) z_80.toNatClampNeg f_81 : ST) (fun σ_82 => σ_82)))))))

noncomputable def F_X12_readStep_d3_B140_5 (X : XW) (x_3 : Int32) (z_13 : Int32) (a : Nat) (v1 : Int32) (B140_5 : ST → ST) (σ_27 : ST) : ST :=
  if x_3.toInt = 0 then F_X12_readStep_d3_E168_6 X x_3 z_13 σ_27 a else q_let (σ_27.1 a 12 : Int32) (fun f_46 => if f_46.toInt = 0 then q_let (F_X12_isEnd X σ_27 a : Int32) (fun r_64 => if r_64.toInt = 0 then q_let (v1 + (1 : Int32) : Int32) (fun z_83 => q_let (F_X12_readStep_d2 X σ_27 a z_83 : ST) (fun σ_85 => B140_5 σ_85)) else F_X12_readStep_d3_E168_8 X x_3 z_13 σ_27 a) else F_X12_readStep_d3_E168_7 X x_3 z_13 σ_27 a)

noncomputable def F_X12_readStep_d3_L140_5 (X : XW) (x_3 : Int32) (z_13 : Int32) (a : Nat) (v1 : Int32) : Nat → ST → ST
  | 0 => fun σ_27 => σ_27
  | k_ + 1 => F_X12_readStep_d3_B140_5 X x_3 z_13 a v1 (F_X12_readStep_d3_L140_5 X x_3 z_13 a v1 k_)

theorem F_X12_readStep_d3_L140_5_s {X : XW} {x_3 : Int32} {z_13 : Int32} {a : Nat} {v1 : Int32} {k_ : Nat} {σ_27 : ST} : F_X12_readStep_d3_L140_5 X x_3 z_13 a v1 (k_ + 1) σ_27 = F_X12_readStep_d3_B140_5 X x_3 z_13 a v1 (F_X12_readStep_d3_L140_5 X x_3 z_13 a v1 k_) σ_27 := rfl

noncomputable def F_X12_readStep_d3_J81_4 (X : XW) (a : Nat) (r_1 : Int32) (x_3 : Int32) (v1 : Int32) (σ_8 : ST) : ST :=
  q_let (σ_8.1 a 12 : Int32) (fun f_9 => if 0 < f_9.toInt then σ_8 else q_let (σ_8.1 a 27 : Int32) (fun f_11 => q_let ((9 : Int32) * f_11 : Int32) (fun z_12 => q_let ((4376 : Int32) + z_12 : Int32) (fun z_13 => q_let (σ_8.1 a 27 : Int32) (fun f_14 => q_let (f_14 + (1 : Int32) : Int32) (fun z_15 => q_let (q_si σ_8 a 27 z_15 : ST) (fun σ_16 => q_let (F_X12_next X σ_16 a : ST) (fun σ_18 => q_let (q_si σ_18 (q_rf X a 20) z_13.toNatClampNeg r_1 : ST) (fun σ_19 => q_let (F_X12_readRest X σ_19 a z_13 : ST) (fun σ_21 => q_let (F_X12_isSign X σ_21 a (59 : Int32) : Int32) (fun r_23 => q_let (F_X12_must X σ_21 a r_23 : ST) (fun σ_26 => F_X12_readStep_d3_L140_5 X x_3 z_13 a v1 ((901 - (σ_26.1 a 15).toInt).toNat + (1 - (σ_26.1 a 12).toInt).toNat + 1) σ_26))))))))))))

noncomputable def F_X12_readStep_d3_J55_3 (X : XW) (a : Nat) (x_3 : Int32) (r_1 : Int32) (v1 : Int32) (σ_6 : ST) : ST :=
  q_let (σ_6.1 a 12 : Int32) (fun f_7 => if f_7.toInt = 0 then if x_3.toInt = 0 then F_X12_readStep_d3_J81_4 X a r_1 x_3 v1 σ_6 else if v1.toInt = 3 then q_let (σ_6.1 a 15 : Int32) (fun f_89 => q_let (F_X12_fail X σ_6 a (7 : Int32) f_89 : ST) (fun σ_92 => F_X12_readStep_d3_J81_4 X a r_1 x_3 v1 σ_92)) else F_X12_readStep_d3_J81_4 X a r_1 x_3 v1 σ_6 else F_X12_readStep_d3_J81_4 X a r_1 x_3 v1 σ_6)

noncomputable def F_X12_readStep_d3_J29_2 (X : XW) (a : Nat) (x_3 : Int32) (r_1 : Int32) (v1 : Int32) (σ_4 : ST) : ST :=
  q_let (σ_4.1 a 12 : Int32) (fun f_5 => if f_5.toInt = 0 then q_let (σ_4.1 a 27 : Int32) (fun f_94 => if f_94.toInt = 30 then q_let (σ_4.1 a 15 : Int32) (fun f_96 => q_let (F_X12_fail X σ_4 a (6 : Int32) f_96 : ST) (fun σ_99 => F_X12_readStep_d3_J55_3 X a x_3 r_1 v1 σ_99)) else F_X12_readStep_d3_J55_3 X a x_3 r_1 v1 σ_4) else F_X12_readStep_d3_J55_3 X a x_3 r_1 v1 σ_4)

noncomputable def F_X12_readStep_d3_J20_1 (X : XW) (r_1 : Int32) (σ : ST) (a : Nat) (v1 : Int32) (x_3 : Int32) : ST :=
  if r_1.toInt < 0 then q_let (F_X12_wrong X σ a : ST) (fun σ_102 => F_X12_readStep_d3_J29_2 X a x_3 r_1 v1 σ_102) else F_X12_readStep_d3_J29_2 X a x_3 r_1 v1 σ

noncomputable def F_X12_readStep_d3 (X : XW) (σ : ST) (a : Nat) (v1 : Int32) : ST :=
  q_let (F_X12_stepWord X σ a : Int32) (fun r_1 => if r_1.toInt = 3 then F_X12_readStep_d3_J20_1 X r_1 σ a v1 (1 : Int32) else if r_1.toInt = 4 then F_X12_readStep_d3_J20_1 X r_1 σ a v1 (1 : Int32) else F_X12_readStep_d3_J20_1 X r_1 σ a v1 (0 : Int32))

noncomputable def F_X12_round_E119_4 (X : XW) (σ_19 : ST) (a : Nat) : Int32 × ST :=
  q_let (σ_19.1 a 27 : Int32) (fun f_24 => (f_24, σ_19))

noncomputable def F_X12_round_B82_3 (X : XW) (a : Nat) (B82_3 : Int32 → ST → Int32 × ST) (x_18 : Int32) (σ_19 : ST) : Int32 × ST :=
  q_let (σ_19.1 a 27 : Int32) (fun f_21 => q_let ((9 : Int32) * f_21 : Int32) (fun z_22 => if x_18.toInt < z_22.toInt then q_let ((656 : Int32) + x_18 : Int32) (fun z_25 => q_let ((4376 : Int32) + x_18 : Int32) (fun z_26 => q_let (σ_19.1 (q_rf X a 20) z_26.toNatClampNeg : Int32) (fun f_27 => q_let (q_si σ_19 (q_rf X a 20) z_25.toNatClampNeg f_27 : ST) (fun σ_28 => q_let (x_18 + 1 : Int32) (fun z_29 => B82_3 z_29 σ_28))))) else F_X12_round_E119_4 X σ_19 a))

noncomputable def F_X12_round_L82_3 (X : XW) (a : Nat) : Nat → Int32 → ST → Int32 × ST
  | 0 => fun x_18 σ_19 => ((0 : Int32), σ_19)
  | k_ + 1 => F_X12_round_B82_3 X a (F_X12_round_L82_3 X a k_)

theorem F_X12_round_L82_3_s {X : XW} {a : Nat} {k_ : Nat} {x_18 : Int32} {σ_19 : ST} : F_X12_round_L82_3 X a (k_ + 1) x_18 σ_19 = F_X12_round_B82_3 X a (F_X12_round_L82_3 X a k_) x_18 σ_19 := rfl

noncomputable def F_X12_round_J50_2 (X : XW) (σ_8 : ST) (a : Nat) : Int32 × ST :=
  q_bi (F_X12_isWell X σ_8 a) (fun r_11 σ_12 => if r_11.toInt = 0 then (((-1) : Int32), σ_12) else q_let (q_si σ_12 (q_rf X a 20) (654 : Int32).toNatClampNeg (1 : Int32) : ST) (fun σ_14 => q_let (σ_14.1 a 27 : Int32) (fun f_16 => q_let (q_si σ_14 (q_rf X a 20) (655 : Int32).toNatClampNeg f_16 : ST) (fun σ_17 => F_X12_round_L82_3 X a ((2147483647 - (0 : Int32).toInt).toNat + 1) (0 : Int32) σ_17))))

noncomputable def F_X12_round_B28_1 (X : XW) (a : Nat) (B28_1 : ST → Int32 × ST) (σ_8 : ST) : Int32 × ST :=
  q_let (σ_8.1 a 12 : Int32) (fun f_10 => if f_10.toInt = 0 then q_let (σ_8.1 a 14 : Int32) (fun f_32 => if f_32.toInt = 0 then F_X12_round_J50_2 X σ_8 a else q_let (F_X12_readStep_d3 X σ_8 a (0 : Int32) : ST) (fun σ_36 => B28_1 σ_36)) else F_X12_round_J50_2 X σ_8 a)

noncomputable def F_X12_round_L28_1 (X : XW) (a : Nat) : Nat → ST → Int32 × ST
  | 0 => fun σ_8 => ((0 : Int32), σ_8)
  | k_ + 1 => F_X12_round_B28_1 X a (F_X12_round_L28_1 X a k_)

theorem F_X12_round_L28_1_s {X : XW} {a : Nat} {k_ : Nat} {σ_8 : ST} : F_X12_round_L28_1 X a (k_ + 1) σ_8 = F_X12_round_B28_1 X a (F_X12_round_L28_1 X a k_) σ_8 := rfl

noncomputable def F_X12_round (X : XW) (σ : ST) (a : Nat) (v1 : Int32) : Int32 × ST :=
  q_let (q_si σ a 1 (0 : Int32) : ST) (fun σ_1 => q_let (q_si σ_1 a 0 (0 : Int32) : ST) (fun σ_2 => q_bi (F_X12_opens X σ_2 a v1 (300 : Int32)) (fun r_4 σ_5 => if r_4.toInt = 0 then (((-1) : Int32), σ_5) else q_let (q_si σ_5 a 27 (0 : Int32) : ST) (fun σ_7 => F_X12_round_L28_1 X a ((901 - (σ_7.1 a 15).toInt).toNat + (1 - (σ_7.1 a 12).toInt).toNat + 1) σ_7))))

noncomputable def F_X12_isPlayerAt (X : XW) (σ : ST) (a : Nat) (v1 : Int32) : Int32 :=
  q_let (v1.toInt64 : Int64) (fun y_1 => q_let (σ.1 (q_rf X a 20) (2 : Int32).toNatClampNeg : Int32) (fun f_2 => q_let (f_2 - (1 : Int32) : Int32) (fun z_3 => q_let (z_3.toInt64 : Int64) (fun y_4 => q_let (F_X12_isIn X σ y_1 (0 : Int64) y_4 : Int32) (fun r_6 => r_6)))))

noncomputable def F_X12_isKindAt (X : XW) (σ : ST) (a : Nat) (v1 : Int32) : Int32 :=
  q_let (v1.toInt64 : Int64) (fun y_1 => q_let (σ.1 (q_rf X a 20) (0 : Int32).toNatClampNeg : Int32) (fun f_2 => q_let (f_2 - (1 : Int32) : Int32) (fun z_3 => q_let (z_3.toInt64 : Int64) (fun y_4 => q_let (F_X12_isIn X σ y_1 (0 : Int64) y_4 : Int32) (fun r_6 => r_6)))))

noncomputable def F_X12_isTray (X : XW) (σ : ST) (a : Nat) (v1 : Int32) : Int32 :=
  q_let (v1.toInt64 : Int64) (fun y_1 => q_let (F_X12_isIn X σ y_1 (0 : Int64) (3 : Int64) : Int32) (fun r_4 => r_4))

noncomputable def F_X12_handOf (X : XW) (σ : ST) (a : Nat) (v1 : Int32) (v2 : Int32) : Int32 :=
  q_let ((10 : Int32) * v1 : Int32) (fun z_1 => q_let ((34 : Int32) + z_1 : Int32) (fun z_2 => q_let (z_2 + v2 : Int32) (fun z_3 => q_let (σ.1 (q_rf X a 20) z_3.toNatClampNeg : Int32) (fun f_4 => f_4))))

noncomputable def F_X12_laid (X : XW) (σ : ST) (v0 : Int32) : Int32 :=
  q_let ((7 : Int32) * v0 : Int32) (fun z_1 => q_let ((94 : Int32) + z_1 : Int32) (fun z_2 => z_2))

noncomputable def F_X12_cardsOf_B4_1 (X : XW) (σ : ST) (a : Nat) (v1 : Int32) (B4_1 : Int32 → Int32 → Int32) (x_1 : Int32) (x_2 : Int32) : Int32 :=
  if x_2.toInt < 10 then q_let (F_X12_handOf X σ a v1 x_2 : Int32) (fun r_5 => q_let (x_1 + r_5 : Int32) (fun z_7 => q_let (x_2 + 1 : Int32) (fun z_8 => B4_1 z_7 z_8))) else x_1

noncomputable def F_X12_cardsOf_L4_1 (X : XW) (σ : ST) (a : Nat) (v1 : Int32) : Nat → Int32 → Int32 → Int32
  | 0 => fun x_1 x_2 => (0 : Int32)
  | k_ + 1 => F_X12_cardsOf_B4_1 X σ a v1 (F_X12_cardsOf_L4_1 X σ a v1 k_)

theorem F_X12_cardsOf_L4_1_s {X : XW} {σ : ST} {a : Nat} {v1 : Int32} {k_ : Nat} {x_1 : Int32} {x_2 : Int32} : F_X12_cardsOf_L4_1 X σ a v1 (k_ + 1) x_1 x_2 = F_X12_cardsOf_B4_1 X σ a v1 (F_X12_cardsOf_L4_1 X σ a v1 k_) x_1 x_2 := rfl

noncomputable def F_X12_cardsOf (X : XW) (σ : ST) (a : Nat) (v1 : Int32) : Int32 :=
  F_X12_cardsOf_L4_1 X σ a v1 ((2147483647 - (0 : Int32).toInt).toNat + 1) (0 : Int32) (0 : Int32)

noncomputable def F_X12_heapMany_B4_1 (X : XW) (σ : ST) (a : Nat) (B4_1 : Int32 → Int32 → Int32) (x_1 : Int32) (x_2 : Int32) : Int32 :=
  q_let (σ.1 (q_rf X a 20) (9 : Int32).toNatClampNeg : Int32) (fun f_4 => if x_2.toInt < f_4.toInt then q_let (F_X12_laid X σ x_2 : Int32) (fun r_6 => q_let (r_6 + (2 : Int32) : Int32) (fun z_8 => q_let (σ.1 (q_rf X a 20) z_8.toNatClampNeg : Int32) (fun f_9 => q_let (x_1 + f_9 : Int32) (fun z_10 => q_let (x_2 + 1 : Int32) (fun z_11 => B4_1 z_10 z_11))))) else x_1)

noncomputable def F_X12_heapMany_L4_1 (X : XW) (σ : ST) (a : Nat) : Nat → Int32 → Int32 → Int32
  | 0 => fun x_1 x_2 => (0 : Int32)
  | k_ + 1 => F_X12_heapMany_B4_1 X σ a (F_X12_heapMany_L4_1 X σ a k_)

theorem F_X12_heapMany_L4_1_s {X : XW} {σ : ST} {a : Nat} {k_ : Nat} {x_1 : Int32} {x_2 : Int32} : F_X12_heapMany_L4_1 X σ a (k_ + 1) x_1 x_2 = F_X12_heapMany_B4_1 X σ a (F_X12_heapMany_L4_1 X σ a k_) x_1 x_2 := rfl

noncomputable def F_X12_heapMany (X : XW) (σ : ST) (a : Nat) : Int32 :=
  F_X12_heapMany_L4_1 X σ a ((2147483647 - (0 : Int32).toInt).toNat + 1) (0 : Int32) (0 : Int32)

noncomputable def F_X12_laidOf_E93_5 (X : XW) (x_2 : Int32) (B5_1 : Int32 → Int32 → Int32) (x_8 : Int32) : Int32 :=
  q_let (x_2 + 1 : Int32) (fun z_14 => B5_1 x_8 z_14)

noncomputable def F_X12_laidOf_B45_4 (X : XW) (r_6 : Int32) (σ : ST) (a : Nat) (v2 : Int32) (x_2 : Int32) (B5_1 : Int32 → Int32 → Int32) (B45_4 : Int32 → Int32 → Int32) (x_8 : Int32) (x_9 : Int32) : Int32 :=
  q_let (r_6 + (2 : Int32) : Int32) (fun z_11 => q_let (σ.1 (q_rf X a 20) z_11.toNatClampNeg : Int32) (fun f_12 => if x_9.toInt < f_12.toInt then if v2.toInt < 0 then q_let (x_8 + (1 : Int32) : Int32) (fun z_16 => q_let (x_9 + 1 : Int32) (fun z_17 => B45_4 z_16 z_17)) else q_let (r_6 + (3 : Int32) : Int32) (fun z_18 => q_let (z_18 + x_9 : Int32) (fun z_19 => q_let (σ.1 (q_rf X a 20) z_19.toNatClampNeg : Int32) (fun f_20 => if f_20.toInt = v2.toInt then q_let (x_8 + (1 : Int32) : Int32) (fun z_24 => q_let (x_9 + 1 : Int32) (fun z_25 => B45_4 z_24 z_25)) else q_let (x_8 + (0 : Int32) : Int32) (fun z_22 => q_let (x_9 + 1 : Int32) (fun z_23 => B45_4 z_22 z_23))))) else F_X12_laidOf_E93_5 X x_2 B5_1 x_8))

noncomputable def F_X12_laidOf_L45_4 (X : XW) (r_6 : Int32) (σ : ST) (a : Nat) (v2 : Int32) (x_2 : Int32) (B5_1 : Int32 → Int32 → Int32) : Nat → Int32 → Int32 → Int32
  | 0 => fun x_8 x_9 => (0 : Int32)
  | k_ + 1 => F_X12_laidOf_B45_4 X r_6 σ a v2 x_2 B5_1 (F_X12_laidOf_L45_4 X r_6 σ a v2 x_2 B5_1 k_)

theorem F_X12_laidOf_L45_4_s {X : XW} {r_6 : Int32} {σ : ST} {a : Nat} {v2 : Int32} {x_2 : Int32} {B5_1 : Int32 → Int32 → Int32} {k_ : Nat} {x_8 : Int32} {x_9 : Int32} : F_X12_laidOf_L45_4 X r_6 σ a v2 x_2 B5_1 (k_ + 1) x_8 x_9 = F_X12_laidOf_B45_4 X r_6 σ a v2 x_2 B5_1 (F_X12_laidOf_L45_4 X r_6 σ a v2 x_2 B5_1 k_) x_8 x_9 := rfl

noncomputable def F_X12_laidOf_J42_3 (X : XW) (r_6 : Int32) (σ : ST) (a : Nat) (v2 : Int32) (x_2 : Int32) (B5_1 : Int32 → Int32 → Int32) (x_1 : Int32) : Int32 :=
  F_X12_laidOf_L45_4 X r_6 σ a v2 x_2 B5_1 ((2147483647 - (0 : Int32).toInt).toNat + 1) x_1 (0 : Int32)

noncomputable def F_X12_laidOf_B5_1 (X : XW) (σ : ST) (a : Nat) (v1 : Int32) (v2 : Int32) (B5_1 : Int32 → Int32 → Int32) (x_1 : Int32) (x_2 : Int32) : Int32 :=
  q_let (σ.1 (q_rf X a 20) (9 : Int32).toNatClampNeg : Int32) (fun f_4 => if x_2.toInt < f_4.toInt then q_let (F_X12_laid X σ x_2 : Int32) (fun r_6 => if v1.toInt < 0 then F_X12_laidOf_J42_3 X r_6 σ a v2 x_2 B5_1 x_1 else q_let (σ.1 (q_rf X a 20) r_6.toNatClampNeg : Int32) (fun f_28 => if f_28.toInt = v1.toInt then F_X12_laidOf_J42_3 X r_6 σ a v2 x_2 B5_1 x_1 else q_let (x_2 + 1 : Int32) (fun z_30 => B5_1 x_1 z_30))) else x_1)

noncomputable def F_X12_laidOf_L5_1 (X : XW) (σ : ST) (a : Nat) (v1 : Int32) (v2 : Int32) : Nat → Int32 → Int32 → Int32
  | 0 => fun x_1 x_2 => (0 : Int32)
  | k_ + 1 => F_X12_laidOf_B5_1 X σ a v1 v2 (F_X12_laidOf_L5_1 X σ a v1 v2 k_)

theorem F_X12_laidOf_L5_1_s {X : XW} {σ : ST} {a : Nat} {v1 : Int32} {v2 : Int32} {k_ : Nat} {x_1 : Int32} {x_2 : Int32} : F_X12_laidOf_L5_1 X σ a v1 v2 (k_ + 1) x_1 x_2 = F_X12_laidOf_B5_1 X σ a v1 v2 (F_X12_laidOf_L5_1 X σ a v1 v2 k_) x_1 x_2 := rfl

noncomputable def F_X12_laidOf (X : XW) (σ : ST) (a : Nat) (v1 : Int32) (v2 : Int32) : Int32 :=
  F_X12_laidOf_L5_1 X σ a v1 v2 ((2147483647 - (0 : Int32).toInt).toNat + 1) (0 : Int32) (0 : Int32)

noncomputable def F_X12_inGameOf_B9_1 (X : XW) (σ : ST) (a : Nat) (v1 : Int32) (B9_1 : Int32 → Int32 → Int32) (x_4 : Int32) (x_5 : Int32) : Int32 :=
  q_let (σ.1 (q_rf X a 20) (2 : Int32).toNatClampNeg : Int32) (fun f_7 => if x_5.toInt < f_7.toInt then q_let (F_X12_handOf X σ a x_5 v1 : Int32) (fun r_9 => q_let (x_4 + r_9 : Int32) (fun z_11 => q_let (x_5 + 1 : Int32) (fun z_12 => B9_1 z_11 z_12))) else x_4)

noncomputable def F_X12_inGameOf_L9_1 (X : XW) (σ : ST) (a : Nat) (v1 : Int32) : Nat → Int32 → Int32 → Int32
  | 0 => fun x_4 x_5 => (0 : Int32)
  | k_ + 1 => F_X12_inGameOf_B9_1 X σ a v1 (F_X12_inGameOf_L9_1 X σ a v1 k_)

theorem F_X12_inGameOf_L9_1_s {X : XW} {σ : ST} {a : Nat} {v1 : Int32} {k_ : Nat} {x_4 : Int32} {x_5 : Int32} : F_X12_inGameOf_L9_1 X σ a v1 (k_ + 1) x_4 x_5 = F_X12_inGameOf_B9_1 X σ a v1 (F_X12_inGameOf_L9_1 X σ a v1 k_) x_4 x_5 := rfl

noncomputable def F_X12_inGameOf (X : XW) (σ : ST) (a : Nat) (v1 : Int32) : Int32 :=
  q_let (F_X12_laidOf X σ a ((-1) : Int32) v1 : Int32) (fun r_2 => F_X12_inGameOf_L9_1 X σ a v1 ((2147483647 - (0 : Int32).toInt).toNat + 1) r_2 (0 : Int32))

noncomputable def F_X12_sortOf_E59_2 (X : XW) (r_1 : Int32) (σ : ST) (a : Nat) (x_3 : Int32) : Int32 :=
  q_let (r_1 + (2 : Int32) : Int32) (fun z_9 => q_let (σ.1 (q_rf X a 20) z_9.toNatClampNeg : Int32) (fun f_10 => if x_3.toInt = f_10.toInt then (0 : Int32) else if x_3.toInt = 0 then (2 : Int32) else (1 : Int32)))

noncomputable def F_X12_sortOf_B10_1 (X : XW) (r_1 : Int32) (σ : ST) (a : Nat) (B10_1 : Int32 → Int32 → Int32) (x_3 : Int32) (x_4 : Int32) : Int32 :=
  q_let (r_1 + (2 : Int32) : Int32) (fun z_6 => q_let (σ.1 (q_rf X a 20) z_6.toNatClampNeg : Int32) (fun f_7 => if x_4.toInt < f_7.toInt then q_let (r_1 + (3 : Int32) : Int32) (fun z_13 => q_let (z_13 + x_4 : Int32) (fun z_14 => q_let (σ.1 (q_rf X a 20) z_14.toNatClampNeg : Int32) (fun f_15 => q_let (r_1 + (1 : Int32) : Int32) (fun z_16 => q_let (σ.1 (q_rf X a 20) z_16.toNatClampNeg : Int32) (fun f_17 => if f_15.toInt = f_17.toInt then q_let (x_3 + (1 : Int32) : Int32) (fun z_21 => q_let (x_4 + 1 : Int32) (fun z_22 => B10_1 z_21 z_22)) else q_let (x_3 + (0 : Int32) : Int32) (fun z_19 => q_let (x_4 + 1 : Int32) (fun z_20 => B10_1 z_19 z_20))))))) else F_X12_sortOf_E59_2 X r_1 σ a x_3))

noncomputable def F_X12_sortOf_L10_1 (X : XW) (r_1 : Int32) (σ : ST) (a : Nat) : Nat → Int32 → Int32 → Int32
  | 0 => fun x_3 x_4 => (0 : Int32)
  | k_ + 1 => F_X12_sortOf_B10_1 X r_1 σ a (F_X12_sortOf_L10_1 X r_1 σ a k_)

theorem F_X12_sortOf_L10_1_s {X : XW} {r_1 : Int32} {σ : ST} {a : Nat} {k_ : Nat} {x_3 : Int32} {x_4 : Int32} : F_X12_sortOf_L10_1 X r_1 σ a (k_ + 1) x_3 x_4 = F_X12_sortOf_B10_1 X r_1 σ a (F_X12_sortOf_L10_1 X r_1 σ a k_) x_3 x_4 := rfl

noncomputable def F_X12_sortOf (X : XW) (σ : ST) (a : Nat) (v1 : Int32) : Int32 :=
  q_let (F_X12_laid X σ v1 : Int32) (fun r_1 => F_X12_sortOf_L10_1 X r_1 σ a ((2147483647 - (0 : Int32).toInt).toNat + 1) (0 : Int32) (0 : Int32))

noncomputable def F_X12_knownOf (X : XW) (σ : ST) (a : Nat) (v1 : Int32) (v2 : Int32) : Int32 :=
  q_let (F_X12_handOf X σ a v1 v2 : Int32) (fun r_1 => q_let (F_X12_laidOf X σ a v1 v2 : Int32) (fun r_3 => q_let (r_1 + r_3 : Int32) (fun z_5 => z_5)))

noncomputable def F_X12_unknownOf (X : XW) (σ : ST) (a : Nat) (v1 : Int32) (v2 : Int32) : Int32 :=
  q_let (F_X12_inGameOf X σ a v2 : Int32) (fun r_1 => q_let (F_X12_knownOf X σ a v1 v2 : Int32) (fun r_3 => q_let (r_1 - r_3 : Int32) (fun z_5 => z_5)))

noncomputable def F_X12_unknownAll_B4_1 (X : XW) (σ : ST) (a : Nat) (v1 : Int32) (B4_1 : Int32 → Int32 → Int32) (x_1 : Int32) (x_2 : Int32) : Int32 :=
  q_let (σ.1 (q_rf X a 20) (0 : Int32).toNatClampNeg : Int32) (fun f_4 => if x_2.toInt < f_4.toInt then q_let (F_X12_unknownOf X σ a v1 x_2 : Int32) (fun r_6 => q_let (x_1 + r_6 : Int32) (fun z_8 => q_let (x_2 + 1 : Int32) (fun z_9 => B4_1 z_8 z_9))) else x_1)

noncomputable def F_X12_unknownAll_L4_1 (X : XW) (σ : ST) (a : Nat) (v1 : Int32) : Nat → Int32 → Int32 → Int32
  | 0 => fun x_1 x_2 => (0 : Int32)
  | k_ + 1 => F_X12_unknownAll_B4_1 X σ a v1 (F_X12_unknownAll_L4_1 X σ a v1 k_)

theorem F_X12_unknownAll_L4_1_s {X : XW} {σ : ST} {a : Nat} {v1 : Int32} {k_ : Nat} {x_1 : Int32} {x_2 : Int32} : F_X12_unknownAll_L4_1 X σ a v1 (k_ + 1) x_1 x_2 = F_X12_unknownAll_B4_1 X σ a v1 (F_X12_unknownAll_L4_1 X σ a v1 k_) x_1 x_2 := rfl

noncomputable def F_X12_unknownAll (X : XW) (σ : ST) (a : Nat) (v1 : Int32) : Int32 :=
  F_X12_unknownAll_L4_1 X σ a v1 ((2147483647 - (0 : Int32).toInt).toNat + 1) (0 : Int32) (0 : Int32)

noncomputable def F_X12_choose_B12_1 (X : XW) (v1 : Int32) (v0 : Int32) (B12_1 : Int64 → Int32 → Int64) (w_2 : Int64) (x_3 : Int32) : Int64 :=
  if v1.toInt < x_3.toInt then w_2 else q_let (v0 - v1 : Int32) (fun z_6 => q_let (z_6 + x_3 : Int32) (fun z_7 => q_let (z_7.toInt64 : Int64) (fun y_8 => q_let (w_2 * y_8 : Int64) (fun y_9 => q_let (x_3.toInt64 : Int64) (fun y_10 => q_let (y_9 / y_10 : Int64) (fun y_11 => q_let (x_3 + 1 : Int32) (fun z_12 => B12_1 y_11 z_12)))))))

noncomputable def F_X12_choose_L12_1 (X : XW) (v1 : Int32) (v0 : Int32) : Nat → Int64 → Int32 → Int64
  | 0 => fun w_2 x_3 => (0 : Int64)
  | k_ + 1 => F_X12_choose_B12_1 X v1 v0 (F_X12_choose_L12_1 X v1 v0 k_)

theorem F_X12_choose_L12_1_s {X : XW} {v1 : Int32} {v0 : Int32} {k_ : Nat} {w_2 : Int64} {x_3 : Int32} : F_X12_choose_L12_1 X v1 v0 (k_ + 1) w_2 x_3 = F_X12_choose_B12_1 X v1 v0 (F_X12_choose_L12_1 X v1 v0 k_) w_2 x_3 := rfl

noncomputable def F_X12_choose (X : XW) (σ : ST) (v0 : Int32) (v1 : Int32) : Int64 :=
  if v0.toInt < v1.toInt then (0 : Int64) else F_X12_choose_L12_1 X v1 v0 ((2147483647 - (1 : Int32).toInt).toNat + 1) (1 : Int64) (1 : Int32)

noncomputable def F_J9_abs_m (X : XW) (σ : ST) (v0 : Int64) : Int64 :=
  q_let (lg_cmp v0 (0 : Int64) : Int32) (fun z_1 => if z_1.toInt < 0 then q_let (-v0 : Int64) (fun y_4 => y_4) else v0)

noncomputable def F_X12_fraction_E34_2 (X : XW) (v1 : Int64) (w_3 : Int64) (σ : ST) (a : Nat) (v2 : Int64) : Int32 × ST :=
  q_let (v1 / w_3 : Int64) (fun y_9 => q_let (q_sl σ a 2 y_9 : ST) (fun σ_10 => q_let (v2 / w_3 : Int64) (fun y_11 => q_let (q_sl σ_10 a 3 y_11 : ST) (fun σ_12 => ((1 : Int32), σ_12)))))

noncomputable def F_X12_fraction_B9_1 (X : XW) (v1 : Int64) (σ : ST) (a : Nat) (v2 : Int64) (B9_1 : Int64 → Int64 → Int32 × ST) (w_3 : Int64) (w_4 : Int64) : Int32 × ST :=
  q_let (lg_cmp w_4 (0 : Int64) : Int32) (fun z_6 => if z_6.toInt = 0 then F_X12_fraction_E34_2 X v1 w_3 σ a v2 else q_let (w_3 % w_4 : Int64) (fun y_13 => B9_1 w_4 y_13))

noncomputable def F_X12_fraction_L9_1 (X : XW) (v1 : Int64) (σ : ST) (a : Nat) (v2 : Int64) : Nat → Int64 → Int64 → Int32 × ST
  | 0 => fun w_3 w_4 => ((0 : Int32), σ)
  | k_ + 1 => F_X12_fraction_B9_1 X v1 σ a v2 (F_X12_fraction_L9_1 X v1 σ a v2 k_)

theorem F_X12_fraction_L9_1_s {X : XW} {v1 : Int64} {σ : ST} {a : Nat} {v2 : Int64} {k_ : Nat} {w_3 : Int64} {w_4 : Int64} : F_X12_fraction_L9_1 X v1 σ a v2 (k_ + 1) w_3 w_4 = F_X12_fraction_B9_1 X v1 σ a v2 (F_X12_fraction_L9_1 X v1 σ a v2 k_) w_3 w_4 := rfl

noncomputable def F_X12_fraction (X : XW) (σ : ST) (a : Nat) (v1 : Int64) (v2 : Int64) : Int32 × ST :=
  q_let (F_J9_abs_m X σ v1 : Int64) (fun r_1 => F_X12_fraction_L9_1 X v1 σ a v2 ((v2.toInt.natAbs) + 1) r_1 v2)

noncomputable def F_X12_nextKind (X : XW) (σ : ST) (a : Nat) (v1 : Int32) : Int32 :=
  q_let (σ.1 (q_rf X a 20) (0 : Int32).toNatClampNeg : Int32) (fun f_1 => q_let (σ.1 (q_rf X a 20) (3 : Int32).toNatClampNeg : Int32) (fun f_2 => if f_2.toInt = 0 then q_let (σ.1 (q_rf X a 20) (5 : Int32).toNatClampNeg : Int32) (fun f_4 => q_let (f_4 + (1 : Int32) : Int32) (fun z_5 => q_let (z_5 % f_1 : Int32) (fun z_6 => z_6))) else q_let (σ.1 (q_rf X a 20) (3 : Int32).toNatClampNeg : Int32) (fun f_7 => if f_7.toInt = 1 then q_let (σ.1 (q_rf X a 20) (3 : Int32).toNatClampNeg : Int32) (fun f_9 => if f_9.toInt = 1 then q_let (σ.1 (q_rf X a 20) (5 : Int32).toNatClampNeg : Int32) (fun f_12 => q_let (f_12 + f_1 : Int32) (fun z_13 => q_let (z_13 - (1 : Int32) : Int32) (fun z_14 => q_let (z_14 % f_1 : Int32) (fun z_15 => z_15)))) else q_let (σ.1 (q_rf X a 20) (5 : Int32).toNatClampNeg : Int32) (fun f_11 => f_11)) else if v1.toInt = 0 then q_let (σ.1 (q_rf X a 20) (5 : Int32).toNatClampNeg : Int32) (fun f_24 => q_let (f_24 + (1 : Int32) : Int32) (fun z_25 => q_let (z_25 % f_1 : Int32) (fun z_26 => z_26))) else q_let (σ.1 (q_rf X a 20) (3 : Int32).toNatClampNeg : Int32) (fun f_17 => if f_17.toInt = 1 then q_let (σ.1 (q_rf X a 20) (5 : Int32).toNatClampNeg : Int32) (fun f_20 => q_let (f_20 + f_1 : Int32) (fun z_21 => q_let (z_21 - (1 : Int32) : Int32) (fun z_22 => q_let (z_22 % f_1 : Int32) (fun z_23 => z_23)))) else q_let (σ.1 (q_rf X a 20) (5 : Int32).toNatClampNeg : Int32) (fun f_19 => f_19)))))

noncomputable def F_X12_behindOf (X : XW) (σ : ST) (a : Nat) (v1 : Int32) : Int32 :=
  q_let (v1 + (1 : Int32) : Int32) (fun z_1 => q_let (σ.1 (q_rf X a 20) (2 : Int32).toNatClampNeg : Int32) (fun f_2 => q_let (z_1 % f_2 : Int32) (fun z_3 => z_3)))

noncomputable def F_X12_waitsOf (X : XW) (σ : ST) (a : Nat) (v1 : Int32) : Int32 :=
  q_let (σ.1 (q_rf X a 20) (7 : Int32).toNatClampNeg : Int32) (fun f_1 => if f_1.toInt = 1 then q_let (σ.1 (q_rf X a 20) (6 : Int32).toNatClampNeg : Int32) (fun f_9 => q_let (F_X12_behindOf X σ a f_9 : Int32) (fun r_10 => q_let (v1 - r_10 : Int32) (fun z_12 => q_let (σ.1 (q_rf X a 20) (2 : Int32).toNatClampNeg : Int32) (fun f_13 => q_let (z_12 + f_13 : Int32) (fun z_14 => q_let (σ.1 (q_rf X a 20) (2 : Int32).toNatClampNeg : Int32) (fun f_15 => q_let (z_14 % f_15 : Int32) (fun z_16 => z_16))))))) else q_let (σ.1 (q_rf X a 20) (6 : Int32).toNatClampNeg : Int32) (fun f_3 => q_let (v1 - f_3 : Int32) (fun z_4 => q_let (σ.1 (q_rf X a 20) (2 : Int32).toNatClampNeg : Int32) (fun f_5 => q_let (z_4 + f_5 : Int32) (fun z_6 => q_let (σ.1 (q_rf X a 20) (2 : Int32).toNatClampNeg : Int32) (fun f_7 => q_let (z_6 % f_7 : Int32) (fun z_8 => z_8)))))))

noncomputable def F_X12_fallsTo_J25_1 (X : XW) (σ : ST) (a : Nat) (v1 : Int32) (v2 : Int32) (x_2 : Int32) : Int32 :=
  q_let (F_X12_waitsOf X σ a v1 : Int32) (fun r_3 => q_let (σ.1 (q_rf X a 20) (2 : Int32).toNatClampNeg : Int32) (fun f_5 => q_let (v2 * f_5 : Int32) (fun z_6 => q_let (r_3 + z_6 : Int32) (fun z_7 => q_let (σ.1 (q_rf X a 20) (0 : Int32).toNatClampNeg : Int32) (fun f_8 => q_let (z_7 % f_8 : Int32) (fun z_9 => q_let (σ.1 (q_rf X a 20) (3 : Int32).toNatClampNeg : Int32) (fun f_10 => if f_10.toInt = 0 then q_let (x_2 + z_9 : Int32) (fun z_19 => q_let (σ.1 (q_rf X a 20) (0 : Int32).toNatClampNeg : Int32) (fun f_20 => q_let (z_19 % f_20 : Int32) (fun z_21 => z_21))) else q_let (σ.1 (q_rf X a 20) (3 : Int32).toNatClampNeg : Int32) (fun f_12 => if f_12.toInt = 1 then q_let (σ.1 (q_rf X a 20) (0 : Int32).toNatClampNeg : Int32) (fun f_14 => q_let (x_2 + f_14 : Int32) (fun z_15 => q_let (z_15 - z_9 : Int32) (fun z_16 => q_let (σ.1 (q_rf X a 20) (0 : Int32).toNatClampNeg : Int32) (fun f_17 => q_let (z_16 % f_17 : Int32) (fun z_18 => z_18))))) else x_2))))))))

noncomputable def F_X12_fallsTo (X : XW) (σ : ST) (a : Nat) (v1 : Int32) (v2 : Int32) : Int32 :=
  q_let (σ.1 (q_rf X a 20) (7 : Int32).toNatClampNeg : Int32) (fun f_1 => if f_1.toInt = 1 then q_let (F_X12_nextKind X σ a (1 : Int32) : Int32) (fun r_25 => F_X12_fallsTo_J25_1 X σ a v1 v2 r_25) else q_let (σ.1 (q_rf X a 20) (5 : Int32).toNatClampNeg : Int32) (fun f_23 => F_X12_fallsTo_J25_1 X σ a v1 v2 f_23))

noncomputable def F_X12_isImpossible (X : XW) (σ : ST) (a : Nat) (v1 : Int32) : Int32 :=
  q_let (σ.1 (q_rf X a 20) (5 : Int32).toNatClampNeg : Int32) (fun f_1 => q_let (F_X12_unknownOf X σ a v1 f_1 : Int32) (fun r_2 => q_let (σ.1 (q_rf X a 20) (9 : Int32).toNatClampNeg : Int32) (fun f_4 => q_let (f_4 - (1 : Int32) : Int32) (fun z_5 => q_let (F_X12_laid X σ z_5 : Int32) (fun r_6 => q_let (r_6 + (2 : Int32) : Int32) (fun z_8 => q_let (σ.1 (q_rf X a 20) z_8.toNatClampNeg : Int32) (fun f_9 => if r_2.toInt < f_9.toInt then (1 : Int32) else (0 : Int32))))))))

noncomputable def F_X12_whyNot (X : XW) (σ : ST) (a : Nat) (v1 : Int32) : Int32 :=
  q_let (F_X12_isPlayerAt X σ a v1 : Int32) (fun r_1 => if r_1.toInt = 0 then (2 : Int32) else q_let (σ.1 (q_rf X a 20) (7 : Int32).toNatClampNeg : Int32) (fun f_4 => if f_4.toInt = 0 then (8 : Int32) else q_let (σ.1 (q_rf X a 20) (6 : Int32).toNatClampNeg : Int32) (fun f_6 => if f_6.toInt = v1.toInt then (5 : Int32) else (0 : Int32))))

noncomputable def F_X12_otherKind_B4_1 (X : XW) (σ : ST) (a : Nat) (v1 : Int32) (B4_1 : Int32 → Int32 → Int32) (x_1 : Int32) (x_2 : Int32) : Int32 :=
  q_let (σ.1 (q_rf X a 20) (0 : Int32).toNatClampNeg : Int32) (fun f_4 => if x_2.toInt < f_4.toInt then q_let (σ.1 (q_rf X a 20) (5 : Int32).toNatClampNeg : Int32) (fun f_6 => if x_2.toInt = f_6.toInt then q_let (x_2 + 1 : Int32) (fun z_8 => B4_1 x_1 z_8) else q_let (F_X12_handOf X σ a v1 x_2 : Int32) (fun r_9 => if 0 < r_9.toInt then if x_1.toInt < 0 then q_let (x_2 + 1 : Int32) (fun z_14 => B4_1 x_2 z_14) else q_let (F_X12_handOf X σ a v1 x_2 : Int32) (fun r_15 => q_let (F_X12_handOf X σ a v1 x_1 : Int32) (fun r_17 => if r_17.toInt < r_15.toInt then q_let (x_2 + 1 : Int32) (fun z_21 => B4_1 x_2 z_21) else q_let (x_2 + 1 : Int32) (fun z_20 => B4_1 x_1 z_20))) else q_let (x_2 + 1 : Int32) (fun z_12 => B4_1 x_1 z_12))) else x_1)

noncomputable def F_X12_otherKind_L4_1 (X : XW) (σ : ST) (a : Nat) (v1 : Int32) : Nat → Int32 → Int32 → Int32
  | 0 => fun x_1 x_2 => (0 : Int32)
  | k_ + 1 => F_X12_otherKind_B4_1 X σ a v1 (F_X12_otherKind_L4_1 X σ a v1 k_)

theorem F_X12_otherKind_L4_1_s {X : XW} {σ : ST} {a : Nat} {v1 : Int32} {k_ : Nat} {x_1 : Int32} {x_2 : Int32} : F_X12_otherKind_L4_1 X σ a v1 (k_ + 1) x_1 x_2 = F_X12_otherKind_B4_1 X σ a v1 (F_X12_otherKind_L4_1 X σ a v1 k_) x_1 x_2 := rfl

noncomputable def F_X12_otherKind (X : XW) (σ : ST) (a : Nat) (v1 : Int32) : Int32 :=
  F_X12_otherKind_L4_1 X σ a v1 ((2147483647 - (0 : Int32).toInt).toNat + 1) ((-1) : Int32) (0 : Int32)

noncomputable def F_X12_isSo_J78_1 (X : XW) (v1 : Int32) (σ : ST) (a : Nat) (x_4 : Int32) : Int32 :=
  q_let (v1 + (7 : Int32) : Int32) (fun z_5 => q_let (σ.1 (q_rf X a 20) z_5.toNatClampNeg : Int32) (fun f_6 => if f_6.toInt = 60 then q_let (v1 + (2 : Int32) : Int32) (fun z_17 => q_let (σ.1 (q_rf X a 20) z_17.toNatClampNeg : Int32) (fun f_18 => if x_4.toInt < f_18.toInt then (1 : Int32) else (0 : Int32))) else q_let (v1 + (7 : Int32) : Int32) (fun z_8 => q_let (σ.1 (q_rf X a 20) z_8.toNatClampNeg : Int32) (fun f_9 => if f_9.toInt = 62 then q_let (v1 + (2 : Int32) : Int32) (fun z_14 => q_let (σ.1 (q_rf X a 20) z_14.toNatClampNeg : Int32) (fun f_15 => if f_15.toInt < x_4.toInt then (1 : Int32) else (0 : Int32))) else q_let (v1 + (2 : Int32) : Int32) (fun z_11 => q_let (σ.1 (q_rf X a 20) z_11.toNatClampNeg : Int32) (fun f_12 => if x_4.toInt = f_12.toInt then (1 : Int32) else (0 : Int32)))))))

noncomputable def F_X12_isSo (X : XW) (σ : ST) (a : Nat) (v1 : Int32) : Int32 :=
  q_let (v1 + (6 : Int32) : Int32) (fun z_1 => q_let (σ.1 (q_rf X a 20) z_1.toNatClampNeg : Int32) (fun f_2 => if f_2.toInt = 3 then q_let (σ.1 (q_rf X a 20) (8 : Int32).toNatClampNeg : Int32) (fun f_32 => if f_32.toInt < 0 then (0 : Int32) else (1 : Int32)) else if f_2.toInt = 0 then q_let (v1 + (1 : Int32) : Int32) (fun z_28 => q_let (σ.1 (q_rf X a 20) z_28.toNatClampNeg : Int32) (fun f_29 => q_let (F_X12_cardsOf X σ a f_29 : Int32) (fun r_30 => F_X12_isSo_J78_1 X v1 σ a r_30))) else if f_2.toInt = 1 then q_let (F_X12_heapMany X σ a : Int32) (fun r_26 => F_X12_isSo_J78_1 X v1 σ a r_26) else q_let (v1 + (1 : Int32) : Int32) (fun z_22 => q_let (σ.1 (q_rf X a 20) z_22.toNatClampNeg : Int32) (fun f_23 => q_let ((22 : Int32) + f_23 : Int32) (fun z_24 => q_let (σ.1 (q_rf X a 20) z_24.toNatClampNeg : Int32) (fun f_25 => F_X12_isSo_J78_1 X v1 σ a f_25))))))

noncomputable def F_X12_blinds (X : XW) (σ : ST) (a : Nat) (v1 : Int32) : ST :=
  q_let (σ.1 (q_rf X a 20) (9 : Int32).toNatClampNeg : Int32) (fun f_1 => q_let (f_1 - (1 : Int32) : Int32) (fun z_2 => q_let (F_X12_laid X σ z_2 : Int32) (fun r_3 => q_let (r_3 + (2 : Int32) : Int32) (fun z_5 => q_let (σ.1 (q_rf X a 20) z_5.toNatClampNeg : Int32) (fun f_6 => q_let (σ.1 (q_rf X a 20) (5 : Int32).toNatClampNeg : Int32) (fun f_7 => q_let (F_X12_unknownOf X σ a v1 f_7 : Int32) (fun r_8 => q_let (F_X12_choose X σ r_8 f_6 : Int64) (fun r_10 => q_let (q_sl σ a 30 r_10 : ST) (fun σ_12 => q_let (F_X12_unknownAll X σ_12 a v1 : Int32) (fun r_13 => q_let (F_X12_choose X σ_12 r_13 f_6 : Int64) (fun r_15 => q_let (q_sl σ_12 a 31 r_15 : ST) (fun σ_17 => σ_17))))))))))))

noncomputable def F_X12_many (X : XW) (σ : ST) (a : Nat) (v1 : Int32) : Int32 × ST :=
  q_let (q_si σ a 1 (0 : Int32) : ST) (fun σ_1 => q_let (q_si σ_1 a 0 (0 : Int32) : ST) (fun σ_2 => q_let (v1.toInt64 : Int64) (fun y_3 => q_let (F_X12_isIn X σ_2 y_3 (0 : Int64) (10 : Int64) : Int32) (fun r_6 => if r_6.toInt = 0 then q_bi (F_X12_refuse X σ_2 a (5 : Int32)) (fun r_32 σ_33 => (r_32, σ_33)) else (if v1.toInt = 6 then q_let (σ_2.1 (q_rf X a 20) (6 : Int32).toNatClampNeg : Int32) (fun f_10 => if f_10.toInt < 0 then q_bi (F_X12_refuse X σ_2 a (8 : Int32)) (fun r_14 σ_15 => (r_14, σ_15)) else q_let (σ_2.1 (q_rf X a 20) (6 : Int32).toNatClampNeg : Int32) (fun f_12 => (f_12, σ_2))) else (if v1.toInt = 7 then q_let (F_X12_heapMany X σ_2 a : Int32) (fun r_17 => (r_17, σ_2)) else (if v1.toInt = 8 then q_let (σ_2.1 (q_rf X a 20) (7 : Int32).toNatClampNeg : Int32) (fun f_20 => (f_20, σ_2)) else (if v1.toInt = 9 then q_let (σ_2.1 (q_rf X a 20) (8 : Int32).toNatClampNeg : Int32) (fun f_22 => if f_22.toInt < 0 then q_bi (F_X12_refuse X σ_2 a (8 : Int32)) (fun r_26 σ_27 => (r_26, σ_27)) else q_let (σ_2.1 (q_rf X a 20) (8 : Int32).toNatClampNeg : Int32) (fun f_24 => (f_24, σ_2))) else (if v1.toInt = 10 then q_let (σ_2.1 (q_rf X a 20) (9 : Int32).toNatClampNeg : Int32) (fun f_29 => (f_29, σ_2)) else q_let (σ_2.1 (q_rf X a 20) v1.toNatClampNeg : Int32) (fun f_30 => (f_30, σ_2)))))))))))

noncomputable def F_X12_player (X : XW) (σ : ST) (a : Nat) (v1 : Int32) (v2 : Int32) : Int32 × ST :=
  q_let (q_si σ a 1 (0 : Int32) : ST) (fun σ_1 => q_let (q_si σ_1 a 0 (0 : Int32) : ST) (fun σ_2 => q_let (F_X12_isPlayerAt X σ_2 a v1 : Int32) (fun r_3 => if r_3.toInt = 0 then q_bi (F_X12_refuse X σ_2 a (2 : Int32)) (fun r_29 σ_30 => (r_29, σ_30)) else (if v2.toInt = 0 then q_let ((10 : Int32) + v1 : Int32) (fun z_7 => q_let (σ_2.1 (q_rf X a 20) z_7.toNatClampNeg : Int32) (fun f_8 => (f_8, σ_2))) else (if v2.toInt = 1 then q_let ((16 : Int32) + v1 : Int32) (fun z_10 => q_let (σ_2.1 (q_rf X a 20) z_10.toNatClampNeg : Int32) (fun f_11 => (f_11, σ_2))) else (if v2.toInt = 2 then q_let (F_X12_cardsOf X σ_2 a v1 : Int32) (fun r_13 => (r_13, σ_2)) else (if v2.toInt = 3 then q_let ((22 : Int32) + v1 : Int32) (fun z_16 => q_let (σ_2.1 (q_rf X a 20) z_16.toNatClampNeg : Int32) (fun f_17 => (f_17, σ_2))) else (if v2.toInt = 4 then q_let ((28 : Int32) + v1 : Int32) (fun z_19 => q_let (σ_2.1 (q_rf X a 20) z_19.toNatClampNeg : Int32) (fun f_20 => (f_20, σ_2))) else (if v2.toInt = 5 then q_let (F_X12_laidOf X σ_2 a v1 ((-1) : Int32) : Int32) (fun r_23 => (r_23, σ_2)) else q_bi (F_X12_refuse X σ_2 a (5 : Int32)) (fun r_26 σ_27 => (r_26, σ_27)))))))))))

noncomputable def F_X12_hand (X : XW) (σ : ST) (a : Nat) (v1 : Int32) (v2 : Int32) : Int32 × ST :=
  q_let (q_si σ a 1 (0 : Int32) : ST) (fun σ_1 => q_let (q_si σ_1 a 0 (0 : Int32) : ST) (fun σ_2 => q_let (F_X12_isPlayerAt X σ_2 a v1 : Int32) (fun r_3 => if r_3.toInt = 0 then q_bi (F_X12_refuse X σ_2 a (2 : Int32)) (fun r_7 σ_8 => (r_7, σ_8)) else q_let (F_X12_isKindAt X σ_2 a v2 : Int32) (fun r_9 => if r_9.toInt = 0 then q_bi (F_X12_refuse X σ_2 a (2 : Int32)) (fun r_13 σ_14 => (r_13, σ_14)) else q_let (F_X12_handOf X σ_2 a v1 v2 : Int32) (fun r_15 => (r_15, σ_2))))))

noncomputable def F_X12_inGame (X : XW) (σ : ST) (a : Nat) (v1 : Int32) : Int32 × ST :=
  q_let (q_si σ a 1 (0 : Int32) : ST) (fun σ_1 => q_let (q_si σ_1 a 0 (0 : Int32) : ST) (fun σ_2 => q_let (F_X12_isKindAt X σ_2 a v1 : Int32) (fun r_3 => if r_3.toInt = 0 then q_bi (F_X12_refuse X σ_2 a (2 : Int32)) (fun r_7 σ_8 => (r_7, σ_8)) else q_let (F_X12_inGameOf X σ_2 a v1 : Int32) (fun r_9 => (r_9, σ_2)))))

noncomputable def F_X12_laying (X : XW) (σ : ST) (a : Nat) (v1 : Int32) (v2 : Int32) : Int32 × ST :=
  q_let (q_si σ a 1 (0 : Int32) : ST) (fun σ_1 => q_let (q_si σ_1 a 0 (0 : Int32) : ST) (fun σ_2 => q_let (v2.toInt64 : Int64) (fun y_3 => q_let (F_X12_isIn X σ_2 y_3 (0 : Int64) (3 : Int64) : Int32) (fun r_6 => if r_6.toInt = 0 then q_bi (F_X12_refuse X σ_2 a (5 : Int32)) (fun r_28 σ_29 => (r_28, σ_29)) else q_let (v1.toInt64 : Int64) (fun y_9 => q_let (σ_2.1 (q_rf X a 20) (9 : Int32).toNatClampNeg : Int32) (fun f_10 => q_let (f_10 - (1 : Int32) : Int32) (fun z_11 => q_let (z_11.toInt64 : Int64) (fun y_12 => q_let (F_X12_isIn X σ_2 y_9 (0 : Int64) y_12 : Int32) (fun r_14 => if r_14.toInt = 0 then q_bi (F_X12_refuse X σ_2 a (8 : Int32)) (fun r_25 σ_26 => (r_25, σ_26)) else if v2.toInt = 3 then q_let (F_X12_sortOf X σ_2 a v1 : Int32) (fun r_22 => (r_22, σ_2)) else q_let (F_X12_laid X σ_2 v1 : Int32) (fun r_18 => q_let (r_18 + v2 : Int32) (fun z_20 => q_let (σ_2.1 (q_rf X a 20) z_20.toNatClampNeg : Int32) (fun f_21 => (f_21, σ_2)))))))))))))

noncomputable def F_X12_cardOf (X : XW) (σ : ST) (a : Nat) (v1 : Int32) (v2 : Int32) : Int32 × ST :=
  q_let (q_si σ a 1 (0 : Int32) : ST) (fun σ_1 => q_let (q_si σ_1 a 0 (0 : Int32) : ST) (fun σ_2 => q_let (v1.toInt64 : Int64) (fun y_3 => q_let (σ_2.1 (q_rf X a 20) (9 : Int32).toNatClampNeg : Int32) (fun f_4 => q_let (f_4 - (1 : Int32) : Int32) (fun z_5 => q_let (z_5.toInt64 : Int64) (fun y_6 => q_let (F_X12_isIn X σ_2 y_3 (0 : Int64) y_6 : Int32) (fun r_8 => if r_8.toInt = 0 then q_bi (F_X12_refuse X σ_2 a (8 : Int32)) (fun r_12 σ_13 => (r_12, σ_13)) else q_let (v2.toInt64 : Int64) (fun y_14 => q_let (F_X12_laid X σ_2 v1 : Int32) (fun r_15 => q_let (r_15 + (2 : Int32) : Int32) (fun z_17 => q_let (σ_2.1 (q_rf X a 20) z_17.toNatClampNeg : Int32) (fun f_18 => q_let (f_18 - (1 : Int32) : Int32) (fun z_19 => q_let (z_19.toInt64 : Int64) (fun y_20 => q_let (F_X12_isIn X σ_2 y_14 (0 : Int64) y_20 : Int32) (fun r_22 => if r_22.toInt = 0 then q_bi (F_X12_refuse X σ_2 a (8 : Int32)) (fun r_31 σ_32 => (r_31, σ_32)) else q_let (F_X12_laid X σ_2 v1 : Int32) (fun r_25 => q_let (r_25 + (3 : Int32) : Int32) (fun z_27 => q_let (z_27 + v2 : Int32) (fun z_28 => q_let (σ_2.1 (q_rf X a 20) z_28.toNatClampNeg : Int32) (fun f_29 => (f_29, σ_2)))))))))))))))))))

noncomputable def F_X12_copyHand_E110_2 (X : XW) (σ_15 : ST) (a : Nat) : Int32 × ST :=
  q_let (σ_15.1 (q_rf X a 20) (0 : Int32).toNatClampNeg : Int32) (fun f_19 => (f_19, σ_15))

noncomputable def F_X12_copyHand_B76_1 (X : XW) (a : Nat) (v2 : Int32) (v1 : Int32) (B76_1 : Int32 → ST → Int32 × ST) (x_14 : Int32) (σ_15 : ST) : Int32 × ST :=
  q_let (σ_15.1 (q_rf X a 20) (0 : Int32).toNatClampNeg : Int32) (fun f_17 => if x_14.toInt < f_17.toInt then q_let ((60 : Int32) * v2 : Int32) (fun z_20 => q_let (z_20 + x_14 : Int32) (fun z_21 => q_let (F_X12_handOf X σ_15 a v1 x_14 : Int32) (fun r_22 => q_let (r_22.toInt64 : Int64) (fun y_24 => q_let (q_sl σ_15 (q_rf X a 6) z_21.toNatClampNeg y_24 : ST) (fun σ_25 => q_let (x_14 + 1 : Int32) (fun z_26 => B76_1 z_26 σ_25)))))) else F_X12_copyHand_E110_2 X σ_15 a)

noncomputable def F_X12_copyHand_L76_1 (X : XW) (a : Nat) (v2 : Int32) (v1 : Int32) : Nat → Int32 → ST → Int32 × ST
  | 0 => fun x_14 σ_15 => ((0 : Int32), σ_15)
  | k_ + 1 => F_X12_copyHand_B76_1 X a v2 v1 (F_X12_copyHand_L76_1 X a v2 v1 k_)

theorem F_X12_copyHand_L76_1_s {X : XW} {a : Nat} {v2 : Int32} {v1 : Int32} {k_ : Nat} {x_14 : Int32} {σ_15 : ST} : F_X12_copyHand_L76_1 X a v2 v1 (k_ + 1) x_14 σ_15 = F_X12_copyHand_B76_1 X a v2 v1 (F_X12_copyHand_L76_1 X a v2 v1 k_) x_14 σ_15 := rfl

noncomputable def F_X12_copyHand (X : XW) (σ : ST) (a : Nat) (v1 : Int32) (v2 : Int32) : Int32 × ST :=
  q_let (q_si σ a 1 (0 : Int32) : ST) (fun σ_1 => q_let (q_si σ_1 a 0 (0 : Int32) : ST) (fun σ_2 => q_let (F_X12_isTray X σ_2 a v2 : Int32) (fun r_3 => if r_3.toInt = 0 then q_bi (F_X12_refuse X σ_2 a (1 : Int32)) (fun r_38 σ_39 => (r_38, σ_39)) else q_let (σ_2.1 (q_rf X a 5) v2.toNatClampNeg : Int32) (fun f_6 => if f_6.toInt < 0 then q_bi (F_X12_refuse X σ_2 a (3 : Int32)) (fun r_35 σ_36 => (r_35, σ_36)) else q_let (F_X12_isPlayerAt X σ_2 a v1 : Int32) (fun r_8 => if r_8.toInt = 0 then q_bi (F_X12_refuse X σ_2 a (2 : Int32)) (fun r_32 σ_33 => (r_32, σ_33)) else q_let (σ_2.1 (q_rf X a 5) v2.toNatClampNeg : Int32) (fun f_11 => q_let (σ_2.1 (q_rf X a 20) (0 : Int32).toNatClampNeg : Int32) (fun f_12 => if f_11.toInt < f_12.toInt then q_bi (F_X12_refuse X σ_2 a (4 : Int32)) (fun r_29 σ_30 => (r_29, σ_30)) else F_X12_copyHand_L76_1 X a v2 v1 ((2147483647 - (0 : Int32).toInt).toNat + 1) (0 : Int32) σ_2)))))))

noncomputable def F_X12_known (X : XW) (σ : ST) (a : Nat) (v1 : Int32) (v2 : Int32) : Int32 × ST :=
  q_let (q_si σ a 1 (0 : Int32) : ST) (fun σ_1 => q_let (q_si σ_1 a 0 (0 : Int32) : ST) (fun σ_2 => q_let (F_X12_isPlayerAt X σ_2 a v1 : Int32) (fun r_3 => if r_3.toInt = 0 then q_bi (F_X12_refuse X σ_2 a (2 : Int32)) (fun r_7 σ_8 => (r_7, σ_8)) else q_let (F_X12_isKindAt X σ_2 a v2 : Int32) (fun r_9 => if r_9.toInt = 0 then q_bi (F_X12_refuse X σ_2 a (2 : Int32)) (fun r_13 σ_14 => (r_13, σ_14)) else q_let (F_X12_knownOf X σ_2 a v1 v2 : Int32) (fun r_15 => (r_15, σ_2))))))

noncomputable def F_X12_unknown (X : XW) (σ : ST) (a : Nat) (v1 : Int32) (v2 : Int32) : Int32 × ST :=
  q_let (q_si σ a 1 (0 : Int32) : ST) (fun σ_1 => q_let (q_si σ_1 a 0 (0 : Int32) : ST) (fun σ_2 => q_let (F_X12_isPlayerAt X σ_2 a v1 : Int32) (fun r_3 => if r_3.toInt = 0 then q_bi (F_X12_refuse X σ_2 a (2 : Int32)) (fun r_7 σ_8 => (r_7, σ_8)) else if v2.toInt = (-1) then if v2.toInt = (-1) then q_let (F_X12_unknownAll X σ_2 a v1 : Int32) (fun r_13 => (r_13, σ_2)) else q_let (F_X12_unknownOf X σ_2 a v1 v2 : Int32) (fun r_11 => (r_11, σ_2)) else q_let (F_X12_isKindAt X σ_2 a v2 : Int32) (fun r_15 => if r_15.toInt = 0 then q_bi (F_X12_refuse X σ_2 a (2 : Int32)) (fun r_24 σ_25 => (r_24, σ_25)) else if v2.toInt = (-1) then q_let (F_X12_unknownAll X σ_2 a v1 : Int32) (fun r_21 => (r_21, σ_2)) else q_let (F_X12_unknownOf X σ_2 a v1 v2 : Int32) (fun r_19 => (r_19, σ_2))))))

noncomputable def F_X12_impossible (X : XW) (σ : ST) (a : Nat) (v1 : Int32) : Int32 × ST :=
  q_let (q_si σ a 1 (0 : Int32) : ST) (fun σ_1 => q_let (F_X12_whyNot X σ_1 a v1 : Int32) (fun r_2 => q_let (q_si σ_1 a 0 r_2 : ST) (fun σ_4 => q_let (σ_4.1 a 0 : Int32) (fun f_5 => if 0 < f_5.toInt then (((-1) : Int32), σ_4) else q_let (F_X12_isImpossible X σ_4 a v1 : Int32) (fun r_7 => if r_7.toInt = 0 then ((0 : Int32), σ_4) else ((1 : Int32), σ_4))))))

noncomputable def F_X12_blind (X : XW) (σ : ST) (a : Nat) (v1 : Int32) : Int32 × ST :=
  q_let (q_si σ a 1 (0 : Int32) : ST) (fun σ_1 => q_let (F_X12_whyNot X σ_1 a v1 : Int32) (fun r_2 => q_let (q_si σ_1 a 0 r_2 : ST) (fun σ_4 => q_let (σ_4.1 a 0 : Int32) (fun f_5 => if 0 < f_5.toInt then ((0 : Int32), σ_4) else q_let (F_X12_blinds X σ_4 a v1 : ST) (fun σ_8 => q_let (σ_8.2.1 a 30 : Int64) (fun g_9 => q_let (σ_8.2.1 a 31 : Int64) (fun g_10 => q_bi (F_X12_fraction X σ_8 a g_9 g_10) (fun r_11 σ_12 => (r_11, σ_12)))))))))

noncomputable def F_X12_honest (X : XW) (σ : ST) (a : Nat) (v1 : Int32) : Int32 × ST :=
  q_let (q_si σ a 1 (0 : Int32) : ST) (fun σ_1 => q_let (q_si σ_1 a 0 (0 : Int32) : ST) (fun σ_2 => q_let (F_X12_isPlayerAt X σ_2 a v1 : Int32) (fun r_3 => if r_3.toInt = 0 then q_bi (F_X12_no X σ_2 a (2 : Int32)) (fun r_20 σ_21 => (r_20, σ_21)) else q_let ((22 : Int32) + v1 : Int32) (fun z_6 => q_let (σ_2.1 (q_rf X a 20) z_6.toNatClampNeg : Int32) (fun f_7 => q_let ((28 : Int32) + v1 : Int32) (fun z_8 => q_let (σ_2.1 (q_rf X a 20) z_8.toNatClampNeg : Int32) (fun f_9 => q_let (f_7 - f_9 : Int32) (fun z_10 => q_let (z_10 + (1 : Int32) : Int32) (fun z_11 => q_let (z_11.toInt64 : Int64) (fun y_12 => q_let ((22 : Int32) + v1 : Int32) (fun z_13 => q_let (σ_2.1 (q_rf X a 20) z_13.toNatClampNeg : Int32) (fun f_14 => q_let (f_14 + (2 : Int32) : Int32) (fun z_15 => q_let (z_15.toInt64 : Int64) (fun y_16 => q_bi (F_X12_fraction X σ_2 a y_12 y_16) (fun r_17 σ_18 => (r_17, σ_18))))))))))))))))

noncomputable def F_X12_belief (X : XW) (σ : ST) (a : Nat) (v1 : Int32) : Int32 × ST :=
  q_let (q_si σ a 1 (0 : Int32) : ST) (fun σ_1 => q_let (F_X12_whyNot X σ_1 a v1 : Int32) (fun r_2 => q_let (q_si σ_1 a 0 r_2 : ST) (fun σ_4 => q_let (σ_4.1 a 0 : Int32) (fun f_5 => if 0 < f_5.toInt then ((0 : Int32), σ_4) else q_let (F_X12_blinds X σ_4 a v1 : ST) (fun σ_8 => q_let (σ_8.1 (q_rf X a 20) (6 : Int32).toNatClampNeg : Int32) (fun f_9 => q_let (σ_8.2.1 a 30 : Int64) (fun g_10 => q_let ((22 : Int32) + f_9 : Int32) (fun z_11 => q_let (σ_8.1 (q_rf X a 20) z_11.toNatClampNeg : Int32) (fun f_12 => q_let ((28 : Int32) + f_9 : Int32) (fun z_13 => q_let (σ_8.1 (q_rf X a 20) z_13.toNatClampNeg : Int32) (fun f_14 => q_let (f_12 - f_14 : Int32) (fun z_15 => q_let (z_15 + (1 : Int32) : Int32) (fun z_16 => q_let (z_16.toInt64 : Int64) (fun y_17 => q_let (g_10 * y_17 : Int64) (fun y_18 => q_let (σ_8.2.1 a 31 : Int64) (fun g_19 => q_let (σ_8.2.1 a 30 : Int64) (fun g_20 => q_let (g_19 - g_20 : Int64) (fun y_21 => q_let ((28 : Int32) + f_9 : Int32) (fun z_22 => q_let (σ_8.1 (q_rf X a 20) z_22.toNatClampNeg : Int32) (fun f_23 => q_let (f_23 + (1 : Int32) : Int32) (fun z_24 => q_let (z_24.toInt64 : Int64) (fun y_25 => q_let (y_21 * y_25 : Int64) (fun y_26 => q_let (y_18 + y_26 : Int64) (fun y_27 => q_bi (F_X12_fraction X σ_8 a y_18 y_27) (fun r_28 σ_29 => (r_28, σ_29))))))))))))))))))))))))))

noncomputable def F_X12_worth (X : XW) (σ : ST) (a : Nat) (v1 : Int32) : Int32 × ST :=
  q_let (q_si σ a 1 (0 : Int32) : ST) (fun σ_1 => q_let (F_X12_whyNot X σ_1 a v1 : Int32) (fun r_2 => q_let (q_si σ_1 a 0 r_2 : ST) (fun σ_4 => q_let (σ_4.1 a 0 : Int32) (fun f_5 => if 0 < f_5.toInt then ((0 : Int32), σ_4) else q_let (F_X12_blinds X σ_4 a v1 : ST) (fun σ_8 => q_let (F_X12_heapMany X σ_8 a : Int32) (fun r_9 => q_let (r_9.toInt64 : Int64) (fun y_11 => q_let (σ_8.2.1 a 31 : Int64) (fun g_12 => q_let (σ_8.2.1 a 30 : Int64) (fun g_13 => q_let ((2 : Int64) * g_13 : Int64) (fun y_14 => q_let (g_12 - y_14 : Int64) (fun y_15 => q_let (y_11 * y_15 : Int64) (fun y_16 => q_let (σ_8.2.1 a 31 : Int64) (fun g_17 => q_bi (F_X12_fraction X σ_8 a y_16 g_17) (fun r_18 σ_19 => (r_18, σ_19)))))))))))))))

noncomputable def F_X12_ready_B57_1 (X : XW) (a : Nat) (B57_1 : Int32 → Int64 → Int64 → Int32 → ST → Int32 × ST) (x_13 : Int32) (w_14 : Int64) (w_15 : Int64) (x_16 : Int32) (σ_17 : ST) : Int32 × ST :=
  q_let (σ_17.1 (q_rf X a 20) (6 : Int32).toNatClampNeg : Int32) (fun f_19 => if x_16.toInt = f_19.toInt then (x_13, σ_17) else q_let (F_X12_blinds X σ_17 a x_16 : ST) (fun σ_22 => q_let (σ_22.2.1 a 31 : Int64) (fun g_23 => q_let (σ_22.2.1 a 30 : Int64) (fun g_24 => q_let ((2 : Int64) * g_24 : Int64) (fun y_25 => q_let (g_23 - y_25 : Int64) (fun y_26 => if x_13.toInt < 0 then q_let (σ_22.2.1 a 31 : Int64) (fun g_28 => q_let (F_X12_behindOf X σ_22 a x_16 : Int32) (fun r_29 => B57_1 x_16 y_26 g_28 r_29 σ_22)) else q_let (y_26 * w_15 : Int64) (fun y_31 => q_let (σ_22.2.1 a 31 : Int64) (fun g_32 => q_let (w_14 * g_32 : Int64) (fun y_33 => q_let (lg_cmp y_31 y_33 : Int32) (fun z_34 => if 0 < z_34.toInt then q_let (σ_22.2.1 a 31 : Int64) (fun g_36 => q_let (F_X12_behindOf X σ_22 a x_16 : Int32) (fun r_37 => B57_1 x_16 y_26 g_36 r_37 σ_22)) else q_let (F_X12_behindOf X σ_22 a x_16 : Int32) (fun r_39 => B57_1 x_13 w_14 w_15 r_39 σ_22)))))))))))

noncomputable def F_X12_ready_L57_1 (X : XW) (a : Nat) : Nat → Int32 → Int64 → Int64 → Int32 → ST → Int32 × ST
  | 0 => fun x_13 w_14 w_15 x_16 σ_17 => ((0 : Int32), σ_17)
  | k_ + 1 => F_X12_ready_B57_1 X a (F_X12_ready_L57_1 X a k_)

theorem F_X12_ready_L57_1_s {X : XW} {a : Nat} {k_ : Nat} {x_13 : Int32} {w_14 : Int64} {w_15 : Int64} {x_16 : Int32} {σ_17 : ST} : F_X12_ready_L57_1 X a (k_ + 1) x_13 w_14 w_15 x_16 σ_17 = F_X12_ready_B57_1 X a (F_X12_ready_L57_1 X a k_) x_13 w_14 w_15 x_16 σ_17 := rfl

noncomputable def F_X12_ready (X : XW) (σ : ST) (a : Nat) : Int32 × ST :=
  q_let (q_si σ a 1 (0 : Int32) : ST) (fun σ_1 => q_let (q_si σ_1 a 0 (0 : Int32) : ST) (fun σ_2 => q_let (σ_2.1 (q_rf X a 20) (7 : Int32).toNatClampNeg : Int32) (fun f_3 => if f_3.toInt = 0 then q_bi (F_X12_refuse X σ_2 a (8 : Int32)) (fun r_6 σ_7 => (r_6, σ_7)) else q_let (σ_2.1 (q_rf X a 20) (2 : Int32).toNatClampNeg : Int32) (fun f_8 => if f_8.toInt < 2 then q_bi (F_X12_refuse X σ_2 a (8 : Int32)) (fun r_43 σ_44 => (r_43, σ_44)) else q_let (σ_2.1 (q_rf X a 20) (6 : Int32).toNatClampNeg : Int32) (fun f_10 => q_let (F_X12_behindOf X σ_2 a f_10 : Int32) (fun r_11 => F_X12_ready_L57_1 X a ((m_c X σ a 6 - r_11.toInt + 20 * min 1 (max 0 (r_11.toInt - m_c X σ a 6))).toNat + 1) ((-1) : Int32) (0 : Int64) (1 : Int64) r_11 σ_2))))))

noncomputable def F_X12_heap (X : XW) (σ : ST) (a : Nat) (v1 : Int32) (v2 : Int32) : Int32 × ST :=
  q_let (q_si σ a 1 (0 : Int32) : ST) (fun σ_1 => q_let (q_si σ_1 a 0 (0 : Int32) : ST) (fun σ_2 => q_let (F_X12_isPlayerAt X σ_2 a v1 : Int32) (fun r_3 => if r_3.toInt = 0 then q_bi (F_X12_no X σ_2 a (2 : Int32)) (fun r_7 σ_8 => (r_7, σ_8)) else q_let (F_X12_isKindAt X σ_2 a v2 : Int32) (fun r_9 => if r_9.toInt = 0 then q_bi (F_X12_no X σ_2 a (2 : Int32)) (fun r_40 σ_41 => (r_40, σ_41)) else q_let (F_X12_laidOf X σ_2 a v1 v2 : Int32) (fun r_12 => q_let (r_12.toInt64 : Int64) (fun y_14 => q_let (F_X12_heapMany X σ_2 a : Int32) (fun r_15 => q_let (F_X12_laidOf X σ_2 a v1 ((-1) : Int32) : Int32) (fun r_18 => q_let (r_15 - r_18 : Int32) (fun z_20 => q_let (z_20.toInt64 : Int64) (fun y_21 => q_let (F_X12_unknownAll X σ_2 a v1 : Int32) (fun r_22 => q_let (r_22.toInt64 : Int64) (fun y_24 => q_let (lg_cmp y_24 (0 : Int64) : Int32) (fun z_25 => if z_25.toInt = 0 then q_bi (F_X12_fraction X σ_2 a y_14 (1 : Int64)) (fun r_37 σ_38 => (r_37, σ_38)) else q_let (y_14 * y_24 : Int64) (fun y_28 => q_let (F_X12_unknownOf X σ_2 a v1 v2 : Int32) (fun r_29 => q_let (r_29.toInt64 : Int64) (fun y_31 => q_let (y_21 * y_31 : Int64) (fun y_32 => q_let (y_28 + y_32 : Int64) (fun y_33 => q_bi (F_X12_fraction X σ_2 a y_33 y_24) (fun r_34 σ_35 => (r_34, σ_35))))))))))))))))))))

noncomputable def F_X12_said_B37_1 (X : XW) (σ_2 : ST) (a : Nat) (v1 : Int32) (v2 : Int32) (B37_1 : Int32 → Int32 → Int32 × ST) (x_12 : Int32) (x_13 : Int32) : Int32 × ST :=
  q_let (σ_2.1 (q_rf X a 20) (9 : Int32).toNatClampNeg : Int32) (fun f_15 => if x_13.toInt < f_15.toInt then q_let (F_X12_laid X σ_2 x_13 : Int32) (fun r_17 => q_let (σ_2.1 (q_rf X a 20) r_17.toNatClampNeg : Int32) (fun f_19 => if f_19.toInt = v1.toInt then q_let (F_X12_laid X σ_2 x_13 : Int32) (fun r_23 => q_let (r_23 + (1 : Int32) : Int32) (fun z_25 => q_let (σ_2.1 (q_rf X a 20) z_25.toNatClampNeg : Int32) (fun f_26 => if f_26.toInt = v2.toInt then q_let (x_12 + (1 : Int32) : Int32) (fun z_30 => q_let (x_13 + 1 : Int32) (fun z_31 => B37_1 z_30 z_31)) else q_let (x_12 + (0 : Int32) : Int32) (fun z_28 => q_let (x_13 + 1 : Int32) (fun z_29 => B37_1 z_28 z_29))))) else q_let (x_12 + (0 : Int32) : Int32) (fun z_21 => q_let (x_13 + 1 : Int32) (fun z_22 => B37_1 z_21 z_22)))) else (x_12, σ_2))

noncomputable def F_X12_said_L37_1 (X : XW) (σ_2 : ST) (a : Nat) (v1 : Int32) (v2 : Int32) : Nat → Int32 → Int32 → Int32 × ST
  | 0 => fun x_12 x_13 => ((0 : Int32), σ_2)
  | k_ + 1 => F_X12_said_B37_1 X σ_2 a v1 v2 (F_X12_said_L37_1 X σ_2 a v1 v2 k_)

theorem F_X12_said_L37_1_s {X : XW} {σ_2 : ST} {a : Nat} {v1 : Int32} {v2 : Int32} {k_ : Nat} {x_12 : Int32} {x_13 : Int32} : F_X12_said_L37_1 X σ_2 a v1 v2 (k_ + 1) x_12 x_13 = F_X12_said_B37_1 X σ_2 a v1 v2 (F_X12_said_L37_1 X σ_2 a v1 v2 k_) x_12 x_13 := rfl

noncomputable def F_X12_said (X : XW) (σ : ST) (a : Nat) (v1 : Int32) (v2 : Int32) : Int32 × ST :=
  q_let (q_si σ a 1 (0 : Int32) : ST) (fun σ_1 => q_let (q_si σ_1 a 0 (0 : Int32) : ST) (fun σ_2 => q_let (F_X12_isPlayerAt X σ_2 a v1 : Int32) (fun r_3 => if r_3.toInt = 0 then q_bi (F_X12_refuse X σ_2 a (2 : Int32)) (fun r_7 σ_8 => (r_7, σ_8)) else q_let (F_X12_isKindAt X σ_2 a v2 : Int32) (fun r_9 => if r_9.toInt = 0 then q_bi (F_X12_refuse X σ_2 a (2 : Int32)) (fun r_34 σ_35 => (r_34, σ_35)) else F_X12_said_L37_1 X σ_2 a v1 v2 ((2147483647 - (0 : Int32).toInt).toNat + 1) (0 : Int32) (0 : Int32)))))

noncomputable def F_X12_waits (X : XW) (σ : ST) (a : Nat) (v1 : Int32) : Int32 × ST :=
  q_let (q_si σ a 1 (0 : Int32) : ST) (fun σ_1 => q_let (q_si σ_1 a 0 (0 : Int32) : ST) (fun σ_2 => q_let (F_X12_isPlayerAt X σ_2 a v1 : Int32) (fun r_3 => if r_3.toInt = 0 then q_bi (F_X12_refuse X σ_2 a (2 : Int32)) (fun r_7 σ_8 => (r_7, σ_8)) else q_let (F_X12_waitsOf X σ_2 a v1 : Int32) (fun r_9 => (r_9, σ_2)))))

noncomputable def F_X12_falls (X : XW) (σ : ST) (a : Nat) (v1 : Int32) (v2 : Int32) : Int32 × ST :=
  q_let (q_si σ a 1 (0 : Int32) : ST) (fun σ_1 => q_let (q_si σ_1 a 0 (0 : Int32) : ST) (fun σ_2 => q_let (F_X12_isPlayerAt X σ_2 a v1 : Int32) (fun r_3 => if r_3.toInt = 0 then q_bi (F_X12_refuse X σ_2 a (2 : Int32)) (fun r_18 σ_19 => (r_18, σ_19)) else q_let (v2.toInt64 : Int64) (fun y_6 => q_let (F_X12_isIn X σ_2 y_6 (0 : Int64) (60 : Int64) : Int32) (fun r_9 => if r_9.toInt = 0 then q_bi (F_X12_refuse X σ_2 a (5 : Int32)) (fun r_13 σ_14 => (r_13, σ_14)) else q_let (F_X12_fallsTo X σ_2 a v1 v2 : Int32) (fun r_15 => (r_15, σ_2)))))))

noncomputable def F_X12_honestFor_J105_5 (X : XW) (a : Nat) (r_15 : Int32) (r_19 : Int32) (x_10 : Int32) (x_11 : Int32) (B50_3 : Int32 → Int32 → ST → Int32 × ST) (σ_21 : ST) : Int32 × ST :=
  q_let (σ_21.1 (q_rf X a 32) r_15.toNatClampNeg : Int32) (fun f_22 => q_let (f_22 - r_19 : Int32) (fun z_23 => q_let (q_si σ_21 (q_rf X a 32) r_15.toNatClampNeg z_23 : ST) (fun σ_24 => q_let (σ_24.1 a 33 : Int32) (fun f_25 => q_let (f_25 + r_19 : Int32) (fun z_26 => q_let (q_si σ_24 a 33 z_26 : ST) (fun σ_27 => q_let (x_10 - r_19 : Int32) (fun z_28 => if 0 < r_19.toInt then q_let (q_si σ_27 a 34 r_15 : ST) (fun σ_33 => q_let (x_11 + 1 : Int32) (fun z_34 => B50_3 z_28 z_34 σ_33)) else q_let (σ_27.1 a 34 : Int32) (fun f_30 => q_let (q_si σ_27 a 34 f_30 : ST) (fun σ_31 => q_let (x_11 + 1 : Int32) (fun z_32 => B50_3 z_28 z_32 σ_31))))))))))

noncomputable def F_X12_honestFor_B50_3 (X : XW) (v2 : Int32) (a : Nat) (v1 : Int32) (B50_3 : Int32 → Int32 → ST → Int32 × ST) (x_10 : Int32) (x_11 : Int32) (σ_12 : ST) : Int32 × ST :=
  if x_11.toInt < v2.toInt then q_let (F_X12_fallsTo X σ_12 a v1 x_11 : Int32) (fun r_15 => q_let (σ_12.1 (q_rf X a 20) (4 : Int32).toNatClampNeg : Int32) (fun f_17 => q_let (σ_12.1 (q_rf X a 32) r_15.toNatClampNeg : Int32) (fun f_18 => q_let (F_J9_min_7cf53 X σ_12 f_17 f_18 : Int32) (fun r_19 => if r_19.toInt = 0 then if 0 < x_10.toInt then q_let (σ_12.1 a 35 : Int32) (fun f_37 => if f_37.toInt < 0 then q_let (q_si σ_12 a 35 x_11 : ST) (fun σ_39 => F_X12_honestFor_J105_5 X a r_15 r_19 x_10 x_11 B50_3 σ_39) else F_X12_honestFor_J105_5 X a r_15 r_19 x_10 x_11 B50_3 σ_12) else F_X12_honestFor_J105_5 X a r_15 r_19 x_10 x_11 B50_3 σ_12 else F_X12_honestFor_J105_5 X a r_15 r_19 x_10 x_11 B50_3 σ_12)))) else (x_10, σ_12)

noncomputable def F_X12_honestFor_L50_3 (X : XW) (v2 : Int32) (a : Nat) (v1 : Int32) : Nat → Int32 → Int32 → ST → Int32 × ST
  | 0 => fun x_10 x_11 σ_12 => ((0 : Int32), σ_12)
  | k_ + 1 => F_X12_honestFor_B50_3 X v2 a v1 (F_X12_honestFor_L50_3 X v2 a v1 k_)

theorem F_X12_honestFor_L50_3_s {X : XW} {v2 : Int32} {a : Nat} {v1 : Int32} {k_ : Nat} {x_10 : Int32} {x_11 : Int32} {σ_12 : ST} : F_X12_honestFor_L50_3 X v2 a v1 (k_ + 1) x_10 x_11 σ_12 = F_X12_honestFor_B50_3 X v2 a v1 (F_X12_honestFor_L50_3 X v2 a v1 k_) x_10 x_11 σ_12 := rfl

noncomputable def F_X12_honestFor_E26_5 (X : XW) (σ_2 : ST) (a : Nat) (v1 : Int32) (v2 : Int32) : Int32 × ST :=
  q_let (F_X12_cardsOf X σ_2 a v1 : Int32) (fun r_5 => q_let (q_si σ_2 a 33 (0 : Int32) : ST) (fun σ_7 => q_let (q_si σ_7 a 34 ((-1) : Int32) : ST) (fun σ_8 => q_let (q_si σ_8 a 35 ((-1) : Int32) : ST) (fun σ_9 => F_X12_honestFor_L50_3 X v2 a v1 ((2147483647 - (0 : Int32).toInt).toNat + 1) r_5 (0 : Int32) σ_9))))

noncomputable def F_X12_honestFor_B2_1 (X : XW) (a : Nat) (v1 : Int32) (v2 : Int32) (B2_1 : Int32 → ST → Int32 × ST) (x_1 : Int32) (σ_2 : ST) : Int32 × ST :=
  if x_1.toInt < 10 then q_let (F_X12_handOf X σ_2 a v1 x_1 : Int32) (fun r_41 => q_let (q_si σ_2 (q_rf X a 32) x_1.toNatClampNeg r_41 : ST) (fun σ_43 => q_let (x_1 + 1 : Int32) (fun z_44 => B2_1 z_44 σ_43))) else F_X12_honestFor_E26_5 X σ_2 a v1 v2

noncomputable def F_X12_honestFor_L2_1 (X : XW) (a : Nat) (v1 : Int32) (v2 : Int32) : Nat → Int32 → ST → Int32 × ST
  | 0 => fun x_1 σ_2 => ((0 : Int32), σ_2)
  | k_ + 1 => F_X12_honestFor_B2_1 X a v1 v2 (F_X12_honestFor_L2_1 X a v1 v2 k_)

theorem F_X12_honestFor_L2_1_s {X : XW} {a : Nat} {v1 : Int32} {v2 : Int32} {k_ : Nat} {x_1 : Int32} {σ_2 : ST} : F_X12_honestFor_L2_1 X a v1 v2 (k_ + 1) x_1 σ_2 = F_X12_honestFor_B2_1 X a v1 v2 (F_X12_honestFor_L2_1 X a v1 v2 k_) x_1 σ_2 := rfl

noncomputable def F_X12_honestFor (X : XW) (σ : ST) (a : Nat) (v1 : Int32) (v2 : Int32) : Int32 × ST :=
  F_X12_honestFor_L2_1 X a v1 v2 ((2147483647 - (0 : Int32).toInt).toNat + 1) (0 : Int32) σ

noncomputable def F_X12_honestly (X : XW) (σ : ST) (a : Nat) (v1 : Int32) (v2 : Int32) : Int32 × ST :=
  q_let (q_si σ a 1 (0 : Int32) : ST) (fun σ_1 => q_let (q_si σ_1 a 0 (0 : Int32) : ST) (fun σ_2 => q_let (F_X12_isPlayerAt X σ_2 a v1 : Int32) (fun r_3 => if r_3.toInt = 0 then q_bi (F_X12_refuse X σ_2 a (2 : Int32)) (fun r_19 σ_20 => (r_19, σ_20)) else q_let (v2.toInt64 : Int64) (fun y_6 => q_let (F_X12_isIn X σ_2 y_6 (0 : Int64) (60 : Int64) : Int32) (fun r_9 => if r_9.toInt = 0 then q_bi (F_X12_refuse X σ_2 a (5 : Int32)) (fun r_16 σ_17 => (r_16, σ_17)) else q_bi (F_X12_honestFor X σ_2 a v1 v2) (fun r_12 σ_13 => q_let (σ_13.1 a 33 : Int32) (fun f_14 => (f_14, σ_13))))))))

noncomputable def F_X12_ridOf_B2_1 (X : XW) (a : Nat) (v1 : Int32) (B2_1 : Int32 → ST → Int32 × ST) (x_1 : Int32) (σ_2 : ST) : Int32 × ST :=
  if 60 < x_1.toInt then (((-1) : Int32), σ_2) else q_bi (F_X12_honestFor X σ_2 a v1 x_1) (fun r_5 σ_6 => if r_5.toInt = 0 then (x_1, σ_6) else q_let (x_1 + 1 : Int32) (fun z_8 => B2_1 z_8 σ_6))

noncomputable def F_X12_ridOf_L2_1 (X : XW) (a : Nat) (v1 : Int32) : Nat → Int32 → ST → Int32 × ST
  | 0 => fun x_1 σ_2 => ((0 : Int32), σ_2)
  | k_ + 1 => F_X12_ridOf_B2_1 X a v1 (F_X12_ridOf_L2_1 X a v1 k_)

theorem F_X12_ridOf_L2_1_s {X : XW} {a : Nat} {v1 : Int32} {k_ : Nat} {x_1 : Int32} {σ_2 : ST} : F_X12_ridOf_L2_1 X a v1 (k_ + 1) x_1 σ_2 = F_X12_ridOf_B2_1 X a v1 (F_X12_ridOf_L2_1 X a v1 k_) x_1 σ_2 := rfl

noncomputable def F_X12_ridOf (X : XW) (σ : ST) (a : Nat) (v1 : Int32) : Int32 × ST :=
  F_X12_ridOf_L2_1 X a v1 ((2147483647 - (0 : Int32).toInt).toNat + 1) (0 : Int32) σ

noncomputable def F_X12_rid (X : XW) (σ : ST) (a : Nat) (v1 : Int32) : Int32 × ST :=
  q_let (q_si σ a 1 (0 : Int32) : ST) (fun σ_1 => q_let (q_si σ_1 a 0 (0 : Int32) : ST) (fun σ_2 => q_let (F_X12_isPlayerAt X σ_2 a v1 : Int32) (fun r_3 => if r_3.toInt = 0 then q_bi (F_X12_refuse X σ_2 a (2 : Int32)) (fun r_13 σ_14 => (r_13, σ_14)) else q_bi (F_X12_ridOf X σ_2 a v1) (fun r_6 σ_7 => if r_6.toInt < 0 then q_bi (F_X12_refuse X σ_7 a (8 : Int32)) (fun r_10 σ_11 => (r_10, σ_11)) else (r_6, σ_7)))))

noncomputable def F_X12_lastKind (X : XW) (σ : ST) (a : Nat) (v1 : Int32) : Int32 × ST :=
  q_let (q_si σ a 1 (0 : Int32) : ST) (fun σ_1 => q_let (q_si σ_1 a 0 (0 : Int32) : ST) (fun σ_2 => q_let (F_X12_isPlayerAt X σ_2 a v1 : Int32) (fun r_3 => if r_3.toInt = 0 then q_bi (F_X12_refuse X σ_2 a (2 : Int32)) (fun r_20 σ_21 => (r_20, σ_21)) else q_let (F_X12_cardsOf X σ_2 a v1 : Int32) (fun r_6 => if r_6.toInt = 0 then q_bi (F_X12_refuse X σ_2 a (8 : Int32)) (fun r_10 σ_11 => (r_10, σ_11)) else q_bi (F_X12_ridOf X σ_2 a v1) (fun r_12 σ_13 => if r_12.toInt < 0 then q_bi (F_X12_refuse X σ_13 a (8 : Int32)) (fun r_17 σ_18 => (r_17, σ_18)) else q_let (σ_13.1 a 34 : Int32) (fun f_15 => (f_15, σ_13)))))))

noncomputable def F_X12_mustLie (X : XW) (σ : ST) (a : Nat) (v1 : Int32) : Int32 × ST :=
  q_let (q_si σ a 1 (0 : Int32) : ST) (fun σ_1 => q_let (q_si σ_1 a 0 (0 : Int32) : ST) (fun σ_2 => q_let (F_X12_isPlayerAt X σ_2 a v1 : Int32) (fun r_3 => if r_3.toInt = 0 then q_bi (F_X12_refuse X σ_2 a (2 : Int32)) (fun r_16 σ_17 => (r_16, σ_17)) else q_bi (F_X12_honestFor X σ_2 a v1 (60 : Int32)) (fun r_7 σ_8 => q_let (σ_8.1 a 35 : Int32) (fun f_9 => if f_9.toInt < 0 then q_bi (F_X12_refuse X σ_8 a (8 : Int32)) (fun r_13 σ_14 => (r_13, σ_14)) else q_let (σ_8.1 a 35 : Int32) (fun f_11 => (f_11, σ_8)))))))

noncomputable def F_X12_soonest_E59_2 (X : XW) (x_3 : Int32) (σ_6 : ST) (a : Nat) : Int32 × ST :=
  if x_3.toInt < 0 then q_bi (F_X12_refuse X σ_6 a (8 : Int32)) (fun r_12 σ_13 => (r_12, σ_13)) else (x_3, σ_6)

noncomputable def F_X12_soonest_B17_1 (X : XW) (a : Nat) (B17_1 : Int32 → Int32 → Int32 → ST → Int32 × ST) (x_3 : Int32) (x_4 : Int32) (x_5 : Int32) (σ_6 : ST) : Int32 × ST :=
  q_let (σ_6.1 (q_rf X a 20) (2 : Int32).toNatClampNeg : Int32) (fun f_8 => if x_5.toInt < f_8.toInt then q_bi (F_X12_ridOf X σ_6 a x_5) (fun r_14 σ_15 => if r_14.toInt < 0 then q_let (x_5 + 1 : Int32) (fun z_17 => B17_1 x_3 x_4 z_17 σ_15) else if r_14.toInt < x_4.toInt then q_let (x_5 + 1 : Int32) (fun z_19 => B17_1 x_5 r_14 z_19 σ_15) else q_let (x_5 + 1 : Int32) (fun z_20 => B17_1 x_3 x_4 z_20 σ_15)) else F_X12_soonest_E59_2 X x_3 σ_6 a)

noncomputable def F_X12_soonest_L17_1 (X : XW) (a : Nat) : Nat → Int32 → Int32 → Int32 → ST → Int32 × ST
  | 0 => fun x_3 x_4 x_5 σ_6 => ((0 : Int32), σ_6)
  | k_ + 1 => F_X12_soonest_B17_1 X a (F_X12_soonest_L17_1 X a k_)

theorem F_X12_soonest_L17_1_s {X : XW} {a : Nat} {k_ : Nat} {x_3 : Int32} {x_4 : Int32} {x_5 : Int32} {σ_6 : ST} : F_X12_soonest_L17_1 X a (k_ + 1) x_3 x_4 x_5 σ_6 = F_X12_soonest_B17_1 X a (F_X12_soonest_L17_1 X a k_) x_3 x_4 x_5 σ_6 := rfl

noncomputable def F_X12_soonest (X : XW) (σ : ST) (a : Nat) : Int32 × ST :=
  q_let (q_si σ a 1 (0 : Int32) : ST) (fun σ_1 => q_let (q_si σ_1 a 0 (0 : Int32) : ST) (fun σ_2 => F_X12_soonest_L17_1 X a ((2147483647 - (0 : Int32).toInt).toNat + 1) ((-1) : Int32) (99 : Int32) (0 : Int32) σ_2))

noncomputable def F_X12_best_E263_2 (X : XW) (x_41 : Int32) (σ_2 : ST) (a : Nat) (v2 : Int32) (x_39 : Int32) (x_40 : Int32) : Int32 × ST :=
  q_let (x_41.toInt64 : Int64) (fun y_49 => q_bi (F_X12_fraction X σ_2 a y_49 (16 : Int64)) (fun r_51 σ_52 => if v2.toInt = 0 then (x_39, σ_52) else (x_40, σ_52)))

noncomputable def F_X12_best_E257_4 (X : XW) (x_42 : Int32) (B134_1 : Int32 → Int32 → Int32 → Int32 → Int32 × ST) (x_58 : Int32) (x_59 : Int32) (x_60 : Int32) : Int32 × ST :=
  q_let (x_42 + 1 : Int32) (fun z_64 => B134_1 x_58 x_59 x_60 z_64)

noncomputable def F_X12_best_B169_3 (X : XW) (x_42 : Int32) (B134_1 : Int32 → Int32 → Int32 → Int32 → Int32 × ST) (r_21 : Int32) (r_37 : Int32) (v1 : Int32) (σ_2 : ST) (B169_3 : Int32 → Int32 → Int32 → Int32 → Int32 × ST) (x_58 : Int32) (x_59 : Int32) (x_60 : Int32) (x_61 : Int32) : Int32 × ST :=
  if x_61.toInt < 0 then F_X12_best_E257_4 X x_42 B134_1 x_58 x_59 x_60 else q_let (x_61 + x_42 : Int32) (fun z_65 => if z_65.toInt = 0 then q_let (x_61 + (-1) : Int32) (fun z_87 => B169_3 x_58 x_59 x_60 z_87) else if x_42.toInt = 0 then q_let (r_21 - x_61 : Int32) (fun z_80 => q_let ((16 : Int32) * z_80 : Int32) (fun z_81 => if x_58.toInt < 0 then q_let (x_61 + (-1) : Int32) (fun z_83 => B169_3 x_61 x_42 z_81 z_83) else if z_81.toInt < x_60.toInt then q_let (x_61 + (-1) : Int32) (fun z_85 => B169_3 x_61 x_42 z_81 z_85) else q_let (x_61 + (-1) : Int32) (fun z_86 => B169_3 x_58 x_59 x_60 z_86))) else q_let (r_21 + r_37 : Int32) (fun z_68 => q_let (v1 * z_68 : Int32) (fun z_69 => q_let ((16 : Int32) - v1 : Int32) (fun z_70 => q_let (r_21 - x_61 : Int32) (fun z_71 => q_let (z_71 - x_42 : Int32) (fun z_72 => q_let (z_70 * z_72 : Int32) (fun z_73 => q_let (z_69 + z_73 : Int32) (fun z_74 => if x_58.toInt < 0 then q_let (x_61 + (-1) : Int32) (fun z_76 => B169_3 x_61 x_42 z_74 z_76) else if z_74.toInt < x_60.toInt then q_let (x_61 + (-1) : Int32) (fun z_78 => B169_3 x_61 x_42 z_74 z_78) else q_let (x_61 + (-1) : Int32) (fun z_79 => B169_3 x_58 x_59 x_60 z_79)))))))))

noncomputable def F_X12_best_L169_3 (X : XW) (x_42 : Int32) (B134_1 : Int32 → Int32 → Int32 → Int32 → Int32 × ST) (r_21 : Int32) (r_37 : Int32) (v1 : Int32) (σ_2 : ST) : Nat → Int32 → Int32 → Int32 → Int32 → Int32 × ST
  | 0 => fun x_58 x_59 x_60 x_61 => ((0 : Int32), σ_2)
  | k_ + 1 => F_X12_best_B169_3 X x_42 B134_1 r_21 r_37 v1 σ_2 (F_X12_best_L169_3 X x_42 B134_1 r_21 r_37 v1 σ_2 k_)

theorem F_X12_best_L169_3_s {X : XW} {x_42 : Int32} {B134_1 : Int32 → Int32 → Int32 → Int32 → Int32 × ST} {r_21 : Int32} {r_37 : Int32} {v1 : Int32} {σ_2 : ST} {k_ : Nat} {x_58 : Int32} {x_59 : Int32} {x_60 : Int32} {x_61 : Int32} : F_X12_best_L169_3 X x_42 B134_1 r_21 r_37 v1 σ_2 (k_ + 1) x_58 x_59 x_60 x_61 = F_X12_best_B169_3 X x_42 B134_1 r_21 r_37 v1 σ_2 (F_X12_best_L169_3 X x_42 B134_1 r_21 r_37 v1 σ_2 k_) x_58 x_59 x_60 x_61 := rfl

noncomputable def F_X12_best_B134_1 (X : XW) (σ_2 : ST) (a : Nat) (r_21 : Int32) (r_35 : Int32) (v2 : Int32) (r_37 : Int32) (v1 : Int32) (B134_1 : Int32 → Int32 → Int32 → Int32 → Int32 × ST) (x_39 : Int32) (x_40 : Int32) (x_41 : Int32) (x_42 : Int32) : Int32 × ST :=
  q_let (σ_2.1 (q_rf X a 20) (4 : Int32).toNatClampNeg : Int32) (fun f_44 => q_let (r_21 - r_35 : Int32) (fun z_45 => q_let (F_J9_min_7cf53 X σ_2 f_44 z_45 : Int32) (fun r_46 => if r_46.toInt < x_42.toInt then F_X12_best_E263_2 X x_41 σ_2 a v2 x_39 x_40 else q_let (σ_2.1 (q_rf X a 20) (4 : Int32).toNatClampNeg : Int32) (fun f_54 => q_let (f_54 - x_42 : Int32) (fun z_55 => q_let (F_J9_min_7cf53 X σ_2 z_55 r_35 : Int32) (fun r_56 => F_X12_best_L169_3 X x_42 B134_1 r_21 r_37 v1 σ_2 ((r_56.toInt + 2147483649).toNat + 1) x_39 x_40 x_41 r_56))))))

noncomputable def F_X12_best_L134_1 (X : XW) (σ_2 : ST) (a : Nat) (r_21 : Int32) (r_35 : Int32) (v2 : Int32) (r_37 : Int32) (v1 : Int32) : Nat → Int32 → Int32 → Int32 → Int32 → Int32 × ST
  | 0 => fun x_39 x_40 x_41 x_42 => ((0 : Int32), σ_2)
  | k_ + 1 => F_X12_best_B134_1 X σ_2 a r_21 r_35 v2 r_37 v1 (F_X12_best_L134_1 X σ_2 a r_21 r_35 v2 r_37 v1 k_)

theorem F_X12_best_L134_1_s {X : XW} {σ_2 : ST} {a : Nat} {r_21 : Int32} {r_35 : Int32} {v2 : Int32} {r_37 : Int32} {v1 : Int32} {k_ : Nat} {x_39 : Int32} {x_40 : Int32} {x_41 : Int32} {x_42 : Int32} : F_X12_best_L134_1 X σ_2 a r_21 r_35 v2 r_37 v1 (k_ + 1) x_39 x_40 x_41 x_42 = F_X12_best_B134_1 X σ_2 a r_21 r_35 v2 r_37 v1 (F_X12_best_L134_1 X σ_2 a r_21 r_35 v2 r_37 v1 k_) x_39 x_40 x_41 x_42 := rfl

noncomputable def F_X12_best (X : XW) (σ : ST) (a : Nat) (v1 : Int32) (v2 : Int32) : Int32 × ST :=
  q_let (q_si σ a 1 (0 : Int32) : ST) (fun σ_1 => q_let (q_si σ_1 a 0 (0 : Int32) : ST) (fun σ_2 => q_let (v1.toInt64 : Int64) (fun y_3 => q_let (F_X12_isIn X σ_2 y_3 (0 : Int64) (16 : Int64) : Int32) (fun r_6 => if r_6.toInt = 0 then q_bi (F_X12_refuse X σ_2 a (5 : Int32)) (fun r_10 σ_11 => (r_10, σ_11)) else q_let (v2.toInt64 : Int64) (fun y_12 => q_let (F_X12_isIn X σ_2 y_12 (0 : Int64) (1 : Int64) : Int32) (fun r_15 => if r_15.toInt = 0 then q_bi (F_X12_refuse X σ_2 a (5 : Int32)) (fun r_97 σ_98 => (r_97, σ_98)) else q_let (σ_2.1 (q_rf X a 20) (6 : Int32).toNatClampNeg : Int32) (fun f_18 => if f_18.toInt < 0 then q_bi (F_X12_refuse X σ_2 a (8 : Int32)) (fun r_94 σ_95 => (r_94, σ_95)) else q_let (σ_2.1 (q_rf X a 20) (6 : Int32).toNatClampNeg : Int32) (fun f_20 => q_let (F_X12_cardsOf X σ_2 a f_20 : Int32) (fun r_21 => q_let (σ_2.1 (q_rf X a 20) (7 : Int32).toNatClampNeg : Int32) (fun f_23 => if f_23.toInt = 1 then q_bi (F_X12_refuse X σ_2 a (9 : Int32)) (fun r_26 σ_27 => (r_26, σ_27)) else q_let (σ_2.1 (q_rf X a 20) (8 : Int32).toNatClampNeg : Int32) (fun f_28 => if f_28.toInt < 0 then if r_21.toInt = 0 then q_bi (F_X12_refuse X σ_2 a (9 : Int32)) (fun r_91 σ_92 => (r_91, σ_92)) else q_let (σ_2.1 (q_rf X a 20) (5 : Int32).toNatClampNeg : Int32) (fun f_34 => q_let (F_X12_handOf X σ_2 a f_20 f_34 : Int32) (fun r_35 => q_let (F_X12_heapMany X σ_2 a : Int32) (fun r_37 => F_X12_best_L134_1 X σ_2 a r_21 r_35 v2 r_37 v1 ((2147483647 - (0 : Int32).toInt).toNat + 1) ((-1) : Int32) (0 : Int32) (0 : Int32) (0 : Int32)))) else q_bi (F_X12_refuse X σ_2 a (9 : Int32)) (fun r_31 σ_32 => (r_31, σ_32)))))))))))))

noncomputable def F_X12_sayer_E117_2 (X : XW) (σ_2 : ST) (a : Nat) : Int32 × ST :=
  q_bi (F_X12_refuse X σ_2 a (8 : Int32)) (fun r_13 σ_14 => (r_13, σ_14))

noncomputable def F_X12_sayer_J91_3 (X : XW) (σ_2 : ST) (a : Nat) (x_6 : Int32) (v1 : Int32) (B26_1 : Int32 → Int32 × ST) (x_16 : Int32) : Int32 × ST :=
  q_let (σ_2.1 (q_rf X a 20) (2 : Int32).toNatClampNeg : Int32) (fun f_17 => q_let (x_6 / f_17 : Int32) (fun z_18 => q_let (F_X12_fallsTo X σ_2 a x_16 z_18 : Int32) (fun r_19 => if r_19.toInt = v1.toInt then (x_16, σ_2) else q_let (x_6 + 1 : Int32) (fun z_22 => B26_1 z_22))))

noncomputable def F_X12_sayer_B26_1 (X : XW) (σ_2 : ST) (a : Nat) (v1 : Int32) (B26_1 : Int32 → Int32 × ST) (x_6 : Int32) : Int32 × ST :=
  q_let (σ_2.1 (q_rf X a 20) (0 : Int32).toNatClampNeg : Int32) (fun f_8 => q_let (σ_2.1 (q_rf X a 20) (2 : Int32).toNatClampNeg : Int32) (fun f_9 => q_let (f_8 * f_9 : Int32) (fun z_10 => if x_6.toInt < z_10.toInt then q_let (σ_2.1 (q_rf X a 20) (7 : Int32).toNatClampNeg : Int32) (fun f_15 => if f_15.toInt = 1 then q_let (σ_2.1 (q_rf X a 20) (6 : Int32).toNatClampNeg : Int32) (fun f_28 => q_let (f_28 + (1 : Int32) : Int32) (fun z_29 => q_let (z_29 + x_6 : Int32) (fun z_30 => q_let (σ_2.1 (q_rf X a 20) (2 : Int32).toNatClampNeg : Int32) (fun f_31 => q_let (z_30 % f_31 : Int32) (fun z_32 => F_X12_sayer_J91_3 X σ_2 a x_6 v1 B26_1 z_32))))) else q_let (σ_2.1 (q_rf X a 20) (6 : Int32).toNatClampNeg : Int32) (fun f_24 => q_let (f_24 + x_6 : Int32) (fun z_25 => q_let (σ_2.1 (q_rf X a 20) (2 : Int32).toNatClampNeg : Int32) (fun f_26 => q_let (z_25 % f_26 : Int32) (fun z_27 => F_X12_sayer_J91_3 X σ_2 a x_6 v1 B26_1 z_27))))) else F_X12_sayer_E117_2 X σ_2 a)))

noncomputable def F_X12_sayer_L26_1 (X : XW) (σ_2 : ST) (a : Nat) (v1 : Int32) : Nat → Int32 → Int32 × ST
  | 0 => fun x_6 => ((0 : Int32), σ_2)
  | k_ + 1 => F_X12_sayer_B26_1 X σ_2 a v1 (F_X12_sayer_L26_1 X σ_2 a v1 k_)

theorem F_X12_sayer_L26_1_s {X : XW} {σ_2 : ST} {a : Nat} {v1 : Int32} {k_ : Nat} {x_6 : Int32} : F_X12_sayer_L26_1 X σ_2 a v1 (k_ + 1) x_6 = F_X12_sayer_B26_1 X σ_2 a v1 (F_X12_sayer_L26_1 X σ_2 a v1 k_) x_6 := rfl

noncomputable def F_X12_sayer (X : XW) (σ : ST) (a : Nat) (v1 : Int32) : Int32 × ST :=
  q_let (q_si σ a 1 (0 : Int32) : ST) (fun σ_1 => q_let (q_si σ_1 a 0 (0 : Int32) : ST) (fun σ_2 => q_let (F_X12_isKindAt X σ_2 a v1 : Int32) (fun r_3 => if r_3.toInt = 0 then q_bi (F_X12_refuse X σ_2 a (2 : Int32)) (fun r_35 σ_36 => (r_35, σ_36)) else F_X12_sayer_L26_1 X σ_2 a v1 ((2147483647 - (0 : Int32).toInt).toNat + 1) (0 : Int32))))

noncomputable def F_X12_has_B28_1 (X : XW) (σ_2 : ST) (a : Nat) (v1 : Int32) (B28_1 : Int32 → Int32 → Int32 × ST) (x_6 : Int32) (x_7 : Int32) : Int32 × ST :=
  q_let (σ_2.1 (q_rf X a 20) (0 : Int32).toNatClampNeg : Int32) (fun f_9 => if x_7.toInt < f_9.toInt then q_let (F_X12_handOf X σ_2 a v1 x_7 : Int32) (fun r_11 => if 0 < r_11.toInt then q_let ((1 : Int32) <<< (x_7 &&& 31) : Int32) (fun z_16 => q_let (x_6 ||| z_16 : Int32) (fun z_17 => q_let (x_7 + 1 : Int32) (fun z_18 => B28_1 z_17 z_18))) else q_let (x_6 ||| (0 : Int32) : Int32) (fun z_14 => q_let (x_7 + 1 : Int32) (fun z_15 => B28_1 z_14 z_15))) else (x_6, σ_2))

noncomputable def F_X12_has_L28_1 (X : XW) (σ_2 : ST) (a : Nat) (v1 : Int32) : Nat → Int32 → Int32 → Int32 × ST
  | 0 => fun x_6 x_7 => ((0 : Int32), σ_2)
  | k_ + 1 => F_X12_has_B28_1 X σ_2 a v1 (F_X12_has_L28_1 X σ_2 a v1 k_)

theorem F_X12_has_L28_1_s {X : XW} {σ_2 : ST} {a : Nat} {v1 : Int32} {k_ : Nat} {x_6 : Int32} {x_7 : Int32} : F_X12_has_L28_1 X σ_2 a v1 (k_ + 1) x_6 x_7 = F_X12_has_B28_1 X σ_2 a v1 (F_X12_has_L28_1 X σ_2 a v1 k_) x_6 x_7 := rfl

noncomputable def F_X12_has (X : XW) (σ : ST) (a : Nat) (v1 : Int32) : Int32 × ST :=
  q_let (q_si σ a 1 (0 : Int32) : ST) (fun σ_1 => q_let (q_si σ_1 a 0 (0 : Int32) : ST) (fun σ_2 => q_let (F_X12_isPlayerAt X σ_2 a v1 : Int32) (fun r_3 => if r_3.toInt = 0 then q_bi (F_X12_refuse X σ_2 a (2 : Int32)) (fun r_21 σ_22 => (r_21, σ_22)) else F_X12_has_L28_1 X σ_2 a v1 ((2147483647 - (0 : Int32).toInt).toNat + 1) (0 : Int32) (0 : Int32))))

noncomputable def F_X12_lies (X : XW) (σ : ST) (a : Nat) (v1 : Int32) : Int32 × ST :=
  q_let (q_si σ a 1 (0 : Int32) : ST) (fun σ_1 => q_let (q_si σ_1 a 0 (0 : Int32) : ST) (fun σ_2 => q_let (F_X12_isKindAt X σ_2 a v1 : Int32) (fun r_3 => if r_3.toInt = 0 then q_bi (F_X12_refuse X σ_2 a (2 : Int32)) (fun r_7 σ_8 => (r_7, σ_8)) else q_let (F_X12_laidOf X σ_2 a ((-1) : Int32) v1 : Int32) (fun r_10 => (r_10, σ_2)))))

noncomputable def F_X12_guess (X : XW) (σ : ST) (a : Nat) (v1 : Int32) (v2 : Int32) (v3 : Int32) : Int32 × ST :=
  q_let (q_si σ a 1 (0 : Int32) : ST) (fun σ_1 => q_let (q_si σ_1 a 0 (0 : Int32) : ST) (fun σ_2 => q_let (F_X12_isPlayerAt X σ_2 a v1 : Int32) (fun r_3 => if r_3.toInt = 0 then q_bi (F_X12_no X σ_2 a (2 : Int32)) (fun r_7 σ_8 => (r_7, σ_8)) else q_let (F_X12_isKindAt X σ_2 a v2 : Int32) (fun r_9 => if r_9.toInt = 0 then q_bi (F_X12_no X σ_2 a (2 : Int32)) (fun r_38 σ_39 => (r_38, σ_39)) else q_let (v3.toInt64 : Int64) (fun y_12 => q_let (F_X12_isIn X σ_2 y_12 (0 : Int64) (4 : Int64) : Int32) (fun r_15 => if r_15.toInt = 0 then q_bi (F_X12_no X σ_2 a (5 : Int32)) (fun r_35 σ_36 => (r_35, σ_36)) else q_let (F_X12_unknownAll X σ_2 a v1 : Int32) (fun r_18 => if r_18.toInt < v3.toInt then q_bi (F_X12_no X σ_2 a (9 : Int32)) (fun r_32 σ_33 => (r_32, σ_33)) else q_let (F_X12_unknownOf X σ_2 a v1 v2 : Int32) (fun r_21 => q_let (F_X12_choose X σ_2 r_21 v3 : Int64) (fun r_23 => q_let (F_X12_unknownAll X σ_2 a v1 : Int32) (fun r_25 => q_let (F_X12_choose X σ_2 r_25 v3 : Int64) (fun r_27 => q_bi (F_X12_fraction X σ_2 a r_23 r_27) (fun r_29 σ_30 => (r_29, σ_30)))))))))))))

noncomputable def F_X12_fullest_E49_2 (X : XW) (x_3 : Int32) (σ_2 : ST) (a : Nat) : Int32 × ST :=
  if x_3.toInt < 0 then q_bi (F_X12_refuse X σ_2 a (8 : Int32)) (fun r_10 σ_11 => (r_10, σ_11)) else (x_3, σ_2)

noncomputable def F_X12_fullest_B14_1 (X : XW) (σ_2 : ST) (a : Nat) (B14_1 : Int32 → Int32 → Int32 × ST) (x_3 : Int32) (x_4 : Int32) : Int32 × ST :=
  q_let (σ_2.1 (q_rf X a 20) (2 : Int32).toNatClampNeg : Int32) (fun f_6 => if x_4.toInt < f_6.toInt then if x_3.toInt < 0 then q_let (x_4 + 1 : Int32) (fun z_13 => B14_1 x_4 z_13) else q_let (F_X12_cardsOf X σ_2 a x_4 : Int32) (fun r_14 => q_let (F_X12_cardsOf X σ_2 a x_3 : Int32) (fun r_16 => if r_16.toInt < r_14.toInt then q_let (x_4 + 1 : Int32) (fun z_20 => B14_1 x_4 z_20) else q_let (x_4 + 1 : Int32) (fun z_19 => B14_1 x_3 z_19))) else F_X12_fullest_E49_2 X x_3 σ_2 a)

noncomputable def F_X12_fullest_L14_1 (X : XW) (σ_2 : ST) (a : Nat) : Nat → Int32 → Int32 → Int32 × ST
  | 0 => fun x_3 x_4 => ((0 : Int32), σ_2)
  | k_ + 1 => F_X12_fullest_B14_1 X σ_2 a (F_X12_fullest_L14_1 X σ_2 a k_)

theorem F_X12_fullest_L14_1_s {X : XW} {σ_2 : ST} {a : Nat} {k_ : Nat} {x_3 : Int32} {x_4 : Int32} : F_X12_fullest_L14_1 X σ_2 a (k_ + 1) x_3 x_4 = F_X12_fullest_B14_1 X σ_2 a (F_X12_fullest_L14_1 X σ_2 a k_) x_3 x_4 := rfl

noncomputable def F_X12_fullest (X : XW) (σ : ST) (a : Nat) : Int32 × ST :=
  q_let (q_si σ a 1 (0 : Int32) : ST) (fun σ_1 => q_let (q_si σ_1 a 0 (0 : Int32) : ST) (fun σ_2 => F_X12_fullest_L14_1 X σ_2 a ((2147483647 - (0 : Int32).toInt).toNat + 1) ((-1) : Int32) (0 : Int32)))

noncomputable def F_X12_quartet_E67_2 (X : XW) (σ_2 : ST) (a : Nat) : Int32 × ST :=
  q_bi (F_X12_refuse X σ_2 a (8 : Int32)) (fun r_11 σ_12 => (r_11, σ_12))

noncomputable def F_X12_quartet_B26_1 (X : XW) (σ_2 : ST) (a : Nat) (v1 : Int32) (B26_1 : Int32 → Int32 × ST) (x_6 : Int32) : Int32 × ST :=
  q_let (σ_2.1 (q_rf X a 20) (0 : Int32).toNatClampNeg : Int32) (fun f_8 => if x_6.toInt < f_8.toInt then q_let (F_X12_handOf X σ_2 a v1 x_6 : Int32) (fun r_13 => if 0 < r_13.toInt then q_let (F_X12_handOf X σ_2 a v1 x_6 : Int32) (fun r_17 => q_let (F_X12_inGameOf X σ_2 a x_6 : Int32) (fun r_19 => if r_17.toInt = r_19.toInt then (x_6, σ_2) else q_let (x_6 + 1 : Int32) (fun z_22 => B26_1 z_22))) else q_let (x_6 + 1 : Int32) (fun z_16 => B26_1 z_16)) else F_X12_quartet_E67_2 X σ_2 a)

noncomputable def F_X12_quartet_L26_1 (X : XW) (σ_2 : ST) (a : Nat) (v1 : Int32) : Nat → Int32 → Int32 × ST
  | 0 => fun x_6 => ((0 : Int32), σ_2)
  | k_ + 1 => F_X12_quartet_B26_1 X σ_2 a v1 (F_X12_quartet_L26_1 X σ_2 a v1 k_)

theorem F_X12_quartet_L26_1_s {X : XW} {σ_2 : ST} {a : Nat} {v1 : Int32} {k_ : Nat} {x_6 : Int32} : F_X12_quartet_L26_1 X σ_2 a v1 (k_ + 1) x_6 = F_X12_quartet_B26_1 X σ_2 a v1 (F_X12_quartet_L26_1 X σ_2 a v1 k_) x_6 := rfl

noncomputable def F_X12_quartet (X : XW) (σ : ST) (a : Nat) (v1 : Int32) : Int32 × ST :=
  q_let (q_si σ a 1 (0 : Int32) : ST) (fun σ_1 => q_let (q_si σ_1 a 0 (0 : Int32) : ST) (fun σ_2 => q_let (F_X12_isPlayerAt X σ_2 a v1 : Int32) (fun r_3 => if r_3.toInt = 0 then q_bi (F_X12_refuse X σ_2 a (2 : Int32)) (fun r_25 σ_26 => (r_25, σ_26)) else F_X12_quartet_L26_1 X σ_2 a v1 ((2147483647 - (0 : Int32).toInt).toNat + 1) (0 : Int32))))

noncomputable def F_X12_sorts_B32_1 (X : XW) (σ_2 : ST) (a : Nat) (v1 : Int32) (B32_1 : Int32 → Int32 → Int32 × ST) (x_9 : Int32) (x_10 : Int32) : Int32 × ST :=
  q_let (σ_2.1 (q_rf X a 20) (9 : Int32).toNatClampNeg : Int32) (fun f_12 => if x_10.toInt < f_12.toInt then q_let (F_X12_sortOf X σ_2 a x_10 : Int32) (fun r_14 => if r_14.toInt = v1.toInt then q_let (x_9 + (1 : Int32) : Int32) (fun z_19 => q_let (x_10 + 1 : Int32) (fun z_20 => B32_1 z_19 z_20)) else q_let (x_9 + (0 : Int32) : Int32) (fun z_17 => q_let (x_10 + 1 : Int32) (fun z_18 => B32_1 z_17 z_18))) else (x_9, σ_2))

noncomputable def F_X12_sorts_L32_1 (X : XW) (σ_2 : ST) (a : Nat) (v1 : Int32) : Nat → Int32 → Int32 → Int32 × ST
  | 0 => fun x_9 x_10 => ((0 : Int32), σ_2)
  | k_ + 1 => F_X12_sorts_B32_1 X σ_2 a v1 (F_X12_sorts_L32_1 X σ_2 a v1 k_)

theorem F_X12_sorts_L32_1_s {X : XW} {σ_2 : ST} {a : Nat} {v1 : Int32} {k_ : Nat} {x_9 : Int32} {x_10 : Int32} : F_X12_sorts_L32_1 X σ_2 a v1 (k_ + 1) x_9 x_10 = F_X12_sorts_B32_1 X σ_2 a v1 (F_X12_sorts_L32_1 X σ_2 a v1 k_) x_9 x_10 := rfl

noncomputable def F_X12_sorts (X : XW) (σ : ST) (a : Nat) (v1 : Int32) : Int32 × ST :=
  q_let (q_si σ a 1 (0 : Int32) : ST) (fun σ_1 => q_let (q_si σ_1 a 0 (0 : Int32) : ST) (fun σ_2 => q_let (v1.toInt64 : Int64) (fun y_3 => q_let (F_X12_isIn X σ_2 y_3 (0 : Int64) (2 : Int64) : Int32) (fun r_6 => if r_6.toInt = 0 then q_bi (F_X12_refuse X σ_2 a (5 : Int32)) (fun r_23 σ_24 => (r_23, σ_24)) else F_X12_sorts_L32_1 X σ_2 a v1 ((2147483647 - (0 : Int32).toInt).toNat + 1) (0 : Int32) (0 : Int32)))))

noncomputable def F_X12_liar_E120_2 (X : XW) (x_3 : Int32) (σ_2 : ST) (a : Nat) : Int32 × ST :=
  if x_3.toInt < 0 then q_bi (F_X12_refuse X σ_2 a (8 : Int32)) (fun r_10 σ_11 => (r_10, σ_11)) else (x_3, σ_2)

noncomputable def F_X12_liar_B14_1 (X : XW) (σ_2 : ST) (a : Nat) (B14_1 : Int32 → Int32 → Int32 × ST) (x_3 : Int32) (x_4 : Int32) : Int32 × ST :=
  q_let (σ_2.1 (q_rf X a 20) (2 : Int32).toNatClampNeg : Int32) (fun f_6 => if x_4.toInt < f_6.toInt then if x_3.toInt < 0 then q_let (x_4 + 1 : Int32) (fun z_42 => B14_1 x_4 z_42) else q_let ((22 : Int32) + x_4 : Int32) (fun z_13 => q_let (σ_2.1 (q_rf X a 20) z_13.toNatClampNeg : Int32) (fun f_15 => q_let ((28 : Int32) + x_4 : Int32) (fun z_16 => q_let (σ_2.1 (q_rf X a 20) z_16.toNatClampNeg : Int32) (fun f_18 => q_let (f_15 - f_18 : Int32) (fun z_19 => q_let (z_19 + (1 : Int32) : Int32) (fun z_20 => q_let ((22 : Int32) + x_3 : Int32) (fun z_21 => q_let (σ_2.1 (q_rf X a 20) z_21.toNatClampNeg : Int32) (fun f_23 => q_let (f_23 + (2 : Int32) : Int32) (fun z_24 => q_let (z_20 * z_24 : Int32) (fun z_25 => q_let ((22 : Int32) + x_3 : Int32) (fun z_26 => q_let (σ_2.1 (q_rf X a 20) z_26.toNatClampNeg : Int32) (fun f_28 => q_let ((28 : Int32) + x_3 : Int32) (fun z_29 => q_let (σ_2.1 (q_rf X a 20) z_29.toNatClampNeg : Int32) (fun f_31 => q_let (f_28 - f_31 : Int32) (fun z_32 => q_let (z_32 + (1 : Int32) : Int32) (fun z_33 => q_let ((22 : Int32) + x_4 : Int32) (fun z_34 => q_let (σ_2.1 (q_rf X a 20) z_34.toNatClampNeg : Int32) (fun f_36 => q_let (f_36 + (2 : Int32) : Int32) (fun z_37 => q_let (z_33 * z_37 : Int32) (fun z_38 => if z_25.toInt < z_38.toInt then q_let (x_4 + 1 : Int32) (fun z_41 => B14_1 x_4 z_41) else q_let (x_4 + 1 : Int32) (fun z_40 => B14_1 x_3 z_40))))))))))))))))))))) else F_X12_liar_E120_2 X x_3 σ_2 a)

noncomputable def F_X12_liar_L14_1 (X : XW) (σ_2 : ST) (a : Nat) : Nat → Int32 → Int32 → Int32 × ST
  | 0 => fun x_3 x_4 => ((0 : Int32), σ_2)
  | k_ + 1 => F_X12_liar_B14_1 X σ_2 a (F_X12_liar_L14_1 X σ_2 a k_)

theorem F_X12_liar_L14_1_s {X : XW} {σ_2 : ST} {a : Nat} {k_ : Nat} {x_3 : Int32} {x_4 : Int32} : F_X12_liar_L14_1 X σ_2 a (k_ + 1) x_3 x_4 = F_X12_liar_B14_1 X σ_2 a (F_X12_liar_L14_1 X σ_2 a k_) x_3 x_4 := rfl

noncomputable def F_X12_liar (X : XW) (σ : ST) (a : Nat) : Int32 × ST :=
  q_let (q_si σ a 1 (0 : Int32) : ST) (fun σ_1 => q_let (q_si σ_1 a 0 (0 : Int32) : ST) (fun σ_2 => F_X12_liar_L14_1 X σ_2 a ((2147483647 - (0 : Int32).toInt).toNat + 1) ((-1) : Int32) (0 : Int32)))

noncomputable def F_X12_played (X : XW) (σ : ST) (a : Nat) (v1 : Int32) : Int32 × ST :=
  q_let (q_si σ a 1 (0 : Int32) : ST) (fun σ_1 => q_let (q_si σ_1 a 0 (0 : Int32) : ST) (fun σ_2 => q_let (v1.toInt64 : Int64) (fun y_3 => q_let (F_X12_isIn X σ_2 y_3 (0 : Int64) (4 : Int64) : Int32) (fun r_6 => if r_6.toInt = 0 then q_bi (F_X12_refuse X σ_2 a (5 : Int32)) (fun r_16 σ_17 => (r_16, σ_17)) else q_let (σ_2.1 a 37 : Int32) (fun f_9 => if f_9.toInt = 0 then q_bi (F_X12_refuse X σ_2 a (8 : Int32)) (fun r_12 σ_13 => (r_12, σ_13)) else q_let (σ_2.1 (q_rf X a 36) v1.toNatClampNeg : Int32) (fun f_14 => (f_14, σ_2)))))))

noncomputable def F_X12_draw (X : XW) (σ : ST) (a : Nat) : Int32 × ST :=
  q_let (σ.1 a 39 : Int32) (fun f_1 => q_let (f_1 * (2861 : Int32) : Int32) (fun z_2 => q_let (z_2 + (10259 : Int32) : Int32) (fun z_3 => q_let (z_3 % (65536 : Int32) : Int32) (fun z_4 => q_let (q_si σ a 39 z_4 : ST) (fun σ_5 => q_let (σ_5.1 a 39 : Int32) (fun f_6 => q_let (f_6 / (8 : Int32) : Int32) (fun z_7 => q_let (z_7 % (16 : Int32) : Int32) (fun z_8 => (z_8, σ_5)))))))))

noncomputable def F_X12_leaves (X : XW) (σ : ST) (a : Nat) : ST :=
  q_let (σ.1 (q_rf X a 20) (6 : Int32).toNatClampNeg : Int32) (fun f_1 => q_let (q_si σ (q_rf X a 20) (7 : Int32).toNatClampNeg (0 : Int32) : ST) (fun σ_2 => q_let (F_X12_cardsOf X σ_2 a f_1 : Int32) (fun r_4 => if r_4.toInt = 0 then q_let (q_si σ_2 (q_rf X a 20) (8 : Int32).toNatClampNeg f_1 : ST) (fun σ_14 => q_let (F_X12_nextKind X σ_14 a (1 : Int32) : Int32) (fun r_16 => q_let (q_si σ_14 (q_rf X a 20) (5 : Int32).toNatClampNeg r_16 : ST) (fun σ_18 => q_let (F_X12_behindOf X σ_18 a f_1 : Int32) (fun r_19 => q_let (q_si σ_18 (q_rf X a 20) (6 : Int32).toNatClampNeg r_19 : ST) (fun σ_21 => σ_21))))) else q_let (F_X12_nextKind X σ_2 a (1 : Int32) : Int32) (fun r_8 => q_let (q_si σ_2 (q_rf X a 20) (5 : Int32).toNatClampNeg r_8 : ST) (fun σ_10 => q_let (F_X12_behindOf X σ_10 a f_1 : Int32) (fun r_11 => q_let (q_si σ_10 (q_rf X a 20) (6 : Int32).toNatClampNeg r_11 : ST) (fun σ_13 => σ_13)))))))

noncomputable def F_X12_takes_E74_2 (X : XW) (σ_2 : ST) (a : Nat) : ST :=
  q_let (q_si σ_2 (q_rf X a 20) (9 : Int32).toNatClampNeg (0 : Int32) : ST) (fun σ_6 => σ_6)

noncomputable def F_X12_takes_E68_4 (X : XW) (x_1 : Int32) (B2_1 : Int32 → ST → ST) (σ_11 : ST) : ST :=
  q_let (x_1 + 1 : Int32) (fun z_16 => B2_1 z_16 σ_11)

noncomputable def F_X12_takes_B21_3 (X : XW) (r_8 : Int32) (a : Nat) (v1 : Int32) (x_1 : Int32) (B2_1 : Int32 → ST → ST) (B21_3 : Int32 → ST → ST) (x_10 : Int32) (σ_11 : ST) : ST :=
  q_let (r_8 + (2 : Int32) : Int32) (fun z_13 => q_let (σ_11.1 (q_rf X a 20) z_13.toNatClampNeg : Int32) (fun f_14 => if x_10.toInt < f_14.toInt then q_let ((10 : Int32) * v1 : Int32) (fun z_17 => q_let ((34 : Int32) + z_17 : Int32) (fun z_18 => q_let (r_8 + (3 : Int32) : Int32) (fun z_19 => q_let (z_19 + x_10 : Int32) (fun z_20 => q_let (σ_11.1 (q_rf X a 20) z_20.toNatClampNeg : Int32) (fun f_21 => q_let (z_18 + f_21 : Int32) (fun z_22 => q_let (σ_11.1 (q_rf X a 20) z_22.toNatClampNeg : Int32) (fun f_23 => q_let (f_23 + (1 : Int32) : Int32) (fun z_24 => q_let (q_si σ_11 (q_rf X a 20) z_22.toNatClampNeg z_24 : ST) (fun σ_25 => q_let (x_10 + 1 : Int32) (fun z_26 => B21_3 z_26 σ_25)))))))))) else F_X12_takes_E68_4 X x_1 B2_1 σ_11))

noncomputable def F_X12_takes_L21_3 (X : XW) (r_8 : Int32) (a : Nat) (v1 : Int32) (x_1 : Int32) (B2_1 : Int32 → ST → ST) : Nat → Int32 → ST → ST
  | 0 => fun x_10 σ_11 => σ_11
  | k_ + 1 => F_X12_takes_B21_3 X r_8 a v1 x_1 B2_1 (F_X12_takes_L21_3 X r_8 a v1 x_1 B2_1 k_)

theorem F_X12_takes_L21_3_s {X : XW} {r_8 : Int32} {a : Nat} {v1 : Int32} {x_1 : Int32} {B2_1 : Int32 → ST → ST} {k_ : Nat} {x_10 : Int32} {σ_11 : ST} : F_X12_takes_L21_3 X r_8 a v1 x_1 B2_1 (k_ + 1) x_10 σ_11 = F_X12_takes_B21_3 X r_8 a v1 x_1 B2_1 (F_X12_takes_L21_3 X r_8 a v1 x_1 B2_1 k_) x_10 σ_11 := rfl

noncomputable def F_X12_takes_B2_1 (X : XW) (a : Nat) (v1 : Int32) (B2_1 : Int32 → ST → ST) (x_1 : Int32) (σ_2 : ST) : ST :=
  q_let (σ_2.1 (q_rf X a 20) (9 : Int32).toNatClampNeg : Int32) (fun f_4 => if x_1.toInt < f_4.toInt then q_let (F_X12_laid X σ_2 x_1 : Int32) (fun r_8 => F_X12_takes_L21_3 X r_8 a v1 x_1 B2_1 ((2147483647 - (0 : Int32).toInt).toNat + 1) (0 : Int32) σ_2) else F_X12_takes_E74_2 X σ_2 a)

noncomputable def F_X12_takes_L2_1 (X : XW) (a : Nat) (v1 : Int32) : Nat → Int32 → ST → ST
  | 0 => fun x_1 σ_2 => σ_2
  | k_ + 1 => F_X12_takes_B2_1 X a v1 (F_X12_takes_L2_1 X a v1 k_)

theorem F_X12_takes_L2_1_s {X : XW} {a : Nat} {v1 : Int32} {k_ : Nat} {x_1 : Int32} {σ_2 : ST} : F_X12_takes_L2_1 X a v1 (k_ + 1) x_1 σ_2 = F_X12_takes_B2_1 X a v1 (F_X12_takes_L2_1 X a v1 k_) x_1 σ_2 := rfl

noncomputable def F_X12_takes (X : XW) (σ : ST) (a : Nat) (v1 : Int32) : ST :=
  F_X12_takes_L2_1 X a v1 ((2147483647 - (0 : Int32).toInt).toNat + 1) (0 : Int32) σ

noncomputable def F_X12_doubts_J105_3 (X : XW) (a : Nat) (x_6 : Int32) (v1 : Int32) (f_1 : Int32) (σ_20 : ST) : Int32 × ST :=
  q_let (F_X12_nextKind X σ_20 a (0 : Int32) : Int32) (fun r_22 => q_let (q_si σ_20 (q_rf X a 20) (5 : Int32).toNatClampNeg r_22 : ST) (fun σ_24 => if x_6.toInt = 0 then q_let (q_si σ_24 (q_rf X a 20) (6 : Int32).toNatClampNeg v1 : ST) (fun σ_26 => if x_6.toInt = 0 then (f_1, σ_26) else (v1, σ_26)) else q_let (q_si σ_24 (q_rf X a 20) (6 : Int32).toNatClampNeg f_1 : ST) (fun σ_28 => if x_6.toInt = 0 then (f_1, σ_28) else (v1, σ_28))))

noncomputable def F_X12_doubts_J105_4 (X : XW) (a : Nat) (x_6 : Int32) (v1 : Int32) (f_1 : Int32) (σ_32 : ST) : Int32 × ST :=
  q_let (F_X12_nextKind X σ_32 a (0 : Int32) : Int32) (fun r_34 => q_let (q_si σ_32 (q_rf X a 20) (5 : Int32).toNatClampNeg r_34 : ST) (fun σ_36 => if x_6.toInt = 0 then q_let (q_si σ_36 (q_rf X a 20) (6 : Int32).toNatClampNeg v1 : ST) (fun σ_38 => if x_6.toInt = 0 then (f_1, σ_38) else (v1, σ_38)) else q_let (q_si σ_36 (q_rf X a 20) (6 : Int32).toNatClampNeg f_1 : ST) (fun σ_40 => if x_6.toInt = 0 then (f_1, σ_40) else (v1, σ_40))))

noncomputable def F_X12_doubts_J92_2 (X : XW) (x_6 : Int32) (a : Nat) (f_1 : Int32) (v1 : Int32) (σ_18 : ST) : Int32 × ST :=
  if x_6.toInt = 0 then q_let (F_X12_takes X σ_18 a f_1 : ST) (fun σ_31 => F_X12_doubts_J105_3 X a x_6 v1 f_1 σ_31) else q_let (F_X12_takes X σ_18 a v1 : ST) (fun σ_43 => F_X12_doubts_J105_4 X a x_6 v1 f_1 σ_43)

noncomputable def F_X12_doubts_J105_6 (X : XW) (a : Nat) (x_6 : Int32) (v1 : Int32) (f_1 : Int32) (σ_53 : ST) : Int32 × ST :=
  q_let (F_X12_nextKind X σ_53 a (0 : Int32) : Int32) (fun r_55 => q_let (q_si σ_53 (q_rf X a 20) (5 : Int32).toNatClampNeg r_55 : ST) (fun σ_57 => if x_6.toInt = 0 then q_let (q_si σ_57 (q_rf X a 20) (6 : Int32).toNatClampNeg v1 : ST) (fun σ_59 => if x_6.toInt = 0 then (f_1, σ_59) else (v1, σ_59)) else q_let (q_si σ_57 (q_rf X a 20) (6 : Int32).toNatClampNeg f_1 : ST) (fun σ_61 => if x_6.toInt = 0 then (f_1, σ_61) else (v1, σ_61))))

noncomputable def F_X12_doubts_J105_7 (X : XW) (a : Nat) (x_6 : Int32) (v1 : Int32) (f_1 : Int32) (σ_65 : ST) : Int32 × ST :=
  q_let (F_X12_nextKind X σ_65 a (0 : Int32) : Int32) (fun r_67 => q_let (q_si σ_65 (q_rf X a 20) (5 : Int32).toNatClampNeg r_67 : ST) (fun σ_69 => if x_6.toInt = 0 then q_let (q_si σ_69 (q_rf X a 20) (6 : Int32).toNatClampNeg v1 : ST) (fun σ_71 => if x_6.toInt = 0 then (f_1, σ_71) else (v1, σ_71)) else q_let (q_si σ_69 (q_rf X a 20) (6 : Int32).toNatClampNeg f_1 : ST) (fun σ_73 => if x_6.toInt = 0 then (f_1, σ_73) else (v1, σ_73))))

noncomputable def F_X12_doubts_J92_5 (X : XW) (x_6 : Int32) (a : Nat) (f_1 : Int32) (v1 : Int32) (σ_51 : ST) : Int32 × ST :=
  if x_6.toInt = 0 then q_let (F_X12_takes X σ_51 a f_1 : ST) (fun σ_64 => F_X12_doubts_J105_6 X a x_6 v1 f_1 σ_64) else q_let (F_X12_takes X σ_51 a v1 : ST) (fun σ_76 => F_X12_doubts_J105_7 X a x_6 v1 f_1 σ_76)

noncomputable def F_X12_doubts_J29_1 (X : XW) (σ : ST) (a : Nat) (f_1 : Int32) (v1 : Int32) (x_6 : Int32) : Int32 × ST :=
  q_let (q_si σ (q_rf X a 20) (7 : Int32).toNatClampNeg (0 : Int32) : ST) (fun σ_7 => q_let ((22 : Int32) + f_1 : Int32) (fun z_9 => q_let (σ_7.1 (q_rf X a 20) z_9.toNatClampNeg : Int32) (fun f_10 => q_let (f_10 + (1 : Int32) : Int32) (fun z_11 => q_let (q_si σ_7 (q_rf X a 20) z_9.toNatClampNeg z_11 : ST) (fun σ_12 => q_let ((28 : Int32) + f_1 : Int32) (fun z_13 => q_let (σ_12.1 (q_rf X a 20) z_13.toNatClampNeg : Int32) (fun f_14 => if x_6.toInt = 0 then q_let (f_14 + (1 : Int32) : Int32) (fun z_16 => q_let (q_si σ_12 (q_rf X a 20) z_13.toNatClampNeg z_16 : ST) (fun σ_17 => if x_6.toInt = 0 then F_X12_doubts_J92_2 X x_6 a f_1 v1 σ_17 else q_let (F_X12_cardsOf X σ_17 a f_1 : Int32) (fun r_45 => if r_45.toInt = 0 then q_let (q_si σ_17 (q_rf X a 20) (8 : Int32).toNatClampNeg f_1 : ST) (fun σ_48 => F_X12_doubts_J92_2 X x_6 a f_1 v1 σ_48) else F_X12_doubts_J92_2 X x_6 a f_1 v1 σ_17))) else q_let (f_14 + (0 : Int32) : Int32) (fun z_49 => q_let (q_si σ_12 (q_rf X a 20) z_13.toNatClampNeg z_49 : ST) (fun σ_50 => if x_6.toInt = 0 then F_X12_doubts_J92_5 X x_6 a f_1 v1 σ_50 else q_let (F_X12_cardsOf X σ_50 a f_1 : Int32) (fun r_78 => if r_78.toInt = 0 then q_let (q_si σ_50 (q_rf X a 20) (8 : Int32).toNatClampNeg f_1 : ST) (fun σ_81 => F_X12_doubts_J92_5 X x_6 a f_1 v1 σ_81) else F_X12_doubts_J92_5 X x_6 a f_1 v1 σ_50))))))))))

noncomputable def F_X12_doubts (X : XW) (σ : ST) (a : Nat) (v1 : Int32) : Int32 × ST :=
  q_let (σ.1 (q_rf X a 20) (6 : Int32).toNatClampNeg : Int32) (fun f_1 => q_let (σ.1 (q_rf X a 20) (9 : Int32).toNatClampNeg : Int32) (fun f_2 => q_let (f_2 - (1 : Int32) : Int32) (fun z_3 => q_let (F_X12_sortOf X σ a z_3 : Int32) (fun r_4 => if r_4.toInt = 0 then F_X12_doubts_J29_1 X σ a f_1 v1 (1 : Int32) else F_X12_doubts_J29_1 X σ a f_1 v1 (0 : Int32)))))

noncomputable def F_X12_laysDown_E107_2 (X : XW) (r_2 : Int32) (σ_10 : ST) (a : Nat) (x_8 : Int32) : ST :=
  q_let (r_2 + (2 : Int32) : Int32) (fun z_13 => q_let (q_si σ_10 (q_rf X a 20) z_13.toNatClampNeg x_8 : ST) (fun σ_14 => q_let (σ_14.1 (q_rf X a 20) (9 : Int32).toNatClampNeg : Int32) (fun f_15 => q_let (f_15 + (1 : Int32) : Int32) (fun z_16 => q_let (q_si σ_14 (q_rf X a 20) (9 : Int32).toNatClampNeg z_16 : ST) (fun σ_17 => q_let (q_si σ_17 (q_rf X a 20) (7 : Int32).toNatClampNeg (1 : Int32) : ST) (fun σ_18 => σ_18))))))

noncomputable def F_X12_laysDown_E79_4 (X : XW) (v1 : Int32) (x_9 : Int32) (σ_22 : ST) (a : Nat) (r2 : Nat) (B38_1 : Int32 → Int32 → ST → ST) (x_20 : Int32) : ST :=
  q_let ((10 : Int32) * v1 : Int32) (fun z_26 => q_let ((34 : Int32) + z_26 : Int32) (fun z_27 => q_let (z_27 + x_9 : Int32) (fun z_28 => q_let (σ_22.1 (q_rf X a 20) z_28.toNatClampNeg : Int32) (fun f_29 => q_let (σ_22.1 r2 x_9.toNatClampNeg : Int32) (fun f_30 => q_let (f_29 - f_30 : Int32) (fun z_31 => q_let (q_si σ_22 (q_rf X a 20) z_28.toNatClampNeg z_31 : ST) (fun σ_32 => q_let (x_9 + 1 : Int32) (fun z_33 => B38_1 x_20 z_33 σ_32))))))))

noncomputable def F_X12_laysDown_B48_3 (X : XW) (r2 : Nat) (x_9 : Int32) (r_2 : Int32) (a : Nat) (v1 : Int32) (B38_1 : Int32 → Int32 → ST → ST) (B48_3 : Int32 → Int32 → ST → ST) (x_20 : Int32) (x_21 : Int32) (σ_22 : ST) : ST :=
  q_let (σ_22.1 r2 x_9.toNatClampNeg : Int32) (fun f_24 => if x_21.toInt < f_24.toInt then q_let (r_2 + (3 : Int32) : Int32) (fun z_34 => q_let (z_34 + x_20 : Int32) (fun z_35 => q_let (q_si σ_22 (q_rf X a 20) z_35.toNatClampNeg x_9 : ST) (fun σ_36 => q_let (x_20 + 1 : Int32) (fun z_37 => q_let (x_21 + 1 : Int32) (fun z_38 => B48_3 z_37 z_38 σ_36))))) else F_X12_laysDown_E79_4 X v1 x_9 σ_22 a r2 B38_1 x_20)

noncomputable def F_X12_laysDown_L48_3 (X : XW) (r2 : Nat) (x_9 : Int32) (r_2 : Int32) (a : Nat) (v1 : Int32) (B38_1 : Int32 → Int32 → ST → ST) : Nat → Int32 → Int32 → ST → ST
  | 0 => fun x_20 x_21 σ_22 => σ_22
  | k_ + 1 => F_X12_laysDown_B48_3 X r2 x_9 r_2 a v1 B38_1 (F_X12_laysDown_L48_3 X r2 x_9 r_2 a v1 B38_1 k_)

theorem F_X12_laysDown_L48_3_s {X : XW} {r2 : Nat} {x_9 : Int32} {r_2 : Int32} {a : Nat} {v1 : Int32} {B38_1 : Int32 → Int32 → ST → ST} {k_ : Nat} {x_20 : Int32} {x_21 : Int32} {σ_22 : ST} : F_X12_laysDown_L48_3 X r2 x_9 r_2 a v1 B38_1 (k_ + 1) x_20 x_21 σ_22 = F_X12_laysDown_B48_3 X r2 x_9 r_2 a v1 B38_1 (F_X12_laysDown_L48_3 X r2 x_9 r_2 a v1 B38_1 k_) x_20 x_21 σ_22 := rfl

noncomputable def F_X12_laysDown_B38_1 (X : XW) (r2 : Nat) (r_2 : Int32) (a : Nat) (v1 : Int32) (B38_1 : Int32 → Int32 → ST → ST) (x_8 : Int32) (x_9 : Int32) (σ_10 : ST) : ST :=
  if x_9.toInt < 10 then F_X12_laysDown_L48_3 X r2 x_9 r_2 a v1 B38_1 ((2147483647 - (0 : Int32).toInt).toNat + 1) x_8 (0 : Int32) σ_10 else F_X12_laysDown_E107_2 X r_2 σ_10 a x_8

noncomputable def F_X12_laysDown_L38_1 (X : XW) (r2 : Nat) (r_2 : Int32) (a : Nat) (v1 : Int32) : Nat → Int32 → Int32 → ST → ST
  | 0 => fun x_8 x_9 σ_10 => σ_10
  | k_ + 1 => F_X12_laysDown_B38_1 X r2 r_2 a v1 (F_X12_laysDown_L38_1 X r2 r_2 a v1 k_)

theorem F_X12_laysDown_L38_1_s {X : XW} {r2 : Nat} {r_2 : Int32} {a : Nat} {v1 : Int32} {k_ : Nat} {x_8 : Int32} {x_9 : Int32} {σ_10 : ST} : F_X12_laysDown_L38_1 X r2 r_2 a v1 (k_ + 1) x_8 x_9 σ_10 = F_X12_laysDown_B38_1 X r2 r_2 a v1 (F_X12_laysDown_L38_1 X r2 r_2 a v1 k_) x_8 x_9 σ_10 := rfl

noncomputable def F_X12_laysDown (X : XW) (σ : ST) (a : Nat) (v1 : Int32) (r2 : Nat) : ST :=
  q_let (σ.1 (q_rf X a 20) (9 : Int32).toNatClampNeg : Int32) (fun f_1 => q_let (F_X12_laid X σ f_1 : Int32) (fun r_2 => q_let (q_si σ (q_rf X a 20) r_2.toNatClampNeg v1 : ST) (fun σ_4 => q_let (r_2 + (1 : Int32) : Int32) (fun z_5 => q_let (σ_4.1 (q_rf X a 20) (5 : Int32).toNatClampNeg : Int32) (fun f_6 => q_let (q_si σ_4 (q_rf X a 20) z_5.toNatClampNeg f_6 : ST) (fun σ_7 => F_X12_laysDown_L38_1 X r2 r_2 a v1 ((2147483647 - (0 : Int32).toInt).toNat + 1) (0 : Int32) (0 : Int32) σ_7))))))

noncomputable def F_X12_bend (X : XW) (σ : ST) (a : Nat) (v1 : Int32) (v2 : Int32) (v3 : Int32) : Int32 × ST :=
  q_let (q_si σ a 1 (0 : Int32) : ST) (fun σ_1 => q_let (q_si σ_1 a 0 (0 : Int32) : ST) (fun σ_2 => q_let (F_X12_isPlayerAt X σ_2 a v1 : Int32) (fun r_3 => if r_3.toInt = 0 then q_bi (F_X12_no X σ_2 a (2 : Int32)) (fun r_29 σ_30 => (r_29, σ_30)) else q_let (v2.toInt64 : Int64) (fun y_6 => q_let (F_X12_isIn X σ_2 y_6 (0 : Int64) (16 : Int64) : Int32) (fun r_9 => if r_9.toInt = 0 then q_bi (F_X12_no X σ_2 a (5 : Int32)) (fun r_13 σ_14 => (r_13, σ_14)) else q_let (v3.toInt64 : Int64) (fun y_15 => q_let (F_X12_isIn X σ_2 y_15 (0 : Int64) (16 : Int64) : Int32) (fun r_18 => if r_18.toInt = 0 then q_bi (F_X12_no X σ_2 a (5 : Int32)) (fun r_26 σ_27 => (r_26, σ_27)) else q_let ((10 : Int32) + v1 : Int32) (fun z_21 => q_let (q_si σ_2 (q_rf X a 20) z_21.toNatClampNeg v2 : ST) (fun σ_22 => q_let ((16 : Int32) + v1 : Int32) (fun z_23 => q_let (q_si σ_22 (q_rf X a 20) z_23.toNatClampNeg v3 : ST) (fun σ_24 => ((1 : Int32), σ_24))))))))))))

noncomputable def F_X12_leave (X : XW) (σ : ST) (a : Nat) : Int32 × ST :=
  q_let (q_si σ a 1 (0 : Int32) : ST) (fun σ_1 => q_let (q_si σ_1 a 0 (0 : Int32) : ST) (fun σ_2 => q_let (σ_2.1 (q_rf X a 20) (7 : Int32).toNatClampNeg : Int32) (fun f_3 => if f_3.toInt = 0 then q_bi (F_X12_refuse X σ_2 a (8 : Int32)) (fun r_9 σ_10 => (r_9, σ_10)) else q_let (F_X12_leaves X σ_2 a : ST) (fun σ_6 => q_let (σ_6.1 (q_rf X a 20) (6 : Int32).toNatClampNeg : Int32) (fun f_7 => (f_7, σ_6))))))

noncomputable def F_X12_doubt (X : XW) (σ : ST) (a : Nat) (v1 : Int32) : Int32 × ST :=
  q_let (q_si σ a 1 (0 : Int32) : ST) (fun σ_1 => q_let (q_si σ_1 a 0 (0 : Int32) : ST) (fun σ_2 => q_let (F_X12_isPlayerAt X σ_2 a v1 : Int32) (fun r_3 => if r_3.toInt = 0 then q_bi (F_X12_refuse X σ_2 a (2 : Int32)) (fun r_19 σ_20 => (r_19, σ_20)) else q_let (σ_2.1 (q_rf X a 20) (7 : Int32).toNatClampNeg : Int32) (fun f_6 => if f_6.toInt = 0 then q_bi (F_X12_refuse X σ_2 a (8 : Int32)) (fun r_16 σ_17 => (r_16, σ_17)) else q_let (σ_2.1 (q_rf X a 20) (6 : Int32).toNatClampNeg : Int32) (fun f_8 => if f_8.toInt = v1.toInt then q_bi (F_X12_refuse X σ_2 a (5 : Int32)) (fun r_13 σ_14 => (r_13, σ_14)) else q_bi (F_X12_doubts X σ_2 a v1) (fun r_10 σ_11 => (r_10, σ_11)))))))

noncomputable def F_X12_lay_E335_6 (X : XW) (σ_15 : ST) (a : Nat) : Int32 × ST :=
  q_let (σ_15.1 (q_rf X a 20) (6 : Int32).toNatClampNeg : Int32) (fun f_40 => q_let (F_X12_laysDown X σ_15 a f_40 (q_rf X a 28) : ST) (fun σ_42 => q_let (F_X12_heapMany X σ_42 a : Int32) (fun r_43 => (r_43, σ_42))))

noncomputable def F_X12_lay_E322_7 (X : XW) (σ_15 : ST) (a : Nat) : Int32 × ST :=
  q_bi (F_X12_refuse X σ_15 a (9 : Int32)) (fun r_52 σ_53 => (r_52, σ_53))

noncomputable def F_X12_lay_B292_5 (X : XW) (σ_15 : ST) (a : Nat) (B292_5 : Int32 → Int32 × ST) (x_37 : Int32) : Int32 × ST :=
  if x_37.toInt < 10 then q_let (σ_15.1 (q_rf X a 28) x_37.toNatClampNeg : Int32) (fun f_45 => q_let (σ_15.1 (q_rf X a 20) (6 : Int32).toNatClampNeg : Int32) (fun f_46 => q_let (F_X12_handOf X σ_15 a f_46 x_37 : Int32) (fun r_47 => if r_47.toInt < f_45.toInt then F_X12_lay_E322_7 X σ_15 a else q_let (x_37 + 1 : Int32) (fun z_50 => B292_5 z_50)))) else F_X12_lay_E335_6 X σ_15 a

noncomputable def F_X12_lay_L292_5 (X : XW) (σ_15 : ST) (a : Nat) : Nat → Int32 → Int32 × ST
  | 0 => fun x_37 => ((0 : Int32), σ_15)
  | k_ + 1 => F_X12_lay_B292_5 X σ_15 a (F_X12_lay_L292_5 X σ_15 a k_)

theorem F_X12_lay_L292_5_s {X : XW} {σ_15 : ST} {a : Nat} {k_ : Nat} {x_37 : Int32} : F_X12_lay_L292_5 X σ_15 a (k_ + 1) x_37 = F_X12_lay_B292_5 X σ_15 a (F_X12_lay_L292_5 X σ_15 a k_) x_37 := rfl

noncomputable def F_X12_lay_E217_7 (X : XW) (x_11 : Int32) (σ_15 : ST) (a : Nat) (x_12 : Int32) : Int32 × ST :=
  if x_11.toInt = 0 then q_bi (F_X12_refuse X σ_15 a (5 : Int32)) (fun r_20 σ_21 => (r_20, σ_21)) else if x_12.toInt = 0 then q_let (σ_15.1 (q_rf X a 20) (4 : Int32).toNatClampNeg : Int32) (fun f_23 => if f_23.toInt < x_11.toInt then q_bi (F_X12_refuse X σ_15 a (7 : Int32)) (fun r_59 σ_60 => (r_59, σ_60)) else q_let (σ_15.1 (q_rf X a 20) (7 : Int32).toNatClampNeg : Int32) (fun f_25 => if f_25.toInt = 1 then q_bi (F_X12_refuse X σ_15 a (9 : Int32)) (fun r_28 σ_29 => (r_28, σ_29)) else q_let (σ_15.1 (q_rf X a 20) (8 : Int32).toNatClampNeg : Int32) (fun f_30 => if f_30.toInt < 0 then q_let (σ_15.1 (q_rf X a 20) (6 : Int32).toNatClampNeg : Int32) (fun f_35 => if f_35.toInt < 0 then q_bi (F_X12_refuse X σ_15 a (9 : Int32)) (fun r_56 σ_57 => (r_56, σ_57)) else F_X12_lay_L292_5 X σ_15 a ((2147483647 - (0 : Int32).toInt).toNat + 1) (0 : Int32)) else q_bi (F_X12_refuse X σ_15 a (9 : Int32)) (fun r_33 σ_34 => (r_33, σ_34))))) else q_bi (F_X12_refuse X σ_15 a (5 : Int32)) (fun r_62 σ_63 => (r_62, σ_63))

noncomputable def F_X12_lay_J161_10 (X : XW) (σ_15 : ST) (a : Nat) (x_14 : Int32) (x_11 : Int32) (B75_3 : Int32 → Int32 → Int32 → Int32 → ST → Int32 × ST) (x_65 : Int32) (x_66 : Int32) : Int32 × ST :=
  q_let (σ_15.1 (q_rf X a 29) x_14.toNatClampNeg : Int32) (fun f_67 => if f_67.toInt = (-1) then q_let (x_11 + (0 : Int32) : Int32) (fun z_78 => q_let (σ_15.1 (q_rf X a 29) x_14.toNatClampNeg : Int32) (fun f_79 => if f_79.toInt = (-1) then q_let (x_14 + 1 : Int32) (fun z_81 => B75_3 z_78 x_66 x_65 z_81 σ_15) else q_let (σ_15.1 (q_rf X a 29) x_14.toNatClampNeg : Int32) (fun f_82 => q_let (σ_15.1 (q_rf X a 28) f_82.toNatClampNeg : Int32) (fun f_83 => q_let (f_83 + (1 : Int32) : Int32) (fun z_84 => q_let (q_si σ_15 (q_rf X a 28) f_82.toNatClampNeg z_84 : ST) (fun σ_85 => q_let (x_14 + 1 : Int32) (fun z_86 => B75_3 z_78 x_66 x_65 z_86 σ_85))))))) else q_let (x_11 + (1 : Int32) : Int32) (fun z_69 => q_let (σ_15.1 (q_rf X a 29) x_14.toNatClampNeg : Int32) (fun f_70 => if f_70.toInt = (-1) then q_let (x_14 + 1 : Int32) (fun z_72 => B75_3 z_69 x_66 x_65 z_72 σ_15) else q_let (σ_15.1 (q_rf X a 29) x_14.toNatClampNeg : Int32) (fun f_73 => q_let (σ_15.1 (q_rf X a 28) f_73.toNatClampNeg : Int32) (fun f_74 => q_let (f_74 + (1 : Int32) : Int32) (fun z_75 => q_let (q_si σ_15 (q_rf X a 28) f_73.toNatClampNeg z_75 : ST) (fun σ_76 => q_let (x_14 + 1 : Int32) (fun z_77 => B75_3 z_69 x_66 x_65 z_77 σ_76))))))))

noncomputable def F_X12_lay_J133_9 (X : XW) (x_12 : Int32) (σ_15 : ST) (a : Nat) (x_14 : Int32) (x_11 : Int32) (B75_3 : Int32 → Int32 → Int32 → Int32 → ST → Int32 × ST) (x_65 : Int32) : Int32 × ST :=
  if x_12.toInt = 0 then if x_65.toInt = 0 then F_X12_lay_J161_10 X σ_15 a x_14 x_11 B75_3 x_65 (0 : Int32) else q_let (σ_15.1 (q_rf X a 29) x_14.toNatClampNeg : Int32) (fun f_89 => if f_89.toInt = (-1) then F_X12_lay_J161_10 X σ_15 a x_14 x_11 B75_3 x_65 (0 : Int32) else F_X12_lay_J161_10 X σ_15 a x_14 x_11 B75_3 x_65 (1 : Int32)) else F_X12_lay_J161_10 X σ_15 a x_14 x_11 B75_3 x_65 (1 : Int32)

noncomputable def F_X12_lay_J112_8 (X : XW) (x_13 : Int32) (σ_15 : ST) (a : Nat) (x_14 : Int32) (x_12 : Int32) (x_11 : Int32) (B75_3 : Int32 → Int32 → Int32 → Int32 → ST → Int32 × ST) : Int32 × ST :=
  if x_13.toInt = 0 then q_let (σ_15.1 (q_rf X a 29) x_14.toNatClampNeg : Int32) (fun f_92 => if f_92.toInt = (-1) then F_X12_lay_J133_9 X x_12 σ_15 a x_14 x_11 B75_3 (1 : Int32) else F_X12_lay_J133_9 X x_12 σ_15 a x_14 x_11 B75_3 (0 : Int32)) else F_X12_lay_J133_9 X x_12 σ_15 a x_14 x_11 B75_3 (1 : Int32)

noncomputable def F_X12_lay_E106_11 (X : XW) (σ_15 : ST) (a : Nat) : Int32 × ST :=
  q_bi (F_X12_refuse X σ_15 a (2 : Int32)) (fun r_100 σ_101 => (r_100, σ_101))

noncomputable def F_X12_lay_B75_3 (X : XW) (a : Nat) (B75_3 : Int32 → Int32 → Int32 → Int32 → ST → Int32 × ST) (x_11 : Int32) (x_12 : Int32) (x_13 : Int32) (x_14 : Int32) (σ_15 : ST) : Int32 × ST :=
  if x_14.toInt < 4 then q_let (σ_15.1 (q_rf X a 29) x_14.toNatClampNeg : Int32) (fun f_64 => if f_64.toInt = (-1) then F_X12_lay_J112_8 X x_13 σ_15 a x_14 x_12 x_11 B75_3 else q_let (σ_15.1 (q_rf X a 29) x_14.toNatClampNeg : Int32) (fun f_95 => q_let (F_X12_isKindAt X σ_15 a f_95 : Int32) (fun r_96 => if r_96.toInt = 0 then F_X12_lay_E106_11 X σ_15 a else F_X12_lay_J112_8 X x_13 σ_15 a x_14 x_12 x_11 B75_3))) else F_X12_lay_E217_7 X x_11 σ_15 a x_12

noncomputable def F_X12_lay_L75_3 (X : XW) (a : Nat) : Nat → Int32 → Int32 → Int32 → Int32 → ST → Int32 × ST
  | 0 => fun x_11 x_12 x_13 x_14 σ_15 => ((0 : Int32), σ_15)
  | k_ + 1 => F_X12_lay_B75_3 X a (F_X12_lay_L75_3 X a k_)

theorem F_X12_lay_L75_3_s {X : XW} {a : Nat} {k_ : Nat} {x_11 : Int32} {x_12 : Int32} {x_13 : Int32} {x_14 : Int32} {σ_15 : ST} : F_X12_lay_L75_3 X a (k_ + 1) x_11 x_12 x_13 x_14 σ_15 = F_X12_lay_B75_3 X a (F_X12_lay_L75_3 X a k_) x_11 x_12 x_13 x_14 σ_15 := rfl

noncomputable def F_X12_lay_B42_1 (X : XW) (a : Nat) (B42_1 : Int32 → ST → Int32 × ST) (x_7 : Int32) (σ_8 : ST) : Int32 × ST :=
  if x_7.toInt < 10 then q_let (q_si σ_8 (q_rf X a 28) x_7.toNatClampNeg (0 : Int32) : ST) (fun σ_103 => q_let (x_7 + 1 : Int32) (fun z_105 => B42_1 z_105 σ_103)) else F_X12_lay_L75_3 X a ((2147483647 - (0 : Int32).toInt).toNat + 1) (0 : Int32) (0 : Int32) (0 : Int32) (0 : Int32) σ_8

noncomputable def F_X12_lay_L42_1 (X : XW) (a : Nat) : Nat → Int32 → ST → Int32 × ST
  | 0 => fun x_7 σ_8 => ((0 : Int32), σ_8)
  | k_ + 1 => F_X12_lay_B42_1 X a (F_X12_lay_L42_1 X a k_)

theorem F_X12_lay_L42_1_s {X : XW} {a : Nat} {k_ : Nat} {x_7 : Int32} {σ_8 : ST} : F_X12_lay_L42_1 X a (k_ + 1) x_7 σ_8 = F_X12_lay_B42_1 X a (F_X12_lay_L42_1 X a k_) x_7 σ_8 := rfl

noncomputable def F_X12_lay (X : XW) (σ : ST) (a : Nat) (v1 : Int32) (v2 : Int32) (v3 : Int32) (v4 : Int32) : Int32 × ST :=
  q_let (q_si σ a 1 (0 : Int32) : ST) (fun σ_1 => q_let (q_si σ_1 a 0 (0 : Int32) : ST) (fun σ_2 => q_let (q_si σ_2 (q_rf X a 29) (0 : Int32).toNatClampNeg v1 : ST) (fun σ_3 => q_let (q_si σ_3 (q_rf X a 29) (1 : Int32).toNatClampNeg v2 : ST) (fun σ_4 => q_let (q_si σ_4 (q_rf X a 29) (2 : Int32).toNatClampNeg v3 : ST) (fun σ_5 => q_let (q_si σ_5 (q_rf X a 29) (3 : Int32).toNatClampNeg v4 : ST) (fun σ_6 => F_X12_lay_L42_1 X a ((2147483647 - (0 : Int32).toInt).toNat + 1) (0 : Int32) σ_6))))))

noncomputable def F_X12_turns_E271_6 (X : XW) (σ_36 : ST) (a : Nat) : Int32 × ST :=
  q_let (F_X12_leaves X σ_36 a : ST) (fun σ_40 => ((1 : Int32), σ_40))

noncomputable def F_X12_turns_E224_7 (X : XW) (σ_36 : ST) (a : Nat) (x_35 : Int32) (f_11 : Int32) : Int32 × ST :=
  q_let (σ_36.1 a 43 : Int32) (fun f_44 => q_let (f_44 + (1 : Int32) : Int32) (fun z_45 => q_let (q_si σ_36 a 43 z_45 : ST) (fun σ_46 => q_let (σ_46.1 a 44 : Int32) (fun f_47 => q_bi (F_X12_doubts X σ_46 a x_35) (fun r_48 σ_49 => if r_48.toInt = f_11.toInt then q_let (f_47 + (1 : Int32) : Int32) (fun z_53 => q_let (q_si σ_49 a 44 z_53 : ST) (fun σ_54 => ((1 : Int32), σ_54))) else q_let (f_47 + (0 : Int32) : Int32) (fun z_51 => q_let (q_si σ_49 a 44 z_51 : ST) (fun σ_52 => ((1 : Int32), σ_52))))))))

noncomputable def F_X12_turns_E224_8 (X : XW) (σ_56 : ST) (a : Nat) (x_35 : Int32) (f_11 : Int32) : Int32 × ST :=
  q_let (σ_56.1 a 43 : Int32) (fun f_60 => q_let (f_60 + (1 : Int32) : Int32) (fun z_61 => q_let (q_si σ_56 a 43 z_61 : ST) (fun σ_62 => q_let (σ_62.1 a 44 : Int32) (fun f_63 => q_bi (F_X12_doubts X σ_62 a x_35) (fun r_64 σ_65 => if r_64.toInt = f_11.toInt then q_let (f_63 + (1 : Int32) : Int32) (fun z_69 => q_let (q_si σ_65 a 44 z_69 : ST) (fun σ_70 => ((1 : Int32), σ_70))) else q_let (f_63 + (0 : Int32) : Int32) (fun z_67 => q_let (q_si σ_65 a 44 z_67 : ST) (fun σ_68 => ((1 : Int32), σ_68))))))))

noncomputable def F_X12_turns_B189_5 (X : XW) (f_11 : Int32) (a : Nat) (B189_5 : Int32 → ST → Int32 × ST) (x_35 : Int32) (σ_36 : ST) : Int32 × ST :=
  if x_35.toInt = f_11.toInt then F_X12_turns_E271_6 X σ_36 a else q_let (F_X12_isImpossible X σ_36 a x_35 : Int32) (fun r_41 => if r_41.toInt = 0 then q_bi (F_X12_draw X σ_36 a) (fun r_55 σ_56 => q_let ((16 : Int32) + x_35 : Int32) (fun z_57 => q_let (σ_56.1 (q_rf X a 20) z_57.toNatClampNeg : Int32) (fun f_58 => if r_55.toInt < f_58.toInt then F_X12_turns_E224_8 X σ_56 a x_35 f_11 else q_let (F_X12_behindOf X σ_56 a x_35 : Int32) (fun r_71 => B189_5 r_71 σ_56)))) else F_X12_turns_E224_7 X σ_36 a x_35 f_11)

noncomputable def F_X12_turns_L189_5 (X : XW) (f_11 : Int32) (a : Nat) : Nat → Int32 → ST → Int32 × ST
  | 0 => fun x_35 σ_36 => ((0 : Int32), σ_36)
  | k_ + 1 => F_X12_turns_B189_5 X f_11 a (F_X12_turns_L189_5 X f_11 a k_)

theorem F_X12_turns_L189_5_s {X : XW} {f_11 : Int32} {a : Nat} {k_ : Nat} {x_35 : Int32} {σ_36 : ST} : F_X12_turns_L189_5 X f_11 a (k_ + 1) x_35 σ_36 = F_X12_turns_B189_5 X f_11 a (F_X12_turns_L189_5 X f_11 a k_) x_35 σ_36 := rfl

noncomputable def F_X12_turns_J163_4 (X : XW) (a : Nat) (f_11 : Int32) (σ_27 : ST) : Int32 × ST :=
  q_let (F_X12_laysDown X σ_27 a f_11 (q_rf X a 28) : ST) (fun σ_29 => q_let (σ_29.1 a 42 : Int32) (fun f_30 => q_let (f_30 + (1 : Int32) : Int32) (fun z_31 => q_let (q_si σ_29 a 42 z_31 : ST) (fun σ_32 => q_let (F_X12_behindOf X σ_32 a f_11 : Int32) (fun r_33 => F_X12_turns_L189_5 X f_11 a ((f_11.toInt - r_33.toInt + 20 * min 1 (max 0 (r_33.toInt - f_11.toInt))).toNat + 1) r_33 σ_32)))))

noncomputable def F_X12_turns_E80_8 (X : XW) (σ_13 : ST) (a : Nat) (f_11 : Int32) : Int32 × ST :=
  q_let (σ_13.1 (q_rf X a 20) (4 : Int32).toNatClampNeg : Int32) (fun f_16 => q_let (σ_13.1 (q_rf X a 20) (5 : Int32).toNatClampNeg : Int32) (fun f_17 => q_let (F_X12_handOf X σ_13 a f_11 f_17 : Int32) (fun r_18 => q_let (F_J9_min_7cf53 X σ_13 f_16 r_18 : Int32) (fun r_20 => q_let (σ_13.1 (q_rf X a 20) (5 : Int32).toNatClampNeg : Int32) (fun f_22 => q_let (q_si σ_13 (q_rf X a 28) f_22.toNatClampNeg r_20 : ST) (fun σ_23 => q_let (F_X12_otherKind X σ_23 a f_11 : Int32) (fun r_24 => q_let (σ_23.1 (q_rf X a 20) (4 : Int32).toNatClampNeg : Int32) (fun f_26 => if r_20.toInt < f_26.toInt then if r_24.toInt < 0 then F_X12_turns_J163_4 X a f_11 σ_23 else if r_20.toInt = 0 then q_let (σ_23.1 (q_rf X a 28) r_24.toNatClampNeg : Int32) (fun f_76 => q_let (f_76 + (1 : Int32) : Int32) (fun z_77 => q_let (q_si σ_23 (q_rf X a 28) r_24.toNatClampNeg z_77 : ST) (fun σ_78 => F_X12_turns_J163_4 X a f_11 σ_78))) else q_bi (F_X12_draw X σ_23 a) (fun r_79 σ_80 => q_let ((10 : Int32) + f_11 : Int32) (fun z_81 => q_let (σ_80.1 (q_rf X a 20) z_81.toNatClampNeg : Int32) (fun f_82 => if r_79.toInt < f_82.toInt then q_let (σ_80.1 (q_rf X a 28) r_24.toNatClampNeg : Int32) (fun f_84 => q_let (f_84 + (1 : Int32) : Int32) (fun z_85 => q_let (q_si σ_80 (q_rf X a 28) r_24.toNatClampNeg z_85 : ST) (fun σ_86 => F_X12_turns_J163_4 X a f_11 σ_86))) else F_X12_turns_J163_4 X a f_11 σ_80))) else F_X12_turns_J163_4 X a f_11 σ_23))))))))

noncomputable def F_X12_turns_B61_2 (X : XW) (a : Nat) (f_11 : Int32) (B61_2 : Int32 → ST → Int32 × ST) (x_12 : Int32) (σ_13 : ST) : Int32 × ST :=
  if x_12.toInt < 10 then q_let (q_si σ_13 (q_rf X a 28) x_12.toNatClampNeg (0 : Int32) : ST) (fun σ_87 => q_let (x_12 + 1 : Int32) (fun z_89 => B61_2 z_89 σ_87)) else F_X12_turns_E80_8 X σ_13 a f_11

noncomputable def F_X12_turns_L61_2 (X : XW) (a : Nat) (f_11 : Int32) : Nat → Int32 → ST → Int32 × ST
  | 0 => fun x_12 σ_13 => ((0 : Int32), σ_13)
  | k_ + 1 => F_X12_turns_B61_2 X a f_11 (F_X12_turns_L61_2 X a f_11 k_)

theorem F_X12_turns_L61_2_s {X : XW} {a : Nat} {f_11 : Int32} {k_ : Nat} {x_12 : Int32} {σ_13 : ST} : F_X12_turns_L61_2 X a f_11 (k_ + 1) x_12 σ_13 = F_X12_turns_B61_2 X a f_11 (F_X12_turns_L61_2 X a f_11 k_) x_12 σ_13 := rfl

noncomputable def F_X12_turns_J15_1 (X : XW) (a : Nat) (σ_2 : ST) : Int32 × ST :=
  q_let (σ_2.1 (q_rf X a 20) (8 : Int32).toNatClampNeg : Int32) (fun f_3 => if f_3.toInt < 0 then q_let (σ_2.1 (q_rf X a 20) (2 : Int32).toNatClampNeg : Int32) (fun f_5 => if f_5.toInt < 2 then ((0 : Int32), σ_2) else q_let (σ_2.1 (q_rf X a 20) (6 : Int32).toNatClampNeg : Int32) (fun f_7 => q_let (F_X12_cardsOf X σ_2 a f_7 : Int32) (fun r_8 => if r_8.toInt = 0 then ((0 : Int32), σ_2) else q_let (σ_2.1 (q_rf X a 20) (6 : Int32).toNatClampNeg : Int32) (fun f_11 => F_X12_turns_L61_2 X a f_11 ((2147483647 - (0 : Int32).toInt).toNat + 1) (0 : Int32) σ_2)))) else ((0 : Int32), σ_2))

noncomputable def F_X12_turns (X : XW) (σ : ST) (a : Nat) : Int32 × ST :=
  q_let (σ.1 (q_rf X a 20) (7 : Int32).toNatClampNeg : Int32) (fun f_1 => if f_1.toInt = 1 then q_let (F_X12_leaves X σ a : ST) (fun σ_93 => F_X12_turns_J15_1 X a σ_93) else F_X12_turns_J15_1 X a σ)

noncomputable def F_X12_does (X : XW) (σ : ST) (a : Nat) (v1 : Int32) : Int32 × ST :=
  q_let (σ.1 (q_rf X a 20) v1.toNatClampNeg : Int32) (fun f_1 => if f_1.toInt = 0 then q_bi (F_X12_turns X σ a) (fun r_16 σ_17 => (r_16, σ_17)) else if f_1.toInt = 1 then q_let (v1 + (1 : Int32) : Int32) (fun z_10 => q_let (σ.1 (q_rf X a 20) z_10.toNatClampNeg : Int32) (fun f_11 => q_let ((10 : Int32) + f_11 : Int32) (fun z_12 => q_let (v1 + (2 : Int32) : Int32) (fun z_13 => q_let (σ.1 (q_rf X a 20) z_13.toNatClampNeg : Int32) (fun f_14 => q_let (q_si σ (q_rf X a 20) z_12.toNatClampNeg f_14 : ST) (fun σ_15 => ((1 : Int32), σ_15))))))) else q_let (v1 + (1 : Int32) : Int32) (fun z_4 => q_let (σ.1 (q_rf X a 20) z_4.toNatClampNeg : Int32) (fun f_5 => q_let ((16 : Int32) + f_5 : Int32) (fun z_6 => q_let (v1 + (2 : Int32) : Int32) (fun z_7 => q_let (σ.1 (q_rf X a 20) z_7.toNatClampNeg : Int32) (fun f_8 => q_let (q_si σ (q_rf X a 20) z_6.toNatClampNeg f_8 : ST) (fun σ_9 => ((1 : Int32), σ_9))))))))

noncomputable def F_X12_doAll_z_B2_1 (X : XW) (v2 : Int32) (B2_1 : Int32 → ST → ST) (x_1 : Int32) (σ_2 : ST) : ST :=
  if x_1.toInt < v2.toInt then σ_2 else σ_2

noncomputable def F_X12_doAll_z_L2_1 (X : XW) (v2 : Int32) : Nat → Int32 → ST → ST
  | 0 => fun x_1 σ_2 => σ_2
  | k_ + 1 => F_X12_doAll_z_B2_1 X v2 (F_X12_doAll_z_L2_1 X v2 k_)

theorem F_X12_doAll_z_L2_1_s {X : XW} {v2 : Int32} {k_ : Nat} {x_1 : Int32} {σ_2 : ST} : F_X12_doAll_z_L2_1 X v2 (k_ + 1) x_1 σ_2 = F_X12_doAll_z_B2_1 X v2 (F_X12_doAll_z_L2_1 X v2 k_) x_1 σ_2 := rfl

noncomputable def F_X12_doAll_z (X : XW) (σ : ST) (a : Nat) (v1 : Int32) (v2 : Int32) : ST :=
  F_X12_doAll_z_L2_1 X v2 ((31 - v1.toInt).toNat + 1) v1 σ

noncomputable def F_X12_doOne_s_B117_1 (X : XW) (z_7 : Int32) (a : Nat) (v1 : Int32) (FA : ST → Int32 → Int32 → ST) (B117_1 : Int32 → ST → ST) (x_14 : Int32) (σ_15 : ST) : ST :=
  q_let (z_7 + (1 : Int32) : Int32) (fun z_17 => q_let (σ_15.1 (q_rf X a 20) z_17.toNatClampNeg : Int32) (fun f_18 => if x_14.toInt < f_18.toInt then q_let (σ_15.1 a 38 : Int32) (fun f_20 => if f_20.toInt = 0 then q_let (v1 + (1 : Int32) : Int32) (fun z_22 => q_let (z_7 + (8 : Int32) : Int32) (fun z_23 => q_let (σ_15.1 (q_rf X a 20) z_23.toNatClampNeg : Int32) (fun f_24 => q_let (FA σ_15 z_22 f_24 : ST) (fun σ_26 => q_let (x_14 + 1 : Int32) (fun z_27 => B117_1 z_27 σ_26))))) else σ_15) else σ_15))

noncomputable def F_X12_doOne_s_L117_1 (X : XW) (z_7 : Int32) (a : Nat) (v1 : Int32) (FA : ST → Int32 → Int32 → ST) : Nat → Int32 → ST → ST
  | 0 => fun x_14 σ_15 => σ_15
  | k_ + 1 => F_X12_doOne_s_B117_1 X z_7 a v1 FA (F_X12_doOne_s_L117_1 X z_7 a v1 FA k_)

theorem F_X12_doOne_s_L117_1_s {X : XW} {z_7 : Int32} {a : Nat} {v1 : Int32} {FA : ST → Int32 → Int32 → ST} {k_ : Nat} {x_14 : Int32} {σ_15 : ST} : F_X12_doOne_s_L117_1 X z_7 a v1 FA (k_ + 1) x_14 σ_15 = F_X12_doOne_s_B117_1 X z_7 a v1 FA (F_X12_doOne_s_L117_1 X z_7 a v1 FA k_) x_14 σ_15 := rfl

noncomputable def F_X12_doOne_s_B117_4 (X : XW) (z_7 : Int32) (a : Nat) (v1 : Int32) (FA : ST → Int32 → Int32 → ST) (B117_4 : Int32 → ST → ST) (x_35 : Int32) (σ_36 : ST) : ST :=
  q_let (z_7 + (1 : Int32) : Int32) (fun z_38 => q_let (σ_36.1 (q_rf X a 20) z_38.toNatClampNeg : Int32) (fun f_39 => if x_35.toInt < f_39.toInt then q_let (σ_36.1 a 38 : Int32) (fun f_41 => if f_41.toInt = 0 then q_let (v1 + (1 : Int32) : Int32) (fun z_43 => q_let (z_7 + (8 : Int32) : Int32) (fun z_44 => q_let (σ_36.1 (q_rf X a 20) z_44.toNatClampNeg : Int32) (fun f_45 => q_let (FA σ_36 z_43 f_45 : ST) (fun σ_47 => q_let (x_35 + 1 : Int32) (fun z_48 => B117_4 z_48 σ_47))))) else σ_36) else σ_36))

noncomputable def F_X12_doOne_s_L117_4 (X : XW) (z_7 : Int32) (a : Nat) (v1 : Int32) (FA : ST → Int32 → Int32 → ST) : Nat → Int32 → ST → ST
  | 0 => fun x_35 σ_36 => σ_36
  | k_ + 1 => F_X12_doOne_s_B117_4 X z_7 a v1 FA (F_X12_doOne_s_L117_4 X z_7 a v1 FA k_)

theorem F_X12_doOne_s_L117_4_s {X : XW} {z_7 : Int32} {a : Nat} {v1 : Int32} {FA : ST → Int32 → Int32 → ST} {k_ : Nat} {x_35 : Int32} {σ_36 : ST} : F_X12_doOne_s_L117_4 X z_7 a v1 FA (k_ + 1) x_35 σ_36 = F_X12_doOne_s_B117_4 X z_7 a v1 FA (F_X12_doOne_s_L117_4 X z_7 a v1 FA k_) x_35 σ_36 := rfl

noncomputable def F_X12_doOne_s (X : XW) (σ : ST) (a : Nat) (v1 : Int32) (FA : ST → Int32 → Int32 → ST) : ST :=
  q_let (σ.1 a 40 : Int32) (fun f_1 => if f_1.toInt = 300 then q_let (q_si σ a 38 (1 : Int32) : ST) (fun σ_63 => q_let (q_si σ_63 a 45 (1 : Int32) : ST) (fun σ_64 => σ_64)) else q_let (σ.1 a 40 : Int32) (fun f_3 => q_let (f_3 + (1 : Int32) : Int32) (fun z_4 => q_let (q_si σ a 40 z_4 : ST) (fun σ_5 => q_let ((9 : Int32) * v1 : Int32) (fun z_6 => q_let ((656 : Int32) + z_6 : Int32) (fun z_7 => q_let (σ_5.1 (q_rf X a 20) z_7.toNatClampNeg : Int32) (fun f_8 => if f_8.toInt < 3 then q_let (σ_5.1 a 41 : Int32) (fun f_55 => q_bi (F_X12_does X σ_5 a z_7) (fun r_56 σ_57 => if r_56.toInt = 0 then q_let (f_55 + (1 : Int32) : Int32) (fun z_59 => q_let (q_si σ_57 a 41 z_59 : ST) (fun σ_60 => σ_60)) else q_let (f_55 + (0 : Int32) : Int32) (fun z_61 => q_let (q_si σ_57 a 41 z_61 : ST) (fun σ_62 => σ_62)))) else if f_8.toInt = 3 then q_let (F_X12_isSo X σ_5 a z_7 : Int32) (fun r_29 => if r_29.toInt = 0 then if f_8.toInt = 4 then F_X12_doOne_s_L117_4 X z_7 a v1 FA ((2147483647 - (0 : Int32).toInt).toNat + 1) (0 : Int32) σ_5 else if 4 < f_8.toInt then q_let (q_si σ_5 a 38 (1 : Int32) : ST) (fun σ_34 => σ_34) else σ_5 else q_let (v1 + (1 : Int32) : Int32) (fun z_50 => q_let (z_7 + (8 : Int32) : Int32) (fun z_51 => q_let (σ_5.1 (q_rf X a 20) z_51.toNatClampNeg : Int32) (fun f_52 => q_let (FA σ_5 z_50 f_52 : ST) (fun σ_54 => σ_54))))) else if f_8.toInt = 4 then F_X12_doOne_s_L117_1 X z_7 a v1 FA ((2147483647 - (0 : Int32).toInt).toNat + 1) (0 : Int32) σ_5 else if 4 < f_8.toInt then q_let (q_si σ_5 a 38 (1 : Int32) : ST) (fun σ_13 => σ_13) else σ_5)))))))

noncomputable def F_X12_doAll_s_B2_1 (X : XW) (v2 : Int32) (a : Nat) (FO : ST → Int32 → ST) (B2_1 : Int32 → ST → ST) (x_1 : Int32) (σ_2 : ST) : ST :=
  if x_1.toInt < v2.toInt then q_let (σ_2.1 a 38 : Int32) (fun f_5 => if f_5.toInt = 0 then q_let (FO σ_2 x_1 : ST) (fun σ_8 => q_let ((9 : Int32) * x_1 : Int32) (fun z_9 => q_let ((656 : Int32) + z_9 : Int32) (fun z_10 => q_let (z_10 + (8 : Int32) : Int32) (fun z_11 => q_let (σ_8.1 (q_rf X a 20) z_11.toNatClampNeg : Int32) (fun f_12 => B2_1 f_12 σ_8))))) else σ_2) else σ_2

noncomputable def F_X12_doAll_s_L2_1 (X : XW) (v2 : Int32) (a : Nat) (FO : ST → Int32 → ST) : Nat → Int32 → ST → ST
  | 0 => fun x_1 σ_2 => σ_2
  | k_ + 1 => F_X12_doAll_s_B2_1 X v2 a FO (F_X12_doAll_s_L2_1 X v2 a FO k_)

theorem F_X12_doAll_s_L2_1_s {X : XW} {v2 : Int32} {a : Nat} {FO : ST → Int32 → ST} {k_ : Nat} {x_1 : Int32} {σ_2 : ST} : F_X12_doAll_s_L2_1 X v2 a FO (k_ + 1) x_1 σ_2 = F_X12_doAll_s_B2_1 X v2 a FO (F_X12_doAll_s_L2_1 X v2 a FO k_) x_1 σ_2 := rfl

noncomputable def F_X12_doAll_s (X : XW) (σ : ST) (a : Nat) (v1 : Int32) (v2 : Int32) (FO : ST → Int32 → ST) : ST :=
  F_X12_doAll_s_L2_1 X v2 a FO ((31 - v1.toInt).toNat + 1) v1 σ

noncomputable def F_X12_doAllN (X : XW) (a : Nat) : Nat → ST → Int32 → Int32 → ST
  | 0 => fun σ v1 v2 => F_X12_doAll_z X σ a v1 v2
  | d + 1 => fun σ v1 v2 => F_X12_doAll_s X σ a v1 v2 (fun τ w => F_X12_doOne_s X τ a w (F_X12_doAllN X a d))

noncomputable def F_X12_plays (X : XW) (σ : ST) (a : Nat) (v1 : Int32) : ST :=
  q_let (q_si σ a 39 v1 : ST) (fun σ_1 => q_let (q_si σ_1 a 40 (0 : Int32) : ST) (fun σ_2 => q_let (q_si σ_2 a 41 (0 : Int32) : ST) (fun σ_3 => q_let (q_si σ_3 a 42 (0 : Int32) : ST) (fun σ_4 => q_let (q_si σ_4 a 43 (0 : Int32) : ST) (fun σ_5 => q_let (q_si σ_5 a 44 (0 : Int32) : ST) (fun σ_6 => q_let (q_si σ_6 a 45 (0 : Int32) : ST) (fun σ_7 => q_let (q_si σ_7 a 38 (0 : Int32) : ST) (fun σ_8 => q_let (σ_8.1 (q_rf X a 20) (655 : Int32).toNatClampNeg : Int32) (fun f_9 => q_let (F_X12_doAllN X a 30 σ_8 (0 : Int32) f_9 : ST) (fun σ_12 => σ_12))))))))))

noncomputable def F_X12_play (X : XW) (σ : ST) (a : Nat) (v1 : Int32) : Int32 × ST :=
  q_let (q_si σ a 1 (0 : Int32) : ST) (fun σ_1 => q_let (q_si σ_1 a 0 (0 : Int32) : ST) (fun σ_2 => q_let (v1.toInt64 : Int64) (fun y_3 => q_let (F_X12_isIn X σ_2 y_3 (0 : Int64) (9999 : Int64) : Int32) (fun r_6 => if r_6.toInt = 0 then q_bi (F_X12_refuse X σ_2 a (5 : Int32)) (fun r_29 σ_30 => (r_29, σ_30)) else q_let (σ_2.1 (q_rf X a 20) (654 : Int32).toNatClampNeg : Int32) (fun f_9 => if f_9.toInt = 0 then q_bi (F_X12_refuse X σ_2 a (8 : Int32)) (fun r_26 σ_27 => (r_26, σ_27)) else q_let (F_X12_plays X σ_2 a v1 : ST) (fun σ_12 => q_let (σ_12.1 a 41 : Int32) (fun f_13 => q_let (q_si σ_12 (q_rf X a 36) (0 : Int32).toNatClampNeg f_13 : ST) (fun σ_14 => q_let (σ_14.1 a 42 : Int32) (fun f_15 => q_let (q_si σ_14 (q_rf X a 36) (1 : Int32).toNatClampNeg f_15 : ST) (fun σ_16 => q_let (σ_16.1 a 43 : Int32) (fun f_17 => q_let (q_si σ_16 (q_rf X a 36) (2 : Int32).toNatClampNeg f_17 : ST) (fun σ_18 => q_let (σ_18.1 a 44 : Int32) (fun f_19 => q_let (q_si σ_18 (q_rf X a 36) (3 : Int32).toNatClampNeg f_19 : ST) (fun σ_20 => q_let (σ_20.1 a 45 : Int32) (fun f_21 => q_let (q_si σ_20 (q_rf X a 36) (4 : Int32).toNatClampNeg f_21 : ST) (fun σ_22 => q_let (q_si σ_22 a 37 (1 : Int32) : ST) (fun σ_23 => q_let (σ_23.1 a 40 : Int32) (fun f_24 => (f_24, σ_23)))))))))))))))))))

noncomputable def F_X12_tries_E197_4 (X : XW) (x_28 : Int32) (v3 : Int32) (σ_30 : ST) (a : Nat) : Int32 × ST :=
  q_let (x_28.toInt64 : Int64) (fun y_33 => q_let (v3.toInt64 : Int64) (fun y_34 => q_bi (F_X12_fraction X σ_30 a y_33 y_34) (fun r_35 σ_36 => (r_35, σ_36))))

noncomputable def F_X12_tries_E191_6 (X : XW) (x_29 : Int32) (B112_3 : Int32 → Int32 → ST → Int32 × ST) (z_43 : Int32) (σ_45 : ST) : Int32 × ST :=
  q_let (x_29 + 1 : Int32) (fun z_48 => B112_3 z_43 z_48 σ_45)

noncomputable def F_X12_tries_B163_5 (X : XW) (a : Nat) (x_29 : Int32) (B112_3 : Int32 → Int32 → ST → Int32 × ST) (z_43 : Int32) (B163_5 : Int32 → ST → Int32 × ST) (x_44 : Int32) (σ_45 : ST) : Int32 × ST :=
  if x_44.toInt < 654 then q_let (σ_45.1 (q_rf X a 21) x_44.toNatClampNeg : Int32) (fun f_49 => q_let (q_si σ_45 (q_rf X a 20) x_44.toNatClampNeg f_49 : ST) (fun σ_50 => q_let (x_44 + 1 : Int32) (fun z_51 => B163_5 z_51 σ_50))) else F_X12_tries_E191_6 X x_29 B112_3 z_43 σ_45

noncomputable def F_X12_tries_L163_5 (X : XW) (a : Nat) (x_29 : Int32) (B112_3 : Int32 → Int32 → ST → Int32 × ST) (z_43 : Int32) : Nat → Int32 → ST → Int32 × ST
  | 0 => fun x_44 σ_45 => ((0 : Int32), σ_45)
  | k_ + 1 => F_X12_tries_B163_5 X a x_29 B112_3 z_43 (F_X12_tries_L163_5 X a x_29 B112_3 z_43 k_)

theorem F_X12_tries_L163_5_s {X : XW} {a : Nat} {x_29 : Int32} {B112_3 : Int32 → Int32 → ST → Int32 × ST} {z_43 : Int32} {k_ : Nat} {x_44 : Int32} {σ_45 : ST} : F_X12_tries_L163_5 X a x_29 B112_3 z_43 (k_ + 1) x_44 σ_45 = F_X12_tries_B163_5 X a x_29 B112_3 z_43 (F_X12_tries_L163_5 X a x_29 B112_3 z_43 k_) x_44 σ_45 := rfl

noncomputable def F_X12_tries_E191_8 (X : XW) (x_29 : Int32) (B112_3 : Int32 → Int32 → ST → Int32 × ST) (z_55 : Int32) (σ_57 : ST) : Int32 × ST :=
  q_let (x_29 + 1 : Int32) (fun z_60 => B112_3 z_55 z_60 σ_57)

noncomputable def F_X12_tries_B163_7 (X : XW) (a : Nat) (x_29 : Int32) (B112_3 : Int32 → Int32 → ST → Int32 × ST) (z_55 : Int32) (B163_7 : Int32 → ST → Int32 × ST) (x_56 : Int32) (σ_57 : ST) : Int32 × ST :=
  if x_56.toInt < 654 then q_let (σ_57.1 (q_rf X a 21) x_56.toNatClampNeg : Int32) (fun f_61 => q_let (q_si σ_57 (q_rf X a 20) x_56.toNatClampNeg f_61 : ST) (fun σ_62 => q_let (x_56 + 1 : Int32) (fun z_63 => B163_7 z_63 σ_62))) else F_X12_tries_E191_8 X x_29 B112_3 z_55 σ_57

noncomputable def F_X12_tries_L163_7 (X : XW) (a : Nat) (x_29 : Int32) (B112_3 : Int32 → Int32 → ST → Int32 × ST) (z_55 : Int32) : Nat → Int32 → ST → Int32 × ST
  | 0 => fun x_56 σ_57 => ((0 : Int32), σ_57)
  | k_ + 1 => F_X12_tries_B163_7 X a x_29 B112_3 z_55 (F_X12_tries_L163_7 X a x_29 B112_3 z_55 k_)

theorem F_X12_tries_L163_7_s {X : XW} {a : Nat} {x_29 : Int32} {B112_3 : Int32 → Int32 → ST → Int32 × ST} {z_55 : Int32} {k_ : Nat} {x_56 : Int32} {σ_57 : ST} : F_X12_tries_L163_7 X a x_29 B112_3 z_55 (k_ + 1) x_56 σ_57 = F_X12_tries_B163_7 X a x_29 B112_3 z_55 (F_X12_tries_L163_7 X a x_29 B112_3 z_55 k_) x_56 σ_57 := rfl

noncomputable def F_X12_tries_E191_10 (X : XW) (x_29 : Int32) (B112_3 : Int32 → Int32 → ST → Int32 × ST) (z_65 : Int32) (σ_67 : ST) : Int32 × ST :=
  q_let (x_29 + 1 : Int32) (fun z_70 => B112_3 z_65 z_70 σ_67)

noncomputable def F_X12_tries_B163_9 (X : XW) (a : Nat) (x_29 : Int32) (B112_3 : Int32 → Int32 → ST → Int32 × ST) (z_65 : Int32) (B163_9 : Int32 → ST → Int32 × ST) (x_66 : Int32) (σ_67 : ST) : Int32 × ST :=
  if x_66.toInt < 654 then q_let (σ_67.1 (q_rf X a 21) x_66.toNatClampNeg : Int32) (fun f_71 => q_let (q_si σ_67 (q_rf X a 20) x_66.toNatClampNeg f_71 : ST) (fun σ_72 => q_let (x_66 + 1 : Int32) (fun z_73 => B163_9 z_73 σ_72))) else F_X12_tries_E191_10 X x_29 B112_3 z_65 σ_67

noncomputable def F_X12_tries_L163_9 (X : XW) (a : Nat) (x_29 : Int32) (B112_3 : Int32 → Int32 → ST → Int32 × ST) (z_65 : Int32) : Nat → Int32 → ST → Int32 × ST
  | 0 => fun x_66 σ_67 => ((0 : Int32), σ_67)
  | k_ + 1 => F_X12_tries_B163_9 X a x_29 B112_3 z_65 (F_X12_tries_L163_9 X a x_29 B112_3 z_65 k_)

theorem F_X12_tries_L163_9_s {X : XW} {a : Nat} {x_29 : Int32} {B112_3 : Int32 → Int32 → ST → Int32 × ST} {z_65 : Int32} {k_ : Nat} {x_66 : Int32} {σ_67 : ST} : F_X12_tries_L163_9 X a x_29 B112_3 z_65 (k_ + 1) x_66 σ_67 = F_X12_tries_B163_9 X a x_29 B112_3 z_65 (F_X12_tries_L163_9 X a x_29 B112_3 z_65 k_) x_66 σ_67 := rfl

noncomputable def F_X12_tries_B112_3 (X : XW) (v3 : Int32) (v2 : Int32) (a : Nat) (v4 : Int32) (v1 : Int32) (B112_3 : Int32 → Int32 → ST → Int32 × ST) (x_28 : Int32) (x_29 : Int32) (σ_30 : ST) : Int32 × ST :=
  if x_29.toInt < v3.toInt then q_let (v2 + x_29 : Int32) (fun z_37 => q_let (F_X12_plays X σ_30 a z_37 : ST) (fun σ_39 => if v4.toInt = 0 then q_let (F_X12_cardsOf X σ_39 a v1 : Int32) (fun r_41 => q_let (x_28 + r_41 : Int32) (fun z_43 => F_X12_tries_L163_5 X a x_29 B112_3 z_43 ((2147483647 - (0 : Int32).toInt).toNat + 1) (0 : Int32) σ_39)) else q_let (σ_39.1 (q_rf X a 20) (8 : Int32).toNatClampNeg : Int32) (fun f_53 => if f_53.toInt = v1.toInt then q_let (x_28 + (1 : Int32) : Int32) (fun z_65 => F_X12_tries_L163_9 X a x_29 B112_3 z_65 ((2147483647 - (0 : Int32).toInt).toNat + 1) (0 : Int32) σ_39) else q_let (x_28 + (0 : Int32) : Int32) (fun z_55 => F_X12_tries_L163_7 X a x_29 B112_3 z_55 ((2147483647 - (0 : Int32).toInt).toNat + 1) (0 : Int32) σ_39)))) else F_X12_tries_E197_4 X x_28 v3 σ_30 a

noncomputable def F_X12_tries_L112_3 (X : XW) (v3 : Int32) (v2 : Int32) (a : Nat) (v4 : Int32) (v1 : Int32) : Nat → Int32 → Int32 → ST → Int32 × ST
  | 0 => fun x_28 x_29 σ_30 => ((0 : Int32), σ_30)
  | k_ + 1 => F_X12_tries_B112_3 X v3 v2 a v4 v1 (F_X12_tries_L112_3 X v3 v2 a v4 v1 k_)

theorem F_X12_tries_L112_3_s {X : XW} {v3 : Int32} {v2 : Int32} {a : Nat} {v4 : Int32} {v1 : Int32} {k_ : Nat} {x_28 : Int32} {x_29 : Int32} {σ_30 : ST} : F_X12_tries_L112_3 X v3 v2 a v4 v1 (k_ + 1) x_28 x_29 σ_30 = F_X12_tries_B112_3 X v3 v2 a v4 v1 (F_X12_tries_L112_3 X v3 v2 a v4 v1 k_) x_28 x_29 σ_30 := rfl

noncomputable def F_X12_tries_B78_1 (X : XW) (a : Nat) (v3 : Int32) (v2 : Int32) (v4 : Int32) (v1 : Int32) (B78_1 : Int32 → ST → Int32 × ST) (x_24 : Int32) (σ_25 : ST) : Int32 × ST :=
  if x_24.toInt < 654 then q_let (σ_25.1 (q_rf X a 20) x_24.toNatClampNeg : Int32) (fun f_76 => q_let (q_si σ_25 (q_rf X a 21) x_24.toNatClampNeg f_76 : ST) (fun σ_77 => q_let (x_24 + 1 : Int32) (fun z_78 => B78_1 z_78 σ_77))) else F_X12_tries_L112_3 X v3 v2 a v4 v1 ((2147483647 - (0 : Int32).toInt).toNat + 1) (0 : Int32) (0 : Int32) σ_25

noncomputable def F_X12_tries_L78_1 (X : XW) (a : Nat) (v3 : Int32) (v2 : Int32) (v4 : Int32) (v1 : Int32) : Nat → Int32 → ST → Int32 × ST
  | 0 => fun x_24 σ_25 => ((0 : Int32), σ_25)
  | k_ + 1 => F_X12_tries_B78_1 X a v3 v2 v4 v1 (F_X12_tries_L78_1 X a v3 v2 v4 v1 k_)

theorem F_X12_tries_L78_1_s {X : XW} {a : Nat} {v3 : Int32} {v2 : Int32} {v4 : Int32} {v1 : Int32} {k_ : Nat} {x_24 : Int32} {σ_25 : ST} : F_X12_tries_L78_1 X a v3 v2 v4 v1 (k_ + 1) x_24 σ_25 = F_X12_tries_B78_1 X a v3 v2 v4 v1 (F_X12_tries_L78_1 X a v3 v2 v4 v1 k_) x_24 σ_25 := rfl

noncomputable def F_X12_tries (X : XW) (σ : ST) (a : Nat) (v1 : Int32) (v2 : Int32) (v3 : Int32) (v4 : Int32) : Int32 × ST :=
  q_let (q_si σ a 1 (0 : Int32) : ST) (fun σ_1 => q_let (q_si σ_1 a 0 (0 : Int32) : ST) (fun σ_2 => q_let (F_X12_isPlayerAt X σ_2 a v1 : Int32) (fun r_3 => if r_3.toInt = 0 then q_bi (F_X12_no X σ_2 a (2 : Int32)) (fun r_87 σ_88 => (r_87, σ_88)) else q_let (v3.toInt64 : Int64) (fun y_6 => q_let (F_X12_isIn X σ_2 y_6 (1 : Int64) (20 : Int64) : Int32) (fun r_9 => if r_9.toInt = 0 then q_bi (F_X12_no X σ_2 a (5 : Int32)) (fun r_13 σ_14 => (r_13, σ_14)) else q_let (v2.toInt64 : Int64) (fun y_15 => q_let ((10000 : Int32) - v3 : Int32) (fun z_16 => q_let (z_16.toInt64 : Int64) (fun y_17 => q_let (F_X12_isIn X σ_2 y_15 (0 : Int64) y_17 : Int32) (fun r_19 => if r_19.toInt = 0 then q_bi (F_X12_no X σ_2 a (5 : Int32)) (fun r_84 σ_85 => (r_84, σ_85)) else q_let (σ_2.1 (q_rf X a 20) (654 : Int32).toNatClampNeg : Int32) (fun f_22 => if f_22.toInt = 0 then q_bi (F_X12_no X σ_2 a (8 : Int32)) (fun r_81 σ_82 => (r_81, σ_82)) else F_X12_tries_L78_1 X a v3 v2 v4 v1 ((2147483647 - (0 : Int32).toInt).toNat + 1) (0 : Int32) σ_2))))))))))

noncomputable def F_X12_wins (X : XW) (σ : ST) (a : Nat) (v1 : Int32) (v2 : Int32) (v3 : Int32) : Int32 × ST :=
  q_bi (F_X12_tries X σ a v1 v2 v3 (1 : Int32)) (fun r_2 σ_3 => (r_2, σ_3))

noncomputable def F_X12_left (X : XW) (σ : ST) (a : Nat) (v1 : Int32) (v2 : Int32) (v3 : Int32) : Int32 × ST :=
  q_bi (F_X12_tries X σ a v1 v2 v3 (0 : Int32)) (fun r_2 σ_3 => (r_2, σ_3))

noncomputable def F_X12_mark (X : XW) (σ : ST) (a : Nat) : Int32 × ST :=
  q_let (q_si σ a 1 (0 : Int32) : ST) (fun σ_1 => q_let (q_si σ_1 a 0 (0 : Int32) : ST) (fun σ_2 => q_let (σ_2.1 a 24 : Int32) (fun f_3 => if f_3.toInt = 3 then q_bi (F_X12_refuse X σ_2 a (7 : Int32)) (fun r_14 σ_15 => (r_14, σ_15)) else q_let (σ_2.1 a 24 : Int32) (fun f_5 => q_let (f_5 + (1 : Int32) : Int32) (fun z_6 => q_let (q_si σ_2 a 24 z_6 : ST) (fun σ_7 => q_let (σ_7.1 a 24 : Int32) (fun f_8 => q_let (F_X12_copy X σ_7 a (0 : Int32) f_8 : ST) (fun σ_11 => q_let (σ_11.1 a 24 : Int32) (fun f_12 => (f_12, σ_11))))))))))

noncomputable def F_X12_back (X : XW) (σ : ST) (a : Nat) : Int32 × ST :=
  q_let (q_si σ a 1 (0 : Int32) : ST) (fun σ_1 => q_let (q_si σ_1 a 0 (0 : Int32) : ST) (fun σ_2 => q_let (σ_2.1 a 24 : Int32) (fun f_3 => if f_3.toInt = 0 then q_bi (F_X12_refuse X σ_2 a (8 : Int32)) (fun r_14 σ_15 => (r_14, σ_15)) else q_let (σ_2.1 a 24 : Int32) (fun f_5 => q_let (F_X12_copy X σ_2 a f_5 (0 : Int32) : ST) (fun σ_8 => q_let (σ_8.1 a 24 : Int32) (fun f_9 => q_let (f_9 - (1 : Int32) : Int32) (fun z_10 => q_let (q_si σ_8 a 24 z_10 : ST) (fun σ_11 => q_let (σ_11.1 a 24 : Int32) (fun f_12 => (f_12, σ_11))))))))))
end
/-! FROM 30.trays.a.lean.txt -/
section
section QS
variable {p : Program} {l : Launch} {e : Env} {R : Room} {s : State} {m : MethodId} {args : Array Value} {below : List Frame} {meth : Method} {c : Code} {H : Heap} {locs : List Loc} {cells slots : Nat} {Q : State → Prop} {cc : ByteArray} {X : XW} {n : Nat} {σ0 σ : ST} {H0 : Heap} {pc : Nat} {ls : Array Slot} {rest : List Value} {a : Nat}
theorem ps_X12_59_12 (E : q_E p c cc s m args RX12 X) (hI : q_I X n σ0 H0 locs σ H) (ha : q_kd X a = 12) {v : Int32} (hcl : n < 9) (hdg : decode cc pc = .ok (.putfield 59, 3)) (kk : ∀ (H1 : Heap) (locs1 : List Loc) (σ1 : ST), σ1 = q_si σ a 1 v → q_I X n σ0 H0 locs1 σ1 H1 → W p l e R s m args below meth c H1 locs1 cells slots Q (F0 m (pc + 3) ls rest)) : W p l e R s m args below meth c H locs cells slots Q (F0 m pc ls (.int v :: .ref a :: rest)) :=
  q_puti (ref := "CheatHeapModel") E hI ha ⟨rfl, by decide⟩ (show vwCl[11]? = some (RX12, TX12, 46) from rfl) q_inX12 tyX12_ok nmX12 (f := 1) (by decide) (q_in_t6 (i := 226) (by first | rfl | decide +kernel) rfl) (Or.inl rfl) rfl rfl hcl hdg (q_inU rfl) (Or.inl rfl) (fun H1 l1 h => kk H1 l1 _ rfl h)
theorem gs_X12_62_12 (E : q_E p c cc s m args RX12 X) (hI : q_I X n σ0 H0 locs σ H) (ha : q_kd X a = 12) (hdg : decode cc pc = .ok (.getfield 62, 3)) (kk : W p l e R s m args below meth c H locs cells slots Q (F0 m (pc + 3) ls (.int (σ.1 a 0) :: rest))) : W p l e R s m args below meth c H locs cells slots Q (F0 m pc ls (.ref a :: rest)) :=
  q_getf (ref := "CheatHeapModel") E hI ha ⟨rfl, by decide⟩ (show vwCl[11]? = some (RX12, TX12, 46) from rfl) q_inX12 (f := 0) (by decide) (q_in_t6 (i := 225) (by first | rfl | decide +kernel) rfl) (Or.inl rfl) rfl hdg kk
theorem gs_X12_65_12 (E : q_E p c cc s m args RX12 X) (hI : q_I X n σ0 H0 locs σ H) (ha : q_kd X a = 12) (hdg : decode cc pc = .ok (.getfield 65, 3)) (kk : W p l e R s m args below meth c H locs cells slots Q (F0 m (pc + 3) ls (.long (σ.2.1 a 2) :: rest))) : W p l e R s m args below meth c H locs cells slots Q (F0 m pc ls (.ref a :: rest)) :=
  q_getf (ref := "CheatHeapModel") E hI ha ⟨rfl, by decide⟩ (show vwCl[11]? = some (RX12, TX12, 46) from rfl) q_inX12 (f := 2) (by decide) (q_in_t6 (i := 227) (by first | rfl | decide +kernel) rfl) (Or.inl rfl) rfl hdg kk
theorem gs_X12_7_12 (E : q_E p c cc s m args RX12 X) (hI : q_I X n σ0 H0 locs σ H) (ha : q_kd X a = 12) (hdg : decode cc pc = .ok (.getfield 7, 3)) (kk : W p l e R s m args below meth c H locs cells slots Q (F0 m (pc + 3) ls (.long (σ.2.1 a 3) :: rest))) : W p l e R s m args below meth c H locs cells slots Q (F0 m pc ls (.ref a :: rest)) :=
  q_getf (ref := "CheatHeapModel") E hI ha ⟨rfl, by decide⟩ (show vwCl[11]? = some (RX12, TX12, 46) from rfl) q_inX12 (f := 3) (by decide) (q_in_t6 (i := 228) (by first | rfl | decide +kernel) rfl) (Or.inl rfl) rfl hdg kk
theorem ps_X12_62_12 (E : q_E p c cc s m args RX12 X) (hI : q_I X n σ0 H0 locs σ H) (ha : q_kd X a = 12) {v : Int32} (hcl : n < 9) (hdg : decode cc pc = .ok (.putfield 62, 3)) (kk : ∀ (H1 : Heap) (locs1 : List Loc) (σ1 : ST), σ1 = q_si σ a 0 v → q_I X n σ0 H0 locs1 σ1 H1 → W p l e R s m args below meth c H1 locs1 cells slots Q (F0 m (pc + 3) ls rest)) : W p l e R s m args below meth c H locs cells slots Q (F0 m pc ls (.int v :: .ref a :: rest)) :=
  q_puti (ref := "CheatHeapModel") E hI ha ⟨rfl, by decide⟩ (show vwCl[11]? = some (RX12, TX12, 46) from rfl) q_inX12 tyX12_ok nmX12 (f := 0) (by decide) (q_in_t6 (i := 225) (by first | rfl | decide +kernel) rfl) (Or.inl rfl) rfl rfl hcl hdg (q_inU rfl) (Or.inl rfl) (fun H1 l1 h => kk H1 l1 _ rfl h)
theorem gs_X12_17_12 (E : q_E p c cc s m args RX12 X) (hI : q_I X n σ0 H0 locs σ H) (ha : q_kd X a = 12) (hdg : decode cc pc = .ok (.getfield 17, 3)) (kk : W p l e R s m args below meth c H locs cells slots Q (F0 m (pc + 3) ls (.ref (q_rf X a 5) :: rest))) : W p l e R s m args below meth c H locs cells slots Q (F0 m pc ls (.ref a :: rest)) :=
  q_getf (ref := "CheatHeapModel") E hI ha ⟨rfl, by decide⟩ (show vwCl[11]? = some (RX12, TX12, 46) from rfl) q_inX12 (f := 5) (by decide) (q_in_t6 (i := 230) (by first | rfl | decide +kernel) rfl) (Or.inl rfl) rfl hdg kk
theorem kv_X12_78 : q_okV RX12 78 RX12 yX12_trayed cX12_trayed 2 (some .int) 1 := ⟨(q_in_t7 (i := 152) (by first | rfl | decide +kernel) rfl), (q_in_t7 (i := 154) (by first | rfl | decide +kernel) rfl), (q_in_p (i := 39) (by decide +kernel) rfl), (q_in_t1 (i := 14) (by first | rfl | decide +kernel) rfl), (q_in_t7 (i := 155) (by first | rfl | decide +kernel) rfl), ⟨rfl, by decide, by decide, rfl⟩⟩
theorem kv_X12_74 : q_okV RX12 74 RX12 yX12_no cX12_no 2 (some .boolean) 1 := ⟨(q_in_t7 (i := 140) (by first | rfl | decide +kernel) rfl), (q_in_t7 (i := 142) (by first | rfl | decide +kernel) rfl), (q_in_p (i := 37) (by decide +kernel) rfl), (q_in_t1 (i := 14) (by first | rfl | decide +kernel) rfl), (q_in_t7 (i := 143) (by first | rfl | decide +kernel) rfl), ⟨rfl, by decide, by decide, rfl⟩⟩
theorem gs_X12_13_12 (E : q_E p c cc s m args RX12 X) (hI : q_I X n σ0 H0 locs σ H) (ha : q_kd X a = 12) (hdg : decode cc pc = .ok (.getfield 13, 3)) (kk : W p l e R s m args below meth c H locs cells slots Q (F0 m (pc + 3) ls (.ref (q_rf X a 4) :: rest))) : W p l e R s m args below meth c H locs cells slots Q (F0 m pc ls (.ref a :: rest)) :=
  q_getf (ref := "CheatHeapModel") E hI ha ⟨rfl, by decide⟩ (show vwCl[11]? = some (RX12, TX12, 46) from rfl) q_inX12 (f := 4) (by decide) (q_in_t6 (i := 229) (by first | rfl | decide +kernel) rfl) (Or.inl rfl) rfl hdg kk
theorem gs_X12_20_12 (E : q_E p c cc s m args RX12 X) (hI : q_I X n σ0 H0 locs σ H) (ha : q_kd X a = 12) (hdg : decode cc pc = .ok (.getfield 20, 3)) (kk : W p l e R s m args below meth c H locs cells slots Q (F0 m (pc + 3) ls (.ref (q_rf X a 6) :: rest))) : W p l e R s m args below meth c H locs cells slots Q (F0 m pc ls (.ref a :: rest)) :=
  q_getf (ref := "CheatHeapModel") E hI ha ⟨rfl, by decide⟩ (show vwCl[11]? = some (RX12, TX12, 46) from rfl) q_inX12 (f := 6) (by decide) (q_in_t6 (i := 231) (by first | rfl | decide +kernel) rfl) (Or.inl rfl) rfl hdg kk
theorem kv_X12_82 : q_okV RX12 82 RX12 yX12_placed cX12_placed 4 (some .int) 2 := ⟨(q_in_t7 (i := 148) (by first | rfl | decide +kernel) rfl), (q_in_t7 (i := 150) (by first | rfl | decide +kernel) rfl), (q_in_p (i := 38) (by decide +kernel) rfl), (q_in_t1 (i := 14) (by first | rfl | decide +kernel) rfl), (q_in_t7 (i := 151) (by first | rfl | decide +kernel) rfl), ⟨rfl, by decide, by decide, rfl⟩⟩
theorem ks_X12_86 : q_okS RX12 86 yX12_cut cX12_cut 3 (some .long) 2 := ⟨(q_in_t7 (i := 156) (by first | rfl | decide +kernel) rfl), (q_in_t7 (i := 157) (by first | rfl | decide +kernel) rfl), (q_in_t1 (i := 14) (by first | rfl | decide +kernel) rfl), (q_in_t7 (i := 158) (by first | rfl | decide +kernel) rfl), ⟨by decide, by decide, rfl⟩⟩
theorem gs_X12_24_12 (E : q_E p c cc s m args RX12 X) (hI : q_I X n σ0 H0 locs σ H) (ha : q_kd X a = 12) (hdg : decode cc pc = .ok (.getfield 24, 3)) (kk : W p l e R s m args below meth c H locs cells slots Q (F0 m (pc + 3) ls (.ref (q_rf X a 7) :: rest))) : W p l e R s m args below meth c H locs cells slots Q (F0 m pc ls (.ref a :: rest)) :=
  q_getf (ref := "CheatHeapModel") E hI ha ⟨rfl, by decide⟩ (show vwCl[11]? = some (RX12, TX12, 46) from rfl) q_inX12 (f := 7) (by decide) (q_in_t6 (i := 232) (by first | rfl | decide +kernel) rfl) (Or.inl rfl) rfl hdg kk
theorem gs_X12_203_12 (E : q_E p c cc s m args RX12 X) (hI : q_I X n σ0 H0 locs σ H) (ha : q_kd X a = 12) (hdg : decode cc pc = .ok (.getfield 203, 3)) (kk : W p l e R s m args below meth c H locs cells slots Q (F0 m (pc + 3) ls (.int (σ.1 a 8) :: rest))) : W p l e R s m args below meth c H locs cells slots Q (F0 m pc ls (.ref a :: rest)) :=
  q_getf (ref := "CheatHeapModel") E hI ha ⟨rfl, by decide⟩ (show vwCl[11]? = some (RX12, TX12, 46) from rfl) q_inX12 (f := 8) (by decide) (q_in_t6 (i := 233) (by first | rfl | decide +kernel) rfl) (Or.inl rfl) rfl hdg kk
theorem ps_X12_203_12 (E : q_E p c cc s m args RX12 X) (hI : q_I X n σ0 H0 locs σ H) (ha : q_kd X a = 12) {v : Int32} (hcl : n < 1) (h1 : 0 ≤ v.toInt) (h2 : v.toInt ≤ 900) (hdg : decode cc pc = .ok (.putfield 203, 3)) (kk : ∀ (H1 : Heap) (locs1 : List Loc) (σ1 : ST), σ1 = q_si σ a 8 v → q_I X n σ0 H0 locs1 σ1 H1 → W p l e R s m args below meth c H1 locs1 cells slots Q (F0 m (pc + 3) ls rest)) : W p l e R s m args below meth c H locs cells slots Q (F0 m pc ls (.int v :: .ref a :: rest)) :=
  q_puti (ref := "CheatHeapModel") E hI ha ⟨rfl, by decide⟩ (show vwCl[11]? = some (RX12, TX12, 46) from rfl) q_inX12 tyX12_ok nmX12 (f := 8) (by decide) (q_in_t6 (i := 233) (by first | rfl | decide +kernel) rfl) (Or.inl rfl) rfl rfl hcl hdg (q_inB rfl h1 h2) (Or.inl rfl) (fun H1 l1 h => kk H1 l1 _ rfl h)
theorem kv_X12_206 : q_okV RX12 206 RX12 yX12_lays cX12_lays 3 none 1 := ⟨(q_in_t7 (i := 172) (by first | rfl | decide +kernel) rfl), (q_in_t7 (i := 174) (by first | rfl | decide +kernel) rfl), (q_in_p (i := 40) (by decide +kernel) rfl), (q_in_t1 (i := 14) (by first | rfl | decide +kernel) rfl), (q_in_t7 (i := 175) (by first | rfl | decide +kernel) rfl), ⟨rfl, by decide, by decide, rfl⟩⟩
theorem gs_X12_32_12 (E : q_E p c cc s m args RX12 X) (hI : q_I X n σ0 H0 locs σ H) (ha : q_kd X a = 12) (hdg : decode cc pc = .ok (.getfield 32, 3)) (kk : W p l e R s m args below meth c H locs cells slots Q (F0 m (pc + 3) ls (.int (σ.1 a 11) :: rest))) : W p l e R s m args below meth c H locs cells slots Q (F0 m pc ls (.ref a :: rest)) :=
  q_getf (ref := "CheatHeapModel") E hI ha ⟨rfl, by decide⟩ (show vwCl[11]? = some (RX12, TX12, 46) from rfl) q_inX12 (f := 11) (by decide) (q_in_t6 (i := 236) (by first | rfl | decide +kernel) rfl) (Or.inl rfl) rfl hdg kk
theorem gs_X12_28_12 (E : q_E p c cc s m args RX12 X) (hI : q_I X n σ0 H0 locs σ H) (ha : q_kd X a = 12) (hdg : decode cc pc = .ok (.getfield 28, 3)) (kk : W p l e R s m args below meth c H locs cells slots Q (F0 m (pc + 3) ls (.int (σ.1 a 10) :: rest))) : W p l e R s m args below meth c H locs cells slots Q (F0 m pc ls (.ref a :: rest)) :=
  q_getf (ref := "CheatHeapModel") E hI ha ⟨rfl, by decide⟩ (show vwCl[11]? = some (RX12, TX12, 46) from rfl) q_inX12 (f := 10) (by decide) (q_in_t6 (i := 235) (by first | rfl | decide +kernel) rfl) (Or.inl rfl) rfl hdg kk
end QS
end
/-! FROM 30.trays.b00.lean.txt -/
section
set_option maxRecDepth 100000 in
set_option maxHeartbeats 4000000 in
theorem c_X12_status (l : Launch) (X : XW) (σ : ST) (a : Nat) (ha : q_kd X a = 12) : Met l yX12_status (q_ws yX12_status cX12_status 1 (some .int)) (q_rm 0 0) (q_P X σ [.ref a]) (q_Qi X 8 σ (fun (r : Int32) (σ' : ST) => (r, σ') = F_X12_status X σ a ∧ q_ow [(12, 1)] [] X σ σ')) 0 0 (q_reg X) := by
  refine q_met 8 (by first | exact rfl | decide +kernel) rfl (Nat.le_of_ble_eq_true rfl) (fun p e s m below meth c E hml hr hlk hI ls hl => ?_)
  have hx := E.1
  have hb := E.2.1
  have hl : lv_has ls 1 [(0, .ref a)] := hl
  have fr_σ : q_ow [(12, 1)] [] X σ σ := q_ow.rf
  obtain ⟨out, hout⟩ : ∃ o, o = F_X12_status X σ a := ⟨_, rfl⟩
  have hF := hout.symm
  unfold F_X12_status at hF
  refine lv_aload_n hx hb dX12_status_0 rfl (lv_at hl 0 rfl) ?_
  refine lv_iconst (v := 0) hx hb dX12_status_1 zki_0 ?_
  refine ps_X12_59_12 E hI ha (by decide) dX12_status_2 (fun H locs σ_1 hσ_1 hI => ?_)
  replace hF := q_letX hF hσ_1
  have fr_σ_1 := fr_σ.si hσ_1 ha rfl
  refine lv_aload_n hx hb dX12_status_5 rfl (lv_at hl 0 rfl) ?_
  refine gs_X12_62_12 E hI ha dX12_status_6 ?_
  refine lv_topi (fun f_2 ef_2 => ?_)
  replace hF := q_letX hF ef_2
  exact q_reti E hr hlk hI ⟨(hF.trans hout), fr_σ_1⟩ dX12_status_9

set_option maxRecDepth 100000 in
set_option maxHeartbeats 4000000 in
theorem c_X12_top (l : Launch) (X : XW) (σ : ST) (a : Nat) (ha : q_kd X a = 12) : Met l yX12_top (q_ws yX12_top cX12_top 1 (some .long)) (q_rm 0 0) (q_P X σ [.ref a]) (q_Ql X 8 σ (fun (r : Int64) (σ' : ST) => (r, σ') = F_X12_top X σ a ∧ q_ow [(12, 1)] [] X σ σ')) 0 0 (q_reg X) := by
  refine q_met 8 (by first | exact rfl | decide +kernel) rfl (Nat.le_of_ble_eq_true rfl) (fun p e s m below meth c E hml hr hlk hI ls hl => ?_)
  have hx := E.1
  have hb := E.2.1
  have hl : lv_has ls 1 [(0, .ref a)] := hl
  have fr_σ : q_ow [(12, 1)] [] X σ σ := q_ow.rf
  obtain ⟨out, hout⟩ : ∃ o, o = F_X12_top X σ a := ⟨_, rfl⟩
  have hF := hout.symm
  unfold F_X12_top at hF
  refine lv_aload_n hx hb dX12_top_0 rfl (lv_at hl 0 rfl) ?_
  refine lv_iconst (v := 0) hx hb dX12_top_1 zki_0 ?_
  refine ps_X12_59_12 E hI ha (by decide) dX12_top_2 (fun H locs σ_1 hσ_1 hI => ?_)
  replace hF := q_letX hF hσ_1
  have fr_σ_1 := fr_σ.si hσ_1 ha rfl
  refine lv_aload_n hx hb dX12_top_5 rfl (lv_at hl 0 rfl) ?_
  refine gs_X12_65_12 E hI ha dX12_top_6 ?_
  refine lv_topl (fun g_2 eg_2 => ?_)
  replace hF := q_letX hF eg_2
  exact q_retl E hr hlk hI ⟨(hF.trans hout), fr_σ_1⟩ dX12_top_9

set_option maxRecDepth 100000 in
set_option maxHeartbeats 4000000 in
theorem c_X12_bottom (l : Launch) (X : XW) (σ : ST) (a : Nat) (ha : q_kd X a = 12) : Met l yX12_bottom (q_ws yX12_bottom cX12_bottom 1 (some .long)) (q_rm 0 0) (q_P X σ [.ref a]) (q_Ql X 8 σ (fun (r : Int64) (σ' : ST) => (r, σ') = F_X12_bottom X σ a ∧ q_ow [(12, 1)] [] X σ σ')) 0 0 (q_reg X) := by
  refine q_met 8 (by first | exact rfl | decide +kernel) rfl (Nat.le_of_ble_eq_true rfl) (fun p e s m below meth c E hml hr hlk hI ls hl => ?_)
  have hx := E.1
  have hb := E.2.1
  have hl : lv_has ls 1 [(0, .ref a)] := hl
  have fr_σ : q_ow [(12, 1)] [] X σ σ := q_ow.rf
  obtain ⟨out, hout⟩ : ∃ o, o = F_X12_bottom X σ a := ⟨_, rfl⟩
  have hF := hout.symm
  unfold F_X12_bottom at hF
  refine lv_aload_n hx hb dX12_bottom_0 rfl (lv_at hl 0 rfl) ?_
  refine lv_iconst (v := 0) hx hb dX12_bottom_1 zki_0 ?_
  refine ps_X12_59_12 E hI ha (by decide) dX12_bottom_2 (fun H locs σ_1 hσ_1 hI => ?_)
  replace hF := q_letX hF hσ_1
  have fr_σ_1 := fr_σ.si hσ_1 ha rfl
  refine lv_aload_n hx hb dX12_bottom_5 rfl (lv_at hl 0 rfl) ?_
  refine gs_X12_7_12 E hI ha dX12_bottom_6 ?_
  refine lv_topl (fun g_2 eg_2 => ?_)
  replace hF := q_letX hF eg_2
  exact q_retl E hr hlk hI ⟨(hF.trans hout), fr_σ_1⟩ dX12_bottom_9

set_option maxRecDepth 100000 in
set_option maxHeartbeats 4000000 in
theorem c_X12_no (l : Launch) (X : XW) (σ : ST) (a : Nat) (v1 : Int32) (ha : q_kd X a = 12) : Met l yX12_no (q_ws yX12_no cX12_no 2 (some .boolean)) (q_rm 0 0) (q_P X σ [.ref a, .int v1]) (q_Qi X 8 σ (fun (r : Int32) (σ' : ST) => (0 ≤ r.toInt ∧ r.toInt ≤ 1) ∧ (r.toInt = 0) ∧ (r, σ') = F_X12_no X σ a v1 ∧ q_ow [(12, 0)] [] X σ σ')) 0 0 (q_reg X) := by
  refine q_met 8 (by first | exact rfl | decide +kernel) rfl (Nat.le_of_ble_eq_true rfl) (fun p e s m below meth c E hml hr hlk hI ls hl => ?_)
  have hx := E.1
  have hb := E.2.1
  have hl : lv_has ls 2 [(0, .ref a), (1, .int v1)] := hl
  have fr_σ : q_ow [(12, 0)] [] X σ σ := q_ow.rf
  obtain ⟨out, hout⟩ : ∃ o, o = F_X12_no X σ a v1 := ⟨_, rfl⟩
  have hF := hout.symm
  unfold F_X12_no at hF
  refine lv_aload_n hx hb dX12_no_0 rfl (lv_at hl 0 rfl) ?_
  refine lv_iload_n hx hb dX12_no_1 rfl (lv_at hl 1 rfl) ?_
  refine ps_X12_62_12 E hI ha (by decide) dX12_no_2 (fun H locs σ_1 hσ_1 hI => ?_)
  replace hF := q_letX hF hσ_1
  have fr_σ_1 := fr_σ.si hσ_1 ha rfl
  refine lv_iconst (v := 0) hx hb dX12_no_5 zki_0 ?_
  have hrv : (0 : Int32).toInt = 0 := zt_0
  exact q_retz E hr hlk hI ⟨by decide, by decide⟩ ⟨⟨by decide, by decide⟩, (by decide), (hF.trans hout), fr_σ_1⟩ dX12_no_6

set_option maxRecDepth 100000 in
set_option maxHeartbeats 4000000 in
theorem c_X12_refuse (l : Launch) (X : XW) (σ : ST) (a : Nat) (v1 : Int32) (ha : q_kd X a = 12) : Met l yX12_refuse (q_ws yX12_refuse cX12_refuse 2 (some .int)) (q_rm 0 0) (q_P X σ [.ref a, .int v1]) (q_Qi X 8 σ (fun (r : Int32) (σ' : ST) => (r.toInt = -1) ∧ (r, σ') = F_X12_refuse X σ a v1 ∧ q_ow [(12, 0)] [] X σ σ')) 0 0 (q_reg X) := by
  refine q_met 8 (by first | exact rfl | decide +kernel) rfl (Nat.le_of_ble_eq_true rfl) (fun p e s m below meth c E hml hr hlk hI ls hl => ?_)
  have hx := E.1
  have hb := E.2.1
  have hl : lv_has ls 2 [(0, .ref a), (1, .int v1)] := hl
  have fr_σ : q_ow [(12, 0)] [] X σ σ := q_ow.rf
  obtain ⟨out, hout⟩ : ∃ o, o = F_X12_refuse X σ a v1 := ⟨_, rfl⟩
  have hF := hout.symm
  unfold F_X12_refuse at hF
  refine lv_aload_n hx hb dX12_refuse_0 rfl (lv_at hl 0 rfl) ?_
  refine lv_iload_n hx hb dX12_refuse_1 rfl (lv_at hl 1 rfl) ?_
  refine ps_X12_62_12 E hI ha (by decide) dX12_refuse_2 (fun H locs σ_1 hσ_1 hI => ?_)
  replace hF := q_letX hF hσ_1
  have fr_σ_1 := fr_σ.si hσ_1 ha rfl
  refine lv_iconst (v := (-1)) hx hb dX12_refuse_5 zki_m1 ?_
  have hrv : ((-1) : Int32).toInt = (-1) := zt_m1
  exact q_reti E hr hlk hI ⟨(by decide), (hF.trans hout), fr_σ_1⟩ dX12_refuse_6

set_option maxRecDepth 100000 in
set_option maxHeartbeats 4000000 in
theorem c_X12_trayed (l : Launch) (X : XW) (σ : ST) (a : Nat) (v1 : Int32) (ha : q_kd X a = 12) : Met l yX12_trayed (q_ws yX12_trayed cX12_trayed 2 (some .int)) (q_rm 0 0) (q_P X σ [.ref a, .int v1]) (q_Qi X 9 σ (fun (r : Int32) (σ' : ST) => σ' = σ ∧ (r.toInt = 0 ↔ (0 ≤ v1.toInt ∧ v1.toInt < 4 ∧ 0 ≤ (σ.1 (q_rf X a 5) v1.toNatClampNeg).toInt)) ∧ (r.toInt = 0 ∨ r.toInt = 1 ∨ r.toInt = 3) ∧ r = F_X12_trayed X σ a v1)) 0 0 (q_reg X) := by
  refine q_met 9 (by first | exact rfl | decide +kernel) rfl (Nat.le_of_ble_eq_true rfl) (fun p e s m below meth c E hml hr hlk hI ls hl => ?_)
  have hx := E.1
  have hb := E.2.1
  have hl : lv_has ls 2 [(0, .ref a), (1, .int v1)] := hl
  obtain ⟨out, hout⟩ : ∃ o, o = F_X12_trayed X σ a v1 := ⟨_, rfl⟩
  have hF := hout.symm
  unfold F_X12_trayed at hF
  refine lv_iload_n hx hb dX12_trayed_0 rfl (lv_at hl 1 rfl) ?_
  refine q_if_lt (A := v1.toInt) E rfl (tgt := 9) dX12_trayed_1 (by decide) (fun c_1 => ?_) (fun c_1 => ?_)
  · skip
    replace hF := q_ifp hF c_1
    refine lv_iconst (v := 1) hx hb dX12_trayed_9 zki_1 ?_
    refine lv_goto (tgt := 27) hx hb dX12_trayed_10 (by decide) ?_
    have hrv : (1 : Int32).toInt = 1 := zt_1
    exact q_reti E hr hlk hI ⟨rfl, (by constructor <;> intro h9 <;> omega), (by first | (clear c_1; omega) | omega), (hF.trans hout)⟩ dX12_trayed_27
  · skip
    replace hF := q_ifn hF (Int.not_lt.mpr c_1)
    refine lv_iload_n hx hb dX12_trayed_4 rfl (lv_at hl 1 rfl) ?_
    refine lv_iconst (v := 4) hx hb dX12_trayed_5 zki_4 ?_
    refine q_icmp_lt (A := v1.toInt) (B := 4) E rfl (by decide) (tgt := 13) dX12_trayed_6 (by decide) (fun c_2 => ?_) (fun c_2 => ?_)
    · skip
      replace hF := q_ifp hF c_2
      refine lv_aload_n hx hb dX12_trayed_13 rfl (lv_at hl 0 rfl) ?_
      refine gs_X12_17_12 E hI ha dX12_trayed_14 ?_
      refine lv_iload_n hx hb dX12_trayed_17 rfl (lv_at hl 1 rfl) ?_
      refine q_iald E hI (q_tk (k' := 31) hI ha rfl (Nat.succ_ne_zero _)) ⟨by decide, rfl⟩ (by omega) (by rw [q_lnk (v := 4) hI (q_tk (k' := 31) hI ha rfl (Nat.succ_ne_zero _)) rfl (by decide)]; omega) dX12_trayed_18 ?_
      refine lv_topi (fun f_3 ef_3 => ?_)
      replace hF := q_letX hF ef_3
      have bf_3 : -1 ≤ f_3.toInt ∧ f_3.toInt ≤ 60 := by rw [ef_3]; exact q_bd hI (q_tk (k' := 31) hI ha rfl (Nat.succ_ne_zero _)) rfl
      have if_3 : f_3.toInt = (σ.1 (q_rf X a 5) (v1 : Int32).toNatClampNeg).toInt := congrArg Int32.toInt ef_3
      refine q_if_ge (A := f_3.toInt) E rfl (tgt := 26) dX12_trayed_19 (by decide) (fun c_4 => ?_) (fun c_4 => ?_)
      · skip
        replace hF := q_ifn hF (Int.not_lt.mpr c_4)
        refine lv_iconst (v := 0) hx hb dX12_trayed_26 zki_0 ?_
        have hrv : (0 : Int32).toInt = 0 := zt_0
        exact q_reti E hr hlk hI ⟨rfl, (by constructor <;> intro h9 <;> omega), (by first | (clear c_1 c_2 bf_3 if_3 c_4; omega) | omega), (hF.trans hout)⟩ dX12_trayed_27
      · skip
        replace hF := q_ifp hF c_4
        refine lv_iconst (v := 3) hx hb dX12_trayed_22 zki_3 ?_
        refine lv_goto (tgt := 27) hx hb dX12_trayed_23 (by decide) ?_
        have hrv : (3 : Int32).toInt = 3 := zt_3
        exact q_reti E hr hlk hI ⟨rfl, (by constructor <;> intro h9 <;> omega), (by first | (clear c_1 c_2 bf_3 if_3 c_4; omega) | omega), (hF.trans hout)⟩ dX12_trayed_27
    · skip
      replace hF := q_ifn hF (Int.not_lt.mpr c_2)
      refine lv_iconst (v := 1) hx hb dX12_trayed_9 zki_1 ?_
      refine lv_goto (tgt := 27) hx hb dX12_trayed_10 (by decide) ?_
      have hrv : (1 : Int32).toInt = 1 := zt_1
      exact q_reti E hr hlk hI ⟨rfl, (by constructor <;> intro h9 <;> omega), (by first | (clear c_1 c_2; omega) | omega), (hF.trans hout)⟩ dX12_trayed_27

set_option maxRecDepth 100000 in
set_option maxHeartbeats 4000000 in
theorem c_X12_placed (l : Launch) (X : XW) (σ : ST) (a : Nat) (v1 : Int32) (v2 : Int32) (ha : q_kd X a = 12) : Met l yX12_placed (q_ws yX12_placed cX12_placed 4 (some .int)) (q_rm 1 21) (q_P X σ [.ref a, .int v1, .int v2]) (q_Qi X 9 σ (fun (r : Int32) (σ' : ST) => σ' = σ ∧ (r.toInt = 0 ↔ (0 ≤ v1.toInt ∧ v1.toInt < 4 ∧ 0 ≤ v2.toInt ∧ v2.toInt + 1 ≤ (σ.1 (q_rf X a 5) v1.toNatClampNeg).toInt)) ∧ (r.toInt = 0 ∨ r.toInt = 1 ∨ r.toInt = 3 ∨ r.toInt = 4) ∧ r = F_X12_placed X σ a v1 v2)) 0 0 (q_reg X) := by
  refine q_met 9 (by first | exact rfl | decide +kernel) rfl (Nat.le_of_ble_eq_true rfl) (fun p e s m below meth c E hml hr hlk hI ls hl => ?_)
  have hx := E.1
  have hb := E.2.1
  have hl : lv_has ls 4 [(0, .ref a), (1, .int v1), (2, .int v2)] := hl
  obtain ⟨out, hout⟩ : ∃ o, o = F_X12_placed X σ a v1 v2 := ⟨_, rfl⟩
  have hF := hout.symm
  unfold F_X12_placed at hF
  refine lv_aload_n hx hb dX12_placed_0 rfl (lv_at hl 0 rfl) ?_
  refine lv_iload_n hx hb dX12_placed_1 rfl (lv_at hl 1 rfl) ?_
  refine q_ci (q_rV11_1 (rest := []) E (hml.trans hl.1.symm) hI (c_X12_trayed l X σ a v1 ha) kv_X12_78 ha ⟨Nat.le_of_ble_eq_true rfl, Nat.le_of_ble_eq_true rfl⟩ (Nat.le_of_ble_eq_true rfl) dX12_placed_2) hI (Nat.le_of_ble_eq_true rfl) (fun r_1 σ_2 H locs hpσ_2 hkσ_2 hI => ?_)
  have ahpσ_2 := hpσ_2.1
  have bhpσ_2 := hpσ_2.2.1
  have chpσ_2 := hpσ_2.2.2.1
  have dhpσ_2 := hpσ_2.2.2.2
  clear hpσ_2
  replace hI := q_Irw ahpσ_2 hI
  replace hF := q_letX hF dhpσ_2
  refine lv_istore_n (lv' := [(3, .int r_1), (0, .ref a), (1, .int v1), (2, .int v2)]) hx hb dX12_placed_5 rfl hl (by decide) rfl (fun ls hl => ?_)
  refine lv_iload_n hx hb dX12_placed_6 rfl (lv_at hl 0 rfl) ?_
  refine q_if_le (A := r_1.toInt) E rfl (tgt := 14) dX12_placed_7 (by decide) (fun c_3 => ?_) (fun c_3 => ?_)
  · skip
    replace hF := q_ifn hF (Int.not_lt.mpr c_3)
    refine lv_iload_n hx hb dX12_placed_14 rfl (lv_at hl 3 rfl) ?_
    refine q_if_lt (A := v2.toInt) E rfl (tgt := 28) dX12_placed_15 (by decide) (fun c_4 => ?_) (fun c_4 => ?_)
    · skip
      replace hF := q_ifp hF c_4
      refine lv_iconst (v := 4) hx hb dX12_placed_28 zki_4 ?_
      refine lv_goto (tgt := 33) hx hb dX12_placed_29 (by decide) ?_
      have hrv : (4 : Int32).toInt = 4 := zt_4
      exact q_reti E hr hlk hI ⟨rfl, (by constructor <;> intro h9 <;> omega), (by first | (clear ahpσ_2 bhpσ_2 chpσ_2 dhpσ_2 c_3 c_4; omega) | omega), (hF.trans hout)⟩ dX12_placed_33
    · skip
      replace hF := q_ifn hF (Int.not_lt.mpr c_4)
      refine lv_iload_n hx hb dX12_placed_18 rfl (lv_at hl 3 rfl) ?_
      refine lv_aload_n hx hb dX12_placed_19 rfl (lv_at hl 1 rfl) ?_
      refine gs_X12_17_12 E hI ha dX12_placed_20 ?_
      refine lv_iload_n hx hb dX12_placed_23 rfl (lv_at hl 2 rfl) ?_
      refine q_iald E hI (q_tk (k' := 31) hI ha rfl (Nat.succ_ne_zero _)) ⟨by decide, rfl⟩ (by first | (clear ahpσ_2 dhpσ_2 c_4; omega) | omega) (by rw [q_lnk (v := 4) hI (q_tk (k' := 31) hI ha rfl (Nat.succ_ne_zero _)) rfl (by decide)]; omega) dX12_placed_24 ?_
      refine lv_topi (fun f_5 ef_5 => ?_)
      replace hF := q_letX hF ef_5
      have bf_5 : -1 ≤ f_5.toInt ∧ f_5.toInt ≤ 60 := by rw [ef_5]; exact q_bd hI (q_tk (k' := 31) hI ha rfl (Nat.succ_ne_zero _)) rfl
      have if_5 : f_5.toInt = (σ.1 (q_rf X a 5) (v1 : Int32).toNatClampNeg).toInt := congrArg Int32.toInt ef_5
      refine q_icmp_lt (A := v2.toInt) (B := f_5.toInt) E rfl rfl (tgt := 32) dX12_placed_25 (by decide) (fun c_6 => ?_) (fun c_6 => ?_)
      · skip
        replace hF := q_ifp hF c_6
        refine lv_iconst (v := 0) hx hb dX12_placed_32 zki_0 ?_
        have hrv : (0 : Int32).toInt = 0 := zt_0
        exact q_reti E hr hlk hI ⟨rfl, (by constructor <;> intro h9 <;> omega), (by first | (clear ahpσ_2 bhpσ_2 chpσ_2 dhpσ_2 c_3 c_4 bf_5 if_5 c_6; omega) | omega), (hF.trans hout)⟩ dX12_placed_33
      · skip
        replace hF := q_ifn hF (Int.not_lt.mpr c_6)
        refine lv_iconst (v := 4) hx hb dX12_placed_28 zki_4 ?_
        refine lv_goto (tgt := 33) hx hb dX12_placed_29 (by decide) ?_
        have hrv : (4 : Int32).toInt = 4 := zt_4
        exact q_reti E hr hlk hI ⟨rfl, (by constructor <;> intro h9 <;> omega), (by first | (clear ahpσ_2 bhpσ_2 chpσ_2 dhpσ_2 c_3 c_4 bf_5 if_5 c_6; omega) | omega), (hF.trans hout)⟩ dX12_placed_33
  · skip
    replace hF := q_ifp hF c_3
    refine lv_iload_n hx hb dX12_placed_10 rfl (lv_at hl 0 rfl) ?_
    refine lv_goto (tgt := 33) hx hb dX12_placed_11 (by decide) ?_
    exact q_reti E hr hlk hI ⟨rfl, (by constructor <;> intro h9 <;> omega), (by first | (clear ahpσ_2 bhpσ_2 dhpσ_2; omega) | omega), (hF.trans hout)⟩ dX12_placed_33

set_option maxRecDepth 100000 in
set_option maxHeartbeats 4000000 in
theorem c_X12_cut (l : Launch) (X : XW) (σ : ST) (v0 : Int32) (v1 : Int64) : Met l yX12_cut (q_ws yX12_cut cX12_cut 3 (some .long)) (q_rm 0 0) (q_P X σ [.int v0, .long v1]) (q_Ql X 9 σ (fun (r : Int64) (σ' : ST) => σ' = σ ∧ r = F_X12_cut X σ v0 v1)) 0 0 (q_reg X) := by
  refine q_met 9 (by first | exact rfl | decide +kernel) rfl (Nat.le_of_ble_eq_true rfl) (fun p e s m below meth c E hml hr hlk hI ls hl => ?_)
  have hx := E.1
  have hb := E.2.1
  have hl : lv_has ls 3 [(0, .int v0), (1, .long v1)] := hl
  obtain ⟨out, hout⟩ : ∃ o, o = F_X12_cut X σ v0 v1 := ⟨_, rfl⟩
  have hF := hout.symm
  unfold F_X12_cut at hF
  refine lv_iload_n hx hb dX12_cut_0 rfl (lv_at hl 0 rfl) ?_
  refine q_if_ne (A := v0.toInt) E rfl (tgt := 11) dX12_cut_1 (by decide) (fun c_1 => ?_) (fun c_1 => ?_)
  · skip
    replace hF := q_ifn hF c_1
    refine lv_iload_n hx hb dX12_cut_11 rfl (lv_at hl 0 rfl) ?_
    refine lv_iconst (v := 1) hx hb dX12_cut_12 zki_1 ?_
    refine q_icmp_ne (A := v0.toInt) (B := 1) E rfl (by decide) (tgt := 23) dX12_cut_13 (by decide) (fun c_2 => ?_) (fun c_2 => ?_)
    · skip
      replace hF := q_ifn hF c_2
      refine lv_iload_n hx hb dX12_cut_23 rfl (lv_at hl 0 rfl) ?_
      refine lv_iconst (v := 2) hx hb dX12_cut_24 zki_2 ?_
      refine q_icmp_ne (A := v0.toInt) (B := 2) E rfl (by decide) (tgt := 34) dX12_cut_25 (by decide) (fun c_3 => ?_) (fun c_3 => ?_)
      · skip
        replace hF := q_ifn hF c_3
        refine lv_lload_n hx hb dX12_cut_34 rfl (lv_at hl 1 rfl) ?_
        exact q_retl E hr hlk hI ⟨rfl, (hF.trans hout)⟩ dX12_cut_35
      · skip
        replace hF := q_ifp hF c_3
        refine lv_lload_n hx hb dX12_cut_28 rfl (lv_at hl 1 rfl) ?_
        refine lv_l2i hx hb dX12_cut_29 rfl ?_
        refine lv_topi (fun z_4 ez_4 => ?_)
        replace hF := q_letX hF ez_4
        refine lv_i2l hx hb dX12_cut_30 rfl ?_
        refine lv_topl (fun y_5 ey_5 => ?_)
        replace hF := q_letX hF ey_5
        refine lv_goto (tgt := 35) hx hb dX12_cut_31 (by decide) ?_
        exact q_retl E hr hlk hI ⟨rfl, (hF.trans hout)⟩ dX12_cut_35
    · skip
      replace hF := q_ifp hF c_2
      refine lv_lload_n hx hb dX12_cut_16 rfl (lv_at hl 1 rfl) ?_
      refine lv_l2i hx hb dX12_cut_17 rfl ?_
      refine lv_topi (fun z_6 ez_6 => ?_)
      replace hF := q_letX hF ez_6
      refine lv_i2s hx hb dX12_cut_18 rfl ?_
      refine lv_topi (fun z_7 ez_7 => ?_)
      replace hF := q_letX hF ez_7
      refine lv_i2l hx hb dX12_cut_19 rfl ?_
      refine lv_topl (fun y_8 ey_8 => ?_)
      replace hF := q_letX hF ey_8
      refine lv_goto (tgt := 35) hx hb dX12_cut_20 (by decide) ?_
      exact q_retl E hr hlk hI ⟨rfl, (hF.trans hout)⟩ dX12_cut_35
  · skip
    replace hF := q_ifp hF c_1
    refine lv_lload_n hx hb dX12_cut_4 rfl (lv_at hl 1 rfl) ?_
    refine lv_l2i hx hb dX12_cut_5 rfl ?_
    refine lv_topi (fun z_9 ez_9 => ?_)
    replace hF := q_letX hF ez_9
    refine lv_i2b hx hb dX12_cut_6 rfl ?_
    refine lv_topi (fun z_10 ez_10 => ?_)
    replace hF := q_letX hF ez_10
    refine lv_i2l hx hb dX12_cut_7 rfl ?_
    refine lv_topl (fun y_11 ey_11 => ?_)
    replace hF := q_letX hF ey_11
    refine lv_goto (tgt := 35) hx hb dX12_cut_8 (by decide) ?_
    exact q_retl E hr hlk hI ⟨rfl, (hF.trans hout)⟩ dX12_cut_35

set_option maxRecDepth 100000 in
set_option maxHeartbeats 4000000 in
theorem c_X12_tray (l : Launch) (X : XW) (σ : ST) (a : Nat) (v1 : Int32) (v2 : Int32) (v3 : Int32) (ha : q_kd X a = 12) : Met l yX12_tray (q_ws yX12_tray cX12_tray 5 (some .boolean)) (q_rm 1 21) (q_P X σ [.ref a, .int v1, .int v2, .int v3]) (q_Qi X 0 σ (fun (r : Int32) (σ' : ST) => (0 ≤ r.toInt ∧ r.toInt ≤ 1) ∧ (q_KS (fun b g => (b = q_rf X a 4 ∨ b = q_rf X a 5) ∧ g = v1.toNatClampNeg) 8 X σ σ') ∧ (r.toInt = 1 ↔ (0 ≤ v1.toInt ∧ v1.toInt < 4 ∧ 0 ≤ v2.toInt ∧ v2.toInt ≤ 3 ∧ 0 ≤ v3.toInt ∧ v3.toInt ≤ 60)) ∧ (r.toInt = 1 → σ'.1 (q_rf X a 4) v1.toNatClampNeg = v2 ∧ σ'.1 (q_rf X a 5) v1.toNatClampNeg = v3) ∧ (r.toInt = 0 → q_K 8 X σ σ') ∧ (r, σ') = F_X12_tray X σ a v1 v2 v3 ∧ q_ow [(12, 0), (12, 1), (30, 99), (31, 99)] [(32, 99)] X σ σ')) 0 0 (q_reg X) := by
  refine q_met 0 (by first | exact rfl | decide +kernel) rfl (Nat.le_of_ble_eq_true rfl) (fun p e s m below meth c E hml hr hlk hI ls hl => ?_)
  have hx := E.1
  have hb := E.2.1
  have hl : lv_has ls 5 [(0, .ref a), (1, .int v1), (2, .int v2), (3, .int v3)] := hl
  have ks_σ : q_KS (fun b g => (b = q_rf X a 4 ∨ b = q_rf X a 5) ∧ g = v1.toNatClampNeg) 8 X σ σ := q_KS.rf
  have fr_σ : q_ow [(12, 0), (12, 1), (30, 99), (31, 99)] [(32, 99)] X σ σ := q_ow.rf
  have kt4 : q_kd X (q_rf X a 4) = 30 := q_tk (k' := 30) hI ha rfl (by decide)
  have kt5 : q_kd X (q_rf X a 5) = 31 := q_tk (k' := 31) hI ha rfl (by decide)
  have n45 : q_rf X a 4 ≠ q_rf X a 5 := m_ne kt4 kt5 (by decide)
  obtain ⟨out, hout⟩ : ∃ o, o = F_X12_tray X σ a v1 v2 v3 := ⟨_, rfl⟩
  have hF := hout.symm
  unfold F_X12_tray at hF
  refine lv_aload_n hx hb dX12_tray_0 rfl (lv_at hl 0 rfl) ?_
  refine lv_iconst (v := 0) hx hb dX12_tray_1 zki_0 ?_
  refine ps_X12_59_12 E hI ha (by decide) dX12_tray_2 (fun H locs σ_1 hσ_1 hI => ?_)
  replace hF := q_letX hF hσ_1
  have fr_σ_1 := fr_σ.si hσ_1 ha rfl
  have ks_σ_1 : q_KS (fun b g => (b = q_rf X a 4 ∨ b = q_rf X a 5) ∧ g = v1.toNatClampNeg) 8 X σ σ_1 := ks_σ.si hσ_1 ha (show 8 < 9 by decide)
  have kzσ_1 : q_K 8 X σ σ_1 := by rw [hσ_1]; exact q_K.si ha (by decide)
  refine lv_aload_n hx hb dX12_tray_5 rfl (lv_at hl 0 rfl) ?_
  refine lv_iconst (v := 0) hx hb dX12_tray_6 zki_0 ?_
  refine ps_X12_62_12 E hI ha (by decide) dX12_tray_7 (fun H locs σ_2 hσ_2 hI => ?_)
  replace hF := q_letX hF hσ_2
  have fr_σ_2 := fr_σ_1.si hσ_2 ha rfl
  have ks_σ_2 : q_KS (fun b g => (b = q_rf X a 4 ∨ b = q_rf X a 5) ∧ g = v1.toNatClampNeg) 8 X σ σ_2 := ks_σ_1.si hσ_2 ha (show 8 < 9 by decide)
  have kzσ_2 : q_K 8 X σ σ_2 := kzσ_1.tr (by rw [hσ_2]; exact q_K.si ha (by decide))
  refine lv_iload_n hx hb dX12_tray_10 rfl (lv_at hl 1 rfl) ?_
  refine q_if_lt (A := v1.toInt) E rfl (tgt := 28) dX12_tray_11 (by decide) (fun c_3 => ?_) (fun c_3 => ?_)
  · skip
    replace hF := q_ifp hF c_3
    refine lv_aload_n hx hb dX12_tray_28 rfl (lv_at hl 0 rfl) ?_
    refine lv_iconst (v := 1) hx hb dX12_tray_29 zki_1 ?_
    have kc_4 : (1 : Int32).toInt = 1 := zt_1
    refine q_ci (q_rV11_1 (rest := []) E (hml.trans hl.1.symm) hI (c_X12_no l X σ_2 a (1 : Int32) ha) kv_X12_74 ha ⟨Nat.le_of_ble_eq_true rfl, Nat.le_of_ble_eq_true rfl⟩ (Nat.le_of_ble_eq_true rfl) dX12_tray_30) hI (Nat.le_of_ble_eq_true rfl) (fun r_5 σ_6 H locs hpσ_6 hkσ_6 hI => ?_)
    have ahpσ_6 := hpσ_6.1
    have bhpσ_6 := hpσ_6.2.1
    have chpσ_6 := hpσ_6.2.2.1
    have dhpσ_6 := hpσ_6.2.2.2
    clear hpσ_6
    have fr_σ_6 := fr_σ_2.call dhpσ_6 rfl rfl
    replace hF := q_biX hF chpσ_6
    have ks_σ_6 : q_KS (fun b g => (b = q_rf X a 4 ∨ b = q_rf X a 5) ∧ g = v1.toNatClampNeg) 8 X σ σ_6 := ks_σ_2.K hkσ_6 (by decide)
    have kzσ_6 : q_K 8 X σ σ_6 := kzσ_2.tr (q_K.le hkσ_6 (by decide))
    exact q_retz E hr hlk hI ⟨by omega, by omega⟩ ⟨⟨by omega, by omega⟩, ks_σ_6, (by constructor <;> intro h9 <;> omega), (by intro h9; exfalso; omega), (fun _ => kzσ_6), (hF.trans hout), fr_σ_6⟩ dX12_tray_33
  · skip
    replace hF := q_ifn hF (Int.not_lt.mpr c_3)
    refine lv_iload_n hx hb dX12_tray_14 rfl (lv_at hl 1 rfl) ?_
    refine lv_iconst (v := 4) hx hb dX12_tray_15 zki_4 ?_
    have gc_7_v1 := q_rng v1
    refine q_icmp_ge (A := v1.toInt) (B := 4) E rfl (by decide) (tgt := 28) dX12_tray_16 (by decide) (fun c_7 => ?_) (fun c_7 => ?_)
    · skip
      replace hF := q_ifn hF (Int.not_lt.mpr c_7)
      refine lv_aload_n hx hb dX12_tray_28 rfl (lv_at hl 0 rfl) ?_
      refine lv_iconst (v := 1) hx hb dX12_tray_29 zki_1 ?_
      have kc_8 : (1 : Int32).toInt = 1 := zt_1
      refine q_ci (q_rV11_1 (rest := []) E (hml.trans hl.1.symm) hI (c_X12_no l X σ_2 a (1 : Int32) ha) kv_X12_74 ha ⟨Nat.le_of_ble_eq_true rfl, Nat.le_of_ble_eq_true rfl⟩ (Nat.le_of_ble_eq_true rfl) dX12_tray_30) hI (Nat.le_of_ble_eq_true rfl) (fun r_9 σ_10 H locs hpσ_10 hkσ_10 hI => ?_)
      have ahpσ_10 := hpσ_10.1
      have bhpσ_10 := hpσ_10.2.1
      have chpσ_10 := hpσ_10.2.2.1
      have dhpσ_10 := hpσ_10.2.2.2
      clear hpσ_10
      have fr_σ_10 := fr_σ_2.call dhpσ_10 rfl rfl
      replace hF := q_biX hF chpσ_10
      have ks_σ_10 : q_KS (fun b g => (b = q_rf X a 4 ∨ b = q_rf X a 5) ∧ g = v1.toNatClampNeg) 8 X σ σ_10 := ks_σ_2.K hkσ_10 (by decide)
      have kzσ_10 : q_K 8 X σ σ_10 := kzσ_2.tr (q_K.le hkσ_10 (by decide))
      exact q_retz E hr hlk hI ⟨by omega, by omega⟩ ⟨⟨by omega, by omega⟩, ks_σ_10, (by constructor <;> intro h9 <;> omega), (by intro h9; exfalso; omega), (fun _ => kzσ_10), (hF.trans hout), fr_σ_10⟩ dX12_tray_33
    · skip
      replace hF := q_ifp hF c_7
      refine lv_iload_n hx hb dX12_tray_19 rfl (lv_at hl 2 rfl) ?_
      refine q_if_lt (A := v2.toInt) E rfl (tgt := 28) dX12_tray_20 (by decide) (fun c_11 => ?_) (fun c_11 => ?_)
      · skip
        replace hF := q_ifp hF c_11
        refine lv_aload_n hx hb dX12_tray_28 rfl (lv_at hl 0 rfl) ?_
        refine lv_iconst (v := 1) hx hb dX12_tray_29 zki_1 ?_
        have kc_12 : (1 : Int32).toInt = 1 := zt_1
        refine q_ci (q_rV11_1 (rest := []) E (hml.trans hl.1.symm) hI (c_X12_no l X σ_2 a (1 : Int32) ha) kv_X12_74 ha ⟨Nat.le_of_ble_eq_true rfl, Nat.le_of_ble_eq_true rfl⟩ (Nat.le_of_ble_eq_true rfl) dX12_tray_30) hI (Nat.le_of_ble_eq_true rfl) (fun r_13 σ_14 H locs hpσ_14 hkσ_14 hI => ?_)
        have ahpσ_14 := hpσ_14.1
        have bhpσ_14 := hpσ_14.2.1
        have chpσ_14 := hpσ_14.2.2.1
        have dhpσ_14 := hpσ_14.2.2.2
        clear hpσ_14
        have fr_σ_14 := fr_σ_2.call dhpσ_14 rfl rfl
        replace hF := q_biX hF chpσ_14
        have ks_σ_14 : q_KS (fun b g => (b = q_rf X a 4 ∨ b = q_rf X a 5) ∧ g = v1.toNatClampNeg) 8 X σ σ_14 := ks_σ_2.K hkσ_14 (by decide)
        have kzσ_14 : q_K 8 X σ σ_14 := kzσ_2.tr (q_K.le hkσ_14 (by decide))
        exact q_retz E hr hlk hI ⟨by omega, by omega⟩ ⟨⟨by omega, by omega⟩, ks_σ_14, (by constructor <;> intro h9 <;> omega), (by intro h9; exfalso; omega), (fun _ => kzσ_14), (hF.trans hout), fr_σ_14⟩ dX12_tray_33
      · skip
        replace hF := q_ifn hF (Int.not_lt.mpr c_11)
        refine lv_iload_n hx hb dX12_tray_23 rfl (lv_at hl 2 rfl) ?_
        refine lv_iconst (v := 3) hx hb dX12_tray_24 zki_3 ?_
        have gc_15_v2 := q_rng v2
        refine q_icmp_le (A := v2.toInt) (B := 3) E rfl (by decide) (tgt := 34) dX12_tray_25 (by decide) (fun c_15 => ?_) (fun c_15 => ?_)
        · skip
          replace hF := q_ifn hF (Int.not_lt.mpr c_15)
          refine lv_iload_n hx hb dX12_tray_34 rfl (lv_at hl 3 rfl) ?_
          refine lv_bipush (v := 60) hx hb dX12_tray_35 zkb_60 ?_
          have gc_16_v3 := q_rng v3
          refine q_icmp_le (A := v3.toInt) (B := 60) E rfl (by decide) (tgt := 46) dX12_tray_37 (by decide) (fun c_16 => ?_) (fun c_16 => ?_)
          · skip
            replace hF := q_ifn hF (Int.not_lt.mpr c_16)
            refine lv_iload_n hx hb dX12_tray_46 rfl (lv_at hl 3 rfl) ?_
            refine q_if_ge (A := v3.toInt) E rfl (tgt := 57) dX12_tray_47 (by decide) (fun c_17 => ?_) (fun c_17 => ?_)
            · skip
              replace hF := q_ifn hF (Int.not_lt.mpr c_17)
              refine lv_aload_n hx hb dX12_tray_57 rfl (lv_at hl 0 rfl) ?_
              refine gs_X12_13_12 E hI ha dX12_tray_58 ?_
              refine lv_iload_n hx hb dX12_tray_61 rfl (lv_at hl 1 rfl) ?_
              refine lv_iload_n hx hb dX12_tray_62 rfl (lv_at hl 2 rfl) ?_
              refine q_iastN E hI (q_tk (k' := 30) hI ha rfl (Nat.succ_ne_zero _)) ⟨by decide, rfl⟩ (by omega) (by rw [q_lnk (v := 4) hI (q_tk (k' := 30) hI ha rfl (Nat.succ_ne_zero _)) rfl (by decide)]; omega) (show 0 < 1 by decide) (q_inB (lo := 0) (hi := 3) rfl (by omega) (by omega)) dX12_tray_63 (fun H locs σ_18 hσ_18 hI => ?_)
              replace hF := q_letX hF hσ_18
              have fr_σ_18 := fr_σ_2.si hσ_18 (q_tk (k' := 30) hI ha rfl (Nat.succ_ne_zero _)) rfl
              have ks_σ_18 : q_KS (fun b g => (b = q_rf X a 4 ∨ b = q_rf X a 5) ∧ g = v1.toNatClampNeg) 8 X σ σ_18 := ks_σ_2.siS hσ_18 ⟨Or.inl rfl, rfl⟩
              have mk0σ_18 : σ_18.1 (q_rf X a 4) v1.toNatClampNeg = v2 := q_rd hσ_18
              refine lv_aload_n hx hb dX12_tray_64 rfl (lv_at hl 0 rfl) ?_
              refine gs_X12_17_12 E hI ha dX12_tray_65 ?_
              refine lv_iload_n hx hb dX12_tray_68 rfl (lv_at hl 1 rfl) ?_
              refine lv_iload_n hx hb dX12_tray_69 rfl (lv_at hl 3 rfl) ?_
              refine q_iastN E hI (q_tk (k' := 31) hI ha rfl (Nat.succ_ne_zero _)) ⟨by decide, rfl⟩ (by omega) (by rw [q_lnk (v := 4) hI (q_tk (k' := 31) hI ha rfl (Nat.succ_ne_zero _)) rfl (by decide)]; omega) (show 0 < 1 by decide) (q_inB (lo := -1) (hi := 60) rfl (by first | (clear kzσ_1 kzσ_2 c_3 gc_7_v1 c_7 c_11 gc_15_v2 c_15 mk0σ_18; omega) | omega) (by omega)) dX12_tray_70 (fun H locs σ_19 hσ_19 hI => ?_)
              replace hF := q_letX hF hσ_19
              have fr_σ_19 := fr_σ_18.si hσ_19 (q_tk (k' := 31) hI ha rfl (Nat.succ_ne_zero _)) rfl
              have ks_σ_19 : q_KS (fun b g => (b = q_rf X a 4 ∨ b = q_rf X a 5) ∧ g = v1.toNatClampNeg) 8 X σ σ_19 := ks_σ_18.siS hσ_19 ⟨Or.inr rfl, rfl⟩
              have mk0σ_19 : σ_19.1 (q_rf X a 4) v1.toNatClampNeg = v2 := (q_rdn hσ_19 (Or.inl n45)).trans mk0σ_18
              have mk1σ_19 : σ_19.1 (q_rf X a 5) v1.toNatClampNeg = v3 := q_rd hσ_19
              refine lv_iconst (v := 0) hx hb dX12_tray_71 zki_0 ?_
              refine lv_istore (lv' := [(4, .int 0), (0, .ref a), (1, .int v1), (2, .int v2), (3, .int v3)]) hx hb dX12_tray_72 hl (by decide) rfl (fun ls hl => ?_)
              have L_74_22 : ∀ (k_22 : Nat) (x_20 : Int32) (σ_21 : ST) (H : Heap) (locs : List Loc) (ls : Array Slot), (2147483647 - x_20.toInt).toNat < k_22 → (0 ≤ x_20.toInt) → (σ_21.1 (q_rf X a 4) v1.toNatClampNeg = v2) → (σ_21.1 (q_rf X a 5) v1.toNatClampNeg = v3) → (q_KS (fun b g => (b = q_rf X a 4 ∨ b = q_rf X a 5) ∧ g = v1.toNatClampNeg) 8 X σ σ_21) → (q_ow [(12, 0), (12, 1), (30, 99), (31, 99)] [(32, 99)] X σ σ_21) → (F_X12_tray_L74_1 X v3 v1 a k_22 x_20 σ_21 = out) → q_I X 0 σ s.heap locs σ_21 H → lv_has ls 5 [(0, .ref a), (1, .int v1), (2, .int v2), (3, .int v3), (4, .int x_20)] → W p l e (q_rm 1 21) s m ([.ref a, .int v1, .int v2, .int v3] : List Value).toArray below meth c H locs 0 0 (MQ below (q_Qi X 0 σ (fun (r : Int32) (σ' : ST) => (0 ≤ r.toInt ∧ r.toInt ≤ 1) ∧ (q_KS (fun b g => (b = q_rf X a 4 ∨ b = q_rf X a 5) ∧ g = v1.toNatClampNeg) 8 X σ σ') ∧ (r.toInt = 1 ↔ (0 ≤ v1.toInt ∧ v1.toInt < 4 ∧ 0 ≤ v2.toInt ∧ v2.toInt ≤ 3 ∧ 0 ≤ v3.toInt ∧ v3.toInt ≤ 60)) ∧ (r.toInt = 1 → σ'.1 (q_rf X a 4) v1.toNatClampNeg = v2 ∧ σ'.1 (q_rf X a 5) v1.toNatClampNeg = v3) ∧ (r.toInt = 0 → q_K 8 X σ σ') ∧ (r, σ') = F_X12_tray X σ a v1 v2 v3 ∧ q_ow [(12, 0), (12, 1), (30, 99), (31, 99)] [(32, 99)] X σ σ')) ([.ref a, .int v1, .int v2, .int v3] : List Value).toArray s 0 0 (q_reg X)) (F0 m 74 ls []) := by
                clear hF
                intro k_22
                induction k_22 with
                | zero =>
                  intro x_20 σ_21 H locs ls hms
                  try clear fr_σ_18; try clear fr_σ_19
                  exact absurd hms (Nat.not_lt_zero _)
                | succ k_22 ih74 =>
                  intro x_20 σ_21 H locs ls hm74 hge74 mk0σ_21 mk1σ_21 ks_σ_21 fr_σ_21 hF hI hl
                  replace hF := (F_X12_tray_L74_1_s).symm.trans hF
                  unfold F_X12_tray_B74_1 at hF
                  refine lv_iload hx hb dX12_tray_74 (lv_at hl 4 rfl) ?_
                  refine lv_iload_n hx hb dX12_tray_76 rfl (lv_at hl 3 rfl) ?_
                  have gc_23_x_20 := q_rng x_20
                  have gc_23_v3 := q_rng v3
                  refine q_icmp_ge (A := x_20.toInt) (B := v3.toInt) E rfl rfl (tgt := 99) dX12_tray_77 (by decide) (fun c_23 => ?_) (fun c_23 => ?_)
                  · skip
                    replace hF := q_ifn hF (Int.not_lt.mpr c_23)
                    skip
                    refine lv_iconst (v := 1) hx hb dX12_tray_99 zki_1 ?_
                    have hrv : (1 : Int32).toInt = 1 := zt_1
                    exact q_retz E hr hlk hI ⟨by decide, by decide⟩ ⟨⟨by decide, by decide⟩, ks_σ_21, (by constructor <;> intro h9 <;> omega), (fun _ => ⟨mk0σ_21, mk1σ_21⟩), (by intro h9; exfalso; omega), (hF.trans hout), fr_σ_21⟩ dX12_tray_100
                  · skip
                    replace hF := q_ifp hF c_23
                    refine lv_aload_n hx hb dX12_tray_80 rfl (lv_at hl 0 rfl) ?_
                    refine gs_X12_20_12 E hI ha dX12_tray_81 ?_
                    refine lv_bipush (v := 60) hx hb dX12_tray_84 zkb_60 ?_
                    refine lv_iload_n hx hb dX12_tray_86 rfl (lv_at hl 1 rfl) ?_
                    refine lv_imul hx hb dX12_tray_87 ?_
                    refine lv_topi (fun z_24 ez_24 => ?_)
                    replace hF := q_letX hF ez_24
                    have iz_24 := q_mulI (A := 60) (B := v1.toInt) ez_24 (by decide) rfl (by first | (clear kzσ_1 kzσ_2 c_11 gc_15_v2 c_15 gc_16_v3 c_16 c_17 mk0σ_18 mk0σ_19 mk1σ_19 hm74 hge74 mk0σ_21 mk1σ_21 gc_23_x_20 gc_23_v3 c_23; omega) | omega) (by first | (clear kzσ_1 kzσ_2 c_11 gc_15_v2 c_15 gc_16_v3 c_16 c_17 mk0σ_18 mk0σ_19 mk1σ_19 hm74 hge74 mk0σ_21 mk1σ_21 gc_23_x_20 gc_23_v3 c_23; omega) | omega)
                    refine lv_iload hx hb dX12_tray_88 (lv_at hl 4 rfl) ?_
                    refine lv_iadd hx hb dX12_tray_90 ?_
                    refine lv_topi (fun z_25 ez_25 => ?_)
                    replace hF := q_letX hF ez_25
                    have iz_25 := q_addI (A := (60 * v1.toInt)) (B := x_20.toInt) ez_25 iz_24 rfl (by first | (clear kzσ_1 kzσ_2 c_11 gc_15_v2 c_15 gc_16_v3 c_16 c_17 mk0σ_18 mk0σ_19 mk1σ_19 hm74 mk0σ_21 mk1σ_21 gc_23_v3 c_23 iz_24; omega) | omega) (by first | (clear kzσ_1 kzσ_2 c_11 gc_15_v2 c_15 mk0σ_18 mk0σ_19 mk1σ_19 hm74 mk0σ_21 mk1σ_21 gc_23_v3 iz_24; omega) | omega)
                    refine lv_lconst (v := 0) hx hb dX12_tray_91 (by decide) ?_
                    refine q_lastN E hI (q_tk (k' := 32) hI ha rfl (Nat.succ_ne_zero _)) ⟨by decide, rfl⟩ (by first | (clear kzσ_1 kzσ_2 c_11 gc_15_v2 c_15 mk0σ_18 mk0σ_19 mk1σ_19 hm74 mk0σ_21 mk1σ_21 gc_23_v3 iz_24; omega) | omega) (by rw [q_lnk (v := 240) hI (q_tk (k' := 32) hI ha rfl (Nat.succ_ne_zero _)) rfl (by decide)]; omega) dX12_tray_92 (fun H locs σ_26 hσ_26 hI => ?_)
                    replace hF := q_letX hF hσ_26
                    have fr_σ_26 := fr_σ_21.sl hσ_26 (q_tk (k' := 32) hI ha rfl (Nat.succ_ne_zero _)) rfl
                    have ks_σ_26 : q_KS (fun b g => (b = q_rf X a 4 ∨ b = q_rf X a 5) ∧ g = v1.toNatClampNeg) 8 X σ σ_26 := ks_σ_21.sl hσ_26
                    have mk0σ_26 : σ_26.1 (q_rf X a 4) v1.toNatClampNeg = v2 := (q_rdl hσ_26).trans mk0σ_21
                    have mk1σ_26 : σ_26.1 (q_rf X a 5) v1.toNatClampNeg = v3 := (q_rdl hσ_26).trans mk1σ_21
                    obtain ⟨z_27, ez_27⟩ : ∃ y : Int32, y = x_20 + 1 := ⟨_, rfl⟩
                    replace hF := q_letX hF ez_27
                    refine lv_iinc (v := z_27) (lv' := [(4, .int z_27), (0, .ref a), (1, .int v1), (2, .int v2), (3, .int v3)]) hx hb dX12_tray_93 hl (k := 4) rfl (by rw [ez_27]; rfl) (by decide) rfl (fun ls hl => ?_)
                    have iz_27 : z_27.toInt = x_20.toInt + 1 := q_inc ez_27 (by first | (clear kzσ_1 kzσ_2 c_3 gc_7_v1 c_7 c_11 gc_15_v2 c_15 mk0σ_18 mk0σ_19 mk1σ_19 hm74 mk0σ_21 mk1σ_21 gc_23_v3 iz_24 mk0σ_26 mk1σ_26; omega) | omega)
                    refine lv_goto (tgt := 74) hx hb dX12_tray_96 (by decide) ?_
                    exact ih74 z_27 σ_26 _ _ ls (by first | (clear kzσ_1 kzσ_2 c_3 gc_7_v1 c_7 c_11 gc_15_v2 c_15 mk0σ_18 mk0σ_19 mk1σ_19 mk0σ_21 mk1σ_21 gc_23_v3 iz_24 mk0σ_26 mk1σ_26; omega) | omega) (by first | (clear kzσ_1 kzσ_2 c_3 gc_7_v1 c_7 c_11 gc_15_v2 c_15 gc_16_v3 c_16 c_17 mk0σ_18 mk0σ_19 mk1σ_19 hm74 mk0σ_21 mk1σ_21 gc_23_v3 c_23 iz_24 mk0σ_26 mk1σ_26; omega) | omega) mk0σ_26 mk1σ_26 ks_σ_26 fr_σ_26 hF hI (lv_sub hl [1, 2, 3, 4, 0] rfl)
              exact L_74_22 ((2147483647 - (0 : Int32).toInt).toNat + 1) 0 σ_19 _ _ ls (Nat.lt_succ_self _) (by decide) mk0σ_19 mk1σ_19 ks_σ_19 fr_σ_19 hF hI (lv_sub hl [1, 2, 3, 4, 0] rfl)
            · skip
              replace hF := q_ifp hF c_17
              refine lv_aload_n hx hb dX12_tray_50 rfl (lv_at hl 0 rfl) ?_
              refine lv_bipush (v := 6) hx hb dX12_tray_51 zkb_6 ?_
              have kc_28 : (6 : Int32).toInt = 6 := zt_6
              refine q_ci (q_rV11_1 (rest := []) E (hml.trans hl.1.symm) hI (c_X12_no l X σ_2 a (6 : Int32) ha) kv_X12_74 ha ⟨Nat.le_of_ble_eq_true rfl, Nat.le_of_ble_eq_true rfl⟩ (Nat.le_of_ble_eq_true rfl) dX12_tray_53) hI (Nat.le_of_ble_eq_true rfl) (fun r_29 σ_30 H locs hpσ_30 hkσ_30 hI => ?_)
              have ahpσ_30 := hpσ_30.1
              have bhpσ_30 := hpσ_30.2.1
              have chpσ_30 := hpσ_30.2.2.1
              have dhpσ_30 := hpσ_30.2.2.2
              clear hpσ_30
              have fr_σ_30 := fr_σ_2.call dhpσ_30 rfl rfl
              replace hF := q_biX hF chpσ_30
              have ks_σ_30 : q_KS (fun b g => (b = q_rf X a 4 ∨ b = q_rf X a 5) ∧ g = v1.toNatClampNeg) 8 X σ σ_30 := ks_σ_2.K hkσ_30 (by decide)
              have kzσ_30 : q_K 8 X σ σ_30 := kzσ_2.tr (q_K.le hkσ_30 (by decide))
              exact q_retz E hr hlk hI ⟨by omega, by omega⟩ ⟨⟨by omega, by omega⟩, ks_σ_30, (by constructor <;> intro h9 <;> omega), (by intro h9; exfalso; omega), (fun _ => kzσ_30), (hF.trans hout), fr_σ_30⟩ dX12_tray_56
          · skip
            replace hF := q_ifp hF c_16
            refine lv_aload_n hx hb dX12_tray_40 rfl (lv_at hl 0 rfl) ?_
            refine lv_iconst (v := 5) hx hb dX12_tray_41 zki_5 ?_
            have kc_31 : (5 : Int32).toInt = 5 := zt_5
            refine q_ci (q_rV11_1 (rest := []) E (hml.trans hl.1.symm) hI (c_X12_no l X σ_2 a (5 : Int32) ha) kv_X12_74 ha ⟨Nat.le_of_ble_eq_true rfl, Nat.le_of_ble_eq_true rfl⟩ (Nat.le_of_ble_eq_true rfl) dX12_tray_42) hI (Nat.le_of_ble_eq_true rfl) (fun r_32 σ_33 H locs hpσ_33 hkσ_33 hI => ?_)
            have ahpσ_33 := hpσ_33.1
            have bhpσ_33 := hpσ_33.2.1
            have chpσ_33 := hpσ_33.2.2.1
            have dhpσ_33 := hpσ_33.2.2.2
            clear hpσ_33
            have fr_σ_33 := fr_σ_2.call dhpσ_33 rfl rfl
            replace hF := q_biX hF chpσ_33
            have ks_σ_33 : q_KS (fun b g => (b = q_rf X a 4 ∨ b = q_rf X a 5) ∧ g = v1.toNatClampNeg) 8 X σ σ_33 := ks_σ_2.K hkσ_33 (by decide)
            have kzσ_33 : q_K 8 X σ σ_33 := kzσ_2.tr (q_K.le hkσ_33 (by decide))
            exact q_retz E hr hlk hI ⟨by omega, by omega⟩ ⟨⟨by omega, by omega⟩, ks_σ_33, (by constructor <;> intro h9 <;> omega), (by intro h9; exfalso; omega), (fun _ => kzσ_33), (hF.trans hout), fr_σ_33⟩ dX12_tray_45
        · skip
          replace hF := q_ifp hF c_15
          refine lv_aload_n hx hb dX12_tray_28 rfl (lv_at hl 0 rfl) ?_
          refine lv_iconst (v := 1) hx hb dX12_tray_29 zki_1 ?_
          have kc_34 : (1 : Int32).toInt = 1 := zt_1
          refine q_ci (q_rV11_1 (rest := []) E (hml.trans hl.1.symm) hI (c_X12_no l X σ_2 a (1 : Int32) ha) kv_X12_74 ha ⟨Nat.le_of_ble_eq_true rfl, Nat.le_of_ble_eq_true rfl⟩ (Nat.le_of_ble_eq_true rfl) dX12_tray_30) hI (Nat.le_of_ble_eq_true rfl) (fun r_35 σ_36 H locs hpσ_36 hkσ_36 hI => ?_)
          have ahpσ_36 := hpσ_36.1
          have bhpσ_36 := hpσ_36.2.1
          have chpσ_36 := hpσ_36.2.2.1
          have dhpσ_36 := hpσ_36.2.2.2
          clear hpσ_36
          have fr_σ_36 := fr_σ_2.call dhpσ_36 rfl rfl
          replace hF := q_biX hF chpσ_36
          have ks_σ_36 : q_KS (fun b g => (b = q_rf X a 4 ∨ b = q_rf X a 5) ∧ g = v1.toNatClampNeg) 8 X σ σ_36 := ks_σ_2.K hkσ_36 (by decide)
          have kzσ_36 : q_K 8 X σ σ_36 := kzσ_2.tr (q_K.le hkσ_36 (by decide))
          exact q_retz E hr hlk hI ⟨by omega, by omega⟩ ⟨⟨by omega, by omega⟩, ks_σ_36, (by constructor <;> intro h9 <;> omega), (by intro h9; exfalso; omega), (fun _ => kzσ_36), (hF.trans hout), fr_σ_36⟩ dX12_tray_33

set_option maxRecDepth 100000 in
set_option maxHeartbeats 4000000 in
theorem c_X12_write (l : Launch) (X : XW) (σ : ST) (a : Nat) (v1 : Int32) (v2 : Int32) (v3 : Int64) (ha : q_kd X a = 12) : Met l yX12_write (q_ws yX12_write cX12_write 5 (some .boolean)) (q_rm 2 44) (q_P X σ [.ref a, .int v1, .int v2, .long v3]) (q_Qi X 8 σ (fun (r : Int32) (σ' : ST) => (0 ≤ r.toInt ∧ r.toInt ≤ 1) ∧ (r.toInt = 1 ↔ (0 ≤ v1.toInt ∧ v1.toInt < 4 ∧ 0 ≤ v2.toInt ∧ v2.toInt + 1 ≤ (σ.1 (q_rf X a 5) v1.toNatClampNeg).toInt)) ∧ (r, σ') = F_X12_write X σ a v1 v2 v3 ∧ q_ow [(12, 0), (12, 1)] [(32, 99)] X σ σ')) 0 0 (q_reg X) := by
  refine q_met 8 (by first | exact rfl | decide +kernel) rfl (Nat.le_of_ble_eq_true rfl) (fun p e s m below meth c E hml hr hlk hI ls hl => ?_)
  have hx := E.1
  have hb := E.2.1
  have hl : lv_has ls 5 [(0, .ref a), (1, .int v1), (2, .int v2), (3, .long v3)] := hl
  have fr_σ : q_ow [(12, 0), (12, 1)] [(32, 99)] X σ σ := q_ow.rf
  obtain ⟨out, hout⟩ : ∃ o, o = F_X12_write X σ a v1 v2 v3 := ⟨_, rfl⟩
  have hF := hout.symm
  unfold F_X12_write at hF
  refine lv_aload_n hx hb dX12_write_0 rfl (lv_at hl 0 rfl) ?_
  refine lv_iconst (v := 0) hx hb dX12_write_1 zki_0 ?_
  refine ps_X12_59_12 E hI ha (by decide) dX12_write_2 (fun H locs σ_1 hσ_1 hI => ?_)
  replace hF := q_letX hF hσ_1
  have fr_σ_1 := fr_σ.si hσ_1 ha rfl
  have mv0_σ_1 : (σ_1.1 a 0).toInt = (σ.1 a 0).toInt := congrArg Int32.toInt (q_rdn hσ_1 (Or.inr (by decide)))
  have tfσ_1 := m_k31 hI.2.2.2.2.2 hI.1 ha (by decide) v1.toNatClampNeg
  have tbσ_1 := q_bd (f := v1.toNatClampNeg) (lo := -1) (hi := 60) hI (q_tk (f := 5) (k' := 31) hI ha rfl (by decide)) rfl
  refine lv_aload_n hx hb dX12_write_5 rfl (lv_at hl 0 rfl) ?_
  refine lv_aload_n hx hb dX12_write_6 rfl (lv_at hl 0 rfl) ?_
  refine lv_iload_n hx hb dX12_write_7 rfl (lv_at hl 1 rfl) ?_
  refine lv_iload_n hx hb dX12_write_8 rfl (lv_at hl 2 rfl) ?_
  refine q_ci (q_rV11_2 (rest := [.ref a]) E (hml.trans hl.1.symm) hI (c_X12_placed l X σ_1 a v1 v2 ha) kv_X12_82 ha ⟨Nat.le_of_ble_eq_true rfl, Nat.le_of_ble_eq_true rfl⟩ (Nat.le_of_ble_eq_true rfl) dX12_write_9) hI (Nat.le_of_ble_eq_true rfl) (fun r_2 σ_3 H locs hpσ_3 hkσ_3 hI => ?_)
  have ahpσ_3 := hpσ_3.1
  have bhpσ_3 := hpσ_3.2.1
  have chpσ_3 := hpσ_3.2.2.1
  have dhpσ_3 := hpσ_3.2.2.2
  clear hpσ_3
  replace hI := q_Irw ahpσ_3 hI
  replace hF := q_letX hF dhpσ_3
  refine ps_X12_62_12 E hI ha (by decide) dX12_write_12 (fun H locs σ_4 hσ_4 hI => ?_)
  replace hF := q_letX hF hσ_4
  have fr_σ_4 := fr_σ_1.si hσ_4 ha rfl
  have mv0_σ_4 : (σ_4.1 a 0).toInt = r_2.toInt := congrArg Int32.toInt (q_rd hσ_4)
  refine lv_aload_n hx hb dX12_write_15 rfl (lv_at hl 0 rfl) ?_
  refine gs_X12_62_12 E hI ha dX12_write_16 ?_
  refine lv_topi (fun f_5 ef_5 => ?_)
  replace hF := q_letX hF ef_5
  have if_5 : f_5.toInt = (σ_4.1 a 0).toInt := congrArg Int32.toInt ef_5
  refine q_if_le (A := f_5.toInt) E rfl (tgt := 24) dX12_write_19 (by decide) (fun c_6 => ?_) (fun c_6 => ?_)
  · skip
    replace hF := q_ifn hF (Int.not_lt.mpr c_6)
    refine lv_aload_n hx hb dX12_write_24 rfl (lv_at hl 0 rfl) ?_
    refine gs_X12_20_12 E hI ha dX12_write_25 ?_
    refine lv_bipush (v := 60) hx hb dX12_write_28 zkb_60 ?_
    refine lv_iload_n hx hb dX12_write_30 rfl (lv_at hl 1 rfl) ?_
    refine lv_imul hx hb dX12_write_31 ?_
    refine lv_topi (fun z_7 ez_7 => ?_)
    replace hF := q_letX hF ez_7
    have iz_7 := q_mulI (A := 60) (B := v1.toInt) ez_7 (by decide) rfl (by first | (clear mv0_σ_1 tfσ_1 tbσ_1 ahpσ_3 dhpσ_3; omega) | omega) (by first | (clear mv0_σ_1 tfσ_1 tbσ_1 ahpσ_3 dhpσ_3; omega) | omega)
    refine lv_iload_n hx hb dX12_write_32 rfl (lv_at hl 2 rfl) ?_
    refine lv_iadd hx hb dX12_write_33 ?_
    refine lv_topi (fun z_8 ez_8 => ?_)
    replace hF := q_letX hF ez_8
    have iz_8 := q_addI (A := (60 * v1.toInt)) (B := v2.toInt) ez_8 iz_7 rfl (by first | (clear mv0_σ_1 ahpσ_3 dhpσ_3 iz_7; omega) | omega) (by first | (clear mv0_σ_1 ahpσ_3 dhpσ_3 iz_7; omega) | omega)
    refine lv_aload_n hx hb dX12_write_34 rfl (lv_at hl 0 rfl) ?_
    refine gs_X12_13_12 E hI ha dX12_write_35 ?_
    refine lv_iload_n hx hb dX12_write_38 rfl (lv_at hl 1 rfl) ?_
    refine q_iald E hI (q_tk (k' := 30) hI ha rfl (Nat.succ_ne_zero _)) ⟨by decide, rfl⟩ (by first | (clear mv0_σ_1 tfσ_1 tbσ_1 ahpσ_3 dhpσ_3 iz_7 iz_8; omega) | omega) (by rw [q_lnk (v := 4) hI (q_tk (k' := 30) hI ha rfl (Nat.succ_ne_zero _)) rfl (by decide)]; omega) dX12_write_39 ?_
    refine lv_topi (fun f_9 ef_9 => ?_)
    replace hF := q_letX hF ef_9
    have bf_9 : 0 ≤ f_9.toInt ∧ f_9.toInt ≤ 3 := by rw [ef_9]; exact q_bd hI (q_tk (k' := 30) hI ha rfl (Nat.succ_ne_zero _)) rfl
    have if_9 : f_9.toInt = (σ_4.1 (q_rf X a 4) (v1 : Int32).toNatClampNeg).toInt := congrArg Int32.toInt ef_9
    refine lv_lload_n hx hb dX12_write_40 rfl (lv_at hl 3 rfl) ?_
    refine q_cl_ (q_runS (As := [.int f_9, .long v3]) (rest := [.int z_8, .ref (q_rf X a 6)]) E (hml.trans hl.1.symm) hI (c_X12_cut l X σ_4 f_9 v3) ks_X12_86 rfl ⟨Nat.le_of_ble_eq_true rfl, Nat.le_of_ble_eq_true rfl⟩ ⟨Nat.le_refl _, Nat.le_refl _⟩ rfl (Nat.le_of_ble_eq_true rfl) dX12_write_41) hI (Nat.le_of_ble_eq_true rfl) (fun r_10 σ_11 H locs hpσ_11 hkσ_11 hI => ?_)
    have ahpσ_11 := hpσ_11.1
    have bhpσ_11 := hpσ_11.2
    clear hpσ_11
    replace hI := q_Irw ahpσ_11 hI
    replace hF := q_letX hF bhpσ_11
    refine q_lastN E hI (q_tk (k' := 32) hI ha rfl (Nat.succ_ne_zero _)) ⟨by decide, rfl⟩ (by first | (clear mv0_σ_1 ahpσ_3 dhpσ_3 iz_7 bf_9 if_9 ahpσ_11 bhpσ_11; omega) | omega) (by rw [q_lnk (v := 240) hI (q_tk (k' := 32) hI ha rfl (Nat.succ_ne_zero _)) rfl (by decide)]; omega) dX12_write_44 (fun H locs σ_12 hσ_12 hI => ?_)
    replace hF := q_letX hF hσ_12
    have fr_σ_12 := fr_σ_4.sl hσ_12 (q_tk (k' := 32) hI ha rfl (Nat.succ_ne_zero _)) rfl
    refine lv_iconst (v := 1) hx hb dX12_write_45 zki_1 ?_
    have hrv : (1 : Int32).toInt = 1 := zt_1
    exact q_retz E hr hlk hI ⟨by decide, by decide⟩ ⟨⟨by decide, by decide⟩, (by constructor <;> intro h9 <;> omega), (hF.trans hout), fr_σ_12⟩ dX12_write_46
  · skip
    replace hF := q_ifp hF c_6
    refine lv_iconst (v := 0) hx hb dX12_write_22 zki_0 ?_
    have hrv : (0 : Int32).toInt = 0 := zt_0
    exact q_retz E hr hlk hI ⟨by decide, by decide⟩ ⟨⟨by decide, by decide⟩, (by constructor <;> intro h9 <;> omega), (hF.trans hout), fr_σ_4⟩ dX12_write_23

set_option maxRecDepth 100000 in
set_option maxHeartbeats 4000000 in
theorem c_X12_read (l : Launch) (X : XW) (σ : ST) (a : Nat) (v1 : Int32) (v2 : Int32) (ha : q_kd X a = 12) : Met l yX12_read (q_ws yX12_read cX12_read 3 (some .long)) (q_rm 2 44) (q_P X σ [.ref a, .int v1, .int v2]) (q_Ql X 8 σ (fun (r : Int64) (σ' : ST) => (r, σ') = F_X12_read X σ a v1 v2 ∧ q_ow [(12, 0), (12, 1)] [] X σ σ')) 0 0 (q_reg X) := by
  refine q_met 8 (by first | exact rfl | decide +kernel) rfl (Nat.le_of_ble_eq_true rfl) (fun p e s m below meth c E hml hr hlk hI ls hl => ?_)
  have hx := E.1
  have hb := E.2.1
  have hl : lv_has ls 3 [(0, .ref a), (1, .int v1), (2, .int v2)] := hl
  have fr_σ : q_ow [(12, 0), (12, 1)] [] X σ σ := q_ow.rf
  obtain ⟨out, hout⟩ : ∃ o, o = F_X12_read X σ a v1 v2 := ⟨_, rfl⟩
  have hF := hout.symm
  unfold F_X12_read at hF
  refine lv_aload_n hx hb dX12_read_0 rfl (lv_at hl 0 rfl) ?_
  refine lv_iconst (v := 0) hx hb dX12_read_1 zki_0 ?_
  refine ps_X12_59_12 E hI ha (by decide) dX12_read_2 (fun H locs σ_1 hσ_1 hI => ?_)
  replace hF := q_letX hF hσ_1
  have fr_σ_1 := fr_σ.si hσ_1 ha rfl
  have mv0_σ_1 : (σ_1.1 a 0).toInt = (σ.1 a 0).toInt := congrArg Int32.toInt (q_rdn hσ_1 (Or.inr (by decide)))
  have tbσ_1 := q_bd (f := v1.toNatClampNeg) (lo := -1) (hi := 60) hI (q_tk (f := 5) (k' := 31) hI ha rfl (by decide)) rfl
  refine lv_aload_n hx hb dX12_read_5 rfl (lv_at hl 0 rfl) ?_
  refine lv_aload_n hx hb dX12_read_6 rfl (lv_at hl 0 rfl) ?_
  refine lv_iload_n hx hb dX12_read_7 rfl (lv_at hl 1 rfl) ?_
  refine lv_iload_n hx hb dX12_read_8 rfl (lv_at hl 2 rfl) ?_
  refine q_ci (q_rV11_2 (rest := [.ref a]) E (hml.trans hl.1.symm) hI (c_X12_placed l X σ_1 a v1 v2 ha) kv_X12_82 ha ⟨Nat.le_of_ble_eq_true rfl, Nat.le_of_ble_eq_true rfl⟩ (Nat.le_of_ble_eq_true rfl) dX12_read_9) hI (Nat.le_of_ble_eq_true rfl) (fun r_2 σ_3 H locs hpσ_3 hkσ_3 hI => ?_)
  have ahpσ_3 := hpσ_3.1
  have bhpσ_3 := hpσ_3.2.1
  have chpσ_3 := hpσ_3.2.2.1
  have dhpσ_3 := hpσ_3.2.2.2
  clear hpσ_3
  replace hI := q_Irw ahpσ_3 hI
  replace hF := q_letX hF dhpσ_3
  refine ps_X12_62_12 E hI ha (by decide) dX12_read_12 (fun H locs σ_4 hσ_4 hI => ?_)
  replace hF := q_letX hF hσ_4
  have fr_σ_4 := fr_σ_1.si hσ_4 ha rfl
  have mv0_σ_4 : (σ_4.1 a 0).toInt = r_2.toInt := congrArg Int32.toInt (q_rd hσ_4)
  refine lv_aload_n hx hb dX12_read_15 rfl (lv_at hl 0 rfl) ?_
  refine gs_X12_62_12 E hI ha dX12_read_16 ?_
  refine lv_topi (fun f_5 ef_5 => ?_)
  replace hF := q_letX hF ef_5
  have if_5 : f_5.toInt = (σ_4.1 a 0).toInt := congrArg Int32.toInt ef_5
  refine q_if_le (A := f_5.toInt) E rfl (tgt := 28) dX12_read_19 (by decide) (fun c_6 => ?_) (fun c_6 => ?_)
  · skip
    replace hF := q_ifn hF (Int.not_lt.mpr c_6)
    refine lv_aload_n hx hb dX12_read_28 rfl (lv_at hl 0 rfl) ?_
    refine gs_X12_20_12 E hI ha dX12_read_29 ?_
    refine lv_bipush (v := 60) hx hb dX12_read_32 zkb_60 ?_
    refine lv_iload_n hx hb dX12_read_34 rfl (lv_at hl 1 rfl) ?_
    refine lv_imul hx hb dX12_read_35 ?_
    refine lv_topi (fun z_7 ez_7 => ?_)
    replace hF := q_letX hF ez_7
    have iz_7 := q_mulI (A := 60) (B := v1.toInt) ez_7 (by decide) rfl (by omega) (by omega)
    refine lv_iload_n hx hb dX12_read_36 rfl (lv_at hl 2 rfl) ?_
    refine lv_iadd hx hb dX12_read_37 ?_
    refine lv_topi (fun z_8 ez_8 => ?_)
    replace hF := q_letX hF ez_8
    have iz_8 := q_addI (A := (60 * v1.toInt)) (B := v2.toInt) ez_8 iz_7 rfl (by first | (clear mv0_σ_1 ahpσ_3 dhpσ_3 iz_7; omega) | omega) (by first | (clear mv0_σ_1 ahpσ_3 dhpσ_3 iz_7; omega) | omega)
    refine q_lald E hI (q_tk (k' := 32) hI ha rfl (Nat.succ_ne_zero _)) ⟨by decide, rfl⟩ (by first | (clear mv0_σ_1 ahpσ_3 dhpσ_3 iz_7; omega) | omega) (by rw [q_lnk (v := 240) hI (q_tk (k' := 32) hI ha rfl (Nat.succ_ne_zero _)) rfl (by decide)]; omega) dX12_read_38 ?_
    refine lv_topl (fun g_9 eg_9 => ?_)
    replace hF := q_letX hF eg_9
    exact q_retl E hr hlk hI ⟨(hF.trans hout), fr_σ_4⟩ dX12_read_39
  · skip
    replace hF := q_ifp hF c_6
    refine lv_ldc2 (v := (-1)) hx hb E.2.2.1 (E.2.2.2.1 _ (q_in_t7 (i := 163) (by first | rfl | decide +kernel) rfl)) dX12_read_22 ?_
    refine lv_goto (tgt := 39) hx hb dX12_read_25 (by decide) ?_
    exact q_retl E hr hlk hI ⟨(hF.trans hout), fr_σ_4⟩ dX12_read_39

set_option maxRecDepth 100000 in
set_option maxHeartbeats 4000000 in
theorem c_X12_pour (l : Launch) (X : XW) (σ : ST) (a : Nat) (v1 : Int32) (v2 : Int32) (v3 : Int32) (v4 : Int32) (v5 : Int32) (ha : q_kd X a = 12) : Met l yX12_pour (q_ws yX12_pour cX12_pour 9 (some .boolean)) (q_rm 1 21) (q_P X σ [.ref a, .int v1, .int v2, .int v3, .int v4, .int v5]) (q_Qi X 8 σ (fun (r : Int32) (σ' : ST) => (0 ≤ r.toInt ∧ r.toInt ≤ 1) ∧ (r.toInt = 1 ↔ ((0 ≤ v1.toInt ∧ v1.toInt < 4) ∧ (0 ≤ v3.toInt ∧ v3.toInt < 4) ∧ 0 ≤ (σ.1 (q_rf X a 5) v1.toNatClampNeg).toInt ∧ 0 ≤ (σ.1 (q_rf X a 5) v3.toNatClampNeg).toInt ∧ (σ.1 (q_rf X a 4) v1.toNatClampNeg).toInt = (σ.1 (q_rf X a 4) v3.toNatClampNeg).toInt ∧ 0 ≤ v5.toInt ∧ 0 ≤ v2.toInt ∧ v2.toInt + v5.toInt ≤ (σ.1 (q_rf X a 5) v1.toNatClampNeg).toInt ∧ 0 ≤ v4.toInt ∧ v4.toInt + v5.toInt ≤ (σ.1 (q_rf X a 5) v3.toNatClampNeg).toInt)) ∧ (r, σ') = F_X12_pour X σ a v1 v2 v3 v4 v5 ∧ q_ow [(12, 0), (12, 1)] [(32, 99)] X σ σ')) 0 0 (q_reg X) := by
  refine q_met 8 (by first | exact rfl | decide +kernel) rfl (Nat.le_of_ble_eq_true rfl) (fun p e s m below meth c E hml hr hlk hI ls hl => ?_)
  have hx := E.1
  have hb := E.2.1
  have hl : lv_has ls 9 [(0, .ref a), (1, .int v1), (2, .int v2), (3, .int v3), (4, .int v4), (5, .int v5)] := hl
  have fr_σ : q_ow [(12, 0), (12, 1)] [(32, 99)] X σ σ := q_ow.rf
  obtain ⟨out, hout⟩ : ∃ o, o = F_X12_pour X σ a v1 v2 v3 v4 v5 := ⟨_, rfl⟩
  have hF := hout.symm
  unfold F_X12_pour at hF
  refine lv_aload_n hx hb dX12_pour_0 rfl (lv_at hl 0 rfl) ?_
  refine lv_iconst (v := 0) hx hb dX12_pour_1 zki_0 ?_
  refine ps_X12_59_12 E hI ha (by decide) dX12_pour_2 (fun H locs σ_1 hσ_1 hI => ?_)
  replace hF := q_letX hF hσ_1
  have fr_σ_1 := fr_σ.si hσ_1 ha rfl
  refine lv_aload_n hx hb dX12_pour_5 rfl (lv_at hl 0 rfl) ?_
  refine lv_iconst (v := 0) hx hb dX12_pour_6 zki_0 ?_
  refine ps_X12_62_12 E hI ha (by decide) dX12_pour_7 (fun H locs σ_2 hσ_2 hI => ?_)
  replace hF := q_letX hF hσ_2
  have fr_σ_2 := fr_σ_1.si hσ_2 ha rfl
  have tfσ_2 := m_k31 hI.2.2.2.2.2 hI.1 ha (by decide) v1.toNatClampNeg
  have tgσ_2 := m_k31 hI.2.2.2.2.2 hI.1 ha (by decide) v3.toNatClampNeg
  have sfσ_2 := m_k30 hI.2.2.2.2.2 hI.1 ha (by decide) v1.toNatClampNeg
  have sgσ_2 := m_k30 hI.2.2.2.2.2 hI.1 ha (by decide) v3.toNatClampNeg
  refine lv_iload_n hx hb dX12_pour_10 rfl (lv_at hl 1 rfl) ?_
  refine q_if_lt (A := v1.toInt) E rfl (tgt := 28) dX12_pour_11 (by decide) (fun c_3 => ?_) (fun c_3 => ?_)
  · skip
    replace hF := q_ifp hF c_3
    refine lv_aload_n hx hb dX12_pour_28 rfl (lv_at hl 0 rfl) ?_
    refine lv_iconst (v := 1) hx hb dX12_pour_29 zki_1 ?_
    have kc_4 : (1 : Int32).toInt = 1 := zt_1
    refine q_ci (q_rV11_1 (rest := []) E (hml.trans hl.1.symm) hI (c_X12_no l X σ_2 a (1 : Int32) ha) kv_X12_74 ha ⟨Nat.le_of_ble_eq_true rfl, Nat.le_of_ble_eq_true rfl⟩ (Nat.le_of_ble_eq_true rfl) dX12_pour_30) hI (Nat.le_of_ble_eq_true rfl) (fun r_5 σ_6 H locs hpσ_6 hkσ_6 hI => ?_)
    have ahpσ_6 := hpσ_6.1
    have bhpσ_6 := hpσ_6.2.1
    have chpσ_6 := hpσ_6.2.2.1
    have dhpσ_6 := hpσ_6.2.2.2
    clear hpσ_6
    have fr_σ_6 := fr_σ_2.call dhpσ_6 rfl rfl
    replace hF := q_biX hF chpσ_6
    exact q_retz E hr hlk hI ⟨by omega, by omega⟩ ⟨⟨by omega, by omega⟩, (by constructor <;> intro h9 <;> omega), (hF.trans hout), fr_σ_6⟩ dX12_pour_33
  · skip
    replace hF := q_ifn hF (Int.not_lt.mpr c_3)
    refine lv_iload_n hx hb dX12_pour_14 rfl (lv_at hl 1 rfl) ?_
    refine lv_iconst (v := 4) hx hb dX12_pour_15 zki_4 ?_
    have gc_7_v1 := q_rng v1
    refine q_icmp_ge (A := v1.toInt) (B := 4) E rfl (by decide) (tgt := 28) dX12_pour_16 (by decide) (fun c_7 => ?_) (fun c_7 => ?_)
    · skip
      replace hF := q_ifn hF (Int.not_lt.mpr c_7)
      refine lv_aload_n hx hb dX12_pour_28 rfl (lv_at hl 0 rfl) ?_
      refine lv_iconst (v := 1) hx hb dX12_pour_29 zki_1 ?_
      have kc_8 : (1 : Int32).toInt = 1 := zt_1
      refine q_ci (q_rV11_1 (rest := []) E (hml.trans hl.1.symm) hI (c_X12_no l X σ_2 a (1 : Int32) ha) kv_X12_74 ha ⟨Nat.le_of_ble_eq_true rfl, Nat.le_of_ble_eq_true rfl⟩ (Nat.le_of_ble_eq_true rfl) dX12_pour_30) hI (Nat.le_of_ble_eq_true rfl) (fun r_9 σ_10 H locs hpσ_10 hkσ_10 hI => ?_)
      have ahpσ_10 := hpσ_10.1
      have bhpσ_10 := hpσ_10.2.1
      have chpσ_10 := hpσ_10.2.2.1
      have dhpσ_10 := hpσ_10.2.2.2
      clear hpσ_10
      have fr_σ_10 := fr_σ_2.call dhpσ_10 rfl rfl
      replace hF := q_biX hF chpσ_10
      exact q_retz E hr hlk hI ⟨by omega, by omega⟩ ⟨⟨by omega, by omega⟩, (by constructor <;> intro h9 <;> omega), (hF.trans hout), fr_σ_10⟩ dX12_pour_33
    · skip
      replace hF := q_ifp hF c_7
      refine lv_iload_n hx hb dX12_pour_19 rfl (lv_at hl 3 rfl) ?_
      refine q_if_lt (A := v3.toInt) E rfl (tgt := 28) dX12_pour_20 (by decide) (fun c_11 => ?_) (fun c_11 => ?_)
      · skip
        replace hF := q_ifp hF c_11
        refine lv_aload_n hx hb dX12_pour_28 rfl (lv_at hl 0 rfl) ?_
        refine lv_iconst (v := 1) hx hb dX12_pour_29 zki_1 ?_
        have kc_12 : (1 : Int32).toInt = 1 := zt_1
        refine q_ci (q_rV11_1 (rest := []) E (hml.trans hl.1.symm) hI (c_X12_no l X σ_2 a (1 : Int32) ha) kv_X12_74 ha ⟨Nat.le_of_ble_eq_true rfl, Nat.le_of_ble_eq_true rfl⟩ (Nat.le_of_ble_eq_true rfl) dX12_pour_30) hI (Nat.le_of_ble_eq_true rfl) (fun r_13 σ_14 H locs hpσ_14 hkσ_14 hI => ?_)
        have ahpσ_14 := hpσ_14.1
        have bhpσ_14 := hpσ_14.2.1
        have chpσ_14 := hpσ_14.2.2.1
        have dhpσ_14 := hpσ_14.2.2.2
        clear hpσ_14
        have fr_σ_14 := fr_σ_2.call dhpσ_14 rfl rfl
        replace hF := q_biX hF chpσ_14
        exact q_retz E hr hlk hI ⟨by omega, by omega⟩ ⟨⟨by omega, by omega⟩, (by constructor <;> intro h9 <;> omega), (hF.trans hout), fr_σ_14⟩ dX12_pour_33
      · skip
        replace hF := q_ifn hF (Int.not_lt.mpr c_11)
        refine lv_iload_n hx hb dX12_pour_23 rfl (lv_at hl 3 rfl) ?_
        refine lv_iconst (v := 4) hx hb dX12_pour_24 zki_4 ?_
        have gc_15_v3 := q_rng v3
        refine q_icmp_lt (A := v3.toInt) (B := 4) E rfl (by decide) (tgt := 34) dX12_pour_25 (by decide) (fun c_15 => ?_) (fun c_15 => ?_)
        · skip
          replace hF := q_ifp hF c_15
          refine lv_aload_n hx hb dX12_pour_34 rfl (lv_at hl 0 rfl) ?_
          refine gs_X12_17_12 E hI ha dX12_pour_35 ?_
          refine lv_iload_n hx hb dX12_pour_38 rfl (lv_at hl 1 rfl) ?_
          refine q_iald E hI (q_tk (k' := 31) hI ha rfl (Nat.succ_ne_zero _)) ⟨by decide, rfl⟩ (by omega) (by rw [q_lnk (v := 4) hI (q_tk (k' := 31) hI ha rfl (Nat.succ_ne_zero _)) rfl (by decide)]; omega) dX12_pour_39 ?_
          refine lv_topi (fun f_16 ef_16 => ?_)
          replace hF := q_letX hF ef_16
          have bf_16 : -1 ≤ f_16.toInt ∧ f_16.toInt ≤ 60 := by rw [ef_16]; exact q_bd hI (q_tk (k' := 31) hI ha rfl (Nat.succ_ne_zero _)) rfl
          have if_16 : f_16.toInt = (σ_2.1 (q_rf X a 5) (v1 : Int32).toNatClampNeg).toInt := congrArg Int32.toInt ef_16
          refine q_if_lt (A := f_16.toInt) E rfl (tgt := 52) dX12_pour_40 (by decide) (fun c_17 => ?_) (fun c_17 => ?_)
          · skip
            replace hF := q_ifp hF c_17
            refine lv_aload_n hx hb dX12_pour_52 rfl (lv_at hl 0 rfl) ?_
            refine lv_iconst (v := 3) hx hb dX12_pour_53 zki_3 ?_
            have kc_18 : (3 : Int32).toInt = 3 := zt_3
            refine q_ci (q_rV11_1 (rest := []) E (hml.trans hl.1.symm) hI (c_X12_no l X σ_2 a (3 : Int32) ha) kv_X12_74 ha ⟨Nat.le_of_ble_eq_true rfl, Nat.le_of_ble_eq_true rfl⟩ (Nat.le_of_ble_eq_true rfl) dX12_pour_54) hI (Nat.le_of_ble_eq_true rfl) (fun r_19 σ_20 H locs hpσ_20 hkσ_20 hI => ?_)
            have ahpσ_20 := hpσ_20.1
            have bhpσ_20 := hpσ_20.2.1
            have chpσ_20 := hpσ_20.2.2.1
            have dhpσ_20 := hpσ_20.2.2.2
            clear hpσ_20
            have fr_σ_20 := fr_σ_2.call dhpσ_20 rfl rfl
            replace hF := q_biX hF chpσ_20
            exact q_retz E hr hlk hI ⟨by omega, by omega⟩ ⟨⟨by omega, by omega⟩, (by constructor <;> intro h9 <;> omega), (hF.trans hout), fr_σ_20⟩ dX12_pour_57
          · skip
            replace hF := q_ifn hF (Int.not_lt.mpr c_17)
            refine lv_aload_n hx hb dX12_pour_43 rfl (lv_at hl 0 rfl) ?_
            refine gs_X12_17_12 E hI ha dX12_pour_44 ?_
            refine lv_iload_n hx hb dX12_pour_47 rfl (lv_at hl 3 rfl) ?_
            refine q_iald E hI (q_tk (k' := 31) hI ha rfl (Nat.succ_ne_zero _)) ⟨by decide, rfl⟩ (by omega) (by rw [q_lnk (v := 4) hI (q_tk (k' := 31) hI ha rfl (Nat.succ_ne_zero _)) rfl (by decide)]; omega) dX12_pour_48 ?_
            refine lv_topi (fun f_21 ef_21 => ?_)
            replace hF := q_letX hF ef_21
            have bf_21 : -1 ≤ f_21.toInt ∧ f_21.toInt ≤ 60 := by rw [ef_21]; exact q_bd hI (q_tk (k' := 31) hI ha rfl (Nat.succ_ne_zero _)) rfl
            have if_21 : f_21.toInt = (σ_2.1 (q_rf X a 5) (v3 : Int32).toNatClampNeg).toInt := congrArg Int32.toInt ef_21
            refine q_if_ge (A := f_21.toInt) E rfl (tgt := 58) dX12_pour_49 (by decide) (fun c_22 => ?_) (fun c_22 => ?_)
            · skip
              replace hF := q_ifn hF (Int.not_lt.mpr c_22)
              refine lv_aload_n hx hb dX12_pour_58 rfl (lv_at hl 0 rfl) ?_
              refine gs_X12_13_12 E hI ha dX12_pour_59 ?_
              refine lv_iload_n hx hb dX12_pour_62 rfl (lv_at hl 1 rfl) ?_
              refine q_iald E hI (q_tk (k' := 30) hI ha rfl (Nat.succ_ne_zero _)) ⟨by decide, rfl⟩ (by omega) (by rw [q_lnk (v := 4) hI (q_tk (k' := 30) hI ha rfl (Nat.succ_ne_zero _)) rfl (by decide)]; omega) dX12_pour_63 ?_
              refine lv_topi (fun f_23 ef_23 => ?_)
              replace hF := q_letX hF ef_23
              have bf_23 : 0 ≤ f_23.toInt ∧ f_23.toInt ≤ 3 := by rw [ef_23]; exact q_bd hI (q_tk (k' := 30) hI ha rfl (Nat.succ_ne_zero _)) rfl
              have if_23 : f_23.toInt = (σ_2.1 (q_rf X a 4) (v1 : Int32).toNatClampNeg).toInt := congrArg Int32.toInt ef_23
              refine lv_aload_n hx hb dX12_pour_64 rfl (lv_at hl 0 rfl) ?_
              refine gs_X12_13_12 E hI ha dX12_pour_65 ?_
              refine lv_iload_n hx hb dX12_pour_68 rfl (lv_at hl 3 rfl) ?_
              refine q_iald E hI (q_tk (k' := 30) hI ha rfl (Nat.succ_ne_zero _)) ⟨by decide, rfl⟩ (by omega) (by rw [q_lnk (v := 4) hI (q_tk (k' := 30) hI ha rfl (Nat.succ_ne_zero _)) rfl (by decide)]; omega) dX12_pour_69 ?_
              refine lv_topi (fun f_24 ef_24 => ?_)
              replace hF := q_letX hF ef_24
              have bf_24 : 0 ≤ f_24.toInt ∧ f_24.toInt ≤ 3 := by rw [ef_24]; exact q_bd hI (q_tk (k' := 30) hI ha rfl (Nat.succ_ne_zero _)) rfl
              have if_24 : f_24.toInt = (σ_2.1 (q_rf X a 4) (v3 : Int32).toNatClampNeg).toInt := congrArg Int32.toInt ef_24
              have gc_25_f_23 := q_rng f_23
              have gc_25_f_24 := q_rng f_24
              refine q_icmp_eq (A := f_23.toInt) (B := f_24.toInt) E rfl rfl (tgt := 80) dX12_pour_70 (by decide) (fun c_25 => ?_) (fun c_25 => ?_)
              · skip
                replace hF := q_ifp hF c_25
                refine lv_iload hx hb dX12_pour_80 (lv_at hl 5 rfl) ?_
                refine q_if_ge (A := v5.toInt) E rfl (tgt := 92) dX12_pour_82 (by decide) (fun c_26 => ?_) (fun c_26 => ?_)
                · skip
                  replace hF := q_ifn hF (Int.not_lt.mpr c_26)
                  refine lv_iload_n hx hb dX12_pour_92 rfl (lv_at hl 2 rfl) ?_
                  refine q_if_lt (A := v2.toInt) E rfl (tgt := 136) dX12_pour_93 (by decide) (fun c_27 => ?_) (fun c_27 => ?_)
                  · skip
                    replace hF := q_ifp hF c_27
                    refine lv_aload_n hx hb dX12_pour_136 rfl (lv_at hl 0 rfl) ?_
                    refine lv_iconst (v := 4) hx hb dX12_pour_137 zki_4 ?_
                    have kc_28 : (4 : Int32).toInt = 4 := zt_4
                    refine q_ci (q_rV11_1 (rest := []) E (hml.trans hl.1.symm) hI (c_X12_no l X σ_2 a (4 : Int32) ha) kv_X12_74 ha ⟨Nat.le_of_ble_eq_true rfl, Nat.le_of_ble_eq_true rfl⟩ (Nat.le_of_ble_eq_true rfl) dX12_pour_138) hI (Nat.le_of_ble_eq_true rfl) (fun r_29 σ_30 H locs hpσ_30 hkσ_30 hI => ?_)
                    have ahpσ_30 := hpσ_30.1
                    have bhpσ_30 := hpσ_30.2.1
                    have chpσ_30 := hpσ_30.2.2.1
                    have dhpσ_30 := hpσ_30.2.2.2
                    clear hpσ_30
                    have fr_σ_30 := fr_σ_2.call dhpσ_30 rfl rfl
                    replace hF := q_biX hF chpσ_30
                    exact q_retz E hr hlk hI ⟨by omega, by omega⟩ ⟨⟨by omega, by omega⟩, (by constructor <;> intro h9 <;> omega), (hF.trans hout), fr_σ_30⟩ dX12_pour_141
                  · skip
                    replace hF := q_ifn hF (Int.not_lt.mpr c_27)
                    refine lv_iload hx hb dX12_pour_96 (lv_at hl 4 rfl) ?_
                    refine q_if_lt (A := v4.toInt) E rfl (tgt := 136) dX12_pour_98 (by decide) (fun c_31 => ?_) (fun c_31 => ?_)
                    · skip
                      replace hF := q_ifp hF c_31
                      refine lv_aload_n hx hb dX12_pour_136 rfl (lv_at hl 0 rfl) ?_
                      refine lv_iconst (v := 4) hx hb dX12_pour_137 zki_4 ?_
                      have kc_32 : (4 : Int32).toInt = 4 := zt_4
                      refine q_ci (q_rV11_1 (rest := []) E (hml.trans hl.1.symm) hI (c_X12_no l X σ_2 a (4 : Int32) ha) kv_X12_74 ha ⟨Nat.le_of_ble_eq_true rfl, Nat.le_of_ble_eq_true rfl⟩ (Nat.le_of_ble_eq_true rfl) dX12_pour_138) hI (Nat.le_of_ble_eq_true rfl) (fun r_33 σ_34 H locs hpσ_34 hkσ_34 hI => ?_)
                      have ahpσ_34 := hpσ_34.1
                      have bhpσ_34 := hpσ_34.2.1
                      have chpσ_34 := hpσ_34.2.2.1
                      have dhpσ_34 := hpσ_34.2.2.2
                      clear hpσ_34
                      have fr_σ_34 := fr_σ_2.call dhpσ_34 rfl rfl
                      replace hF := q_biX hF chpσ_34
                      exact q_retz E hr hlk hI ⟨by omega, by omega⟩ ⟨⟨by omega, by omega⟩, (by constructor <;> intro h9 <;> omega), (hF.trans hout), fr_σ_34⟩ dX12_pour_141
                    · skip
                      replace hF := q_ifn hF (Int.not_lt.mpr c_31)
                      refine lv_iload_n hx hb dX12_pour_101 rfl (lv_at hl 2 rfl) ?_
                      refine lv_i2l hx hb dX12_pour_102 rfl ?_
                      refine lv_topl (fun y_35 ey_35 => ?_)
                      replace hF := q_letX hF ey_35
                      have ggy_35 := q_rng v2
                      have iy_35 : y_35.toInt = v2.toInt := by rw [ey_35]; exact (q_i2l _).trans rfl
                      refine lv_iload hx hb dX12_pour_103 (lv_at hl 5 rfl) ?_
                      refine lv_i2l hx hb dX12_pour_105 rfl ?_
                      refine lv_topl (fun y_36 ey_36 => ?_)
                      replace hF := q_letX hF ey_36
                      have ggy_36 := q_rng v5
                      have iy_36 : y_36.toInt = v5.toInt := by rw [ey_36]; exact (q_i2l _).trans rfl
                      refine lv_ladd hx hb dX12_pour_106 ?_
                      refine lv_topl (fun y_37 ey_37 => ?_)
                      replace hF := q_letX hF ey_37
                      have iy_37 := q_addJ (A := y_35.toInt) (B := y_36.toInt) ey_37 rfl rfl (by first | (clear tfσ_2 tgσ_2 sfσ_2 sgσ_2 c_3 gc_7_v1 c_7 c_11 gc_15_v3 c_15 bf_16 if_16 c_17 bf_21 if_21 c_22 bf_23 if_23 bf_24 if_24 gc_25_f_23 gc_25_f_24 c_25 c_31; omega) | omega) (by first | (clear tfσ_2 tgσ_2 sfσ_2 sgσ_2 c_3 gc_7_v1 c_7 c_11 gc_15_v3 c_15 bf_16 if_16 c_17 bf_21 if_21 c_22 bf_23 if_23 bf_24 if_24 gc_25_f_23 gc_25_f_24 c_25 c_31; omega) | omega)
                      refine lv_aload_n hx hb dX12_pour_107 rfl (lv_at hl 0 rfl) ?_
                      refine gs_X12_17_12 E hI ha dX12_pour_108 ?_
                      refine lv_iload_n hx hb dX12_pour_111 rfl (lv_at hl 1 rfl) ?_
                      refine q_iald E hI (q_tk (k' := 31) hI ha rfl (Nat.succ_ne_zero _)) ⟨by decide, rfl⟩ (by omega) (by rw [q_lnk (v := 4) hI (q_tk (k' := 31) hI ha rfl (Nat.succ_ne_zero _)) rfl (by decide)]; omega) dX12_pour_112 ?_
                      refine lv_topi (fun f_38 ef_38 => ?_)
                      replace hF := q_letX hF ef_38
                      have bf_38 : -1 ≤ f_38.toInt ∧ f_38.toInt ≤ 60 := by rw [ef_38]; exact q_bd hI (q_tk (k' := 31) hI ha rfl (Nat.succ_ne_zero _)) rfl
                      have if_38 : f_38.toInt = (σ_2.1 (q_rf X a 5) (v1 : Int32).toNatClampNeg).toInt := congrArg Int32.toInt ef_38
                      refine lv_i2l hx hb dX12_pour_113 rfl ?_
                      refine lv_topl (fun y_39 ey_39 => ?_)
                      replace hF := q_letX hF ey_39
                      have ggy_39 := q_rng f_38
                      have iy_39 : y_39.toInt = f_38.toInt := by rw [ey_39]; exact (q_i2l _).trans rfl
                      refine q_lcmpX E dX12_pour_114 (fun z_40 ez_40 hz_40 => ?_)
                      replace hF := q_letX hF ez_40
                      refine q_if_gt (A := z_40.toInt) E rfl (tgt := 136) dX12_pour_115 (by decide) (fun c_41 => ?_) (fun c_41 => ?_)
                      · skip
                        replace hF := q_ifp hF c_41
                        refine lv_aload_n hx hb dX12_pour_136 rfl (lv_at hl 0 rfl) ?_
                        refine lv_iconst (v := 4) hx hb dX12_pour_137 zki_4 ?_
                        have kc_42 : (4 : Int32).toInt = 4 := zt_4
                        refine q_ci (q_rV11_1 (rest := []) E (hml.trans hl.1.symm) hI (c_X12_no l X σ_2 a (4 : Int32) ha) kv_X12_74 ha ⟨Nat.le_of_ble_eq_true rfl, Nat.le_of_ble_eq_true rfl⟩ (Nat.le_of_ble_eq_true rfl) dX12_pour_138) hI (Nat.le_of_ble_eq_true rfl) (fun r_43 σ_44 H locs hpσ_44 hkσ_44 hI => ?_)
                        have ahpσ_44 := hpσ_44.1
                        have bhpσ_44 := hpσ_44.2.1
                        have chpσ_44 := hpσ_44.2.2.1
                        have dhpσ_44 := hpσ_44.2.2.2
                        clear hpσ_44
                        have fr_σ_44 := fr_σ_2.call dhpσ_44 rfl rfl
                        replace hF := q_biX hF chpσ_44
                        exact q_retz E hr hlk hI ⟨by omega, by omega⟩ ⟨⟨by omega, by omega⟩, (by constructor <;> intro h9 <;> omega), (hF.trans hout), fr_σ_44⟩ dX12_pour_141
                      · skip
                        replace hF := q_ifn hF (Int.not_lt.mpr c_41)
                        refine lv_iload hx hb dX12_pour_118 (lv_at hl 4 rfl) ?_
                        refine lv_i2l hx hb dX12_pour_120 rfl ?_
                        refine lv_topl (fun y_45 ey_45 => ?_)
                        replace hF := q_letX hF ey_45
                        have ggy_45 := q_rng v4
                        have iy_45 : y_45.toInt = v4.toInt := by rw [ey_45]; exact (q_i2l _).trans rfl
                        refine lv_iload hx hb dX12_pour_121 (lv_at hl 5 rfl) ?_
                        refine lv_i2l hx hb dX12_pour_123 rfl ?_
                        refine lv_topl (fun y_46 ey_46 => ?_)
                        replace hF := q_letX hF ey_46
                        have ggy_46 := q_rng v5
                        have iy_46 : y_46.toInt = v5.toInt := by rw [ey_46]; exact (q_i2l _).trans rfl
                        refine lv_ladd hx hb dX12_pour_124 ?_
                        refine lv_topl (fun y_47 ey_47 => ?_)
                        replace hF := q_letX hF ey_47
                        have iy_47 := q_addJ (A := y_45.toInt) (B := y_46.toInt) ey_47 rfl rfl (by first | (clear tfσ_2 tgσ_2 sfσ_2 sgσ_2 c_3 gc_7_v1 c_7 c_11 gc_15_v3 c_15 bf_16 if_16 c_17 bf_21 if_21 c_22 bf_23 if_23 bf_24 if_24 gc_25_f_23 gc_25_f_24 c_25 c_27 ggy_35 iy_35 iy_37 bf_38 if_38 ggy_39 iy_39 hz_40 c_41 ggy_46; omega) | omega) (by first | (clear tfσ_2 tgσ_2 sfσ_2 sgσ_2 c_3 gc_7_v1 c_7 c_11 gc_15_v3 c_15 bf_16 if_16 c_17 bf_21 if_21 c_22 bf_23 if_23 bf_24 if_24 gc_25_f_23 gc_25_f_24 c_25 c_27 ggy_35 iy_35 iy_37 bf_38 if_38 ggy_39 iy_39 hz_40 c_41 ggy_46; omega) | omega)
                        refine lv_aload_n hx hb dX12_pour_125 rfl (lv_at hl 0 rfl) ?_
                        refine gs_X12_17_12 E hI ha dX12_pour_126 ?_
                        refine lv_iload_n hx hb dX12_pour_129 rfl (lv_at hl 3 rfl) ?_
                        refine q_iald E hI (q_tk (k' := 31) hI ha rfl (Nat.succ_ne_zero _)) ⟨by decide, rfl⟩ (by omega) (by rw [q_lnk (v := 4) hI (q_tk (k' := 31) hI ha rfl (Nat.succ_ne_zero _)) rfl (by decide)]; omega) dX12_pour_130 ?_
                        refine lv_topi (fun f_48 ef_48 => ?_)
                        replace hF := q_letX hF ef_48
                        have bf_48 : -1 ≤ f_48.toInt ∧ f_48.toInt ≤ 60 := by rw [ef_48]; exact q_bd hI (q_tk (k' := 31) hI ha rfl (Nat.succ_ne_zero _)) rfl
                        have if_48 : f_48.toInt = (σ_2.1 (q_rf X a 5) (v3 : Int32).toNatClampNeg).toInt := congrArg Int32.toInt ef_48
                        refine lv_i2l hx hb dX12_pour_131 rfl ?_
                        refine lv_topl (fun y_49 ey_49 => ?_)
                        replace hF := q_letX hF ey_49
                        have ggy_49 := q_rng f_48
                        have iy_49 : y_49.toInt = f_48.toInt := by rw [ey_49]; exact (q_i2l _).trans rfl
                        refine q_lcmpX E dX12_pour_132 (fun z_50 ez_50 hz_50 => ?_)
                        replace hF := q_letX hF ez_50
                        refine q_if_le (A := z_50.toInt) E rfl (tgt := 142) dX12_pour_133 (by decide) (fun c_51 => ?_) (fun c_51 => ?_)
                        · skip
                          replace hF := q_ifn hF (Int.not_lt.mpr c_51)
                          refine lv_iload_n hx hb dX12_pour_142 rfl (lv_at hl 2 rfl) ?_
                          refine lv_iload hx hb dX12_pour_143 (lv_at hl 4 rfl) ?_
                          have gc_52_v2 := q_rng v2
                          have gc_52_v4 := q_rng v4
                          refine q_icmp_ge (A := v2.toInt) (B := v4.toInt) E rfl rfl (tgt := 152) dX12_pour_145 (by decide) (fun c_52 => ?_) (fun c_52 => ?_)
                          · skip
                            replace hF := q_ifn hF (Int.not_lt.mpr c_52)
                            refine lv_iconst (v := 0) hx hb dX12_pour_152 zki_0 ?_
                            refine lv_istore (lv' := [(6, .int 0), (0, .ref a), (1, .int v1), (2, .int v2), (3, .int v3), (4, .int v4), (5, .int v5)]) hx hb dX12_pour_153 hl (by decide) rfl (fun ls hl => ?_)
                            refine lv_iconst (v := 0) hx hb dX12_pour_155 zki_0 ?_
                            refine lv_istore (lv' := [(7, .int 0), (6, .int 0), (0, .ref a), (1, .int v1), (2, .int v2), (3, .int v3), (4, .int v4), (5, .int v5)]) hx hb dX12_pour_156 hl (by decide) rfl (fun ls hl => ?_)
                            have L_158_55 : ∀ (k_55 : Nat) (x_53 : Int32) (σ_54 : ST) (H : Heap) (locs : List Loc) (ls : Array Slot), (2147483647 - x_53.toInt).toNat < k_55 → (0 ≤ x_53.toInt) → (q_ow [(12, 0), (12, 1)] [(32, 99)] X σ σ_54) → (F_X12_pour_L158_1 X v5 v3 v4 v1 v2 a k_55 x_53 σ_54 = out) → q_I X 8 σ s.heap locs σ_54 H → lv_has ls 9 [(0, .ref a), (1, .int v1), (2, .int v2), (3, .int v3), (4, .int v4), (5, .int v5), (6, .int 0), (7, .int x_53)] → W p l e (q_rm 1 21) s m ([.ref a, .int v1, .int v2, .int v3, .int v4, .int v5] : List Value).toArray below meth c H locs 0 0 (MQ below (q_Qi X 8 σ (fun (r : Int32) (σ' : ST) => (0 ≤ r.toInt ∧ r.toInt ≤ 1) ∧ (r.toInt = 1 ↔ ((0 ≤ v1.toInt ∧ v1.toInt < 4) ∧ (0 ≤ v3.toInt ∧ v3.toInt < 4) ∧ 0 ≤ (σ.1 (q_rf X a 5) v1.toNatClampNeg).toInt ∧ 0 ≤ (σ.1 (q_rf X a 5) v3.toNatClampNeg).toInt ∧ (σ.1 (q_rf X a 4) v1.toNatClampNeg).toInt = (σ.1 (q_rf X a 4) v3.toNatClampNeg).toInt ∧ 0 ≤ v5.toInt ∧ 0 ≤ v2.toInt ∧ v2.toInt + v5.toInt ≤ (σ.1 (q_rf X a 5) v1.toNatClampNeg).toInt ∧ 0 ≤ v4.toInt ∧ v4.toInt + v5.toInt ≤ (σ.1 (q_rf X a 5) v3.toNatClampNeg).toInt)) ∧ (r, σ') = F_X12_pour X σ a v1 v2 v3 v4 v5 ∧ q_ow [(12, 0), (12, 1)] [(32, 99)] X σ σ')) ([.ref a, .int v1, .int v2, .int v3, .int v4, .int v5] : List Value).toArray s 0 0 (q_reg X)) (F0 m 158 ls []) := by
                              clear hF
                              intro k_55
                              induction k_55 with
                              | zero =>
                                intro x_53 σ_54 H locs ls hms
                                exact absurd hms (Nat.not_lt_zero _)
                              | succ k_55 ih158 =>
                                intro x_53 σ_54 H locs ls hm158 hge158 fr_σ_54 hF hI hl
                                replace hF := (F_X12_pour_L158_1_s).symm.trans hF
                                unfold F_X12_pour_B158_1 at hF
                                refine lv_iload hx hb dX12_pour_158 (lv_at hl 7 rfl) ?_
                                refine lv_iload hx hb dX12_pour_160 (lv_at hl 5 rfl) ?_
                                have gc_56_x_53 := q_rng x_53
                                have gc_56_v5 := q_rng v5
                                refine q_icmp_ge (A := x_53.toInt) (B := v5.toInt) E rfl rfl (tgt := 219) dX12_pour_162 (by decide) (fun c_56 => ?_) (fun c_56 => ?_)
                                · skip
                                  replace hF := q_ifn hF (Int.not_lt.mpr c_56)
                                  skip
                                  refine lv_iconst (v := 1) hx hb dX12_pour_219 zki_1 ?_
                                  have hrv : (1 : Int32).toInt = 1 := zt_1
                                  exact q_retz E hr hlk hI ⟨by decide, by decide⟩ ⟨⟨by decide, by decide⟩, (by constructor <;> intro h9 <;> omega), (hF.trans hout), fr_σ_54⟩ dX12_pour_220
                                · skip
                                  replace hF := q_ifp hF c_56
                                  refine lv_iload hx hb dX12_pour_165 (lv_at hl 6 rfl) ?_
                                  refine q_if_eq (A := 0) E (by decide) (tgt := 180) dX12_pour_167 (by decide) (fun c_57 => ?_) (fun c_57 => ?_)
                                  · skip
                                    replace hF := q_ifp hF c_57
                                    refine lv_iload hx hb dX12_pour_180 (lv_at hl 7 rfl) ?_
                                    refine lv_istore (lv' := [(8, .int x_53), (0, .ref a), (1, .int v1), (2, .int v2), (3, .int v3), (4, .int v4), (5, .int v5), (6, .int 0), (7, .int x_53)]) hx hb dX12_pour_182 hl (by decide) rfl (fun ls hl => ?_)
                                    refine lv_aload_n hx hb dX12_pour_184 rfl (lv_at hl 1 rfl) ?_
                                    refine gs_X12_20_12 E hI ha dX12_pour_185 ?_
                                    refine lv_bipush (v := 60) hx hb dX12_pour_188 zkb_60 ?_
                                    refine lv_iload_n hx hb dX12_pour_190 rfl (lv_at hl 4 rfl) ?_
                                    refine lv_imul hx hb dX12_pour_191 ?_
                                    refine lv_topi (fun z_58 ez_58 => ?_)
                                    replace hF := q_letX hF ez_58
                                    have iz_58 := q_mulI (A := 60) (B := v3.toInt) ez_58 (by decide) rfl (by first | (clear tfσ_2 tgσ_2 sfσ_2 sgσ_2 c_3 gc_7_v1 c_7 bf_16 if_16 c_17 bf_21 if_21 c_22 bf_23 if_23 bf_24 if_24 gc_25_f_23 gc_25_f_24 c_25 c_26 c_27 c_31 ggy_35 iy_35 ggy_36 iy_36 iy_37 bf_38 if_38 ggy_39 iy_39 hz_40 c_41 ggy_45 iy_45 ggy_46 iy_46 iy_47 bf_48 if_48 ggy_49 iy_49 hz_50 c_51 gc_52_v2 gc_52_v4 c_52 hm158 hge158 gc_56_x_53 gc_56_v5 c_56 c_57; omega) | omega) (by first | (clear tfσ_2 tgσ_2 sfσ_2 sgσ_2 c_3 gc_7_v1 c_7 bf_16 if_16 c_17 bf_21 if_21 c_22 bf_23 if_23 bf_24 if_24 gc_25_f_23 gc_25_f_24 c_25 c_26 c_27 c_31 ggy_35 iy_35 ggy_36 iy_36 iy_37 bf_38 if_38 ggy_39 iy_39 hz_40 c_41 ggy_45 iy_45 ggy_46 iy_46 iy_47 bf_48 if_48 ggy_49 iy_49 hz_50 c_51 gc_52_v2 gc_52_v4 c_52 hm158 hge158 gc_56_x_53 gc_56_v5 c_56 c_57; omega) | omega)
                                    refine lv_iload hx hb dX12_pour_192 (lv_at hl 5 rfl) ?_
                                    refine lv_iadd hx hb dX12_pour_194 ?_
                                    refine lv_topi (fun z_59 ez_59 => ?_)
                                    replace hF := q_letX hF ez_59
                                    have iz_59 := q_addI (A := (60 * v3.toInt)) (B := v4.toInt) ez_59 iz_58 rfl (by first | (clear tfσ_2 tgσ_2 sfσ_2 sgσ_2 c_3 gc_7_v1 c_7 bf_16 if_16 c_17 bf_21 if_21 c_22 bf_23 if_23 bf_24 if_24 gc_25_f_23 gc_25_f_24 c_25 c_26 c_27 ggy_35 iy_35 ggy_36 iy_36 iy_37 bf_38 if_38 ggy_39 iy_39 hz_40 c_41 ggy_46 iy_46 bf_48 if_48 ggy_49 iy_49 hz_50 c_51 gc_52_v2 gc_52_v4 c_52 hm158 hge158 gc_56_x_53 gc_56_v5 c_56 c_57 iz_58; omega) | omega) (by first | (clear tfσ_2 sfσ_2 sgσ_2 c_3 gc_7_v1 c_7 bf_16 if_16 c_17 bf_23 if_23 bf_24 if_24 gc_25_f_23 gc_25_f_24 c_25 c_27 ggy_35 iy_35 iy_37 bf_38 if_38 ggy_39 iy_39 hz_40 c_41 ggy_46 bf_48 ggy_49 gc_52_v2 gc_52_v4 c_52 hm158 gc_56_v5 c_57 iz_58; omega) | omega)
                                    refine lv_iload hx hb dX12_pour_195 (lv_at hl 0 rfl) ?_
                                    refine lv_iadd hx hb dX12_pour_197 ?_
                                    refine lv_topi (fun z_60 ez_60 => ?_)
                                    replace hF := q_letX hF ez_60
                                    have iz_60 := q_addI (A := ((60 * v3.toInt) + v4.toInt)) (B := x_53.toInt) ez_60 iz_59 rfl (by first | (clear tfσ_2 tgσ_2 sfσ_2 sgσ_2 c_3 gc_7_v1 c_7 bf_16 if_16 c_17 bf_21 if_21 c_22 bf_23 if_23 bf_24 if_24 gc_25_f_23 gc_25_f_24 c_25 c_26 c_27 ggy_35 iy_35 ggy_36 iy_36 iy_37 bf_38 if_38 ggy_39 iy_39 hz_40 c_41 ggy_46 iy_46 bf_48 if_48 ggy_49 iy_49 hz_50 c_51 gc_52_v2 gc_52_v4 c_52 hm158 gc_56_v5 c_56 c_57 iz_58; omega) | omega) (by first | (clear tfσ_2 sfσ_2 sgσ_2 c_3 gc_7_v1 c_7 bf_16 if_16 c_17 bf_23 if_23 bf_24 if_24 gc_25_f_23 gc_25_f_24 c_25 c_27 ggy_35 iy_35 iy_37 bf_38 if_38 ggy_39 iy_39 hz_40 c_41 ggy_46 bf_48 ggy_49 gc_52_v2 gc_52_v4 c_52 hm158 gc_56_v5 c_57 iz_58; omega) | omega)
                                    refine lv_aload_n hx hb dX12_pour_198 rfl (lv_at hl 1 rfl) ?_
                                    refine gs_X12_20_12 E hI ha dX12_pour_199 ?_
                                    refine lv_bipush (v := 60) hx hb dX12_pour_202 zkb_60 ?_
                                    refine lv_iload_n hx hb dX12_pour_204 rfl (lv_at hl 2 rfl) ?_
                                    refine lv_imul hx hb dX12_pour_205 ?_
                                    refine lv_topi (fun z_61 ez_61 => ?_)
                                    replace hF := q_letX hF ez_61
                                    have iz_61 := q_mulI (A := 60) (B := v1.toInt) ez_61 (by decide) rfl (by first | (clear tfσ_2 tgσ_2 sfσ_2 sgσ_2 c_11 gc_15_v3 c_15 bf_16 if_16 c_17 bf_21 if_21 c_22 bf_23 if_23 bf_24 if_24 gc_25_f_23 gc_25_f_24 c_25 c_26 c_27 c_31 ggy_35 iy_35 ggy_36 iy_36 iy_37 bf_38 if_38 ggy_39 iy_39 hz_40 c_41 ggy_45 iy_45 ggy_46 iy_46 iy_47 bf_48 if_48 ggy_49 iy_49 hz_50 c_51 gc_52_v2 gc_52_v4 c_52 hm158 hge158 gc_56_x_53 gc_56_v5 c_56 c_57 iz_58 iz_59 iz_60; omega) | omega) (by first | (clear tfσ_2 tgσ_2 sfσ_2 sgσ_2 c_11 gc_15_v3 c_15 bf_16 if_16 c_17 bf_21 if_21 c_22 bf_23 if_23 bf_24 if_24 gc_25_f_23 gc_25_f_24 c_25 c_26 c_27 c_31 ggy_35 iy_35 ggy_36 iy_36 iy_37 bf_38 if_38 ggy_39 iy_39 hz_40 c_41 ggy_45 iy_45 ggy_46 iy_46 iy_47 bf_48 if_48 ggy_49 iy_49 hz_50 c_51 gc_52_v2 gc_52_v4 c_52 hm158 hge158 gc_56_x_53 gc_56_v5 c_56 c_57 iz_58 iz_59 iz_60; omega) | omega)
                                    refine lv_iload_n hx hb dX12_pour_206 rfl (lv_at hl 3 rfl) ?_
                                    refine lv_iadd hx hb dX12_pour_207 ?_
                                    refine lv_topi (fun z_62 ez_62 => ?_)
                                    replace hF := q_letX hF ez_62
                                    have iz_62 := q_addI (A := (60 * v1.toInt)) (B := v2.toInt) ez_62 iz_61 rfl (by first | (clear tfσ_2 tgσ_2 sfσ_2 sgσ_2 c_11 gc_15_v3 c_15 bf_16 if_16 c_17 bf_21 if_21 c_22 bf_23 if_23 bf_24 if_24 gc_25_f_23 gc_25_f_24 c_25 c_26 c_31 ggy_36 bf_38 if_38 ggy_39 iy_39 hz_40 c_41 ggy_45 ggy_46 bf_48 if_48 ggy_49 iy_49 hz_50 c_51 gc_52_v2 gc_52_v4 c_52 hm158 hge158 gc_56_x_53 gc_56_v5 c_56 c_57 iz_58 iz_60 iz_61; omega) | omega) (by first | (clear tgσ_2 sfσ_2 sgσ_2 c_11 gc_15_v3 c_15 bf_21 if_21 c_22 bf_23 if_23 bf_24 if_24 gc_25_f_23 gc_25_f_24 c_25 c_31 bf_38 ggy_39 ggy_45 ggy_46 bf_48 if_48 ggy_49 iy_49 gc_52_v2 gc_52_v4 c_52 hm158 gc_56_v5 c_57 iz_58 iz_61; omega) | omega)
                                    refine lv_iload hx hb dX12_pour_208 (lv_at hl 0 rfl) ?_
                                    refine lv_iadd hx hb dX12_pour_210 ?_
                                    refine lv_topi (fun z_63 ez_63 => ?_)
                                    replace hF := q_letX hF ez_63
                                    have iz_63 := q_addI (A := ((60 * v1.toInt) + v2.toInt)) (B := x_53.toInt) ez_63 iz_62 rfl (by first | (clear tfσ_2 tgσ_2 sfσ_2 sgσ_2 c_11 gc_15_v3 c_15 bf_16 if_16 c_17 bf_21 if_21 c_22 bf_23 if_23 bf_24 if_24 gc_25_f_23 gc_25_f_24 c_25 c_31 bf_38 if_38 ggy_39 iy_39 hz_40 c_41 ggy_45 ggy_46 bf_48 if_48 ggy_49 iy_49 hz_50 c_51 gc_52_v2 gc_52_v4 c_52 hm158 gc_56_v5 c_57 iz_58 iz_61; omega) | omega) (by first | (clear tgσ_2 sfσ_2 sgσ_2 c_11 gc_15_v3 c_15 bf_21 if_21 c_22 bf_23 if_23 bf_24 if_24 gc_25_f_23 gc_25_f_24 c_25 c_27 c_31 ggy_35 bf_38 ggy_39 ggy_45 ggy_46 bf_48 if_48 ggy_49 iy_49 gc_52_v2 gc_52_v4 c_52 hm158 gc_56_v5 c_57 iz_58 iz_61; omega) | omega)
                                    refine q_lald E hI (q_tk (k' := 32) hI ha rfl (Nat.succ_ne_zero _)) ⟨by decide, rfl⟩ (by first | (clear tfσ_2 tgσ_2 sfσ_2 sgσ_2 c_11 gc_15_v3 c_15 bf_16 if_16 c_17 bf_21 if_21 c_22 bf_23 if_23 bf_24 if_24 gc_25_f_23 gc_25_f_24 c_25 c_27 ggy_35 bf_38 if_38 ggy_39 iy_39 hz_40 c_41 ggy_46 bf_48 if_48 ggy_49 iy_49 hz_50 c_51 gc_52_v2 gc_52_v4 hm158 gc_56_v5 c_57 iz_58 iz_61; omega) | omega) (by rw [q_lnk (v := 240) hI (q_tk (k' := 32) hI ha rfl (Nat.succ_ne_zero _)) rfl (by decide)]; omega) dX12_pour_211 ?_
                                    refine lv_topl (fun g_64 eg_64 => ?_)
                                    replace hF := q_letX hF eg_64
                                    refine q_lastN E hI (q_tk (k' := 32) hI ha rfl (Nat.succ_ne_zero _)) ⟨by decide, rfl⟩ (by first | (clear tfσ_2 tgσ_2 sfσ_2 sgσ_2 c_3 gc_7_v1 c_7 bf_16 if_16 c_17 bf_21 if_21 c_22 bf_23 if_23 bf_24 if_24 gc_25_f_23 gc_25_f_24 c_25 c_27 ggy_35 bf_38 if_38 ggy_39 iy_39 hz_40 c_41 ggy_46 bf_48 if_48 ggy_49 iy_49 hz_50 c_51 gc_52_v2 gc_52_v4 c_52 hm158 gc_56_v5 c_57 iz_58 iz_61; omega) | omega) (by rw [q_lnk (v := 240) hI (q_tk (k' := 32) hI ha rfl (Nat.succ_ne_zero _)) rfl (by decide)]; omega) dX12_pour_212 (fun H locs σ_65 hσ_65 hI => ?_)
                                    replace hF := q_letX hF hσ_65
                                    have fr_σ_65 := fr_σ_54.sl hσ_65 (q_tk (k' := 32) hI ha rfl (Nat.succ_ne_zero _)) rfl
                                    obtain ⟨z_66, ez_66⟩ : ∃ y : Int32, y = x_53 + 1 := ⟨_, rfl⟩
                                    replace hF := q_letX hF ez_66
                                    refine lv_iinc (v := z_66) (lv' := [(7, .int z_66), (8, .int x_53), (0, .ref a), (1, .int v1), (2, .int v2), (3, .int v3), (4, .int v4), (5, .int v5), (6, .int 0)]) hx hb dX12_pour_213 hl (k := 8) rfl (by rw [ez_66]; rfl) (by decide) rfl (fun ls hl => ?_)
                                    have iz_66 : z_66.toInt = x_53.toInt + 1 := q_inc ez_66 (by first | (clear tfσ_2 tgσ_2 sfσ_2 sgσ_2 c_3 gc_7_v1 c_7 c_11 gc_15_v3 c_15 bf_16 if_16 c_17 bf_21 if_21 c_22 bf_23 if_23 bf_24 if_24 gc_25_f_23 gc_25_f_24 c_25 c_27 c_31 ggy_35 bf_38 if_38 ggy_39 iy_39 hz_40 c_41 ggy_45 ggy_46 bf_48 if_48 ggy_49 iy_49 hz_50 c_51 gc_52_v2 gc_52_v4 c_52 hm158 gc_56_v5 c_57 iz_58 iz_61; omega) | omega)
                                    refine lv_goto (tgt := 158) hx hb dX12_pour_216 (by decide) ?_
                                    exact ih158 z_66 σ_65 _ _ ls (by first | (clear tfσ_2 tgσ_2 sfσ_2 sgσ_2 c_3 gc_7_v1 c_7 c_11 gc_15_v3 c_15 bf_16 if_16 c_17 bf_21 if_21 c_22 bf_23 if_23 bf_24 if_24 gc_25_f_23 gc_25_f_24 c_25 c_27 c_31 ggy_35 bf_38 if_38 ggy_39 iy_39 hz_40 c_41 ggy_45 ggy_46 bf_48 if_48 ggy_49 iy_49 hz_50 c_51 gc_52_v2 gc_52_v4 c_52 gc_56_v5 c_57 iz_58 iz_61; omega) | omega) (by first | (clear tfσ_2 tgσ_2 sfσ_2 sgσ_2 c_3 gc_7_v1 c_7 c_11 gc_15_v3 c_15 bf_16 if_16 c_17 bf_21 if_21 c_22 bf_23 if_23 bf_24 if_24 gc_25_f_23 gc_25_f_24 c_25 c_26 c_27 c_31 ggy_35 ggy_36 bf_38 if_38 ggy_39 iy_39 hz_40 c_41 ggy_45 ggy_46 bf_48 if_48 ggy_49 iy_49 hz_50 c_51 gc_52_v2 gc_52_v4 c_52 hm158 gc_56_v5 c_56 c_57 iz_58 iz_61; omega) | omega) fr_σ_65 hF hI (lv_sub hl [2, 3, 4, 5, 6, 7, 8, 0] rfl)
                                  · skip
                                    replace hF := q_ifn hF c_57
                                    refine lv_iload hx hb dX12_pour_170 (lv_at hl 5 rfl) ?_
                                    refine lv_iconst (v := 1) hx hb dX12_pour_172 zki_1 ?_
                                    refine lv_isub hx hb dX12_pour_173 ?_
                                    refine lv_topi (fun z_67 ez_67 => ?_)
                                    replace hF := q_letX hF ez_67
                                    have iz_67 := q_subI (A := v5.toInt) (B := 1) ez_67 rfl (by decide) (by first | (clear tfσ_2 tgσ_2 sfσ_2 sgσ_2 c_3 gc_7_v1 c_7 c_11 gc_15_v3 c_15 bf_16 if_16 c_17 bf_21 if_21 c_22 bf_23 if_23 bf_24 if_24 gc_25_f_23 gc_25_f_24 c_25 c_27 c_31 ggy_35 iy_35 iy_37 bf_38 if_38 ggy_39 iy_39 hz_40 c_41 ggy_45 iy_45 ggy_46 iy_47 bf_48 if_48 ggy_49 iy_49 hz_50 c_51 gc_52_v2 gc_52_v4 c_52 hm158 hge158 gc_56_x_53 gc_56_v5 c_56 c_57; omega) | omega) (by first | (clear tfσ_2 tgσ_2 sfσ_2 sgσ_2 c_3 gc_7_v1 c_7 c_11 gc_15_v3 c_15 bf_16 if_16 c_17 bf_21 if_21 c_22 bf_23 if_23 bf_24 if_24 gc_25_f_23 gc_25_f_24 c_25 c_27 c_31 ggy_35 iy_35 iy_37 bf_38 if_38 ggy_39 iy_39 hz_40 c_41 ggy_45 iy_45 ggy_46 iy_47 bf_48 if_48 ggy_49 iy_49 hz_50 c_51 gc_52_v2 gc_52_v4 c_52 hm158 hge158 gc_56_x_53 gc_56_v5 c_56 c_57; omega) | omega)
                                    refine lv_iload hx hb dX12_pour_174 (lv_at hl 7 rfl) ?_
                                    refine lv_isub hx hb dX12_pour_176 ?_
                                    refine lv_topi (fun z_68 ez_68 => ?_)
                                    replace hF := q_letX hF ez_68
                                    have iz_68 := q_subI (A := (v5.toInt - 1)) (B := x_53.toInt) ez_68 iz_67 rfl (by first | (clear tfσ_2 tgσ_2 sfσ_2 sgσ_2 c_3 gc_7_v1 c_7 c_11 gc_15_v3 c_15 bf_16 if_16 c_17 bf_21 if_21 c_22 bf_23 if_23 bf_24 if_24 gc_25_f_23 gc_25_f_24 c_25 c_26 c_27 c_31 ggy_35 iy_35 ggy_36 iy_37 bf_38 if_38 ggy_39 iy_39 hz_40 c_41 ggy_45 iy_45 ggy_46 iy_47 bf_48 if_48 ggy_49 iy_49 hz_50 c_51 gc_52_v2 gc_52_v4 c_52 hm158 hge158 gc_56_x_53 gc_56_v5 c_57; omega) | omega) (by first | (clear tfσ_2 tgσ_2 sfσ_2 sgσ_2 c_3 gc_7_v1 c_7 c_11 gc_15_v3 c_15 bf_16 if_16 c_17 bf_21 if_21 c_22 bf_23 if_23 bf_24 if_24 gc_25_f_23 gc_25_f_24 c_25 c_27 c_31 ggy_35 iy_35 iy_37 bf_38 if_38 ggy_39 iy_39 hz_40 c_41 ggy_45 iy_45 ggy_46 iy_47 bf_48 if_48 ggy_49 iy_49 hz_50 c_51 gc_52_v2 gc_52_v4 c_52 hm158 gc_56_v5 c_56 c_57; omega) | omega)
                                    refine lv_goto (tgt := 182) hx hb dX12_pour_177 (by decide) ?_
                                    refine lv_istore (lv' := [(8, .int z_68), (0, .ref a), (1, .int v1), (2, .int v2), (3, .int v3), (4, .int v4), (5, .int v5), (6, .int 0), (7, .int x_53)]) hx hb dX12_pour_182 hl (by decide) rfl (fun ls hl => ?_)
                                    refine lv_aload_n hx hb dX12_pour_184 rfl (lv_at hl 1 rfl) ?_
                                    refine gs_X12_20_12 E hI ha dX12_pour_185 ?_
                                    refine lv_bipush (v := 60) hx hb dX12_pour_188 zkb_60 ?_
                                    refine lv_iload_n hx hb dX12_pour_190 rfl (lv_at hl 4 rfl) ?_
                                    refine lv_imul hx hb dX12_pour_191 ?_
                                    refine lv_topi (fun z_69 ez_69 => ?_)
                                    replace hF := q_letX hF ez_69
                                    have iz_69 := q_mulI (A := 60) (B := v3.toInt) ez_69 (by decide) rfl (by first | (clear tfσ_2 tgσ_2 sfσ_2 sgσ_2 c_3 gc_7_v1 c_7 bf_16 if_16 c_17 bf_21 if_21 c_22 bf_23 if_23 bf_24 if_24 gc_25_f_23 gc_25_f_24 c_25 c_26 c_27 c_31 ggy_35 iy_35 ggy_36 iy_36 iy_37 bf_38 if_38 ggy_39 iy_39 hz_40 c_41 ggy_45 iy_45 ggy_46 iy_46 iy_47 bf_48 if_48 ggy_49 iy_49 hz_50 c_51 gc_52_v2 gc_52_v4 c_52 hm158 hge158 gc_56_x_53 gc_56_v5 c_56 c_57 iz_67 iz_68; omega) | omega) (by first | (clear tfσ_2 tgσ_2 sfσ_2 sgσ_2 c_3 gc_7_v1 c_7 bf_16 if_16 c_17 bf_21 if_21 c_22 bf_23 if_23 bf_24 if_24 gc_25_f_23 gc_25_f_24 c_25 c_26 c_27 c_31 ggy_35 iy_35 ggy_36 iy_36 iy_37 bf_38 if_38 ggy_39 iy_39 hz_40 c_41 ggy_45 iy_45 ggy_46 iy_46 iy_47 bf_48 if_48 ggy_49 iy_49 hz_50 c_51 gc_52_v2 gc_52_v4 c_52 hm158 hge158 gc_56_x_53 gc_56_v5 c_56 c_57 iz_67 iz_68; omega) | omega)
                                    refine lv_iload hx hb dX12_pour_192 (lv_at hl 5 rfl) ?_
                                    refine lv_iadd hx hb dX12_pour_194 ?_
                                    refine lv_topi (fun z_70 ez_70 => ?_)
                                    replace hF := q_letX hF ez_70
                                    have iz_70 := q_addI (A := (60 * v3.toInt)) (B := v4.toInt) ez_70 iz_69 rfl (by first | (clear tfσ_2 tgσ_2 sfσ_2 sgσ_2 c_3 gc_7_v1 c_7 bf_16 if_16 c_17 bf_21 if_21 c_22 bf_23 if_23 bf_24 if_24 gc_25_f_23 gc_25_f_24 c_25 c_26 c_27 ggy_35 iy_35 ggy_36 iy_37 bf_38 if_38 ggy_39 iy_39 hz_40 c_41 ggy_46 bf_48 if_48 ggy_49 iy_49 hz_50 c_51 gc_52_v2 gc_52_v4 c_52 hm158 hge158 gc_56_x_53 gc_56_v5 c_56 c_57 iz_68 iz_69; omega) | omega) (by first | (clear tfσ_2 tgσ_2 sfσ_2 sgσ_2 c_3 gc_7_v1 c_7 c_11 gc_15_v3 c_15 bf_16 if_16 c_17 bf_21 if_21 c_22 bf_23 if_23 bf_24 if_24 gc_25_f_23 gc_25_f_24 c_25 c_26 c_27 c_31 ggy_35 iy_35 ggy_36 iy_36 iy_37 bf_38 if_38 ggy_39 iy_39 hz_40 c_41 ggy_45 iy_45 ggy_46 iy_46 iy_47 bf_48 if_48 ggy_49 iy_49 hz_50 c_51 gc_52_v2 gc_52_v4 c_52 hm158 hge158 gc_56_x_53 gc_56_v5 c_56 iz_67 iz_68 iz_69; omega) | omega)
                                    refine lv_iload hx hb dX12_pour_195 (lv_at hl 0 rfl) ?_
                                    refine lv_iadd hx hb dX12_pour_197 ?_
                                    refine lv_topi (fun z_71 ez_71 => ?_)
                                    replace hF := q_letX hF ez_71
                                    have iz_71 := q_addI (A := ((60 * v3.toInt) + v4.toInt)) (B := ((v5.toInt - 1) - x_53.toInt)) ez_71 iz_70 iz_68 (by first | (clear tfσ_2 tgσ_2 sfσ_2 sgσ_2 c_3 gc_7_v1 c_7 bf_16 if_16 c_17 bf_21 if_21 c_22 bf_23 if_23 bf_24 if_24 gc_25_f_23 gc_25_f_24 c_25 c_27 ggy_35 iy_35 iy_37 bf_38 if_38 ggy_39 iy_39 hz_40 c_41 ggy_46 bf_48 if_48 ggy_49 iy_49 hz_50 c_51 gc_52_v2 gc_52_v4 c_52 hm158 gc_56_v5 c_57 iz_69; omega) | omega) (by first | (clear tfσ_2 tgσ_2 sfσ_2 sgσ_2 c_3 gc_7_v1 c_7 c_11 gc_15_v3 c_15 bf_16 if_16 c_17 bf_21 if_21 c_22 bf_23 if_23 bf_24 if_24 gc_25_f_23 gc_25_f_24 c_25 c_26 c_27 c_31 ggy_35 iy_35 ggy_36 iy_36 iy_37 bf_38 if_38 ggy_39 iy_39 hz_40 c_41 ggy_45 iy_45 ggy_46 iy_46 iy_47 bf_48 if_48 ggy_49 iy_49 hz_50 c_51 gc_52_v2 gc_52_v4 c_52 hm158 hge158 gc_56_x_53 gc_56_v5 c_56 iz_67 iz_68 iz_69 iz_70; omega) | omega)
                                    refine lv_aload_n hx hb dX12_pour_198 rfl (lv_at hl 1 rfl) ?_
                                    refine gs_X12_20_12 E hI ha dX12_pour_199 ?_
                                    refine lv_bipush (v := 60) hx hb dX12_pour_202 zkb_60 ?_
                                    refine lv_iload_n hx hb dX12_pour_204 rfl (lv_at hl 2 rfl) ?_
                                    refine lv_imul hx hb dX12_pour_205 ?_
                                    refine lv_topi (fun z_72 ez_72 => ?_)
                                    replace hF := q_letX hF ez_72
                                    have iz_72 := q_mulI (A := 60) (B := v1.toInt) ez_72 (by decide) rfl (by first | (clear tfσ_2 tgσ_2 sfσ_2 sgσ_2 c_11 gc_15_v3 c_15 bf_16 if_16 c_17 bf_21 if_21 c_22 bf_23 if_23 bf_24 if_24 gc_25_f_23 gc_25_f_24 c_25 c_26 c_27 c_31 ggy_35 iy_35 ggy_36 iy_36 iy_37 bf_38 if_38 ggy_39 iy_39 hz_40 c_41 ggy_45 iy_45 ggy_46 iy_46 iy_47 bf_48 if_48 ggy_49 iy_49 hz_50 c_51 gc_52_v2 gc_52_v4 c_52 hm158 hge158 gc_56_x_53 gc_56_v5 c_56 c_57 iz_67 iz_68 iz_69 iz_70 iz_71; omega) | omega) (by first | (clear tfσ_2 tgσ_2 sfσ_2 sgσ_2 c_11 gc_15_v3 c_15 bf_16 if_16 c_17 bf_21 if_21 c_22 bf_23 if_23 bf_24 if_24 gc_25_f_23 gc_25_f_24 c_25 c_26 c_27 c_31 ggy_35 iy_35 ggy_36 iy_36 iy_37 bf_38 if_38 ggy_39 iy_39 hz_40 c_41 ggy_45 iy_45 ggy_46 iy_46 iy_47 bf_48 if_48 ggy_49 iy_49 hz_50 c_51 gc_52_v2 gc_52_v4 c_52 hm158 hge158 gc_56_x_53 gc_56_v5 c_56 c_57 iz_67 iz_68 iz_69 iz_70 iz_71; omega) | omega)
                                    refine lv_iload_n hx hb dX12_pour_206 rfl (lv_at hl 3 rfl) ?_
                                    refine lv_iadd hx hb dX12_pour_207 ?_
                                    refine lv_topi (fun z_73 ez_73 => ?_)
                                    replace hF := q_letX hF ez_73
                                    have iz_73 := q_addI (A := (60 * v1.toInt)) (B := v2.toInt) ez_73 iz_72 rfl (by first | (clear tfσ_2 tgσ_2 sfσ_2 sgσ_2 c_11 gc_15_v3 c_15 bf_16 if_16 c_17 bf_21 if_21 c_22 bf_23 if_23 bf_24 if_24 gc_25_f_23 gc_25_f_24 c_25 c_26 c_31 ggy_36 bf_38 if_38 ggy_39 iy_39 hz_40 c_41 ggy_45 iy_45 ggy_46 iy_47 bf_48 if_48 ggy_49 iy_49 hz_50 c_51 gc_52_v2 gc_52_v4 c_52 hm158 hge158 gc_56_x_53 gc_56_v5 c_56 c_57 iz_68 iz_69 iz_70 iz_71 iz_72; omega) | omega) (by first | (clear tfσ_2 tgσ_2 sfσ_2 sgσ_2 c_3 gc_7_v1 c_7 c_11 gc_15_v3 c_15 bf_16 if_16 c_17 bf_21 if_21 c_22 bf_23 if_23 bf_24 if_24 gc_25_f_23 gc_25_f_24 c_25 c_26 c_27 c_31 ggy_35 iy_35 ggy_36 iy_36 iy_37 bf_38 if_38 ggy_39 iy_39 hz_40 c_41 ggy_45 iy_45 ggy_46 iy_46 iy_47 bf_48 if_48 ggy_49 iy_49 hz_50 c_51 gc_52_v2 gc_52_v4 c_52 hm158 hge158 gc_56_x_53 gc_56_v5 c_56 iz_67 iz_68 iz_69 iz_70 iz_71 iz_72; omega) | omega)
                                    refine lv_iload hx hb dX12_pour_208 (lv_at hl 0 rfl) ?_
                                    refine lv_iadd hx hb dX12_pour_210 ?_
                                    refine lv_topi (fun z_74 ez_74 => ?_)
                                    replace hF := q_letX hF ez_74
                                    have iz_74 := q_addI (A := ((60 * v1.toInt) + v2.toInt)) (B := ((v5.toInt - 1) - x_53.toInt)) ez_74 iz_73 iz_68 (by first | (clear tfσ_2 tgσ_2 sfσ_2 sgσ_2 c_11 gc_15_v3 c_15 bf_16 if_16 c_17 bf_21 if_21 c_22 bf_23 if_23 bf_24 if_24 gc_25_f_23 gc_25_f_24 c_25 c_31 bf_38 if_38 ggy_39 iy_39 hz_40 c_41 ggy_45 ggy_46 bf_48 if_48 ggy_49 iy_49 hz_50 c_51 gc_52_v2 gc_52_v4 c_52 hm158 gc_56_v5 c_57 iz_69 iz_72; omega) | omega) (by first | (clear tfσ_2 tgσ_2 sfσ_2 sgσ_2 c_3 gc_7_v1 c_7 c_11 gc_15_v3 c_15 bf_16 if_16 c_17 bf_21 if_21 c_22 bf_23 if_23 bf_24 if_24 gc_25_f_23 gc_25_f_24 c_25 c_26 c_27 c_31 ggy_35 iy_35 ggy_36 iy_36 iy_37 bf_38 if_38 ggy_39 iy_39 hz_40 c_41 ggy_45 iy_45 ggy_46 iy_46 iy_47 bf_48 if_48 ggy_49 iy_49 hz_50 c_51 gc_52_v2 gc_52_v4 c_52 hm158 hge158 gc_56_x_53 gc_56_v5 c_56 iz_67 iz_68 iz_69 iz_70 iz_71 iz_72 iz_73; omega) | omega)
                                    refine q_lald E hI (q_tk (k' := 32) hI ha rfl (Nat.succ_ne_zero _)) ⟨by decide, rfl⟩ (by first | (clear tfσ_2 tgσ_2 sfσ_2 sgσ_2 c_11 gc_15_v3 c_15 bf_16 if_16 c_17 bf_21 if_21 c_22 bf_23 if_23 bf_24 if_24 gc_25_f_23 gc_25_f_24 c_25 c_27 ggy_35 bf_38 if_38 ggy_39 iy_39 hz_40 c_41 ggy_46 bf_48 if_48 ggy_49 iy_49 hz_50 c_51 gc_52_v2 gc_52_v4 hm158 gc_56_v5 c_57 iz_69 iz_72; omega) | omega) (by rw [q_lnk (v := 240) hI (q_tk (k' := 32) hI ha rfl (Nat.succ_ne_zero _)) rfl (by decide)]; omega) dX12_pour_211 ?_
                                    refine lv_topl (fun g_75 eg_75 => ?_)
                                    replace hF := q_letX hF eg_75
                                    refine q_lastN E hI (q_tk (k' := 32) hI ha rfl (Nat.succ_ne_zero _)) ⟨by decide, rfl⟩ (by first | (clear tfσ_2 tgσ_2 sfσ_2 sgσ_2 c_3 gc_7_v1 c_7 bf_16 if_16 c_17 bf_21 if_21 c_22 bf_23 if_23 bf_24 if_24 gc_25_f_23 gc_25_f_24 c_25 c_26 c_27 ggy_35 ggy_36 bf_38 if_38 ggy_39 iy_39 hz_40 c_41 ggy_46 bf_48 if_48 ggy_49 iy_49 hz_50 c_51 gc_52_v2 gc_52_v4 c_52 hm158 hge158 gc_56_x_53 gc_56_v5 c_57 iz_69 iz_72; omega) | omega) (by rw [q_lnk (v := 240) hI (q_tk (k' := 32) hI ha rfl (Nat.succ_ne_zero _)) rfl (by decide)]; omega) dX12_pour_212 (fun H locs σ_76 hσ_76 hI => ?_)
                                    replace hF := q_letX hF hσ_76
                                    have fr_σ_76 := fr_σ_54.sl hσ_76 (q_tk (k' := 32) hI ha rfl (Nat.succ_ne_zero _)) rfl
                                    obtain ⟨z_77, ez_77⟩ : ∃ y : Int32, y = x_53 + 1 := ⟨_, rfl⟩
                                    replace hF := q_letX hF ez_77
                                    refine lv_iinc (v := z_77) (lv' := [(7, .int z_77), (8, .int z_68), (0, .ref a), (1, .int v1), (2, .int v2), (3, .int v3), (4, .int v4), (5, .int v5), (6, .int 0)]) hx hb dX12_pour_213 hl (k := 8) rfl (by rw [ez_77]; rfl) (by decide) rfl (fun ls hl => ?_)
                                    have iz_77 : z_77.toInt = x_53.toInt + 1 := q_inc ez_77 (by first | (clear tfσ_2 tgσ_2 sfσ_2 sgσ_2 c_3 gc_7_v1 c_7 c_11 gc_15_v3 c_15 bf_16 if_16 c_17 bf_21 if_21 c_22 bf_23 if_23 bf_24 if_24 gc_25_f_23 gc_25_f_24 c_25 c_27 c_31 ggy_35 bf_38 if_38 ggy_39 iy_39 hz_40 c_41 ggy_45 ggy_46 bf_48 if_48 ggy_49 iy_49 hz_50 c_51 gc_52_v2 gc_52_v4 c_52 hm158 gc_56_v5 c_57 iz_69 iz_72; omega) | omega)
                                    refine lv_goto (tgt := 158) hx hb dX12_pour_216 (by decide) ?_
                                    exact ih158 z_77 σ_76 _ _ ls (by first | (clear tfσ_2 tgσ_2 sfσ_2 sgσ_2 c_3 gc_7_v1 c_7 c_11 gc_15_v3 c_15 bf_16 if_16 c_17 bf_21 if_21 c_22 bf_23 if_23 bf_24 if_24 gc_25_f_23 gc_25_f_24 c_25 c_26 c_27 c_31 ggy_35 iy_35 ggy_36 iy_36 iy_37 bf_38 if_38 ggy_39 iy_39 hz_40 c_41 ggy_45 iy_45 ggy_46 iy_46 iy_47 bf_48 if_48 ggy_49 iy_49 hz_50 c_51 gc_52_v2 gc_52_v4 c_52 hm158 hge158 gc_56_x_53 gc_56_v5 c_56 iz_67 iz_68 iz_69 iz_70 iz_71 iz_72 iz_73 iz_74 iz_77; omega) | omega) (by first | (clear tfσ_2 tgσ_2 sfσ_2 sgσ_2 c_3 gc_7_v1 c_7 c_11 gc_15_v3 c_15 bf_16 if_16 c_17 bf_21 if_21 c_22 bf_23 if_23 bf_24 if_24 gc_25_f_23 gc_25_f_24 c_25 c_26 c_27 c_31 ggy_35 ggy_36 bf_38 if_38 ggy_39 iy_39 hz_40 c_41 ggy_45 ggy_46 bf_48 if_48 ggy_49 iy_49 hz_50 c_51 gc_52_v2 gc_52_v4 c_52 hm158 gc_56_v5 c_56 c_57 iz_69 iz_72; omega) | omega) fr_σ_76 hF hI (lv_sub hl [2, 3, 4, 5, 6, 7, 8, 0] rfl)
                            exact L_158_55 ((2147483647 - (0 : Int32).toInt).toNat + 1) 0 σ_2 _ _ ls (Nat.lt_succ_self _) (by decide) fr_σ_2 hF hI (lv_sub hl [2, 3, 4, 5, 6, 7, 1, 0] rfl)
                          · skip
                            replace hF := q_ifp hF c_52
                            refine lv_iconst (v := 1) hx hb dX12_pour_148 zki_1 ?_
                            refine lv_goto (tgt := 153) hx hb dX12_pour_149 (by decide) ?_
                            refine lv_istore (lv' := [(6, .int 1), (0, .ref a), (1, .int v1), (2, .int v2), (3, .int v3), (4, .int v4), (5, .int v5)]) hx hb dX12_pour_153 hl (by decide) rfl (fun ls hl => ?_)
                            refine lv_iconst (v := 0) hx hb dX12_pour_155 zki_0 ?_
                            refine lv_istore (lv' := [(7, .int 0), (6, .int 1), (0, .ref a), (1, .int v1), (2, .int v2), (3, .int v3), (4, .int v4), (5, .int v5)]) hx hb dX12_pour_156 hl (by decide) rfl (fun ls hl => ?_)
                            have L_158_80 : ∀ (k_80 : Nat) (x_78 : Int32) (σ_79 : ST) (H : Heap) (locs : List Loc) (ls : Array Slot), (2147483647 - x_78.toInt).toNat < k_80 → (0 ≤ x_78.toInt) → (q_ow [(12, 0), (12, 1)] [(32, 99)] X σ σ_79) → (F_X12_pour_L158_3 X v5 v3 v4 v1 v2 a k_80 x_78 σ_79 = out) → q_I X 8 σ s.heap locs σ_79 H → lv_has ls 9 [(0, .ref a), (1, .int v1), (2, .int v2), (3, .int v3), (4, .int v4), (5, .int v5), (6, .int 1), (7, .int x_78)] → W p l e (q_rm 1 21) s m ([.ref a, .int v1, .int v2, .int v3, .int v4, .int v5] : List Value).toArray below meth c H locs 0 0 (MQ below (q_Qi X 8 σ (fun (r : Int32) (σ' : ST) => (0 ≤ r.toInt ∧ r.toInt ≤ 1) ∧ (r.toInt = 1 ↔ ((0 ≤ v1.toInt ∧ v1.toInt < 4) ∧ (0 ≤ v3.toInt ∧ v3.toInt < 4) ∧ 0 ≤ (σ.1 (q_rf X a 5) v1.toNatClampNeg).toInt ∧ 0 ≤ (σ.1 (q_rf X a 5) v3.toNatClampNeg).toInt ∧ (σ.1 (q_rf X a 4) v1.toNatClampNeg).toInt = (σ.1 (q_rf X a 4) v3.toNatClampNeg).toInt ∧ 0 ≤ v5.toInt ∧ 0 ≤ v2.toInt ∧ v2.toInt + v5.toInt ≤ (σ.1 (q_rf X a 5) v1.toNatClampNeg).toInt ∧ 0 ≤ v4.toInt ∧ v4.toInt + v5.toInt ≤ (σ.1 (q_rf X a 5) v3.toNatClampNeg).toInt)) ∧ (r, σ') = F_X12_pour X σ a v1 v2 v3 v4 v5 ∧ q_ow [(12, 0), (12, 1)] [(32, 99)] X σ σ')) ([.ref a, .int v1, .int v2, .int v3, .int v4, .int v5] : List Value).toArray s 0 0 (q_reg X)) (F0 m 158 ls []) := by
                              clear hF
                              intro k_80
                              induction k_80 with
                              | zero =>
                                intro x_78 σ_79 H locs ls hms
                                exact absurd hms (Nat.not_lt_zero _)
                              | succ k_80 ih158 =>
                                intro x_78 σ_79 H locs ls hm158 hge158 fr_σ_79 hF hI hl
                                replace hF := (F_X12_pour_L158_3_s).symm.trans hF
                                unfold F_X12_pour_B158_3 at hF
                                refine lv_iload hx hb dX12_pour_158 (lv_at hl 7 rfl) ?_
                                refine lv_iload hx hb dX12_pour_160 (lv_at hl 5 rfl) ?_
                                have gc_81_x_78 := q_rng x_78
                                have gc_81_v5 := q_rng v5
                                refine q_icmp_ge (A := x_78.toInt) (B := v5.toInt) E rfl rfl (tgt := 219) dX12_pour_162 (by decide) (fun c_81 => ?_) (fun c_81 => ?_)
                                · skip
                                  replace hF := q_ifn hF (Int.not_lt.mpr c_81)
                                  skip
                                  refine lv_iconst (v := 1) hx hb dX12_pour_219 zki_1 ?_
                                  have hrv : (1 : Int32).toInt = 1 := zt_1
                                  exact q_retz E hr hlk hI ⟨by decide, by decide⟩ ⟨⟨by decide, by decide⟩, (by constructor <;> intro h9 <;> omega), (hF.trans hout), fr_σ_79⟩ dX12_pour_220
                                · skip
                                  replace hF := q_ifp hF c_81
                                  refine lv_iload hx hb dX12_pour_165 (lv_at hl 6 rfl) ?_
                                  refine q_if_eq (A := 1) E (by decide) (tgt := 180) dX12_pour_167 (by decide) (fun c_82 => ?_) (fun c_82 => ?_)
                                  · skip
                                    replace hF := q_ifp hF c_82
                                    refine lv_iload hx hb dX12_pour_180 (lv_at hl 7 rfl) ?_
                                    refine lv_istore (lv' := [(8, .int x_78), (0, .ref a), (1, .int v1), (2, .int v2), (3, .int v3), (4, .int v4), (5, .int v5), (6, .int 1), (7, .int x_78)]) hx hb dX12_pour_182 hl (by decide) rfl (fun ls hl => ?_)
                                    refine lv_aload_n hx hb dX12_pour_184 rfl (lv_at hl 1 rfl) ?_
                                    refine gs_X12_20_12 E hI ha dX12_pour_185 ?_
                                    refine lv_bipush (v := 60) hx hb dX12_pour_188 zkb_60 ?_
                                    refine lv_iload_n hx hb dX12_pour_190 rfl (lv_at hl 4 rfl) ?_
                                    refine lv_imul hx hb dX12_pour_191 ?_
                                    refine lv_topi (fun z_83 ez_83 => ?_)
                                    replace hF := q_letX hF ez_83
                                    have iz_83 := q_mulI (A := 60) (B := v3.toInt) ez_83 (by decide) rfl (by first | (clear tfσ_2 tgσ_2 sfσ_2 sgσ_2 c_3 gc_7_v1 c_7 c_11 gc_15_v3 c_15 bf_16 if_16 c_17 bf_21 if_21 c_22 bf_23 if_23 bf_24 if_24 gc_25_f_23 gc_25_f_24 c_25 c_26 c_27 c_31 ggy_35 iy_35 ggy_36 iy_36 iy_37 bf_38 if_38 ggy_39 iy_39 hz_40 c_41 ggy_45 iy_45 ggy_46 iy_46 iy_47 bf_48 if_48 ggy_49 iy_49 hz_50 c_51 gc_52_v2 gc_52_v4 c_52 hm158 hge158 gc_81_x_78 gc_81_v5 c_81; omega) | omega) (by first | (clear tfσ_2 tgσ_2 sfσ_2 sgσ_2 c_3 gc_7_v1 c_7 c_11 gc_15_v3 c_15 bf_16 if_16 c_17 bf_21 if_21 c_22 bf_23 if_23 bf_24 if_24 gc_25_f_23 gc_25_f_24 c_25 c_26 c_27 c_31 ggy_35 iy_35 ggy_36 iy_36 iy_37 bf_38 if_38 ggy_39 iy_39 hz_40 c_41 ggy_45 iy_45 ggy_46 iy_46 iy_47 bf_48 if_48 ggy_49 iy_49 hz_50 c_51 gc_52_v2 gc_52_v4 c_52 hm158 hge158 gc_81_x_78 gc_81_v5 c_81; omega) | omega)
                                    refine lv_iload hx hb dX12_pour_192 (lv_at hl 5 rfl) ?_
                                    refine lv_iadd hx hb dX12_pour_194 ?_
                                    refine lv_topi (fun z_84 ez_84 => ?_)
                                    replace hF := q_letX hF ez_84
                                    have iz_84 := q_addI (A := (60 * v3.toInt)) (B := v4.toInt) ez_84 iz_83 rfl (by first | (clear tfσ_2 tgσ_2 sfσ_2 sgσ_2 c_3 gc_7_v1 c_7 c_11 gc_15_v3 c_15 bf_16 if_16 c_17 bf_21 if_21 c_22 bf_23 if_23 bf_24 if_24 gc_25_f_23 gc_25_f_24 c_25 c_26 c_27 c_31 ggy_35 iy_35 ggy_36 iy_36 iy_37 bf_38 if_38 ggy_39 iy_39 hz_40 c_41 ggy_45 iy_45 ggy_46 iy_46 iy_47 bf_48 if_48 ggy_49 iy_49 hz_50 c_51 gc_52_v2 gc_52_v4 c_52 hm158 hge158 gc_81_x_78 gc_81_v5 c_81 iz_83; omega) | omega) (by first | (clear tfσ_2 tgσ_2 sfσ_2 sgσ_2 c_3 gc_7_v1 c_7 c_11 gc_15_v3 c_15 bf_16 if_16 c_17 bf_21 if_21 c_22 bf_23 if_23 bf_24 if_24 gc_25_f_23 gc_25_f_24 c_25 c_26 c_27 c_31 ggy_35 iy_35 ggy_36 iy_36 iy_37 bf_38 if_38 ggy_39 iy_39 hz_40 c_41 ggy_45 iy_45 ggy_46 iy_46 iy_47 bf_48 if_48 ggy_49 iy_49 hz_50 c_51 gc_52_v2 gc_52_v4 c_52 hm158 hge158 gc_81_x_78 gc_81_v5 c_81 iz_83; omega) | omega)
                                    refine lv_iload hx hb dX12_pour_195 (lv_at hl 0 rfl) ?_
                                    refine lv_iadd hx hb dX12_pour_197 ?_
                                    refine lv_topi (fun z_85 ez_85 => ?_)
                                    replace hF := q_letX hF ez_85
                                    have iz_85 := q_addI (A := ((60 * v3.toInt) + v4.toInt)) (B := x_78.toInt) ez_85 iz_84 rfl (by first | (clear tfσ_2 tgσ_2 sfσ_2 sgσ_2 c_3 gc_7_v1 c_7 c_11 gc_15_v3 c_15 bf_16 if_16 c_17 bf_21 if_21 c_22 bf_23 if_23 bf_24 if_24 gc_25_f_23 gc_25_f_24 c_25 c_26 c_27 c_31 ggy_35 iy_35 ggy_36 iy_36 iy_37 bf_38 if_38 ggy_39 iy_39 hz_40 c_41 ggy_45 iy_45 ggy_46 iy_46 iy_47 bf_48 if_48 ggy_49 iy_49 hz_50 c_51 gc_52_v2 gc_52_v4 c_52 hm158 hge158 gc_81_x_78 gc_81_v5 c_81 iz_83 iz_84; omega) | omega) (by first | (clear tfσ_2 tgσ_2 sfσ_2 sgσ_2 c_3 gc_7_v1 c_7 c_11 gc_15_v3 c_15 bf_16 if_16 c_17 bf_21 if_21 c_22 bf_23 if_23 bf_24 if_24 gc_25_f_23 gc_25_f_24 c_25 c_26 c_27 c_31 ggy_35 iy_35 ggy_36 iy_36 iy_37 bf_38 if_38 ggy_39 iy_39 hz_40 c_41 ggy_45 iy_45 ggy_46 iy_46 iy_47 bf_48 if_48 ggy_49 iy_49 hz_50 c_51 gc_52_v2 gc_52_v4 c_52 hm158 hge158 gc_81_x_78 gc_81_v5 c_81 iz_83 iz_84; omega) | omega)
                                    refine lv_aload_n hx hb dX12_pour_198 rfl (lv_at hl 1 rfl) ?_
                                    refine gs_X12_20_12 E hI ha dX12_pour_199 ?_
                                    refine lv_bipush (v := 60) hx hb dX12_pour_202 zkb_60 ?_
                                    refine lv_iload_n hx hb dX12_pour_204 rfl (lv_at hl 2 rfl) ?_
                                    refine lv_imul hx hb dX12_pour_205 ?_
                                    refine lv_topi (fun z_86 ez_86 => ?_)
                                    replace hF := q_letX hF ez_86
                                    have iz_86 := q_mulI (A := 60) (B := v1.toInt) ez_86 (by decide) rfl (by first | (clear tfσ_2 tgσ_2 sfσ_2 sgσ_2 c_3 gc_7_v1 c_7 c_11 gc_15_v3 c_15 bf_16 if_16 c_17 bf_21 if_21 c_22 bf_23 if_23 bf_24 if_24 gc_25_f_23 gc_25_f_24 c_25 c_26 c_27 c_31 ggy_35 iy_35 ggy_36 iy_36 iy_37 bf_38 if_38 ggy_39 iy_39 hz_40 c_41 ggy_45 iy_45 ggy_46 iy_46 iy_47 bf_48 if_48 ggy_49 iy_49 hz_50 c_51 gc_52_v2 gc_52_v4 c_52 hm158 hge158 gc_81_x_78 gc_81_v5 c_81 iz_83 iz_84 iz_85; omega) | omega) (by first | (clear tfσ_2 tgσ_2 sfσ_2 sgσ_2 c_3 gc_7_v1 c_7 c_11 gc_15_v3 c_15 bf_16 if_16 c_17 bf_21 if_21 c_22 bf_23 if_23 bf_24 if_24 gc_25_f_23 gc_25_f_24 c_25 c_26 c_27 c_31 ggy_35 iy_35 ggy_36 iy_36 iy_37 bf_38 if_38 ggy_39 iy_39 hz_40 c_41 ggy_45 iy_45 ggy_46 iy_46 iy_47 bf_48 if_48 ggy_49 iy_49 hz_50 c_51 gc_52_v2 gc_52_v4 c_52 hm158 hge158 gc_81_x_78 gc_81_v5 c_81 iz_83 iz_84 iz_85; omega) | omega)
                                    refine lv_iload_n hx hb dX12_pour_206 rfl (lv_at hl 3 rfl) ?_
                                    refine lv_iadd hx hb dX12_pour_207 ?_
                                    refine lv_topi (fun z_87 ez_87 => ?_)
                                    replace hF := q_letX hF ez_87
                                    have iz_87 := q_addI (A := (60 * v1.toInt)) (B := v2.toInt) ez_87 iz_86 rfl (by first | (clear tfσ_2 tgσ_2 sfσ_2 sgσ_2 c_3 gc_7_v1 c_7 c_11 gc_15_v3 c_15 bf_16 if_16 c_17 bf_21 if_21 c_22 bf_23 if_23 bf_24 if_24 gc_25_f_23 gc_25_f_24 c_25 c_26 c_27 c_31 ggy_35 iy_35 ggy_36 iy_36 iy_37 bf_38 if_38 ggy_39 iy_39 hz_40 c_41 ggy_45 iy_45 ggy_46 iy_46 iy_47 bf_48 if_48 ggy_49 iy_49 hz_50 c_51 gc_52_v2 gc_52_v4 c_52 hm158 hge158 gc_81_x_78 gc_81_v5 c_81 iz_83 iz_84 iz_85 iz_86; omega) | omega) (by first | (clear tfσ_2 tgσ_2 sfσ_2 sgσ_2 c_3 gc_7_v1 c_7 c_11 gc_15_v3 c_15 bf_16 if_16 c_17 bf_21 if_21 c_22 bf_23 if_23 bf_24 if_24 gc_25_f_23 gc_25_f_24 c_25 c_26 c_27 c_31 ggy_35 iy_35 ggy_36 iy_36 iy_37 bf_38 if_38 ggy_39 iy_39 hz_40 c_41 ggy_45 iy_45 ggy_46 iy_46 iy_47 bf_48 if_48 ggy_49 iy_49 hz_50 c_51 gc_52_v2 gc_52_v4 c_52 hm158 hge158 gc_81_x_78 gc_81_v5 c_81 iz_83 iz_84 iz_85 iz_86; omega) | omega)
                                    refine lv_iload hx hb dX12_pour_208 (lv_at hl 0 rfl) ?_
                                    refine lv_iadd hx hb dX12_pour_210 ?_
                                    refine lv_topi (fun z_88 ez_88 => ?_)
                                    replace hF := q_letX hF ez_88
                                    have iz_88 := q_addI (A := ((60 * v1.toInt) + v2.toInt)) (B := x_78.toInt) ez_88 iz_87 rfl (by first | (clear tfσ_2 tgσ_2 sfσ_2 sgσ_2 c_3 gc_7_v1 c_7 c_11 gc_15_v3 c_15 bf_16 if_16 c_17 bf_21 if_21 c_22 bf_23 if_23 bf_24 if_24 gc_25_f_23 gc_25_f_24 c_25 c_26 c_27 c_31 ggy_35 iy_35 ggy_36 iy_36 iy_37 bf_38 if_38 ggy_39 iy_39 hz_40 c_41 ggy_45 iy_45 ggy_46 iy_46 iy_47 bf_48 if_48 ggy_49 iy_49 hz_50 c_51 gc_52_v2 gc_52_v4 c_52 hm158 hge158 gc_81_x_78 gc_81_v5 c_81 iz_83 iz_84 iz_85 iz_86 iz_87; omega) | omega) (by first | (clear tfσ_2 tgσ_2 sfσ_2 sgσ_2 c_3 gc_7_v1 c_7 c_11 gc_15_v3 c_15 bf_16 if_16 c_17 bf_21 if_21 c_22 bf_23 if_23 bf_24 if_24 gc_25_f_23 gc_25_f_24 c_25 c_26 c_27 c_31 ggy_35 iy_35 ggy_36 iy_36 iy_37 bf_38 if_38 ggy_39 iy_39 hz_40 c_41 ggy_45 iy_45 ggy_46 iy_46 iy_47 bf_48 if_48 ggy_49 iy_49 hz_50 c_51 gc_52_v2 gc_52_v4 c_52 hm158 hge158 gc_81_x_78 gc_81_v5 c_81 iz_83 iz_84 iz_85 iz_86 iz_87; omega) | omega)
                                    refine q_lald E hI (q_tk (k' := 32) hI ha rfl (Nat.succ_ne_zero _)) ⟨by decide, rfl⟩ (by first | (clear tfσ_2 tgσ_2 sfσ_2 sgσ_2 c_3 gc_7_v1 c_7 c_11 gc_15_v3 c_15 bf_16 if_16 c_17 bf_21 if_21 c_22 bf_23 if_23 bf_24 if_24 gc_25_f_23 gc_25_f_24 c_25 c_26 c_27 c_31 ggy_35 iy_35 ggy_36 iy_36 iy_37 bf_38 if_38 ggy_39 iy_39 hz_40 c_41 ggy_45 iy_45 ggy_46 iy_46 iy_47 bf_48 if_48 ggy_49 iy_49 hz_50 c_51 gc_52_v2 gc_52_v4 c_52 hm158 hge158 gc_81_x_78 gc_81_v5 c_81 iz_83 iz_84 iz_85 iz_86 iz_87 iz_88; omega) | omega) (by rw [q_lnk (v := 240) hI (q_tk (k' := 32) hI ha rfl (Nat.succ_ne_zero _)) rfl (by decide)]; omega) dX12_pour_211 ?_
                                    refine lv_topl (fun g_89 eg_89 => ?_)
                                    replace hF := q_letX hF eg_89
                                    refine q_lastN E hI (q_tk (k' := 32) hI ha rfl (Nat.succ_ne_zero _)) ⟨by decide, rfl⟩ (by first | (clear tfσ_2 tgσ_2 sfσ_2 sgσ_2 c_3 gc_7_v1 c_7 c_11 gc_15_v3 c_15 bf_16 if_16 c_17 bf_21 if_21 c_22 bf_23 if_23 bf_24 if_24 gc_25_f_23 gc_25_f_24 c_25 c_26 c_27 c_31 ggy_35 iy_35 ggy_36 iy_36 iy_37 bf_38 if_38 ggy_39 iy_39 hz_40 c_41 ggy_45 iy_45 ggy_46 iy_46 iy_47 bf_48 if_48 ggy_49 iy_49 hz_50 c_51 gc_52_v2 gc_52_v4 c_52 hm158 hge158 gc_81_x_78 gc_81_v5 c_81 iz_83 iz_84 iz_85 iz_86 iz_87 iz_88; omega) | omega) (by rw [q_lnk (v := 240) hI (q_tk (k' := 32) hI ha rfl (Nat.succ_ne_zero _)) rfl (by decide)]; omega) dX12_pour_212 (fun H locs σ_90 hσ_90 hI => ?_)
                                    replace hF := q_letX hF hσ_90
                                    have fr_σ_90 := fr_σ_79.sl hσ_90 (q_tk (k' := 32) hI ha rfl (Nat.succ_ne_zero _)) rfl
                                    obtain ⟨z_91, ez_91⟩ : ∃ y : Int32, y = x_78 + 1 := ⟨_, rfl⟩
                                    replace hF := q_letX hF ez_91
                                    refine lv_iinc (v := z_91) (lv' := [(7, .int z_91), (8, .int x_78), (0, .ref a), (1, .int v1), (2, .int v2), (3, .int v3), (4, .int v4), (5, .int v5), (6, .int 1)]) hx hb dX12_pour_213 hl (k := 8) rfl (by rw [ez_91]; rfl) (by decide) rfl (fun ls hl => ?_)
                                    have iz_91 : z_91.toInt = x_78.toInt + 1 := q_inc ez_91 (by first | (clear tfσ_2 tgσ_2 sfσ_2 sgσ_2 c_3 gc_7_v1 c_7 c_11 gc_15_v3 c_15 bf_16 if_16 c_17 bf_21 if_21 c_22 bf_23 if_23 bf_24 if_24 gc_25_f_23 gc_25_f_24 c_25 c_26 c_27 c_31 ggy_35 iy_35 ggy_36 iy_36 iy_37 bf_38 if_38 ggy_39 iy_39 hz_40 c_41 ggy_45 iy_45 ggy_46 iy_46 iy_47 bf_48 if_48 ggy_49 iy_49 hz_50 c_51 gc_52_v2 gc_52_v4 c_52 hm158 hge158 gc_81_x_78 gc_81_v5 c_81 iz_83 iz_84 iz_85 iz_86 iz_87 iz_88; omega) | omega)
                                    refine lv_goto (tgt := 158) hx hb dX12_pour_216 (by decide) ?_
                                    exact ih158 z_91 σ_90 _ _ ls (by first | (clear tfσ_2 tgσ_2 sfσ_2 sgσ_2 c_3 gc_7_v1 c_7 c_11 gc_15_v3 c_15 bf_16 if_16 c_17 bf_21 if_21 c_22 bf_23 if_23 bf_24 if_24 gc_25_f_23 gc_25_f_24 c_25 c_26 c_27 c_31 ggy_35 iy_35 ggy_36 iy_36 iy_37 bf_38 if_38 ggy_39 iy_39 hz_40 c_41 ggy_45 iy_45 ggy_46 iy_46 iy_47 bf_48 if_48 ggy_49 iy_49 hz_50 c_51 gc_52_v2 gc_52_v4 c_52 hm158 hge158 gc_81_x_78 gc_81_v5 c_81 iz_83 iz_84 iz_85 iz_86 iz_87 iz_88 iz_91; omega) | omega) (by first | (clear tfσ_2 tgσ_2 sfσ_2 sgσ_2 c_3 gc_7_v1 c_7 c_11 gc_15_v3 c_15 bf_16 if_16 c_17 bf_21 if_21 c_22 bf_23 if_23 bf_24 if_24 gc_25_f_23 gc_25_f_24 c_25 c_26 c_27 c_31 ggy_35 iy_35 ggy_36 iy_36 iy_37 bf_38 if_38 ggy_39 iy_39 hz_40 c_41 ggy_45 iy_45 ggy_46 iy_46 iy_47 bf_48 if_48 ggy_49 iy_49 hz_50 c_51 gc_52_v2 gc_52_v4 c_52 hm158 hge158 gc_81_x_78 gc_81_v5 c_81 iz_83 iz_84 iz_85 iz_86 iz_87 iz_88 iz_91; omega) | omega) fr_σ_90 hF hI (lv_sub hl [2, 3, 4, 5, 6, 7, 8, 0] rfl)
                                  · skip
                                    replace hF := q_ifn hF c_82
                                    refine lv_iload hx hb dX12_pour_170 (lv_at hl 5 rfl) ?_
                                    refine lv_iconst (v := 1) hx hb dX12_pour_172 zki_1 ?_
                                    refine lv_isub hx hb dX12_pour_173 ?_
                                    refine lv_topi (fun z_92 ez_92 => ?_)
                                    replace hF := q_letX hF ez_92
                                    have iz_92 := q_subI (A := v5.toInt) (B := 1) ez_92 rfl (by decide) (by first | (clear tfσ_2 tgσ_2 sfσ_2 sgσ_2 c_3 gc_7_v1 c_7 c_11 gc_15_v3 c_15 bf_16 if_16 c_17 bf_21 if_21 c_22 bf_23 if_23 bf_24 if_24 gc_25_f_23 gc_25_f_24 c_25 c_27 c_31 ggy_35 iy_35 iy_37 bf_38 if_38 ggy_39 iy_39 hz_40 c_41 ggy_45 iy_45 ggy_46 iy_47 bf_48 if_48 ggy_49 iy_49 hz_50 c_51 gc_52_v2 gc_52_v4 c_52 hm158 hge158 gc_81_x_78 gc_81_v5 c_81 c_82; omega) | omega) (by first | (clear tfσ_2 tgσ_2 sfσ_2 sgσ_2 c_3 gc_7_v1 c_7 c_11 gc_15_v3 c_15 bf_16 if_16 c_17 bf_21 if_21 c_22 bf_23 if_23 bf_24 if_24 gc_25_f_23 gc_25_f_24 c_25 c_27 c_31 ggy_35 iy_35 iy_37 bf_38 if_38 ggy_39 iy_39 hz_40 c_41 ggy_45 iy_45 ggy_46 iy_47 bf_48 if_48 ggy_49 iy_49 hz_50 c_51 gc_52_v2 gc_52_v4 c_52 hm158 hge158 gc_81_x_78 gc_81_v5 c_81 c_82; omega) | omega)
                                    refine lv_iload hx hb dX12_pour_174 (lv_at hl 7 rfl) ?_
                                    refine lv_isub hx hb dX12_pour_176 ?_
                                    refine lv_topi (fun z_93 ez_93 => ?_)
                                    replace hF := q_letX hF ez_93
                                    have iz_93 := q_subI (A := (v5.toInt - 1)) (B := x_78.toInt) ez_93 iz_92 rfl (by first | (clear tfσ_2 tgσ_2 sfσ_2 sgσ_2 c_3 gc_7_v1 c_7 c_11 gc_15_v3 c_15 bf_16 if_16 c_17 bf_21 if_21 c_22 bf_23 if_23 bf_24 if_24 gc_25_f_23 gc_25_f_24 c_25 c_26 c_27 c_31 ggy_35 iy_35 ggy_36 iy_37 bf_38 if_38 ggy_39 iy_39 hz_40 c_41 ggy_45 iy_45 ggy_46 iy_47 bf_48 if_48 ggy_49 iy_49 hz_50 c_51 gc_52_v2 gc_52_v4 c_52 hm158 hge158 gc_81_x_78 gc_81_v5 c_82; omega) | omega) (by first | (clear tfσ_2 tgσ_2 sfσ_2 sgσ_2 c_3 gc_7_v1 c_7 c_11 gc_15_v3 c_15 bf_16 if_16 c_17 bf_21 if_21 c_22 bf_23 if_23 bf_24 if_24 gc_25_f_23 gc_25_f_24 c_25 c_27 c_31 ggy_35 iy_35 iy_37 bf_38 if_38 ggy_39 iy_39 hz_40 c_41 ggy_45 iy_45 ggy_46 iy_47 bf_48 if_48 ggy_49 iy_49 hz_50 c_51 gc_52_v2 gc_52_v4 c_52 hm158 gc_81_v5 c_81 c_82; omega) | omega)
                                    refine lv_goto (tgt := 182) hx hb dX12_pour_177 (by decide) ?_
                                    refine lv_istore (lv' := [(8, .int z_93), (0, .ref a), (1, .int v1), (2, .int v2), (3, .int v3), (4, .int v4), (5, .int v5), (6, .int 1), (7, .int x_78)]) hx hb dX12_pour_182 hl (by decide) rfl (fun ls hl => ?_)
                                    refine lv_aload_n hx hb dX12_pour_184 rfl (lv_at hl 1 rfl) ?_
                                    refine gs_X12_20_12 E hI ha dX12_pour_185 ?_
                                    refine lv_bipush (v := 60) hx hb dX12_pour_188 zkb_60 ?_
                                    refine lv_iload_n hx hb dX12_pour_190 rfl (lv_at hl 4 rfl) ?_
                                    refine lv_imul hx hb dX12_pour_191 ?_
                                    refine lv_topi (fun z_94 ez_94 => ?_)
                                    replace hF := q_letX hF ez_94
                                    have iz_94 := q_mulI (A := 60) (B := v3.toInt) ez_94 (by decide) rfl (by first | (clear tfσ_2 tgσ_2 sfσ_2 sgσ_2 c_3 gc_7_v1 c_7 bf_16 if_16 c_17 bf_21 if_21 c_22 bf_23 if_23 bf_24 if_24 gc_25_f_23 gc_25_f_24 c_25 c_26 c_27 c_31 ggy_35 iy_35 ggy_36 iy_36 iy_37 bf_38 if_38 ggy_39 iy_39 hz_40 c_41 ggy_45 iy_45 ggy_46 iy_46 iy_47 bf_48 if_48 ggy_49 iy_49 hz_50 c_51 gc_52_v2 gc_52_v4 c_52 hm158 hge158 gc_81_x_78 gc_81_v5 c_81 c_82 iz_92 iz_93; omega) | omega) (by first | (clear tfσ_2 tgσ_2 sfσ_2 sgσ_2 c_3 gc_7_v1 c_7 bf_16 if_16 c_17 bf_21 if_21 c_22 bf_23 if_23 bf_24 if_24 gc_25_f_23 gc_25_f_24 c_25 c_26 c_27 c_31 ggy_35 iy_35 ggy_36 iy_36 iy_37 bf_38 if_38 ggy_39 iy_39 hz_40 c_41 ggy_45 iy_45 ggy_46 iy_46 iy_47 bf_48 if_48 ggy_49 iy_49 hz_50 c_51 gc_52_v2 gc_52_v4 c_52 hm158 hge158 gc_81_x_78 gc_81_v5 c_81 c_82 iz_92 iz_93; omega) | omega)
                                    refine lv_iload hx hb dX12_pour_192 (lv_at hl 5 rfl) ?_
                                    refine lv_iadd hx hb dX12_pour_194 ?_
                                    refine lv_topi (fun z_95 ez_95 => ?_)
                                    replace hF := q_letX hF ez_95
                                    have iz_95 := q_addI (A := (60 * v3.toInt)) (B := v4.toInt) ez_95 iz_94 rfl (by first | (clear tfσ_2 tgσ_2 sfσ_2 sgσ_2 c_3 gc_7_v1 c_7 bf_16 if_16 c_17 bf_21 if_21 c_22 bf_23 if_23 bf_24 if_24 gc_25_f_23 gc_25_f_24 c_25 c_26 c_27 ggy_35 iy_35 ggy_36 iy_37 bf_38 if_38 ggy_39 iy_39 hz_40 c_41 ggy_46 bf_48 if_48 ggy_49 iy_49 hz_50 c_51 gc_52_v2 gc_52_v4 c_52 hm158 hge158 gc_81_x_78 gc_81_v5 c_81 c_82 iz_93 iz_94; omega) | omega) (by first | (clear tfσ_2 sfσ_2 sgσ_2 c_3 gc_7_v1 c_7 bf_16 if_16 c_17 bf_23 if_23 bf_24 if_24 gc_25_f_23 gc_25_f_24 c_25 c_27 ggy_35 iy_35 iy_37 bf_38 if_38 ggy_39 iy_39 hz_40 c_41 ggy_46 bf_48 ggy_49 gc_52_v2 gc_52_v4 c_52 hm158 gc_81_v5 iz_94; omega) | omega)
                                    refine lv_iload hx hb dX12_pour_195 (lv_at hl 0 rfl) ?_
                                    refine lv_iadd hx hb dX12_pour_197 ?_
                                    refine lv_topi (fun z_96 ez_96 => ?_)
                                    replace hF := q_letX hF ez_96
                                    have iz_96 := q_addI (A := ((60 * v3.toInt) + v4.toInt)) (B := ((v5.toInt - 1) - x_78.toInt)) ez_96 iz_95 iz_93 (by first | (clear tfσ_2 tgσ_2 sfσ_2 sgσ_2 c_3 gc_7_v1 c_7 bf_16 if_16 c_17 bf_21 if_21 c_22 bf_23 if_23 bf_24 if_24 gc_25_f_23 gc_25_f_24 c_25 bf_38 if_38 ggy_39 iy_39 hz_40 c_41 ggy_46 bf_48 if_48 ggy_49 iy_49 hz_50 c_51 gc_52_v2 gc_52_v4 hm158 gc_81_v5 c_82 iz_94; omega) | omega) (by first | (clear tfσ_2 sfσ_2 sgσ_2 c_3 gc_7_v1 c_7 bf_16 if_16 c_17 bf_23 if_23 bf_24 if_24 gc_25_f_23 gc_25_f_24 c_25 c_27 c_31 ggy_35 iy_35 iy_37 bf_38 if_38 ggy_39 iy_39 hz_40 c_41 ggy_45 ggy_46 bf_48 ggy_49 gc_52_v2 gc_52_v4 c_52 hm158 gc_81_v5 iz_94; omega) | omega)
                                    refine lv_aload_n hx hb dX12_pour_198 rfl (lv_at hl 1 rfl) ?_
                                    refine gs_X12_20_12 E hI ha dX12_pour_199 ?_
                                    refine lv_bipush (v := 60) hx hb dX12_pour_202 zkb_60 ?_
                                    refine lv_iload_n hx hb dX12_pour_204 rfl (lv_at hl 2 rfl) ?_
                                    refine lv_imul hx hb dX12_pour_205 ?_
                                    refine lv_topi (fun z_97 ez_97 => ?_)
                                    replace hF := q_letX hF ez_97
                                    have iz_97 := q_mulI (A := 60) (B := v1.toInt) ez_97 (by decide) rfl (by first | (clear tfσ_2 tgσ_2 sfσ_2 sgσ_2 c_11 gc_15_v3 c_15 bf_16 if_16 c_17 bf_21 if_21 c_22 bf_23 if_23 bf_24 if_24 gc_25_f_23 gc_25_f_24 c_25 c_26 c_27 c_31 ggy_35 iy_35 ggy_36 iy_36 iy_37 bf_38 if_38 ggy_39 iy_39 hz_40 c_41 ggy_45 iy_45 ggy_46 iy_46 iy_47 bf_48 if_48 ggy_49 iy_49 hz_50 c_51 gc_52_v2 gc_52_v4 c_52 hm158 hge158 gc_81_x_78 gc_81_v5 c_81 c_82 iz_92 iz_93 iz_94 iz_95 iz_96; omega) | omega) (by first | (clear tfσ_2 tgσ_2 sfσ_2 sgσ_2 c_11 gc_15_v3 c_15 bf_16 if_16 c_17 bf_21 if_21 c_22 bf_23 if_23 bf_24 if_24 gc_25_f_23 gc_25_f_24 c_25 c_26 c_27 c_31 ggy_35 iy_35 ggy_36 iy_36 iy_37 bf_38 if_38 ggy_39 iy_39 hz_40 c_41 ggy_45 iy_45 ggy_46 iy_46 iy_47 bf_48 if_48 ggy_49 iy_49 hz_50 c_51 gc_52_v2 gc_52_v4 c_52 hm158 hge158 gc_81_x_78 gc_81_v5 c_81 c_82 iz_92 iz_93 iz_94 iz_95 iz_96; omega) | omega)
                                    refine lv_iload_n hx hb dX12_pour_206 rfl (lv_at hl 3 rfl) ?_
                                    refine lv_iadd hx hb dX12_pour_207 ?_
                                    refine lv_topi (fun z_98 ez_98 => ?_)
                                    replace hF := q_letX hF ez_98
                                    have iz_98 := q_addI (A := (60 * v1.toInt)) (B := v2.toInt) ez_98 iz_97 rfl (by first | (clear tfσ_2 tgσ_2 sfσ_2 sgσ_2 c_11 gc_15_v3 c_15 bf_16 if_16 c_17 bf_21 if_21 c_22 bf_23 if_23 bf_24 if_24 gc_25_f_23 gc_25_f_24 c_25 c_26 c_31 ggy_36 bf_38 if_38 ggy_39 iy_39 hz_40 c_41 ggy_45 iy_45 ggy_46 iy_47 bf_48 if_48 ggy_49 iy_49 hz_50 c_51 gc_52_v2 gc_52_v4 c_52 hm158 hge158 gc_81_x_78 gc_81_v5 c_81 c_82 iz_93 iz_94 iz_95 iz_96 iz_97; omega) | omega) (by first | (clear tfσ_2 sfσ_2 sgσ_2 c_11 gc_15_v3 c_15 bf_16 if_16 c_17 bf_23 if_23 bf_24 if_24 gc_25_f_23 gc_25_f_24 c_25 bf_38 if_38 ggy_39 iy_39 hz_40 c_41 ggy_46 bf_48 ggy_49 gc_52_v2 gc_52_v4 hm158 gc_81_v5 iz_94 iz_97; omega) | omega)
                                    refine lv_iload hx hb dX12_pour_208 (lv_at hl 0 rfl) ?_
                                    refine lv_iadd hx hb dX12_pour_210 ?_
                                    refine lv_topi (fun z_99 ez_99 => ?_)
                                    replace hF := q_letX hF ez_99
                                    have iz_99 := q_addI (A := ((60 * v1.toInt) + v2.toInt)) (B := ((v5.toInt - 1) - x_78.toInt)) ez_99 iz_98 iz_93 (by first | (clear tfσ_2 tgσ_2 sfσ_2 sgσ_2 c_11 gc_15_v3 c_15 bf_16 if_16 c_17 bf_21 if_21 c_22 bf_23 if_23 bf_24 if_24 gc_25_f_23 gc_25_f_24 c_25 c_31 bf_38 if_38 ggy_39 iy_39 hz_40 c_41 ggy_45 ggy_46 bf_48 if_48 ggy_49 iy_49 hz_50 c_51 gc_52_v2 gc_52_v4 c_52 hm158 gc_81_v5 c_82 iz_94 iz_97; omega) | omega) (by first | (clear tfσ_2 sfσ_2 sgσ_2 c_11 gc_15_v3 c_15 bf_16 if_16 c_17 bf_23 if_23 bf_24 if_24 gc_25_f_23 gc_25_f_24 c_25 c_27 c_31 ggy_35 bf_38 if_38 ggy_39 iy_39 hz_40 c_41 ggy_45 ggy_46 bf_48 ggy_49 gc_52_v2 gc_52_v4 hm158 gc_81_v5 iz_94 iz_97; omega) | omega)
                                    refine q_lald E hI (q_tk (k' := 32) hI ha rfl (Nat.succ_ne_zero _)) ⟨by decide, rfl⟩ (by first | (clear tfσ_2 tgσ_2 sfσ_2 sgσ_2 c_11 gc_15_v3 c_15 bf_16 if_16 c_17 bf_21 if_21 c_22 bf_23 if_23 bf_24 if_24 gc_25_f_23 gc_25_f_24 c_25 c_31 bf_38 if_38 ggy_39 iy_39 hz_40 c_41 ggy_45 ggy_46 bf_48 if_48 ggy_49 iy_49 hz_50 c_51 gc_52_v2 gc_52_v4 c_52 hm158 gc_81_v5 c_82 iz_94 iz_97; omega) | omega) (by rw [q_lnk (v := 240) hI (q_tk (k' := 32) hI ha rfl (Nat.succ_ne_zero _)) rfl (by decide)]; omega) dX12_pour_211 ?_
                                    refine lv_topl (fun g_100 eg_100 => ?_)
                                    replace hF := q_letX hF eg_100
                                    refine q_lastN E hI (q_tk (k' := 32) hI ha rfl (Nat.succ_ne_zero _)) ⟨by decide, rfl⟩ (by first | (clear tfσ_2 tgσ_2 sfσ_2 sgσ_2 c_3 gc_7_v1 c_7 bf_16 if_16 c_17 bf_21 if_21 c_22 bf_23 if_23 bf_24 if_24 gc_25_f_23 gc_25_f_24 c_25 c_27 ggy_35 bf_38 if_38 ggy_39 iy_39 hz_40 c_41 ggy_46 bf_48 if_48 ggy_49 iy_49 hz_50 c_51 gc_52_v2 gc_52_v4 c_52 hm158 gc_81_v5 c_82 iz_94 iz_97; omega) | omega) (by rw [q_lnk (v := 240) hI (q_tk (k' := 32) hI ha rfl (Nat.succ_ne_zero _)) rfl (by decide)]; omega) dX12_pour_212 (fun H locs σ_101 hσ_101 hI => ?_)
                                    replace hF := q_letX hF hσ_101
                                    have fr_σ_101 := fr_σ_79.sl hσ_101 (q_tk (k' := 32) hI ha rfl (Nat.succ_ne_zero _)) rfl
                                    obtain ⟨z_102, ez_102⟩ : ∃ y : Int32, y = x_78 + 1 := ⟨_, rfl⟩
                                    replace hF := q_letX hF ez_102
                                    refine lv_iinc (v := z_102) (lv' := [(7, .int z_102), (8, .int z_93), (0, .ref a), (1, .int v1), (2, .int v2), (3, .int v3), (4, .int v4), (5, .int v5), (6, .int 1)]) hx hb dX12_pour_213 hl (k := 8) rfl (by rw [ez_102]; rfl) (by decide) rfl (fun ls hl => ?_)
                                    have iz_102 : z_102.toInt = x_78.toInt + 1 := q_inc ez_102 (by first | (clear tfσ_2 tgσ_2 sfσ_2 sgσ_2 c_3 gc_7_v1 c_7 c_11 gc_15_v3 c_15 bf_16 if_16 c_17 bf_21 if_21 c_22 bf_23 if_23 bf_24 if_24 gc_25_f_23 gc_25_f_24 c_25 c_27 c_31 ggy_35 bf_38 if_38 ggy_39 iy_39 hz_40 c_41 ggy_45 ggy_46 bf_48 if_48 ggy_49 iy_49 hz_50 c_51 gc_52_v2 gc_52_v4 c_52 hm158 gc_81_v5 c_82 iz_94 iz_97; omega) | omega)
                                    refine lv_goto (tgt := 158) hx hb dX12_pour_216 (by decide) ?_
                                    exact ih158 z_102 σ_101 _ _ ls (by first | (clear tfσ_2 tgσ_2 sfσ_2 sgσ_2 c_3 gc_7_v1 c_7 c_11 gc_15_v3 c_15 bf_16 if_16 c_17 bf_21 if_21 c_22 bf_23 if_23 bf_24 if_24 gc_25_f_23 gc_25_f_24 c_25 c_27 c_31 ggy_35 bf_38 if_38 ggy_39 iy_39 hz_40 c_41 ggy_45 ggy_46 bf_48 if_48 ggy_49 iy_49 hz_50 c_51 gc_52_v2 gc_52_v4 c_52 gc_81_v5 iz_94 iz_97; omega) | omega) (by first | (clear tfσ_2 tgσ_2 sfσ_2 sgσ_2 c_3 gc_7_v1 c_7 c_11 gc_15_v3 c_15 bf_16 if_16 c_17 bf_21 if_21 c_22 bf_23 if_23 bf_24 if_24 gc_25_f_23 gc_25_f_24 c_25 c_26 c_27 c_31 ggy_35 ggy_36 bf_38 if_38 ggy_39 iy_39 hz_40 c_41 ggy_45 ggy_46 bf_48 if_48 ggy_49 iy_49 hz_50 c_51 gc_52_v2 gc_52_v4 c_52 hm158 gc_81_v5 c_81 c_82 iz_94 iz_97; omega) | omega) fr_σ_101 hF hI (lv_sub hl [2, 3, 4, 5, 6, 7, 8, 0] rfl)
                            exact L_158_80 ((2147483647 - (0 : Int32).toInt).toNat + 1) 0 σ_2 _ _ ls (Nat.lt_succ_self _) (by decide) fr_σ_2 hF hI (lv_sub hl [2, 3, 4, 5, 6, 7, 1, 0] rfl)
                        · skip
                          replace hF := q_ifp hF c_51
                          refine lv_aload_n hx hb dX12_pour_136 rfl (lv_at hl 0 rfl) ?_
                          refine lv_iconst (v := 4) hx hb dX12_pour_137 zki_4 ?_
                          have kc_103 : (4 : Int32).toInt = 4 := zt_4
                          refine q_ci (q_rV11_1 (rest := []) E (hml.trans hl.1.symm) hI (c_X12_no l X σ_2 a (4 : Int32) ha) kv_X12_74 ha ⟨Nat.le_of_ble_eq_true rfl, Nat.le_of_ble_eq_true rfl⟩ (Nat.le_of_ble_eq_true rfl) dX12_pour_138) hI (Nat.le_of_ble_eq_true rfl) (fun r_104 σ_105 H locs hpσ_105 hkσ_105 hI => ?_)
                          have ahpσ_105 := hpσ_105.1
                          have bhpσ_105 := hpσ_105.2.1
                          have chpσ_105 := hpσ_105.2.2.1
                          have dhpσ_105 := hpσ_105.2.2.2
                          clear hpσ_105
                          have fr_σ_105 := fr_σ_2.call dhpσ_105 rfl rfl
                          replace hF := q_biX hF chpσ_105
                          exact q_retz E hr hlk hI ⟨by omega, by omega⟩ ⟨⟨by omega, by omega⟩, (by constructor <;> intro h9 <;> omega), (hF.trans hout), fr_σ_105⟩ dX12_pour_141
                · skip
                  replace hF := q_ifp hF c_26
                  refine lv_aload_n hx hb dX12_pour_85 rfl (lv_at hl 0 rfl) ?_
                  refine lv_bipush (v := 6) hx hb dX12_pour_86 zkb_6 ?_
                  have kc_106 : (6 : Int32).toInt = 6 := zt_6
                  refine q_ci (q_rV11_1 (rest := []) E (hml.trans hl.1.symm) hI (c_X12_no l X σ_2 a (6 : Int32) ha) kv_X12_74 ha ⟨Nat.le_of_ble_eq_true rfl, Nat.le_of_ble_eq_true rfl⟩ (Nat.le_of_ble_eq_true rfl) dX12_pour_88) hI (Nat.le_of_ble_eq_true rfl) (fun r_107 σ_108 H locs hpσ_108 hkσ_108 hI => ?_)
                  have ahpσ_108 := hpσ_108.1
                  have bhpσ_108 := hpσ_108.2.1
                  have chpσ_108 := hpσ_108.2.2.1
                  have dhpσ_108 := hpσ_108.2.2.2
                  clear hpσ_108
                  have fr_σ_108 := fr_σ_2.call dhpσ_108 rfl rfl
                  replace hF := q_biX hF chpσ_108
                  exact q_retz E hr hlk hI ⟨by omega, by omega⟩ ⟨⟨by omega, by omega⟩, (by constructor <;> intro h9 <;> omega), (hF.trans hout), fr_σ_108⟩ dX12_pour_91
              · skip
                replace hF := q_ifn hF c_25
                refine lv_aload_n hx hb dX12_pour_73 rfl (lv_at hl 0 rfl) ?_
                refine lv_bipush (v := 11) hx hb dX12_pour_74 zkb_11 ?_
                have kc_109 : (11 : Int32).toInt = 11 := zt_11
                refine q_ci (q_rV11_1 (rest := []) E (hml.trans hl.1.symm) hI (c_X12_no l X σ_2 a (11 : Int32) ha) kv_X12_74 ha ⟨Nat.le_of_ble_eq_true rfl, Nat.le_of_ble_eq_true rfl⟩ (Nat.le_of_ble_eq_true rfl) dX12_pour_76) hI (Nat.le_of_ble_eq_true rfl) (fun r_110 σ_111 H locs hpσ_111 hkσ_111 hI => ?_)
                have ahpσ_111 := hpσ_111.1
                have bhpσ_111 := hpσ_111.2.1
                have chpσ_111 := hpσ_111.2.2.1
                have dhpσ_111 := hpσ_111.2.2.2
                clear hpσ_111
                have fr_σ_111 := fr_σ_2.call dhpσ_111 rfl rfl
                replace hF := q_biX hF chpσ_111
                exact q_retz E hr hlk hI ⟨by omega, by omega⟩ ⟨⟨by omega, by omega⟩, (by constructor <;> intro h9 <;> omega), (hF.trans hout), fr_σ_111⟩ dX12_pour_79
            · skip
              replace hF := q_ifp hF c_22
              refine lv_aload_n hx hb dX12_pour_52 rfl (lv_at hl 0 rfl) ?_
              refine lv_iconst (v := 3) hx hb dX12_pour_53 zki_3 ?_
              have kc_112 : (3 : Int32).toInt = 3 := zt_3
              refine q_ci (q_rV11_1 (rest := []) E (hml.trans hl.1.symm) hI (c_X12_no l X σ_2 a (3 : Int32) ha) kv_X12_74 ha ⟨Nat.le_of_ble_eq_true rfl, Nat.le_of_ble_eq_true rfl⟩ (Nat.le_of_ble_eq_true rfl) dX12_pour_54) hI (Nat.le_of_ble_eq_true rfl) (fun r_113 σ_114 H locs hpσ_114 hkσ_114 hI => ?_)
              have ahpσ_114 := hpσ_114.1
              have bhpσ_114 := hpσ_114.2.1
              have chpσ_114 := hpσ_114.2.2.1
              have dhpσ_114 := hpσ_114.2.2.2
              clear hpσ_114
              have fr_σ_114 := fr_σ_2.call dhpσ_114 rfl rfl
              replace hF := q_biX hF chpσ_114
              exact q_retz E hr hlk hI ⟨by omega, by omega⟩ ⟨⟨by omega, by omega⟩, (by constructor <;> intro h9 <;> omega), (hF.trans hout), fr_σ_114⟩ dX12_pour_57
        · skip
          replace hF := q_ifn hF (Int.not_lt.mpr c_15)
          refine lv_aload_n hx hb dX12_pour_28 rfl (lv_at hl 0 rfl) ?_
          refine lv_iconst (v := 1) hx hb dX12_pour_29 zki_1 ?_
          have kc_115 : (1 : Int32).toInt = 1 := zt_1
          refine q_ci (q_rV11_1 (rest := []) E (hml.trans hl.1.symm) hI (c_X12_no l X σ_2 a (1 : Int32) ha) kv_X12_74 ha ⟨Nat.le_of_ble_eq_true rfl, Nat.le_of_ble_eq_true rfl⟩ (Nat.le_of_ble_eq_true rfl) dX12_pour_30) hI (Nat.le_of_ble_eq_true rfl) (fun r_116 σ_117 H locs hpσ_117 hkσ_117 hI => ?_)
          have ahpσ_117 := hpσ_117.1
          have bhpσ_117 := hpσ_117.2.1
          have chpσ_117 := hpσ_117.2.2.1
          have dhpσ_117 := hpσ_117.2.2.2
          clear hpσ_117
          have fr_σ_117 := fr_σ_2.call dhpσ_117 rfl rfl
          replace hF := q_biX hF chpσ_117
          exact q_retz E hr hlk hI ⟨by omega, by omega⟩ ⟨⟨by omega, by omega⟩, (by constructor <;> intro h9 <;> omega), (hF.trans hout), fr_σ_117⟩ dX12_pour_33

set_option maxRecDepth 100000 in
set_option maxHeartbeats 4000000 in
theorem c_X12_lays (l : Launch) (X : XW) (σ : ST) (a : Nat) (v1 : Int32) (ha : q_kd X a = 12) (h0 : (σ.1 a 8).toInt ≤ 896) : Met l yX12_lays (q_ws yX12_lays cX12_lays 3 none) (q_rm 0 0) (q_P X σ [.ref a, .int v1]) (q_Qv X 0 σ (fun (σ' : ST) => (q_KS (fun b g => b = a ∧ g = 8) 8 X σ σ') ∧ ((σ'.1 a 8).toInt = (σ.1 a 8).toInt + 4) ∧ σ' = F_X12_lays X σ a v1 ∧ q_ow [(12, 8), (33, 99)] [] X σ σ')) 0 0 (q_reg X) := by
  refine q_met 0 (by first | exact rfl | decide +kernel) rfl (Nat.le_of_ble_eq_true rfl) (fun p e s m below meth c E hml hr hlk hI ls hl => ?_)
  have hx := E.1
  have hb := E.2.1
  have hl : lv_has ls 3 [(0, .ref a), (1, .int v1)] := hl
  have ks_σ : q_KS (fun b g => b = a ∧ g = 8) 8 X σ σ := q_KS.rf
  have fr_σ : q_ow [(12, 8), (33, 99)] [] X σ σ := q_ow.rf
  obtain ⟨out, hout⟩ : ∃ o, o = F_X12_lays X σ a v1 := ⟨_, rfl⟩
  have hF := hout.symm
  unfold F_X12_lays at hF
  refine lv_iconst (v := 3) hx hb dX12_lays_0 zki_3 ?_
  refine lv_istore_n (lv' := [(2, .int 3), (0, .ref a), (1, .int v1)]) hx hb dX12_lays_1 rfl hl (by decide) rfl (fun ls hl => ?_)
  have L_2_3 : ∀ (k_3 : Nat) (x_1 : Int32) (σ_2 : ST) (H : Heap) (locs : List Loc) (ls : Array Slot), (x_1.toInt + 2147483656).toNat < k_3 → ((σ_2.1 a 8).toInt - (σ.1 a 8).toInt = 3 - x_1.toInt) → (-1 ≤ x_1.toInt) → (q_KS (fun b g => b = a ∧ g = 8) 8 X σ σ_2) → (q_ow [(12, 8), (33, 99)] [] X σ σ_2) → (F_X12_lays_L2_1 X a v1 k_3 x_1 σ_2 = out) → q_I X 0 σ s.heap locs σ_2 H → lv_has ls 3 [(0, .ref a), (1, .int v1), (2, .int x_1)] → W p l e (q_rm 0 0) s m ([.ref a, .int v1] : List Value).toArray below meth c H locs 0 0 (MQ below (q_Qv X 0 σ (fun (σ' : ST) => (q_KS (fun b g => b = a ∧ g = 8) 8 X σ σ') ∧ ((σ'.1 a 8).toInt = (σ.1 a 8).toInt + 4) ∧ σ' = F_X12_lays X σ a v1 ∧ q_ow [(12, 8), (33, 99)] [] X σ σ')) ([.ref a, .int v1] : List Value).toArray s 0 0 (q_reg X)) (F0 m 2 ls []) := by
    clear hF
    intro k_3
    induction k_3 with
    | zero =>
      intro x_1 σ_2 H locs ls hms
      try clear fr_σ
      exact absurd hms (Nat.not_lt_zero _)
    | succ k_3 ih2 =>
      intro x_1 σ_2 H locs ls hm2 hsh hs8 ks_σ_2 fr_σ_2 hF hI hl
      replace hF := (F_X12_lays_L2_1_s).symm.trans hF
      unfold F_X12_lays_B2_1 at hF
      refine lv_iload_n hx hb dX12_lays_2 rfl (lv_at hl 2 rfl) ?_
      refine q_if_lt (A := x_1.toInt) E rfl (tgt := 38) dX12_lays_3 (by decide) (fun c_4 => ?_) (fun c_4 => ?_)
      · skip
        replace hF := q_ifp hF c_4
        skip
        exact q_retv E hr hlk hI ⟨ks_σ_2, (by first | (clear h0 hm2; omega) | omega), (hF.trans hout), fr_σ_2⟩ dX12_lays_38
      · skip
        replace hF := q_ifn hF (Int.not_lt.mpr c_4)
        refine lv_aload_n hx hb dX12_lays_6 rfl (lv_at hl 0 rfl) ?_
        refine gs_X12_24_12 E hI ha dX12_lays_7 ?_
        refine lv_aload_n hx hb dX12_lays_10 rfl (lv_at hl 0 rfl) ?_
        refine gs_X12_203_12 E hI ha dX12_lays_11 ?_
        refine lv_topi (fun f_5 ef_5 => ?_)
        replace hF := q_letX hF ef_5
        have if_5 : f_5.toInt = (σ_2.1 a 8).toInt := congrArg Int32.toInt ef_5
        have bf_5 : 0 ≤ f_5.toInt ∧ f_5.toInt ≤ 900 := by rw [ef_5]; exact q_bd hI ha rfl
        refine lv_iload_n hx hb dX12_lays_14 rfl (lv_at hl 1 rfl) ?_
        refine lv_bipush (v := 8) hx hb dX12_lays_15 zkb_8 ?_
        refine lv_iload_n hx hb dX12_lays_17 rfl (lv_at hl 2 rfl) ?_
        refine lv_imul hx hb dX12_lays_18 ?_
        refine lv_topi (fun z_6 ez_6 => ?_)
        replace hF := q_letX hF ez_6
        refine lv_ishr hx hb dX12_lays_19 ?_
        refine lv_topi (fun z_7 ez_7 => ?_)
        replace hF := q_letX hF ez_7
        refine lv_i2b hx hb dX12_lays_20 rfl ?_
        refine lv_topi (fun z_8 ez_8 => ?_)
        replace hF := q_letX hF ez_8
        refine q_bastN E hI (q_tk (k' := 33) hI ha rfl (Nat.succ_ne_zero _)) ⟨by decide, rfl⟩ (by first | (clear h0 hm2 hsh hs8 c_4 if_5; omega) | omega) (by rw [q_lnk (v := 900) hI (q_tk (k' := 33) hI ha rfl (Nat.succ_ne_zero _)) rfl (by decide)]; omega) (show 0 < 9 by decide) rfl dX12_lays_21 (fun H locs σ_9 hσ_9 hI => ?_)
        replace hF := q_letX hF hσ_9
        have fr_σ_9 := fr_σ_2.si hσ_9 (q_tk (k' := 33) hI ha rfl (Nat.succ_ne_zero _)) rfl
        have mv8_σ_9 : (σ_9.1 a 8).toInt = (σ_2.1 a 8).toInt := congrArg Int32.toInt ((hσ_9 ▸ (q_K.si (q_tk (k' := 33) hI ha rfl (Nat.succ_ne_zero _)) (show 8 < 9 by decide) : q_K 8 X σ_2 (q_si σ_2 (q_rf X a 7) (f_5 : Int32).toNatClampNeg _))) a 8 (by rw [ha]; decide))
        have ks_σ_9 : q_KS (fun b g => b = a ∧ g = 8) 8 X σ σ_9 := ks_σ_2.si hσ_9 (q_tk (k' := 33) hI ha rfl (Nat.succ_ne_zero _)) (show 8 < 9 by decide)
        refine lv_aload_n hx hb dX12_lays_22 rfl (lv_at hl 0 rfl) ?_
        refine lv_dup hx hb dX12_lays_23 rfl ?_
        refine gs_X12_203_12 E hI ha dX12_lays_24 ?_
        refine lv_topi (fun f_10 ef_10 => ?_)
        replace hF := q_letX hF ef_10
        have if_10 : f_10.toInt = (σ_9.1 a 8).toInt := congrArg Int32.toInt ef_10
        have bf_10 : 0 ≤ f_10.toInt ∧ f_10.toInt ≤ 900 := by rw [ef_10]; exact q_bd hI ha rfl
        refine lv_iconst (v := 1) hx hb dX12_lays_27 zki_1 ?_
        refine lv_iadd hx hb dX12_lays_28 ?_
        refine lv_topi (fun z_11 ez_11 => ?_)
        replace hF := q_letX hF ez_11
        have iz_11 := q_addI (A := f_10.toInt) (B := 1) ez_11 rfl (by decide) (by first | (clear h0 hm2 hsh hs8 c_4 bf_10; omega) | omega) (by first | (clear h0 hm2 hsh hs8 c_4 bf_10; omega) | omega)
        refine ps_X12_203_12 E hI ha (by decide) (by first | (clear h0 hm2 hsh hs8 c_4 bf_10; omega) | omega) (by first | (clear h0 hm2 hs8 bf_10; omega) | omega) dX12_lays_29 (fun H locs σ_12 hσ_12 hI => ?_)
        replace hF := q_letX hF hσ_12
        have fr_σ_12 := fr_σ_9.si hσ_12 ha rfl
        have ks_σ_12 : q_KS (fun b g => b = a ∧ g = 8) 8 X σ σ_12 := ks_σ_9.siS hσ_12 ⟨rfl, rfl⟩
        have mv8_σ_12 : (σ_12.1 a 8).toInt = z_11.toInt := congrArg Int32.toInt (q_rd hσ_12)
        obtain ⟨z_13, ez_13⟩ : ∃ y : Int32, y = x_1 + (-1) := ⟨_, rfl⟩
        replace hF := q_letX hF ez_13
        refine lv_iinc (v := z_13) (lv' := [(2, .int z_13), (0, .ref a), (1, .int v1)]) hx hb dX12_lays_32 hl (k := 2) rfl (by rw [ez_13]; rfl) (by decide) rfl (fun ls hl => ?_)
        have iz_13 : z_13.toInt = x_1.toInt - 1 := q_dec ez_13 (by first | (clear h0 hm2 hsh hs8 if_5 bf_5 mv8_σ_9 if_10 bf_10 iz_11 mv8_σ_12; omega) | omega)
        refine lv_goto (tgt := 2) hx hb dX12_lays_35 (by decide) ?_
        exact ih2 z_13 σ_12 _ _ ls (by first | (clear h0 hsh hs8 if_5 bf_5 mv8_σ_9 if_10 bf_10 iz_11 mv8_σ_12; omega) | omega) (by first | (clear h0 hm2 hs8 c_4 bf_5 bf_10; omega) | omega) (by first | (clear h0 hm2 hsh hs8 if_5 bf_5 mv8_σ_9 if_10 bf_10 iz_11 mv8_σ_12; omega) | omega) ks_σ_12 fr_σ_12 hF hI (lv_sub hl [1, 2, 0] rfl)
  exact L_2_3 (((3 : Int32).toInt + 2147483656).toNat + 1) 3 σ _ _ ls (Nat.lt_succ_self _) (by have h3 : (3 : Int32).toInt = 3 := rfl; omega) (by decide) ks_σ fr_σ hF hI (lv_sub hl [1, 2, 0] rfl)

set_option maxRecDepth 100000 in
set_option maxHeartbeats 4000000 in
theorem c_X12_feed (l : Launch) (X : XW) (σ : ST) (a : Nat) (v1 : Int32) (v2 : Int32) (v3 : Int32) (v4 : Int32) (v5 : Int32) (ha : q_kd X a = 12) : Met l yX12_feed (q_ws yX12_feed cX12_feed 6 (some .int)) (q_rm 1 22) (q_P X σ [.ref a, .int v1, .int v2, .int v3, .int v4, .int v5]) (q_Qi X 0 σ (fun (r : Int32) (σ' : ST) => (q_KS (fun b g => b = a ∧ g = 8) 8 X σ σ') ∧ ((σ.1 a 8).toInt + 20 > 900 → r.toInt = -1 ∧ (σ'.1 a 8).toInt = (σ.1 a 8).toInt) ∧ ((σ.1 a 8).toInt + 20 ≤ 900 → r.toInt = (σ.1 a 8).toInt + 20 ∧ (σ'.1 a 8).toInt = (σ.1 a 8).toInt + 20) ∧ (r, σ') = F_X12_feed X σ a v1 v2 v3 v4 v5 ∧ q_ow [(12, 1), (12, 8), (33, 99)] [] X σ σ')) 0 0 (q_reg X) := by
  refine q_met 0 (by first | exact rfl | decide +kernel) rfl (Nat.le_of_ble_eq_true rfl) (fun p e s m below meth c E hml hr hlk hI ls hl => ?_)
  have hx := E.1
  have hb := E.2.1
  have hl : lv_has ls 6 [(0, .ref a), (1, .int v1), (2, .int v2), (3, .int v3), (4, .int v4), (5, .int v5)] := hl
  have ks_σ : q_KS (fun b g => b = a ∧ g = 8) 8 X σ σ := q_KS.rf
  have fr_σ : q_ow [(12, 1), (12, 8), (33, 99)] [] X σ σ := q_ow.rf
  obtain ⟨out, hout⟩ : ∃ o, o = F_X12_feed X σ a v1 v2 v3 v4 v5 := ⟨_, rfl⟩
  have hF := hout.symm
  unfold F_X12_feed at hF
  refine lv_aload_n hx hb dX12_feed_0 rfl (lv_at hl 0 rfl) ?_
  refine lv_iconst (v := 0) hx hb dX12_feed_1 zki_0 ?_
  refine ps_X12_59_12 E hI ha (by decide) dX12_feed_2 (fun H locs σ_1 hσ_1 hI => ?_)
  replace hF := q_letX hF hσ_1
  have fr_σ_1 := fr_σ.si hσ_1 ha rfl
  have ks_σ_1 : q_KS (fun b g => b = a ∧ g = 8) 8 X σ σ_1 := ks_σ.si hσ_1 ha (show 8 < 9 by decide)
  have mv8_σ_1 : (σ_1.1 a 8).toInt = (σ.1 a 8).toInt := congrArg Int32.toInt (q_rdn hσ_1 (Or.inr (by decide)))
  refine lv_aload_n hx hb dX12_feed_5 rfl (lv_at hl 0 rfl) ?_
  refine gs_X12_203_12 E hI ha dX12_feed_6 ?_
  refine lv_topi (fun f_2 ef_2 => ?_)
  replace hF := q_letX hF ef_2
  have if_2 : f_2.toInt = (σ_1.1 a 8).toInt := congrArg Int32.toInt ef_2
  have bf_2 : 0 ≤ f_2.toInt ∧ f_2.toInt ≤ 900 := by rw [ef_2]; exact q_bd hI ha rfl
  refine lv_bipush (v := 20) hx hb dX12_feed_9 zkb_20 ?_
  refine lv_iadd hx hb dX12_feed_11 ?_
  refine lv_topi (fun z_3 ez_3 => ?_)
  replace hF := q_letX hF ez_3
  have iz_3 := q_addI (A := f_2.toInt) (B := 20) ez_3 rfl (by decide) (by first | (clear mv8_σ_1 if_2; omega) | omega) (by first | (clear mv8_σ_1 if_2; omega) | omega)
  refine lv_sipush (v := 900) hx hb dX12_feed_12 zks_900 ?_
  refine q_icmp_le (A := z_3.toInt) (B := 900) E rfl (by decide) (tgt := 20) dX12_feed_15 (by decide) (fun c_4 => ?_) (fun c_4 => ?_)
  · skip
    replace hF := q_ifn hF (Int.not_lt.mpr c_4)
    refine lv_aload_n hx hb dX12_feed_20 rfl (lv_at hl 0 rfl) ?_
    refine lv_iload_n hx hb dX12_feed_21 rfl (lv_at hl 1 rfl) ?_
    refine q_cv (q_rV11_1 (rest := []) E (hml.trans hl.1.symm) hI (c_X12_lays l X σ_1 a v1 ha (by omega)) kv_X12_206 ha ⟨Nat.le_of_ble_eq_true rfl, Nat.le_of_ble_eq_true rfl⟩ (Nat.le_of_ble_eq_true rfl) dX12_feed_22) hI (Nat.le_of_ble_eq_true rfl) (fun σ_6 H locs hpσ_6 hkσ_6 hI => ?_)
    have ahpσ_6 := hpσ_6.1
    have bhpσ_6 := hpσ_6.2.1
    have chpσ_6 := hpσ_6.2.2.1
    have dhpσ_6 := hpσ_6.2.2.2
    clear hpσ_6
    have fr_σ_6 := fr_σ_1.call dhpσ_6 rfl rfl
    replace hF := q_letX hF chpσ_6
    have ks_σ_6 : q_KS (fun b g => b = a ∧ g = 8) 8 X σ σ_6 := ks_σ_1.KS ahpσ_6 (by decide) (fun _ _ h => h)
    refine lv_aload_n hx hb dX12_feed_25 rfl (lv_at hl 0 rfl) ?_
    refine lv_iload_n hx hb dX12_feed_26 rfl (lv_at hl 2 rfl) ?_
    refine q_cv (q_rV11_1 (rest := []) E (hml.trans hl.1.symm) hI (c_X12_lays l X σ_6 a v2 ha (by first | (clear ahpσ_6 chpσ_6 dhpσ_6; omega) | omega)) kv_X12_206 ha ⟨Nat.le_of_ble_eq_true rfl, Nat.le_of_ble_eq_true rfl⟩ (Nat.le_of_ble_eq_true rfl) dX12_feed_27) hI (Nat.le_of_ble_eq_true rfl) (fun σ_8 H locs hpσ_8 hkσ_8 hI => ?_)
    have ahpσ_8 := hpσ_8.1
    have bhpσ_8 := hpσ_8.2.1
    have chpσ_8 := hpσ_8.2.2.1
    have dhpσ_8 := hpσ_8.2.2.2
    clear hpσ_8
    have fr_σ_8 := fr_σ_6.call dhpσ_8 rfl rfl
    replace hF := q_letX hF chpσ_8
    have ks_σ_8 : q_KS (fun b g => b = a ∧ g = 8) 8 X σ σ_8 := ks_σ_6.KS ahpσ_8 (by decide) (fun _ _ h => h)
    refine lv_aload_n hx hb dX12_feed_30 rfl (lv_at hl 0 rfl) ?_
    refine lv_iload_n hx hb dX12_feed_31 rfl (lv_at hl 3 rfl) ?_
    refine q_cv (q_rV11_1 (rest := []) E (hml.trans hl.1.symm) hI (c_X12_lays l X σ_8 a v3 ha (by first | (clear ahpσ_6 chpσ_6 dhpσ_6 ahpσ_8 chpσ_8 dhpσ_8; omega) | omega)) kv_X12_206 ha ⟨Nat.le_of_ble_eq_true rfl, Nat.le_of_ble_eq_true rfl⟩ (Nat.le_of_ble_eq_true rfl) dX12_feed_32) hI (Nat.le_of_ble_eq_true rfl) (fun σ_10 H locs hpσ_10 hkσ_10 hI => ?_)
    have ahpσ_10 := hpσ_10.1
    have bhpσ_10 := hpσ_10.2.1
    have chpσ_10 := hpσ_10.2.2.1
    have dhpσ_10 := hpσ_10.2.2.2
    clear hpσ_10
    have fr_σ_10 := fr_σ_8.call dhpσ_10 rfl rfl
    replace hF := q_letX hF chpσ_10
    have ks_σ_10 : q_KS (fun b g => b = a ∧ g = 8) 8 X σ σ_10 := ks_σ_8.KS ahpσ_10 (by decide) (fun _ _ h => h)
    refine lv_aload_n hx hb dX12_feed_35 rfl (lv_at hl 0 rfl) ?_
    refine lv_iload hx hb dX12_feed_36 (lv_at hl 4 rfl) ?_
    refine q_cv (q_rV11_1 (rest := []) E (hml.trans hl.1.symm) hI (c_X12_lays l X σ_10 a v4 ha (by first | (clear ahpσ_6 chpσ_6 dhpσ_6 ahpσ_8 chpσ_8 dhpσ_8 ahpσ_10 chpσ_10 dhpσ_10; omega) | omega)) kv_X12_206 ha ⟨Nat.le_of_ble_eq_true rfl, Nat.le_of_ble_eq_true rfl⟩ (Nat.le_of_ble_eq_true rfl) dX12_feed_38) hI (Nat.le_of_ble_eq_true rfl) (fun σ_12 H locs hpσ_12 hkσ_12 hI => ?_)
    have ahpσ_12 := hpσ_12.1
    have bhpσ_12 := hpσ_12.2.1
    have chpσ_12 := hpσ_12.2.2.1
    have dhpσ_12 := hpσ_12.2.2.2
    clear hpσ_12
    have fr_σ_12 := fr_σ_10.call dhpσ_12 rfl rfl
    replace hF := q_letX hF chpσ_12
    have ks_σ_12 : q_KS (fun b g => b = a ∧ g = 8) 8 X σ σ_12 := ks_σ_10.KS ahpσ_12 (by decide) (fun _ _ h => h)
    refine lv_aload_n hx hb dX12_feed_41 rfl (lv_at hl 0 rfl) ?_
    refine lv_iload hx hb dX12_feed_42 (lv_at hl 5 rfl) ?_
    refine q_cv (q_rV11_1 (rest := []) E (hml.trans hl.1.symm) hI (c_X12_lays l X σ_12 a v5 ha (by first | (clear ahpσ_6 chpσ_6 dhpσ_6 ahpσ_8 chpσ_8 dhpσ_8 ahpσ_10 chpσ_10 dhpσ_10 ahpσ_12 chpσ_12 dhpσ_12; omega) | omega)) kv_X12_206 ha ⟨Nat.le_of_ble_eq_true rfl, Nat.le_of_ble_eq_true rfl⟩ (Nat.le_of_ble_eq_true rfl) dX12_feed_44) hI (Nat.le_of_ble_eq_true rfl) (fun σ_14 H locs hpσ_14 hkσ_14 hI => ?_)
    have ahpσ_14 := hpσ_14.1
    have bhpσ_14 := hpσ_14.2.1
    have chpσ_14 := hpσ_14.2.2.1
    have dhpσ_14 := hpσ_14.2.2.2
    clear hpσ_14
    have fr_σ_14 := fr_σ_12.call dhpσ_14 rfl rfl
    replace hF := q_letX hF chpσ_14
    have ks_σ_14 : q_KS (fun b g => b = a ∧ g = 8) 8 X σ σ_14 := ks_σ_12.KS ahpσ_14 (by decide) (fun _ _ h => h)
    refine lv_aload_n hx hb dX12_feed_47 rfl (lv_at hl 0 rfl) ?_
    refine gs_X12_203_12 E hI ha dX12_feed_48 ?_
    refine lv_topi (fun f_15 ef_15 => ?_)
    replace hF := q_letX hF ef_15
    have if_15 : f_15.toInt = (σ_14.1 a 8).toInt := congrArg Int32.toInt ef_15
    have bf_15 : 0 ≤ f_15.toInt ∧ f_15.toInt ≤ 900 := by rw [ef_15]; exact q_bd hI ha rfl
    exact q_reti E hr hlk hI ⟨ks_σ_14, (by first | (clear ahpσ_6 chpσ_6 dhpσ_6 ahpσ_8 chpσ_8 dhpσ_8 ahpσ_10 chpσ_10 dhpσ_10 ahpσ_12 chpσ_12 dhpσ_12 ahpσ_14 chpσ_14 dhpσ_14 bf_15; omega) | omega), (by first | (clear bf_2 c_4 ahpσ_6 chpσ_6 dhpσ_6 ahpσ_8 chpσ_8 dhpσ_8 ahpσ_10 chpσ_10 dhpσ_10 ahpσ_12 chpσ_12 dhpσ_12 ahpσ_14 chpσ_14 dhpσ_14 bf_15; omega) | omega), (hF.trans hout), fr_σ_14⟩ dX12_feed_51
  · skip
    replace hF := q_ifp hF c_4
    refine lv_iconst (v := (-1)) hx hb dX12_feed_18 zki_m1 ?_
    have hrv : ((-1) : Int32).toInt = (-1) := zt_m1
    exact q_reti E hr hlk hI ⟨ks_σ_1, (by first | (clear if_2 bf_2 iz_3 c_4; omega) | omega), (by first | (clear hrv; omega) | omega), (hF.trans hout), fr_σ_1⟩ dX12_feed_19

set_option maxRecDepth 100000 in
set_option maxHeartbeats 4000000 in
theorem c_X12_fault (l : Launch) (X : XW) (σ : ST) (a : Nat) (v1 : Int32) (ha : q_kd X a = 12) : Met l yX12_fault (q_ws yX12_fault cX12_fault 2 (some .int)) (q_rm 0 0) (q_P X σ [.ref a, .int v1]) (q_Qi X 8 σ (fun (r : Int32) (σ' : ST) => (r, σ') = F_X12_fault X σ a v1 ∧ q_ow [(12, 1)] [] X σ σ')) 0 0 (q_reg X) := by
  refine q_met 8 (by first | exact rfl | decide +kernel) rfl (Nat.le_of_ble_eq_true rfl) (fun p e s m below meth c E hml hr hlk hI ls hl => ?_)
  have hx := E.1
  have hb := E.2.1
  have hl : lv_has ls 2 [(0, .ref a), (1, .int v1)] := hl
  have fr_σ : q_ow [(12, 1)] [] X σ σ := q_ow.rf
  obtain ⟨out, hout⟩ : ∃ o, o = F_X12_fault X σ a v1 := ⟨_, rfl⟩
  have hF := hout.symm
  unfold F_X12_fault at hF
  refine lv_aload_n hx hb dX12_fault_0 rfl (lv_at hl 0 rfl) ?_
  refine lv_iconst (v := 0) hx hb dX12_fault_1 zki_0 ?_
  refine ps_X12_59_12 E hI ha (by decide) dX12_fault_2 (fun H locs σ_1 hσ_1 hI => ?_)
  replace hF := q_letX hF hσ_1
  have fr_σ_1 := fr_σ.si hσ_1 ha rfl
  refine lv_iload_n hx hb dX12_fault_5 rfl (lv_at hl 1 rfl) ?_
  refine q_if_ne (A := v1.toInt) E rfl (tgt := 16) dX12_fault_6 (by decide) (fun c_2 => ?_) (fun c_2 => ?_)
  · skip
    replace hF := q_ifn hF c_2
    refine lv_iload_n hx hb dX12_fault_16 rfl (lv_at hl 1 rfl) ?_
    refine lv_iconst (v := 1) hx hb dX12_fault_17 zki_1 ?_
    refine q_icmp_ne (A := v1.toInt) (B := 1) E rfl (by decide) (tgt := 28) dX12_fault_18 (by decide) (fun c_3 => ?_) (fun c_3 => ?_)
    · skip
      replace hF := q_ifn hF c_3
      refine lv_iconst (v := (-1)) hx hb dX12_fault_28 zki_m1 ?_
      exact q_reti E hr hlk hI ⟨(hF.trans hout), fr_σ_1⟩ dX12_fault_29
    · skip
      replace hF := q_ifp hF c_3
      refine lv_aload_n hx hb dX12_fault_21 rfl (lv_at hl 0 rfl) ?_
      refine gs_X12_32_12 E hI ha dX12_fault_22 ?_
      refine lv_topi (fun f_4 ef_4 => ?_)
      replace hF := q_letX hF ef_4
      refine lv_goto (tgt := 29) hx hb dX12_fault_25 (by decide) ?_
      exact q_reti E hr hlk hI ⟨(hF.trans hout), fr_σ_1⟩ dX12_fault_29
  · skip
    replace hF := q_ifp hF c_2
    refine lv_aload_n hx hb dX12_fault_9 rfl (lv_at hl 0 rfl) ?_
    refine gs_X12_28_12 E hI ha dX12_fault_10 ?_
    refine lv_topi (fun f_5 ef_5 => ?_)
    replace hF := q_letX hF ef_5
    refine lv_goto (tgt := 29) hx hb dX12_fault_13 (by decide) ?_
    exact q_reti E hr hlk hI ⟨(hF.trans hout), fr_σ_1⟩ dX12_fault_29
end
/-! FROM 31.scan.a.lean.txt -/
section
section QS
variable {p : Program} {l : Launch} {e : Env} {R : Room} {s : State} {m : MethodId} {args : Array Value} {below : List Frame} {meth : Method} {c : Code} {H : Heap} {locs : List Loc} {cells slots : Nat} {Q : State → Prop} {cc : ByteArray} {X : XW} {n : Nat} {σ0 σ : ST} {H0 : Heap} {pc : Nat} {ls : Array Slot} {rest : List Value} {a : Nat}
theorem gs_X12_98_12 (E : q_E p c cc s m args RX12 X) (hI : q_I X n σ0 H0 locs σ H) (ha : q_kd X a = 12) (hdg : decode cc pc = .ok (.getfield 98, 3)) (kk : W p l e R s m args below meth c H locs cells slots Q (F0 m (pc + 3) ls (.int (σ.1 a 9) :: rest))) : W p l e R s m args below meth c H locs cells slots Q (F0 m pc ls (.ref a :: rest)) :=
  q_getf (ref := "CheatHeapModel") E hI ha ⟨rfl, by decide⟩ (show vwCl[11]? = some (RX12, TX12, 46) from rfl) q_inX12 (f := 9) (by decide) (q_in_t6 (i := 234) (by first | rfl | decide +kernel) rfl) (Or.inl rfl) rfl hdg kk
theorem gs_X12_110_12 (E : q_E p c cc s m args RX12 X) (hI : q_I X n σ0 H0 locs σ H) (ha : q_kd X a = 12) (hdg : decode cc pc = .ok (.getfield 110, 3)) (kk : W p l e R s m args below meth c H locs cells slots Q (F0 m (pc + 3) ls (.int (σ.1 a 14) :: rest))) : W p l e R s m args below meth c H locs cells slots Q (F0 m pc ls (.ref a :: rest)) :=
  q_getf (ref := "CheatHeapModel") E hI ha ⟨rfl, by decide⟩ (show vwCl[11]? = some (RX12, TX12, 46) from rfl) q_inX12 (f := 14) (by decide) (q_in_t6 (i := 239) (by first | rfl | decide +kernel) rfl) (Or.inl rfl) rfl hdg kk
theorem gs_X12_129_12 (E : q_E p c cc s m args RX12 X) (hI : q_I X n σ0 H0 locs σ H) (ha : q_kd X a = 12) (hdg : decode cc pc = .ok (.getfield 129, 3)) (kk : W p l e R s m args below meth c H locs cells slots Q (F0 m (pc + 3) ls (.int (σ.1 a 17) :: rest))) : W p l e R s m args below meth c H locs cells slots Q (F0 m pc ls (.ref a :: rest)) :=
  q_getf (ref := "CheatHeapModel") E hI ha ⟨rfl, by decide⟩ (show vwCl[11]? = some (RX12, TX12, 46) from rfl) q_inX12 (f := 17) (by decide) (q_in_t7 (i := 2) (by first | rfl | decide +kernel) rfl) (Or.inl rfl) rfl hdg kk
theorem gs_X12_116_12 (E : q_E p c cc s m args RX12 X) (hI : q_I X n σ0 H0 locs σ H) (ha : q_kd X a = 12) (hdg : decode cc pc = .ok (.getfield 116, 3)) (kk : W p l e R s m args below meth c H locs cells slots Q (F0 m (pc + 3) ls (.long (σ.2.1 a 19) :: rest))) : W p l e R s m args below meth c H locs cells slots Q (F0 m pc ls (.ref a :: rest)) :=
  q_getf (ref := "CheatHeapModel") E hI ha ⟨rfl, by decide⟩ (show vwCl[11]? = some (RX12, TX12, 46) from rfl) q_inX12 (f := 19) (by decide) (q_in_t7 (i := 4) (by first | rfl | decide +kernel) rfl) (Or.inl rfl) rfl hdg kk
theorem gs_X12_187_12 (E : q_E p c cc s m args RX12 X) (hI : q_I X n σ0 H0 locs σ H) (ha : q_kd X a = 12) (hdg : decode cc pc = .ok (.getfield 187, 3)) (kk : W p l e R s m args below meth c H locs cells slots Q (F0 m (pc + 3) ls (.int (σ.1 a 12) :: rest))) : W p l e R s m args below meth c H locs cells slots Q (F0 m pc ls (.ref a :: rest)) :=
  q_getf (ref := "CheatHeapModel") E hI ha ⟨rfl, by decide⟩ (show vwCl[11]? = some (RX12, TX12, 46) from rfl) q_inX12 (f := 12) (by decide) (q_in_t6 (i := 237) (by first | rfl | decide +kernel) rfl) (Or.inl rfl) rfl hdg kk
theorem ps_X12_187_12 (E : q_E p c cc s m args RX12 X) (hI : q_I X n σ0 H0 locs σ H) (ha : q_kd X a = 12) {v : Int32} (hcl : n < 3) (hdg : decode cc pc = .ok (.putfield 187, 3)) (kk : ∀ (H1 : Heap) (locs1 : List Loc) (σ1 : ST), σ1 = q_si σ a 12 v → q_I X n σ0 H0 locs1 σ1 H1 → W p l e R s m args below meth c H1 locs1 cells slots Q (F0 m (pc + 3) ls rest)) : W p l e R s m args below meth c H locs cells slots Q (F0 m pc ls (.int v :: .ref a :: rest)) :=
  q_puti (ref := "CheatHeapModel") E hI ha ⟨rfl, by decide⟩ (show vwCl[11]? = some (RX12, TX12, 46) from rfl) q_inX12 tyX12_ok nmX12 (f := 12) (by decide) (q_in_t6 (i := 237) (by first | rfl | decide +kernel) rfl) (Or.inl rfl) rfl rfl hcl hdg (q_inU rfl) (Or.inl rfl) (fun H1 l1 h => kk H1 l1 _ rfl h)
theorem ps_X12_190_12 (E : q_E p c cc s m args RX12 X) (hI : q_I X n σ0 H0 locs σ H) (ha : q_kd X a = 12) {v : Int32} (hcl : n < 3) (hdg : decode cc pc = .ok (.putfield 190, 3)) (kk : ∀ (H1 : Heap) (locs1 : List Loc) (σ1 : ST), σ1 = q_si σ a 13 v → q_I X n σ0 H0 locs1 σ1 H1 → W p l e R s m args below meth c H1 locs1 cells slots Q (F0 m (pc + 3) ls rest)) : W p l e R s m args below meth c H locs cells slots Q (F0 m pc ls (.int v :: .ref a :: rest)) :=
  q_puti (ref := "CheatHeapModel") E hI ha ⟨rfl, by decide⟩ (show vwCl[11]? = some (RX12, TX12, 46) from rfl) q_inX12 tyX12_ok nmX12 (f := 13) (by decide) (q_in_t6 (i := 238) (by first | rfl | decide +kernel) rfl) (Or.inl rfl) rfl rfl hcl hdg (q_inU rfl) (Or.inl rfl) (fun H1 l1 h => kk H1 l1 _ rfl h)
theorem gs_X12_104_12 (E : q_E p c cc s m args RX12 X) (hI : q_I X n σ0 H0 locs σ H) (ha : q_kd X a = 12) (hdg : decode cc pc = .ok (.getfield 104, 3)) (kk : W p l e R s m args below meth c H locs cells slots Q (F0 m (pc + 3) ls (.int (σ.1 a 15) :: rest))) : W p l e R s m args below meth c H locs cells slots Q (F0 m pc ls (.ref a :: rest)) :=
  q_getf (ref := "CheatHeapModel") E hI ha ⟨rfl, by decide⟩ (show vwCl[11]? = some (RX12, TX12, 46) from rfl) q_inX12 (f := 15) (by decide) (q_in_t7 (i := 0) (by first | rfl | decide +kernel) rfl) (Or.inl rfl) rfl hdg kk
theorem kv_X12_193 : q_okV RX12 193 RX12 yX12_fail cX12_fail 3 none 2 := ⟨(q_in_t7 (i := 227) (by first | rfl | decide +kernel) rfl), (q_in_t7 (i := 229) (by first | rfl | decide +kernel) rfl), (q_in_p (i := 49) (by decide +kernel) rfl), (q_in_t1 (i := 14) (by first | rfl | decide +kernel) rfl), (q_in_t7 (i := 230) (by first | rfl | decide +kernel) rfl), ⟨rfl, by decide, by decide, rfl⟩⟩
end QS
end
/-! FROM 31.scan.b00.lean.txt -/
section
set_option maxRecDepth 100000 in
set_option maxHeartbeats 4000000 in
theorem c_X12_isIn (l : Launch) (X : XW) (σ : ST) (v0 : Int64) (v1 : Int64) (v2 : Int64) : Met l yX12_isIn (q_ws yX12_isIn cX12_isIn 6 (some .boolean)) (q_rm 0 0) (q_P X σ [.long v0, .long v1, .long v2]) (q_Qi X 9 σ (fun (r : Int32) (σ' : ST) => σ' = σ ∧ (0 ≤ r.toInt ∧ r.toInt ≤ 1) ∧ (r.toInt = 1 ↔ (v1.toInt ≤ v0.toInt ∧ v0.toInt ≤ v2.toInt)) ∧ r = F_X12_isIn X σ v0 v1 v2)) 0 0 (q_reg X) := by
  refine q_met 9 (by first | exact rfl | decide +kernel) rfl (Nat.le_of_ble_eq_true rfl) (fun p e s m below meth c E hml hr hlk hI ls hl => ?_)
  have hx := E.1
  have hb := E.2.1
  have hl : lv_has ls 6 [(0, .long v0), (2, .long v1), (4, .long v2)] := hl
  obtain ⟨out, hout⟩ : ∃ o, o = F_X12_isIn X σ v0 v1 v2 := ⟨_, rfl⟩
  have hF := hout.symm
  unfold F_X12_isIn at hF
  refine lv_lload_n hx hb dX12_isIn_0 rfl (lv_at hl 0 rfl) ?_
  refine lv_lload_n hx hb dX12_isIn_1 rfl (lv_at hl 1 rfl) ?_
  refine q_lcmpX E dX12_isIn_2 (fun z_1 ez_1 hz_1 => ?_)
  replace hF := q_letX hF ez_1
  refine q_if_lt (A := z_1.toInt) E rfl (tgt := 17) dX12_isIn_3 (by decide) (fun c_2 => ?_) (fun c_2 => ?_)
  · skip
    replace hF := q_ifp hF c_2
    refine lv_iconst (v := 0) hx hb dX12_isIn_17 zki_0 ?_
    have hrv : (0 : Int32).toInt = 0 := zt_0
    exact q_retz E hr hlk hI ⟨by decide, by decide⟩ ⟨rfl, ⟨by decide, by decide⟩, (by constructor <;> intro h9 <;> omega), (hF.trans hout)⟩ dX12_isIn_18
  · skip
    replace hF := q_ifn hF (Int.not_lt.mpr c_2)
    refine lv_lload_n hx hb dX12_isIn_6 rfl (lv_at hl 0 rfl) ?_
    refine lv_lload hx hb dX12_isIn_7 (lv_at hl 2 rfl) ?_
    refine q_lcmpX E dX12_isIn_9 (fun z_3 ez_3 hz_3 => ?_)
    replace hF := q_letX hF ez_3
    refine q_if_gt (A := z_3.toInt) E rfl (tgt := 17) dX12_isIn_10 (by decide) (fun c_4 => ?_) (fun c_4 => ?_)
    · skip
      replace hF := q_ifp hF c_4
      refine lv_iconst (v := 0) hx hb dX12_isIn_17 zki_0 ?_
      have hrv : (0 : Int32).toInt = 0 := zt_0
      exact q_retz E hr hlk hI ⟨by decide, by decide⟩ ⟨rfl, ⟨by decide, by decide⟩, (by constructor <;> intro h9 <;> omega), (hF.trans hout)⟩ dX12_isIn_18
    · skip
      replace hF := q_ifn hF (Int.not_lt.mpr c_4)
      refine lv_iconst (v := 1) hx hb dX12_isIn_13 zki_1 ?_
      refine lv_goto (tgt := 18) hx hb dX12_isIn_14 (by decide) ?_
      have hrv : (1 : Int32).toInt = 1 := zt_1
      exact q_retz E hr hlk hI ⟨by decide, by decide⟩ ⟨rfl, ⟨by decide, by decide⟩, (by constructor <;> intro h9 <;> omega), (hF.trans hout)⟩ dX12_isIn_18

set_option maxRecDepth 100000 in
set_option maxHeartbeats 4000000 in
theorem c_X12_look2 (l : Launch) (X : XW) (σ : ST) (a : Nat) (v1 : Int32) (ha : q_kd X a = 12) (h0 : 0 ≤ v1.toInt) (h1 : (σ.1 a 9).toInt ≤ 900) : Met l yX12_look2 (q_ws yX12_look2 cX12_look2 2 (some .int)) (q_rm 0 0) (q_P X σ [.ref a, .int v1]) (q_Qi X 9 σ (fun (r : Int32) (σ' : ST) => σ' = σ ∧ (r.toInt = m_look X σ a v1.toInt) ∧ (0 ≤ r.toInt ∧ r.toInt ≤ 255) ∧ r = F_X12_look2 X σ a v1)) 0 0 (q_reg X) := by
  refine q_met 9 (by first | exact rfl | decide +kernel) rfl (Nat.le_of_ble_eq_true rfl) (fun p e s m below meth c E hml hr hlk hI ls hl => ?_)
  have hx := E.1
  have hb := E.2.1
  have hl : lv_has ls 2 [(0, .ref a), (1, .int v1)] := hl
  obtain ⟨out, hout⟩ : ∃ o, o = F_X12_look2 X σ a v1 := ⟨_, rfl⟩
  have hF := hout.symm
  unfold F_X12_look2 at hF
  refine lv_iload_n hx hb dX12_look2_0 rfl (lv_at hl 1 rfl) ?_
  refine lv_aload_n hx hb dX12_look2_1 rfl (lv_at hl 0 rfl) ?_
  refine gs_X12_98_12 E hI ha dX12_look2_2 ?_
  refine lv_topi (fun f_1 ef_1 => ?_)
  replace hF := q_letX hF ef_1
  have if_1 : f_1.toInt = (σ.1 a 9).toInt := congrArg Int32.toInt ef_1
  refine q_icmp_ge (A := v1.toInt) (B := f_1.toInt) E rfl rfl (tgt := 21) dX12_look2_5 (by decide) (fun c_2 => ?_) (fun c_2 => ?_)
  · skip
    replace hF := q_ifn hF (Int.not_lt.mpr c_2)
    refine lv_iconst (v := 0) hx hb dX12_look2_21 zki_0 ?_
    have hrv : (0 : Int32).toInt = 0 := zt_0
    exact q_reti E hr hlk hI ⟨rfl, (by first | (unfold m_look; rw [if_neg (by first | (clear h0 h1 hrv; omega) | omega)]; rfl) | assumption), (by first | (clear h0 h1 if_1 c_2; omega) | omega), (hF.trans hout)⟩ dX12_look2_22
  · skip
    replace hF := q_ifp hF c_2
    refine lv_aload_n hx hb dX12_look2_8 rfl (lv_at hl 0 rfl) ?_
    refine gs_X12_24_12 E hI ha dX12_look2_9 ?_
    refine lv_iload_n hx hb dX12_look2_12 rfl (lv_at hl 1 rfl) ?_
    refine q_bald E hI (q_tk (k' := 33) hI ha rfl (Nat.succ_ne_zero _)) ⟨by decide, rfl⟩ (by omega) (by rw [q_lnk (v := 900) hI (q_tk (k' := 33) hI ha rfl (Nat.succ_ne_zero _)) rfl (by decide)]; omega) dX12_look2_13 ?_
    refine lv_topi (fun f_3 ef_3 => ?_)
    replace hF := q_letX hF ef_3
    refine lv_sipush (v := 255) hx hb dX12_look2_14 zks_255 ?_
    refine lv_iand hx hb dX12_look2_17 ?_
    refine lv_topi (fun z_4 ez_4 => ?_)
    replace hF := q_letX hF ez_4
    have qz_4 : z_4.toInt = m_look X σ a v1.toInt := by unfold m_look; rw [if_pos (by first | (clear h0 h1; omega) | omega), ez_4, ef_3]; rfl
    have wz_4 := m_and255 f_3
    rw [← ez_4] at wz_4
    refine lv_goto (tgt := 22) hx hb dX12_look2_18 (by decide) ?_
    exact q_reti E hr hlk hI ⟨rfl, (by first | (unfold m_look; rw [if_neg (by omega)]; rfl) | assumption), (by omega), (hF.trans hout)⟩ dX12_look2_22

set_option maxRecDepth 100000 in
set_option maxHeartbeats 4000000 in
theorem c_X12_isLetter (l : Launch) (X : XW) (σ : ST) (v0 : Int32) : Met l yX12_isLetter (q_ws yX12_isLetter cX12_isLetter 1 (some .boolean)) (q_rm 0 0) (q_P X σ [.int v0]) (q_Qi X 9 σ (fun (r : Int32) (σ' : ST) => σ' = σ ∧ (0 ≤ r.toInt ∧ r.toInt ≤ 1) ∧ (r.toInt = 1 ↔ (97 ≤ v0.toInt ∧ v0.toInt ≤ 122)) ∧ r = F_X12_isLetter X σ v0)) 0 0 (q_reg X) := by
  refine q_met 9 (by first | exact rfl | decide +kernel) rfl (Nat.le_of_ble_eq_true rfl) (fun p e s m below meth c E hml hr hlk hI ls hl => ?_)
  have hx := E.1
  have hb := E.2.1
  have hl : lv_has ls 1 [(0, .int v0)] := hl
  obtain ⟨out, hout⟩ : ∃ o, o = F_X12_isLetter X σ v0 := ⟨_, rfl⟩
  have hF := hout.symm
  unfold F_X12_isLetter at hF
  refine lv_iload_n hx hb dX12_isLetter_0 rfl (lv_at hl 0 rfl) ?_
  refine lv_bipush (v := 97) hx hb dX12_isLetter_1 zkb_97 ?_
  refine q_icmp_lt (A := v0.toInt) (B := 97) E rfl (by decide) (tgt := 16) dX12_isLetter_3 (by decide) (fun c_1 => ?_) (fun c_1 => ?_)
  · skip
    replace hF := q_ifp hF c_1
    refine lv_iconst (v := 0) hx hb dX12_isLetter_16 zki_0 ?_
    have hrv : (0 : Int32).toInt = 0 := zt_0
    exact q_retz E hr hlk hI ⟨by decide, by decide⟩ ⟨rfl, ⟨by decide, by decide⟩, (by constructor <;> intro h9 <;> omega), (hF.trans hout)⟩ dX12_isLetter_17
  · skip
    replace hF := q_ifn hF (Int.not_lt.mpr c_1)
    refine lv_iload_n hx hb dX12_isLetter_6 rfl (lv_at hl 0 rfl) ?_
    refine lv_bipush (v := 122) hx hb dX12_isLetter_7 zkb_122 ?_
    refine q_icmp_gt (A := v0.toInt) (B := 122) E rfl (by decide) (tgt := 16) dX12_isLetter_9 (by decide) (fun c_2 => ?_) (fun c_2 => ?_)
    · skip
      replace hF := q_ifp hF c_2
      refine lv_iconst (v := 0) hx hb dX12_isLetter_16 zki_0 ?_
      have hrv : (0 : Int32).toInt = 0 := zt_0
      exact q_retz E hr hlk hI ⟨by decide, by decide⟩ ⟨rfl, ⟨by decide, by decide⟩, (by constructor <;> intro h9 <;> omega), (hF.trans hout)⟩ dX12_isLetter_17
    · skip
      replace hF := q_ifn hF (Int.not_lt.mpr c_2)
      refine lv_iconst (v := 1) hx hb dX12_isLetter_12 zki_1 ?_
      refine lv_goto (tgt := 17) hx hb dX12_isLetter_13 (by decide) ?_
      have hrv : (1 : Int32).toInt = 1 := zt_1
      exact q_retz E hr hlk hI ⟨by decide, by decide⟩ ⟨rfl, ⟨by decide, by decide⟩, (by constructor <;> intro h9 <;> omega), (hF.trans hout)⟩ dX12_isLetter_17

set_option maxRecDepth 100000 in
set_option maxHeartbeats 4000000 in
theorem c_X12_isDigit (l : Launch) (X : XW) (σ : ST) (v0 : Int32) : Met l yX12_isDigit (q_ws yX12_isDigit cX12_isDigit 1 (some .boolean)) (q_rm 0 0) (q_P X σ [.int v0]) (q_Qi X 9 σ (fun (r : Int32) (σ' : ST) => σ' = σ ∧ (0 ≤ r.toInt ∧ r.toInt ≤ 1) ∧ (r.toInt = 1 ↔ (48 ≤ v0.toInt ∧ v0.toInt ≤ 57)) ∧ r = F_X12_isDigit X σ v0)) 0 0 (q_reg X) := by
  refine q_met 9 (by first | exact rfl | decide +kernel) rfl (Nat.le_of_ble_eq_true rfl) (fun p e s m below meth c E hml hr hlk hI ls hl => ?_)
  have hx := E.1
  have hb := E.2.1
  have hl : lv_has ls 1 [(0, .int v0)] := hl
  obtain ⟨out, hout⟩ : ∃ o, o = F_X12_isDigit X σ v0 := ⟨_, rfl⟩
  have hF := hout.symm
  unfold F_X12_isDigit at hF
  refine lv_iload_n hx hb dX12_isDigit_0 rfl (lv_at hl 0 rfl) ?_
  refine lv_bipush (v := 48) hx hb dX12_isDigit_1 zkb_48 ?_
  refine q_icmp_lt (A := v0.toInt) (B := 48) E rfl (by decide) (tgt := 16) dX12_isDigit_3 (by decide) (fun c_1 => ?_) (fun c_1 => ?_)
  · skip
    replace hF := q_ifp hF c_1
    refine lv_iconst (v := 0) hx hb dX12_isDigit_16 zki_0 ?_
    have hrv : (0 : Int32).toInt = 0 := zt_0
    exact q_retz E hr hlk hI ⟨by decide, by decide⟩ ⟨rfl, ⟨by decide, by decide⟩, (by constructor <;> intro h9 <;> omega), (hF.trans hout)⟩ dX12_isDigit_17
  · skip
    replace hF := q_ifn hF (Int.not_lt.mpr c_1)
    refine lv_iload_n hx hb dX12_isDigit_6 rfl (lv_at hl 0 rfl) ?_
    refine lv_bipush (v := 57) hx hb dX12_isDigit_7 zkb_57 ?_
    refine q_icmp_gt (A := v0.toInt) (B := 57) E rfl (by decide) (tgt := 16) dX12_isDigit_9 (by decide) (fun c_2 => ?_) (fun c_2 => ?_)
    · skip
      replace hF := q_ifp hF c_2
      refine lv_iconst (v := 0) hx hb dX12_isDigit_16 zki_0 ?_
      have hrv : (0 : Int32).toInt = 0 := zt_0
      exact q_retz E hr hlk hI ⟨by decide, by decide⟩ ⟨rfl, ⟨by decide, by decide⟩, (by constructor <;> intro h9 <;> omega), (hF.trans hout)⟩ dX12_isDigit_17
    · skip
      replace hF := q_ifn hF (Int.not_lt.mpr c_2)
      refine lv_iconst (v := 1) hx hb dX12_isDigit_12 zki_1 ?_
      refine lv_goto (tgt := 17) hx hb dX12_isDigit_13 (by decide) ?_
      have hrv : (1 : Int32).toInt = 1 := zt_1
      exact q_retz E hr hlk hI ⟨by decide, by decide⟩ ⟨rfl, ⟨by decide, by decide⟩, (by constructor <;> intro h9 <;> omega), (hF.trans hout)⟩ dX12_isDigit_17

set_option maxRecDepth 100000 in
set_option maxHeartbeats 4000000 in
theorem c_X12_isSignByte (l : Launch) (X : XW) (σ : ST) (a : Nat) (v1 : Int32) (ha : q_kd X a = 12) : Met l yX12_isSignByte (q_ws yX12_isSignByte cX12_isSignByte 2 (some .boolean)) (q_rm 0 0) (q_P X σ [.ref a, .int v1]) (q_Qi X 9 σ (fun (r : Int32) (σ' : ST) => σ' = σ ∧ (0 ≤ r.toInt ∧ r.toInt ≤ 1) ∧ r = F_X12_isSignByte X σ a v1)) 0 0 (q_reg X) := by
  refine q_met 9 (by first | exact rfl | decide +kernel) rfl (Nat.le_of_ble_eq_true rfl) (fun p e s m below meth c E hml hr hlk hI ls hl => ?_)
  have hx := E.1
  have hb := E.2.1
  have hl : lv_has ls 2 [(0, .ref a), (1, .int v1)] := hl
  obtain ⟨out, hout⟩ : ∃ o, o = F_X12_isSignByte X σ a v1 := ⟨_, rfl⟩
  have hF := hout.symm
  unfold F_X12_isSignByte at hF
  refine lv_iload_n hx hb dX12_isSignByte_0 rfl (lv_at hl 1 rfl) ?_
  refine lv_bipush (v := 59) hx hb dX12_isSignByte_1 zkb_59 ?_
  refine q_icmp_eq (A := v1.toInt) (B := 59) E rfl (by decide) (tgt := 24) dX12_isSignByte_3 (by decide) (fun c_1 => ?_) (fun c_1 => ?_)
  · skip
    replace hF := q_ifp hF c_1
    refine lv_iconst (v := 1) hx hb dX12_isSignByte_24 zki_1 ?_
    refine lv_goto (tgt := 29) hx hb dX12_isSignByte_25 (by decide) ?_
    have hrv : (1 : Int32).toInt = 1 := zt_1
    exact q_retz E hr hlk hI ⟨by decide, by decide⟩ ⟨rfl, ⟨by decide, by decide⟩, (hF.trans hout)⟩ dX12_isSignByte_29
  · skip
    replace hF := q_ifn hF c_1
    refine lv_iload_n hx hb dX12_isSignByte_6 rfl (lv_at hl 1 rfl) ?_
    refine lv_bipush (v := 60) hx hb dX12_isSignByte_7 zkb_60 ?_
    refine q_icmp_eq (A := v1.toInt) (B := 60) E rfl (by decide) (tgt := 24) dX12_isSignByte_9 (by decide) (fun c_2 => ?_) (fun c_2 => ?_)
    · skip
      replace hF := q_ifp hF c_2
      refine lv_iconst (v := 1) hx hb dX12_isSignByte_24 zki_1 ?_
      refine lv_goto (tgt := 29) hx hb dX12_isSignByte_25 (by decide) ?_
      have hrv : (1 : Int32).toInt = 1 := zt_1
      exact q_retz E hr hlk hI ⟨by decide, by decide⟩ ⟨rfl, ⟨by decide, by decide⟩, (hF.trans hout)⟩ dX12_isSignByte_29
    · skip
      replace hF := q_ifn hF c_2
      refine lv_iload_n hx hb dX12_isSignByte_12 rfl (lv_at hl 1 rfl) ?_
      refine lv_bipush (v := 62) hx hb dX12_isSignByte_13 zkb_62 ?_
      refine q_icmp_eq (A := v1.toInt) (B := 62) E rfl (by decide) (tgt := 24) dX12_isSignByte_15 (by decide) (fun c_3 => ?_) (fun c_3 => ?_)
      · skip
        replace hF := q_ifp hF c_3
        refine lv_iconst (v := 1) hx hb dX12_isSignByte_24 zki_1 ?_
        refine lv_goto (tgt := 29) hx hb dX12_isSignByte_25 (by decide) ?_
        have hrv : (1 : Int32).toInt = 1 := zt_1
        exact q_retz E hr hlk hI ⟨by decide, by decide⟩ ⟨rfl, ⟨by decide, by decide⟩, (hF.trans hout)⟩ dX12_isSignByte_29
      · skip
        replace hF := q_ifn hF c_3
        refine lv_iload_n hx hb dX12_isSignByte_18 rfl (lv_at hl 1 rfl) ?_
        refine lv_bipush (v := 61) hx hb dX12_isSignByte_19 zkb_61 ?_
        refine q_icmp_ne (A := v1.toInt) (B := 61) E rfl (by decide) (tgt := 28) dX12_isSignByte_21 (by decide) (fun c_4 => ?_) (fun c_4 => ?_)
        · skip
          replace hF := q_ifn hF c_4
          refine lv_iconst (v := 0) hx hb dX12_isSignByte_28 zki_0 ?_
          have hrv : (0 : Int32).toInt = 0 := zt_0
          exact q_retz E hr hlk hI ⟨by decide, by decide⟩ ⟨rfl, ⟨by decide, by decide⟩, (hF.trans hout)⟩ dX12_isSignByte_29
        · skip
          replace hF := q_ifp hF c_4
          refine lv_iconst (v := 1) hx hb dX12_isSignByte_24 zki_1 ?_
          refine lv_goto (tgt := 29) hx hb dX12_isSignByte_25 (by decide) ?_
          have hrv : (1 : Int32).toInt = 1 := zt_1
          exact q_retz E hr hlk hI ⟨by decide, by decide⟩ ⟨rfl, ⟨by decide, by decide⟩, (hF.trans hout)⟩ dX12_isSignByte_29

set_option maxRecDepth 100000 in
set_option maxHeartbeats 4000000 in
theorem c_X12_isSign (l : Launch) (X : XW) (σ : ST) (a : Nat) (v1 : Int32) (ha : q_kd X a = 12) : Met l yX12_isSign (q_ws yX12_isSign cX12_isSign 2 (some .boolean)) (q_rm 0 0) (q_P X σ [.ref a, .int v1]) (q_Qi X 9 σ (fun (r : Int32) (σ' : ST) => σ' = σ ∧ (0 ≤ r.toInt ∧ r.toInt ≤ 1) ∧ r = F_X12_isSign X σ a v1)) 0 0 (q_reg X) := by
  refine q_met 9 (by first | exact rfl | decide +kernel) rfl (Nat.le_of_ble_eq_true rfl) (fun p e s m below meth c E hml hr hlk hI ls hl => ?_)
  have hx := E.1
  have hb := E.2.1
  have hl : lv_has ls 2 [(0, .ref a), (1, .int v1)] := hl
  obtain ⟨out, hout⟩ : ∃ o, o = F_X12_isSign X σ a v1 := ⟨_, rfl⟩
  have hF := hout.symm
  unfold F_X12_isSign at hF
  refine lv_aload_n hx hb dX12_isSign_0 rfl (lv_at hl 0 rfl) ?_
  refine gs_X12_110_12 E hI ha dX12_isSign_1 ?_
  refine lv_topi (fun f_1 ef_1 => ?_)
  replace hF := q_letX hF ef_1
  refine lv_iconst (v := 3) hx hb dX12_isSign_4 zki_3 ?_
  refine q_icmp_ne (A := f_1.toInt) (B := 3) E rfl (by decide) (tgt := 20) dX12_isSign_5 (by decide) (fun c_2 => ?_) (fun c_2 => ?_)
  · skip
    replace hF := q_ifn hF c_2
    refine lv_iconst (v := 0) hx hb dX12_isSign_20 zki_0 ?_
    have hrv : (0 : Int32).toInt = 0 := zt_0
    exact q_retz E hr hlk hI ⟨by decide, by decide⟩ ⟨rfl, ⟨by decide, by decide⟩, (hF.trans hout)⟩ dX12_isSign_21
  · skip
    replace hF := q_ifp hF c_2
    refine lv_aload_n hx hb dX12_isSign_8 rfl (lv_at hl 0 rfl) ?_
    refine gs_X12_129_12 E hI ha dX12_isSign_9 ?_
    refine lv_topi (fun f_3 ef_3 => ?_)
    replace hF := q_letX hF ef_3
    refine lv_iload_n hx hb dX12_isSign_12 rfl (lv_at hl 1 rfl) ?_
    refine q_icmp_ne (A := f_3.toInt) (B := v1.toInt) E rfl rfl (tgt := 20) dX12_isSign_13 (by decide) (fun c_4 => ?_) (fun c_4 => ?_)
    · skip
      replace hF := q_ifn hF c_4
      refine lv_iconst (v := 0) hx hb dX12_isSign_20 zki_0 ?_
      have hrv : (0 : Int32).toInt = 0 := zt_0
      exact q_retz E hr hlk hI ⟨by decide, by decide⟩ ⟨rfl, ⟨by decide, by decide⟩, (hF.trans hout)⟩ dX12_isSign_21
    · skip
      replace hF := q_ifp hF c_4
      refine lv_iconst (v := 1) hx hb dX12_isSign_16 zki_1 ?_
      refine lv_goto (tgt := 21) hx hb dX12_isSign_17 (by decide) ?_
      have hrv : (1 : Int32).toInt = 1 := zt_1
      exact q_retz E hr hlk hI ⟨by decide, by decide⟩ ⟨rfl, ⟨by decide, by decide⟩, (hF.trans hout)⟩ dX12_isSign_21

set_option maxRecDepth 100000 in
set_option maxHeartbeats 4000000 in
theorem c_X12_isWord (l : Launch) (X : XW) (σ : ST) (a : Nat) (v1 : Int64) (ha : q_kd X a = 12) : Met l yX12_isWord (q_ws yX12_isWord cX12_isWord 3 (some .boolean)) (q_rm 0 0) (q_P X σ [.ref a, .long v1]) (q_Qi X 9 σ (fun (r : Int32) (σ' : ST) => σ' = σ ∧ (0 ≤ r.toInt ∧ r.toInt ≤ 1) ∧ (r.toInt = 1 → (σ.1 a 14).toInt = 1) ∧ r = F_X12_isWord X σ a v1)) 0 0 (q_reg X) := by
  refine q_met 9 (by first | exact rfl | decide +kernel) rfl (Nat.le_of_ble_eq_true rfl) (fun p e s m below meth c E hml hr hlk hI ls hl => ?_)
  have hx := E.1
  have hb := E.2.1
  have hl : lv_has ls 3 [(0, .ref a), (1, .long v1)] := hl
  obtain ⟨out, hout⟩ : ∃ o, o = F_X12_isWord X σ a v1 := ⟨_, rfl⟩
  have hF := hout.symm
  unfold F_X12_isWord at hF
  refine lv_aload_n hx hb dX12_isWord_0 rfl (lv_at hl 0 rfl) ?_
  refine gs_X12_110_12 E hI ha dX12_isWord_1 ?_
  refine lv_topi (fun f_1 ef_1 => ?_)
  replace hF := q_letX hF ef_1
  have if_1 : f_1.toInt = (σ.1 a 14).toInt := congrArg Int32.toInt ef_1
  refine lv_iconst (v := 1) hx hb dX12_isWord_4 zki_1 ?_
  refine q_icmp_ne (A := f_1.toInt) (B := 1) E rfl (by decide) (tgt := 21) dX12_isWord_5 (by decide) (fun c_2 => ?_) (fun c_2 => ?_)
  · skip
    replace hF := q_ifn hF c_2
    refine lv_iconst (v := 0) hx hb dX12_isWord_21 zki_0 ?_
    have hrv : (0 : Int32).toInt = 0 := zt_0
    exact q_retz E hr hlk hI ⟨by decide, by decide⟩ ⟨rfl, ⟨by decide, by decide⟩, (by first | (clear if_1 c_2; omega) | omega), (hF.trans hout)⟩ dX12_isWord_22
  · skip
    replace hF := q_ifp hF c_2
    refine lv_aload_n hx hb dX12_isWord_8 rfl (lv_at hl 0 rfl) ?_
    refine gs_X12_116_12 E hI ha dX12_isWord_9 ?_
    refine lv_topl (fun g_3 eg_3 => ?_)
    replace hF := q_letX hF eg_3
    refine lv_lload_n hx hb dX12_isWord_12 rfl (lv_at hl 1 rfl) ?_
    refine q_lcmpX E dX12_isWord_13 (fun z_4 ez_4 hz_4 => ?_)
    replace hF := q_letX hF ez_4
    refine q_if_ne (A := z_4.toInt) E rfl (tgt := 21) dX12_isWord_14 (by decide) (fun c_5 => ?_) (fun c_5 => ?_)
    · skip
      replace hF := q_ifn hF c_5
      refine lv_iconst (v := 0) hx hb dX12_isWord_21 zki_0 ?_
      have hrv : (0 : Int32).toInt = 0 := zt_0
      exact q_retz E hr hlk hI ⟨by decide, by decide⟩ ⟨rfl, ⟨by decide, by decide⟩, (by first | (clear if_1 c_2 hz_4 c_5; omega) | omega), (hF.trans hout)⟩ dX12_isWord_22
    · skip
      replace hF := q_ifp hF c_5
      refine lv_iconst (v := 1) hx hb dX12_isWord_17 zki_1 ?_
      refine lv_goto (tgt := 22) hx hb dX12_isWord_18 (by decide) ?_
      have hrv : (1 : Int32).toInt = 1 := zt_1
      exact q_retz E hr hlk hI ⟨by decide, by decide⟩ ⟨rfl, ⟨by decide, by decide⟩, (by first | (clear hz_4 c_5 hrv; omega) | omega), (hF.trans hout)⟩ dX12_isWord_22

set_option maxRecDepth 100000 in
set_option maxHeartbeats 4000000 in
theorem c_X12_fail (l : Launch) (X : XW) (σ : ST) (a : Nat) (v1 : Int32) (v2 : Int32) (ha : q_kd X a = 12) (h0 : 0 ≤ (σ.1 a 12).toInt) (h1 : 1 ≤ v1.toInt) : Met l yX12_fail (q_ws yX12_fail cX12_fail 3 none) (q_rm 0 0) (q_P X σ [.ref a, .int v1, .int v2]) (q_Qv X 2 σ (fun (σ' : ST) => (q_KS (fun b g => b = a ∧ 12 ≤ g ∧ g ≤ 18) 9 X σ σ') ∧ ((σ'.1 a 9).toInt = (σ.1 a 9).toInt ∧ (σ'.1 a 14).toInt = (σ.1 a 14).toInt ∧ (σ'.1 a 15).toInt = (σ.1 a 15).toInt ∧ (σ'.1 a 16).toInt = (σ.1 a 16).toInt) ∧ ((σ.1 a 12).toInt ≤ (σ'.1 a 12).toInt ∧ 1 ≤ (σ'.1 a 12).toInt) ∧ σ' = F_X12_fail X σ a v1 v2 ∧ q_ow [(12, 12), (12, 13)] [] X σ σ')) 0 0 (q_reg X) := by
  refine q_met 2 (by first | exact rfl | decide +kernel) rfl (Nat.le_of_ble_eq_true rfl) (fun p e s m below meth c E hml hr hlk hI ls hl => ?_)
  have hx := E.1
  have hb := E.2.1
  have hl : lv_has ls 3 [(0, .ref a), (1, .int v1), (2, .int v2)] := hl
  have ks_σ : q_KS (fun b g => b = a ∧ 12 ≤ g ∧ g ≤ 18) 9 X σ σ := q_KS.rf
  have fr_σ : q_ow [(12, 12), (12, 13)] [] X σ σ := q_ow.rf
  obtain ⟨out, hout⟩ : ∃ o, o = F_X12_fail X σ a v1 v2 := ⟨_, rfl⟩
  have hF := hout.symm
  unfold F_X12_fail at hF
  refine lv_aload_n hx hb dX12_fail_0 rfl (lv_at hl 0 rfl) ?_
  refine gs_X12_187_12 E hI ha dX12_fail_1 ?_
  refine lv_topi (fun f_1 ef_1 => ?_)
  replace hF := q_letX hF ef_1
  have if_1 : f_1.toInt = (σ.1 a 12).toInt := congrArg Int32.toInt ef_1
  refine q_if_le (A := f_1.toInt) E rfl (tgt := 8) dX12_fail_4 (by decide) (fun c_2 => ?_) (fun c_2 => ?_)
  · skip
    replace hF := q_ifn hF (Int.not_lt.mpr c_2)
    refine lv_aload_n hx hb dX12_fail_8 rfl (lv_at hl 0 rfl) ?_
    refine lv_iload_n hx hb dX12_fail_9 rfl (lv_at hl 1 rfl) ?_
    refine ps_X12_187_12 E hI ha (by decide) dX12_fail_10 (fun H locs σ_3 hσ_3 hI => ?_)
    replace hF := q_letX hF hσ_3
    have fr_σ_3 := fr_σ.si hσ_3 ha rfl
    have ks_σ_3 : q_KS (fun b g => b = a ∧ 12 ≤ g ∧ g ≤ 18) 9 X σ σ_3 := ks_σ.siS hσ_3 ⟨rfl, by decide, by decide⟩
    have mv9_σ_3 : (σ_3.1 a 9).toInt = (σ.1 a 9).toInt := congrArg Int32.toInt (q_rdn hσ_3 (Or.inr (by decide)))
    have mv12_σ_3 : (σ_3.1 a 12).toInt = v1.toInt := congrArg Int32.toInt (q_rd hσ_3)
    have mv14_σ_3 : (σ_3.1 a 14).toInt = (σ.1 a 14).toInt := congrArg Int32.toInt (q_rdn hσ_3 (Or.inr (by decide)))
    have mv15_σ_3 : (σ_3.1 a 15).toInt = (σ.1 a 15).toInt := congrArg Int32.toInt (q_rdn hσ_3 (Or.inr (by decide)))
    have mv16_σ_3 : (σ_3.1 a 16).toInt = (σ.1 a 16).toInt := congrArg Int32.toInt (q_rdn hσ_3 (Or.inr (by decide)))
    have mv17_σ_3 : (σ_3.1 a 17).toInt = (σ.1 a 17).toInt := congrArg Int32.toInt (q_rdn hσ_3 (Or.inr (by decide)))
    refine lv_aload_n hx hb dX12_fail_13 rfl (lv_at hl 0 rfl) ?_
    refine lv_iload_n hx hb dX12_fail_14 rfl (lv_at hl 2 rfl) ?_
    refine ps_X12_190_12 E hI ha (by decide) dX12_fail_15 (fun H locs σ_4 hσ_4 hI => ?_)
    replace hF := q_letX hF hσ_4
    have fr_σ_4 := fr_σ_3.si hσ_4 ha rfl
    have ks_σ_4 : q_KS (fun b g => b = a ∧ 12 ≤ g ∧ g ≤ 18) 9 X σ σ_4 := ks_σ_3.siS hσ_4 ⟨rfl, by decide, by decide⟩
    have mv9_σ_4 : (σ_4.1 a 9).toInt = (σ_3.1 a 9).toInt := congrArg Int32.toInt (q_rdn hσ_4 (Or.inr (by decide)))
    have mv12_σ_4 : (σ_4.1 a 12).toInt = (σ_3.1 a 12).toInt := congrArg Int32.toInt (q_rdn hσ_4 (Or.inr (by decide)))
    have mv14_σ_4 : (σ_4.1 a 14).toInt = (σ_3.1 a 14).toInt := congrArg Int32.toInt (q_rdn hσ_4 (Or.inr (by decide)))
    have mv15_σ_4 : (σ_4.1 a 15).toInt = (σ_3.1 a 15).toInt := congrArg Int32.toInt (q_rdn hσ_4 (Or.inr (by decide)))
    have mv16_σ_4 : (σ_4.1 a 16).toInt = (σ_3.1 a 16).toInt := congrArg Int32.toInt (q_rdn hσ_4 (Or.inr (by decide)))
    have mv17_σ_4 : (σ_4.1 a 17).toInt = (σ_3.1 a 17).toInt := congrArg Int32.toInt (q_rdn hσ_4 (Or.inr (by decide)))
    exact q_retv E hr hlk hI ⟨ks_σ_4, (by first | (clear h0 h1 if_1 c_2 mv12_σ_3 mv17_σ_3 mv12_σ_4 mv17_σ_4; omega) | omega), (by first | (clear h0 h1 mv9_σ_3 mv14_σ_3 mv15_σ_3 mv16_σ_3 mv17_σ_3 mv9_σ_4 mv14_σ_4 mv15_σ_4 mv16_σ_4 mv17_σ_4; omega) | omega), (hF.trans hout), fr_σ_4⟩ dX12_fail_18
  · skip
    replace hF := q_ifp hF c_2
    exact q_retv E hr hlk hI ⟨ks_σ, (by first | (clear h0 h1 if_1 c_2; omega) | omega), (by first | (clear h0 h1; omega) | omega), (hF.trans hout), fr_σ⟩ dX12_fail_7

set_option maxRecDepth 100000 in
set_option maxHeartbeats 4000000 in
theorem c_X12_wrong (l : Launch) (X : XW) (σ : ST) (a : Nat) (ha : q_kd X a = 12) (h0 : 0 ≤ (σ.1 a 12).toInt) : Met l yX12_wrong (q_ws yX12_wrong cX12_wrong 1 none) (q_rm 1 22) (q_P X σ [.ref a]) (q_Qv X 2 σ (fun (σ' : ST) => (q_KS (fun b g => b = a ∧ 12 ≤ g ∧ g ≤ 18) 9 X σ σ') ∧ ((σ'.1 a 9).toInt = (σ.1 a 9).toInt ∧ (σ'.1 a 14).toInt = (σ.1 a 14).toInt ∧ (σ'.1 a 15).toInt = (σ.1 a 15).toInt ∧ (σ'.1 a 16).toInt = (σ.1 a 16).toInt) ∧ ((σ.1 a 12).toInt ≤ (σ'.1 a 12).toInt ∧ 1 ≤ (σ'.1 a 12).toInt) ∧ σ' = F_X12_wrong X σ a ∧ q_ow [(12, 12), (12, 13)] [] X σ σ')) 0 0 (q_reg X) := by
  refine q_met 2 (by first | exact rfl | decide +kernel) rfl (Nat.le_of_ble_eq_true rfl) (fun p e s m below meth c E hml hr hlk hI ls hl => ?_)
  have hx := E.1
  have hb := E.2.1
  have hl : lv_has ls 1 [(0, .ref a)] := hl
  have ks_σ : q_KS (fun b g => b = a ∧ 12 ≤ g ∧ g ≤ 18) 9 X σ σ := q_KS.rf
  have fr_σ : q_ow [(12, 12), (12, 13)] [] X σ σ := q_ow.rf
  obtain ⟨out, hout⟩ : ∃ o, o = F_X12_wrong X σ a := ⟨_, rfl⟩
  have hF := hout.symm
  unfold F_X12_wrong at hF
  refine lv_aload_n hx hb dX12_wrong_0 rfl (lv_at hl 0 rfl) ?_
  refine lv_aload_n hx hb dX12_wrong_1 rfl (lv_at hl 0 rfl) ?_
  refine gs_X12_110_12 E hI ha dX12_wrong_2 ?_
  refine lv_topi (fun f_1 ef_1 => ?_)
  replace hF := q_letX hF ef_1
  have if_1 : f_1.toInt = (σ.1 a 14).toInt := congrArg Int32.toInt ef_1
  refine lv_iconst (v := 4) hx hb dX12_wrong_5 zki_4 ?_
  refine q_icmp_ne (A := f_1.toInt) (B := 4) E rfl (by decide) (tgt := 13) dX12_wrong_6 (by decide) (fun c_2 => ?_) (fun c_2 => ?_)
  · skip
    replace hF := q_ifn hF c_2
    refine lv_iconst (v := 2) hx hb dX12_wrong_13 zki_2 ?_
    refine lv_aload_n hx hb dX12_wrong_14 rfl (lv_at hl 0 rfl) ?_
    refine gs_X12_104_12 E hI ha dX12_wrong_15 ?_
    refine lv_topi (fun f_3 ef_3 => ?_)
    replace hF := q_letX hF ef_3
    have if_3 : f_3.toInt = (σ.1 a 15).toInt := congrArg Int32.toInt ef_3
    have kc_4 : (2 : Int32).toInt = 2 := zt_2
    refine q_cv (q_rV11_2 (rest := []) E (hml.trans hl.1.symm) hI (c_X12_fail l X σ a (2 : Int32) f_3 ha (by omega) (by first | (clear h0 if_1 c_2 if_3; omega) | omega)) kv_X12_193 ha ⟨Nat.le_of_ble_eq_true rfl, Nat.le_of_ble_eq_true rfl⟩ (Nat.le_of_ble_eq_true rfl) dX12_wrong_18) hI (Nat.le_of_ble_eq_true rfl) (fun σ_6 H locs hpσ_6 hkσ_6 hI => ?_)
    have ahpσ_6 := hpσ_6.1
    have bhpσ_6 := hpσ_6.2.1
    have chpσ_6 := hpσ_6.2.2.1
    have dhpσ_6 := hpσ_6.2.2.2.1
    have ehpσ_6 := hpσ_6.2.2.2.2
    clear hpσ_6
    have fr_σ_6 := fr_σ.call ehpσ_6 rfl rfl
    replace hF := q_letX hF dhpσ_6
    have ks_σ_6 : q_KS (fun b g => b = a ∧ 12 ≤ g ∧ g ≤ 18) 9 X σ σ_6 := ks_σ.KS ahpσ_6 (by decide) (fun _ _ h => h)
    exact q_retv E hr hlk hI ⟨ks_σ_6, (by omega), (by omega), (hF.trans hout), fr_σ_6⟩ dX12_wrong_21
  · skip
    replace hF := q_ifp hF c_2
    refine lv_iconst (v := 1) hx hb dX12_wrong_9 zki_1 ?_
    refine lv_goto (tgt := 14) hx hb dX12_wrong_10 (by decide) ?_
    refine lv_aload_n hx hb dX12_wrong_14 rfl (lv_at hl 0 rfl) ?_
    refine gs_X12_104_12 E hI ha dX12_wrong_15 ?_
    refine lv_topi (fun f_7 ef_7 => ?_)
    replace hF := q_letX hF ef_7
    have if_7 : f_7.toInt = (σ.1 a 15).toInt := congrArg Int32.toInt ef_7
    have kc_8 : (1 : Int32).toInt = 1 := zt_1
    refine q_cv (q_rV11_2 (rest := []) E (hml.trans hl.1.symm) hI (c_X12_fail l X σ a (1 : Int32) f_7 ha (by omega) (by first | (clear h0 if_1 c_2 if_7; omega) | omega)) kv_X12_193 ha ⟨Nat.le_of_ble_eq_true rfl, Nat.le_of_ble_eq_true rfl⟩ (Nat.le_of_ble_eq_true rfl) dX12_wrong_18) hI (Nat.le_of_ble_eq_true rfl) (fun σ_10 H locs hpσ_10 hkσ_10 hI => ?_)
    have ahpσ_10 := hpσ_10.1
    have bhpσ_10 := hpσ_10.2.1
    have chpσ_10 := hpσ_10.2.2.1
    have dhpσ_10 := hpσ_10.2.2.2.1
    have ehpσ_10 := hpσ_10.2.2.2.2
    clear hpσ_10
    have fr_σ_10 := fr_σ.call ehpσ_10 rfl rfl
    replace hF := q_letX hF dhpσ_10
    have ks_σ_10 : q_KS (fun b g => b = a ∧ 12 ≤ g ∧ g ≤ 18) 9 X σ σ_10 := ks_σ.KS ahpσ_10 (by decide) (fun _ _ h => h)
    exact q_retv E hr hlk hI ⟨ks_σ_10, (by omega), (by omega), (hF.trans hout), fr_σ_10⟩ dX12_wrong_21
end
/-! FROM 32.next.a.lean.txt -/
section
section QS
variable {p : Program} {l : Launch} {e : Env} {R : Room} {s : State} {m : MethodId} {args : Array Value} {below : List Frame} {meth : Method} {c : Code} {H : Heap} {locs : List Loc} {cells slots : Nat} {Q : State → Prop} {cc : ByteArray} {X : XW} {n : Nat} {σ0 σ : ST} {H0 : Heap} {pc : Nat} {ls : Array Slot} {rest : List Value} {a : Nat}
theorem gs_X12_101_12 (E : q_E p c cc s m args RX12 X) (hI : q_I X n σ0 H0 locs σ H) (ha : q_kd X a = 12) (hdg : decode cc pc = .ok (.getfield 101, 3)) (kk : W p l e R s m args below meth c H locs cells slots Q (F0 m (pc + 3) ls (.int (σ.1 a 16) :: rest))) : W p l e R s m args below meth c H locs cells slots Q (F0 m pc ls (.ref a :: rest)) :=
  q_getf (ref := "CheatHeapModel") E hI ha ⟨rfl, by decide⟩ (show vwCl[11]? = some (RX12, TX12, 46) from rfl) q_inX12 (f := 16) (by decide) (q_in_t7 (i := 1) (by first | rfl | decide +kernel) rfl) (Or.inl rfl) rfl hdg kk
theorem ps_X12_104_12 (E : q_E p c cc s m args RX12 X) (hI : q_I X n σ0 H0 locs σ H) (ha : q_kd X a = 12) {v : Int32} (hcl : n < 3) (hdg : decode cc pc = .ok (.putfield 104, 3)) (kk : ∀ (H1 : Heap) (locs1 : List Loc) (σ1 : ST), σ1 = q_si σ a 15 v → q_I X n σ0 H0 locs1 σ1 H1 → W p l e R s m args below meth c H1 locs1 cells slots Q (F0 m (pc + 3) ls rest)) : W p l e R s m args below meth c H locs cells slots Q (F0 m pc ls (.int v :: .ref a :: rest)) :=
  q_puti (ref := "CheatHeapModel") E hI ha ⟨rfl, by decide⟩ (show vwCl[11]? = some (RX12, TX12, 46) from rfl) q_inX12 tyX12_ok nmX12 (f := 15) (by decide) (q_in_t7 (i := 0) (by first | rfl | decide +kernel) rfl) (Or.inl rfl) rfl rfl hcl hdg (q_inU rfl) (Or.inl rfl) (fun H1 l1 h => kk H1 l1 _ rfl h)
theorem ps_X12_101_12 (E : q_E p c cc s m args RX12 X) (hI : q_I X n σ0 H0 locs σ H) (ha : q_kd X a = 12) {v : Int32} (hcl : n < 3) (hdg : decode cc pc = .ok (.putfield 101, 3)) (kk : ∀ (H1 : Heap) (locs1 : List Loc) (σ1 : ST), σ1 = q_si σ a 16 v → q_I X n σ0 H0 locs1 σ1 H1 → W p l e R s m args below meth c H1 locs1 cells slots Q (F0 m (pc + 3) ls rest)) : W p l e R s m args below meth c H locs cells slots Q (F0 m pc ls (.int v :: .ref a :: rest)) :=
  q_puti (ref := "CheatHeapModel") E hI ha ⟨rfl, by decide⟩ (show vwCl[11]? = some (RX12, TX12, 46) from rfl) q_inX12 tyX12_ok nmX12 (f := 16) (by decide) (q_in_t7 (i := 1) (by first | rfl | decide +kernel) rfl) (Or.inl rfl) rfl rfl hcl hdg (q_inU rfl) (Or.inl rfl) (fun H1 l1 h => kk H1 l1 _ rfl h)
theorem kv_X12_107 : q_okV RX12 107 RX12 yX12_look2 cX12_look2 2 (some .int) 1 := ⟨(q_in_t7 (i := 192) (by first | rfl | decide +kernel) rfl), (q_in_t7 (i := 194) (by first | rfl | decide +kernel) rfl), (q_in_p (i := 43) (by decide +kernel) rfl), (q_in_t1 (i := 14) (by first | rfl | decide +kernel) rfl), (q_in_t7 (i := 195) (by first | rfl | decide +kernel) rfl), ⟨rfl, by decide, by decide, rfl⟩⟩
theorem ks_X12_113 : q_okS RX12 113 yX12_isLetter cX12_isLetter 1 (some .boolean) 1 := ⟨(q_in_t7 (i := 196) (by first | rfl | decide +kernel) rfl), (q_in_t7 (i := 197) (by first | rfl | decide +kernel) rfl), (q_in_t1 (i := 14) (by first | rfl | decide +kernel) rfl), (q_in_t7 (i := 198) (by first | rfl | decide +kernel) rfl), ⟨by decide, by decide, rfl⟩⟩
theorem ks_X12_126 : q_okS RX12 126 yX12_isDigit cX12_isDigit 1 (some .boolean) 1 := ⟨(q_in_t7 (i := 201) (by first | rfl | decide +kernel) rfl), (q_in_t7 (i := 202) (by first | rfl | decide +kernel) rfl), (q_in_t1 (i := 14) (by first | rfl | decide +kernel) rfl), (q_in_t7 (i := 203) (by first | rfl | decide +kernel) rfl), ⟨by decide, by decide, rfl⟩⟩
theorem ps_X12_129_12 (E : q_E p c cc s m args RX12 X) (hI : q_I X n σ0 H0 locs σ H) (ha : q_kd X a = 12) {v : Int32} (hcl : n < 3) (hdg : decode cc pc = .ok (.putfield 129, 3)) (kk : ∀ (H1 : Heap) (locs1 : List Loc) (σ1 : ST), σ1 = q_si σ a 17 v → q_I X n σ0 H0 locs1 σ1 H1 → W p l e R s m args below meth c H1 locs1 cells slots Q (F0 m (pc + 3) ls rest)) : W p l e R s m args below meth c H locs cells slots Q (F0 m pc ls (.int v :: .ref a :: rest)) :=
  q_puti (ref := "CheatHeapModel") E hI ha ⟨rfl, by decide⟩ (show vwCl[11]? = some (RX12, TX12, 46) from rfl) q_inX12 tyX12_ok nmX12 (f := 17) (by decide) (q_in_t7 (i := 2) (by first | rfl | decide +kernel) rfl) (Or.inl rfl) rfl rfl hcl hdg (q_inU rfl) (Or.inl rfl) (fun H1 l1 h => kk H1 l1 _ rfl h)
theorem kv_X12_132 : q_okV RX12 132 RX12 yX12_isSignByte cX12_isSignByte 2 (some .boolean) 1 := ⟨(q_in_t7 (i := 204) (by first | rfl | decide +kernel) rfl), (q_in_t7 (i := 206) (by first | rfl | decide +kernel) rfl), (q_in_p (i := 44) (by decide +kernel) rfl), (q_in_t1 (i := 14) (by first | rfl | decide +kernel) rfl), (q_in_t7 (i := 207) (by first | rfl | decide +kernel) rfl), ⟨rfl, by decide, by decide, rfl⟩⟩
theorem ps_X12_110_12 (E : q_E p c cc s m args RX12 X) (hI : q_I X n σ0 H0 locs σ H) (ha : q_kd X a = 12) {v : Int32} (hcl : n < 3) (hdg : decode cc pc = .ok (.putfield 110, 3)) (kk : ∀ (H1 : Heap) (locs1 : List Loc) (σ1 : ST), σ1 = q_si σ a 14 v → q_I X n σ0 H0 locs1 σ1 H1 → W p l e R s m args below meth c H1 locs1 cells slots Q (F0 m (pc + 3) ls rest)) : W p l e R s m args below meth c H locs cells slots Q (F0 m pc ls (.int v :: .ref a :: rest)) :=
  q_puti (ref := "CheatHeapModel") E hI ha ⟨rfl, by decide⟩ (show vwCl[11]? = some (RX12, TX12, 46) from rfl) q_inX12 tyX12_ok nmX12 (f := 14) (by decide) (q_in_t6 (i := 239) (by first | rfl | decide +kernel) rfl) (Or.inl rfl) rfl rfl hcl hdg (q_inU rfl) (Or.inl rfl) (fun H1 l1 h => kk H1 l1 _ rfl h)
theorem ps_X12_116_12 (E : q_E p c cc s m args RX12 X) (hI : q_I X n σ0 H0 locs σ H) (ha : q_kd X a = 12) {v : Int64} (hdg : decode cc pc = .ok (.putfield 116, 3)) (kk : ∀ (H1 : Heap) (locs1 : List Loc) (σ1 : ST), σ1 = q_sl σ a 19 v → q_I X n σ0 H0 locs1 σ1 H1 → W p l e R s m args below meth c H1 locs1 cells slots Q (F0 m (pc + 3) ls rest)) : W p l e R s m args below meth c H locs cells slots Q (F0 m pc ls (.long v :: .ref a :: rest)) :=
  q_putl E hI ha ⟨rfl, by decide⟩ (show vwCl[11]? = some (RX12, TX12, 46) from rfl) q_inX12 tyX12_ok nmX12 (f := 19) (by decide) (q_in_t7 (i := 4) (by first | rfl | decide +kernel) rfl) (Or.inl rfl) rfl rfl rfl hdg (fun H1 l1 h => kk H1 l1 _ rfl h)
theorem ps_X12_123_12 (E : q_E p c cc s m args RX12 X) (hI : q_I X n σ0 H0 locs σ H) (ha : q_kd X a = 12) {v : Int32} (hcl : n < 3) (hdg : decode cc pc = .ok (.putfield 123, 3)) (kk : ∀ (H1 : Heap) (locs1 : List Loc) (σ1 : ST), σ1 = q_si σ a 18 v → q_I X n σ0 H0 locs1 σ1 H1 → W p l e R s m args below meth c H1 locs1 cells slots Q (F0 m (pc + 3) ls rest)) : W p l e R s m args below meth c H locs cells slots Q (F0 m pc ls (.int v :: .ref a :: rest)) :=
  q_puti (ref := "CheatHeapModel") E hI ha ⟨rfl, by decide⟩ (show vwCl[11]? = some (RX12, TX12, 46) from rfl) q_inX12 tyX12_ok nmX12 (f := 18) (by decide) (q_in_t7 (i := 3) (by first | rfl | decide +kernel) rfl) (Or.inl rfl) rfl rfl hcl hdg (q_inU rfl) (Or.inl rfl) (fun H1 l1 h => kk H1 l1 _ rfl h)
end QS
end
/-! FROM 32.next.b00.lean.txt -/
section
set_option maxRecDepth 100000 in
set_option maxHeartbeats 4000000 in
theorem c_X12_next (l : Launch) (X : XW) (σ : ST) (a : Nat) (ha : q_kd X a = 12) (h0 : 0 ≤ (σ.1 a 16).toInt) (h1 : (σ.1 a 16).toInt ≤ (σ.1 a 9).toInt) (h2 : (σ.1 a 9).toInt ≤ 900) : Met l yX12_next (q_ws yX12_next cX12_next 2 none) (q_rm 1 21) (q_P X σ [.ref a]) (q_Qv X 2 σ (fun (σ' : ST) => (q_KS (fun b g => b = a ∧ 12 ≤ g ∧ g ≤ 18) 9 X σ σ') ∧ (0 ≤ (σ'.1 a 15).toInt ∧ (σ'.1 a 15).toInt ≤ (σ'.1 a 16).toInt ∧ (σ'.1 a 16).toInt ≤ (σ'.1 a 9).toInt ∧ (σ'.1 a 9).toInt ≤ 900 ∧ 0 ≤ (σ'.1 a 14).toInt ∧ (σ'.1 a 14).toInt ≤ 4 ∧ (σ'.1 a 14).toInt ≤ 4 * ((σ'.1 a 16).toInt - (σ'.1 a 15).toInt) ∧ (σ'.1 a 14).toInt ≤ 4 * ((σ'.1 a 9).toInt - (σ'.1 a 15).toInt)) ∧ ((σ'.1 a 9).toInt = (σ.1 a 9).toInt ∧ (σ'.1 a 12).toInt = (σ.1 a 12).toInt ∧ (σ.1 a 16).toInt ≤ (σ'.1 a 15).toInt) ∧ σ' = F_X12_next X σ a ∧ q_ow [(12, 14), (12, 15), (12, 16), (12, 17), (12, 18)] [(12, 19)] X σ σ')) 0 0 (q_reg X) := by
  refine q_met 2 (by first | exact rfl | decide +kernel) rfl (Nat.le_of_ble_eq_true rfl) (fun p e s m below meth c E hml hr hlk hI ls hl => ?_)
  have hx := E.1
  have hb := E.2.1
  have hl : lv_has ls 2 [(0, .ref a)] := hl
  have ks_σ : q_KS (fun b g => b = a ∧ 12 ≤ g ∧ g ≤ 18) 9 X σ σ := q_KS.rf
  have fr_σ : q_ow [(12, 14), (12, 15), (12, 16), (12, 17), (12, 18)] [(12, 19)] X σ σ := q_ow.rf
  obtain ⟨out, hout⟩ : ∃ o, o = F_X12_next X σ a := ⟨_, rfl⟩
  have hF := hout.symm
  unfold F_X12_next at hF
  refine lv_aload_n hx hb dX12_next_0 rfl (lv_at hl 0 rfl) ?_
  refine lv_aload_n hx hb dX12_next_1 rfl (lv_at hl 0 rfl) ?_
  refine gs_X12_101_12 E hI ha dX12_next_2 ?_
  refine lv_topi (fun f_1 ef_1 => ?_)
  replace hF := q_letX hF ef_1
  have if_1 : f_1.toInt = (σ.1 a 16).toInt := congrArg Int32.toInt ef_1
  refine ps_X12_104_12 E hI ha (by decide) dX12_next_5 (fun H locs σ_2 hσ_2 hI => ?_)
  replace hF := q_letX hF hσ_2
  have fr_σ_2 := fr_σ.si hσ_2 ha rfl
  have ks_σ_2 : q_KS (fun b g => b = a ∧ 12 ≤ g ∧ g ≤ 18) 9 X σ σ_2 := ks_σ.siS hσ_2 ⟨rfl, by decide, by decide⟩
  have mv9_σ_2 : (σ_2.1 a 9).toInt = (σ.1 a 9).toInt := congrArg Int32.toInt (q_rdn hσ_2 (Or.inr (by decide)))
  have mv12_σ_2 : (σ_2.1 a 12).toInt = (σ.1 a 12).toInt := congrArg Int32.toInt (q_rdn hσ_2 (Or.inr (by decide)))
  have mv14_σ_2 : (σ_2.1 a 14).toInt = (σ.1 a 14).toInt := congrArg Int32.toInt (q_rdn hσ_2 (Or.inr (by decide)))
  have mv15_σ_2 : (σ_2.1 a 15).toInt = f_1.toInt := congrArg Int32.toInt (q_rd hσ_2)
  have mv16_σ_2 : (σ_2.1 a 16).toInt = (σ.1 a 16).toInt := congrArg Int32.toInt (q_rdn hσ_2 (Or.inr (by decide)))
  have mv17_σ_2 : (σ_2.1 a 17).toInt = (σ.1 a 17).toInt := congrArg Int32.toInt (q_rdn hσ_2 (Or.inr (by decide)))
  have L_8_4 : ∀ (k_4 : Nat)  (σ_3 : ST) (H : Heap) (locs : List Loc) (ls : Array Slot), ((σ_3.1 a 9).toInt - (σ_3.1 a 15).toInt).toNat < k_4 → ((σ_3.1 a 9).toInt = (σ.1 a 9).toInt ∧ (σ_3.1 a 12).toInt = (σ.1 a 12).toInt ∧ (σ.1 a 16).toInt ≤ (σ_3.1 a 15).toInt ∧ (σ_3.1 a 15).toInt ≤ (σ.1 a 9).toInt) → (q_KS (fun b g => b = a ∧ 12 ≤ g ∧ g ≤ 18) 9 X σ σ_3) → (q_ow [(12, 14), (12, 15), (12, 16), (12, 17), (12, 18)] [(12, 19)] X σ σ_3) → (F_X12_next_L8_1 X a k_4 σ_3 = out) → q_I X 2 σ s.heap locs σ_3 H → lv_has ls 2 [(0, .ref a)] → W p l e (q_rm 1 21) s m ([.ref a] : List Value).toArray below meth c H locs 0 0 (MQ below (q_Qv X 2 σ (fun (σ' : ST) => (q_KS (fun b g => b = a ∧ 12 ≤ g ∧ g ≤ 18) 9 X σ σ') ∧ (0 ≤ (σ'.1 a 15).toInt ∧ (σ'.1 a 15).toInt ≤ (σ'.1 a 16).toInt ∧ (σ'.1 a 16).toInt ≤ (σ'.1 a 9).toInt ∧ (σ'.1 a 9).toInt ≤ 900 ∧ 0 ≤ (σ'.1 a 14).toInt ∧ (σ'.1 a 14).toInt ≤ 4 ∧ (σ'.1 a 14).toInt ≤ 4 * ((σ'.1 a 16).toInt - (σ'.1 a 15).toInt) ∧ (σ'.1 a 14).toInt ≤ 4 * ((σ'.1 a 9).toInt - (σ'.1 a 15).toInt)) ∧ ((σ'.1 a 9).toInt = (σ.1 a 9).toInt ∧ (σ'.1 a 12).toInt = (σ.1 a 12).toInt ∧ (σ.1 a 16).toInt ≤ (σ'.1 a 15).toInt) ∧ σ' = F_X12_next X σ a ∧ q_ow [(12, 14), (12, 15), (12, 16), (12, 17), (12, 18)] [(12, 19)] X σ σ')) ([.ref a] : List Value).toArray s 0 0 (q_reg X)) (F0 m 8 ls []) := by
    clear hF
    intro k_4
    induction k_4 with
    | zero =>
      intro σ_3 H locs ls hms
      try clear fr_σ; try clear fr_σ_2; try clear mv9_σ_2; try clear mv12_σ_2; try clear mv14_σ_2; try clear mv15_σ_2; try clear mv16_σ_2; try clear mv17_σ_2
      exact absurd hms (Nat.not_lt_zero _)
    | succ k_4 ih8 =>
      intro σ_3 H locs ls hm8 e8σ_3 ks_σ_3 fr_σ_3 hF hI hl
      replace hF := (F_X12_next_L8_1_s).symm.trans hF
      unfold F_X12_next_B8_1 at hF
      refine lv_aload_n hx hb dX12_next_8 rfl (lv_at hl 0 rfl) ?_
      refine gs_X12_104_12 E hI ha dX12_next_9 ?_
      refine lv_topi (fun f_5 ef_5 => ?_)
      replace hF := q_letX hF ef_5
      have if_5 : f_5.toInt = (σ_3.1 a 15).toInt := congrArg Int32.toInt ef_5
      refine lv_aload_n hx hb dX12_next_12 rfl (lv_at hl 0 rfl) ?_
      refine gs_X12_98_12 E hI ha dX12_next_13 ?_
      refine lv_topi (fun f_6 ef_6 => ?_)
      replace hF := q_letX hF ef_6
      have if_6 : f_6.toInt = (σ_3.1 a 9).toInt := congrArg Int32.toInt ef_6
      have J_58_6 : ∀  (H : Heap) (locs : List Loc) (ls : Array Slot), (F_X12_next_J58_2 X σ_3 a = out) → q_I X 2 σ s.heap locs σ_3 H → lv_has ls 2 [(0, .ref a)] → W p l e (q_rm 1 21) s m ([.ref a] : List Value).toArray below meth c H locs 0 0 (MQ below (q_Qv X 2 σ (fun (σ' : ST) => (q_KS (fun b g => b = a ∧ 12 ≤ g ∧ g ≤ 18) 9 X σ σ') ∧ (0 ≤ (σ'.1 a 15).toInt ∧ (σ'.1 a 15).toInt ≤ (σ'.1 a 16).toInt ∧ (σ'.1 a 16).toInt ≤ (σ'.1 a 9).toInt ∧ (σ'.1 a 9).toInt ≤ 900 ∧ 0 ≤ (σ'.1 a 14).toInt ∧ (σ'.1 a 14).toInt ≤ 4 ∧ (σ'.1 a 14).toInt ≤ 4 * ((σ'.1 a 16).toInt - (σ'.1 a 15).toInt) ∧ (σ'.1 a 14).toInt ≤ 4 * ((σ'.1 a 9).toInt - (σ'.1 a 15).toInt)) ∧ ((σ'.1 a 9).toInt = (σ.1 a 9).toInt ∧ (σ'.1 a 12).toInt = (σ.1 a 12).toInt ∧ (σ.1 a 16).toInt ≤ (σ'.1 a 15).toInt) ∧ σ' = F_X12_next X σ a ∧ q_ow [(12, 14), (12, 15), (12, 16), (12, 17), (12, 18)] [(12, 19)] X σ σ')) ([.ref a] : List Value).toArray s 0 0 (q_reg X)) (F0 m 58 ls []) := by
        clear hF
        intro  H locs ls  hF hI hl
        unfold F_X12_next_J58_2 at hF
        refine lv_aload_n hx hb dX12_next_58 rfl (lv_at hl 0 rfl) ?_
        refine lv_aload_n hx hb dX12_next_59 rfl (lv_at hl 0 rfl) ?_
        refine gs_X12_104_12 E hI ha dX12_next_60 ?_
        refine lv_topi (fun f_7 ef_7 => ?_)
        replace hF := q_letX hF ef_7
        have if_7 : f_7.toInt = (σ_3.1 a 15).toInt := congrArg Int32.toInt ef_7
        refine ps_X12_101_12 E hI ha (by decide) dX12_next_63 (fun H locs σ_8 hσ_8 hI => ?_)
        replace hF := q_letX hF hσ_8
        have fr_σ_8 := fr_σ_3.si hσ_8 ha rfl
        have ks_σ_8 : q_KS (fun b g => b = a ∧ 12 ≤ g ∧ g ≤ 18) 9 X σ σ_8 := ks_σ_3.siS hσ_8 ⟨rfl, by decide, by decide⟩
        have mv9_σ_8 : (σ_8.1 a 9).toInt = (σ_3.1 a 9).toInt := congrArg Int32.toInt (q_rdn hσ_8 (Or.inr (by decide)))
        have mv12_σ_8 : (σ_8.1 a 12).toInt = (σ_3.1 a 12).toInt := congrArg Int32.toInt (q_rdn hσ_8 (Or.inr (by decide)))
        have mv14_σ_8 : (σ_8.1 a 14).toInt = (σ_3.1 a 14).toInt := congrArg Int32.toInt (q_rdn hσ_8 (Or.inr (by decide)))
        have mv15_σ_8 : (σ_8.1 a 15).toInt = (σ_3.1 a 15).toInt := congrArg Int32.toInt (q_rdn hσ_8 (Or.inr (by decide)))
        have mv16_σ_8 : (σ_8.1 a 16).toInt = f_7.toInt := congrArg Int32.toInt (q_rd hσ_8)
        have mv17_σ_8 : (σ_8.1 a 17).toInt = (σ_3.1 a 17).toInt := congrArg Int32.toInt (q_rdn hσ_8 (Or.inr (by decide)))
        refine lv_aload_n hx hb dX12_next_66 rfl (lv_at hl 0 rfl) ?_
        refine gs_X12_104_12 E hI ha dX12_next_67 ?_
        refine lv_topi (fun f_9 ef_9 => ?_)
        replace hF := q_letX hF ef_9
        have if_9 : f_9.toInt = (σ_8.1 a 15).toInt := congrArg Int32.toInt ef_9
        refine lv_aload_n hx hb dX12_next_70 rfl (lv_at hl 0 rfl) ?_
        refine gs_X12_98_12 E hI ha dX12_next_71 ?_
        refine lv_topi (fun f_10 ef_10 => ?_)
        replace hF := q_letX hF ef_10
        have if_10 : f_10.toInt = (σ_8.1 a 9).toInt := congrArg Int32.toInt ef_10
        have gc_11_f_9 := q_rng f_9
        have gc_11_f_10 := q_rng f_10
        refine q_icmp_lt (A := f_9.toInt) (B := f_10.toInt) E rfl rfl (tgt := 83) dX12_next_74 (by decide) (fun c_11 => ?_) (fun c_11 => ?_)
        · skip
          replace hF := q_ifp hF c_11
          refine lv_aload_n hx hb dX12_next_83 rfl (lv_at hl 0 rfl) ?_
          refine lv_aload_n hx hb dX12_next_84 rfl (lv_at hl 0 rfl) ?_
          refine gs_X12_104_12 E hI ha dX12_next_85 ?_
          refine lv_topi (fun f_12 ef_12 => ?_)
          replace hF := q_letX hF ef_12
          have if_12 : f_12.toInt = (σ_8.1 a 15).toInt := congrArg Int32.toInt ef_12
          refine q_ci (q_rV11_1 (rest := []) E (hml.trans hl.1.symm) hI (c_X12_look2 l X σ_8 a f_12 ha (by first | (clear h0 h1 h2 hm8 if_6 mv9_σ_8 mv12_σ_8 mv14_σ_8 mv17_σ_8 if_10 gc_11_f_10 c_11; omega) | omega) (by first | (clear h0 h1 h2 if_1 hm8 if_5 if_7 mv12_σ_8 mv14_σ_8 mv15_σ_8 mv16_σ_8 mv17_σ_8 if_9 gc_11_f_9 c_11 if_12; omega) | omega)) kv_X12_107 ha ⟨Nat.le_of_ble_eq_true rfl, Nat.le_of_ble_eq_true rfl⟩ (Nat.le_of_ble_eq_true rfl) dX12_next_88) hI (Nat.le_of_ble_eq_true rfl) (fun r_13 σ_14 H locs hpσ_14 hkσ_14 hI => ?_)
          have ahpσ_14 := hpσ_14.1
          have bhpσ_14 := hpσ_14.2.1
          have chpσ_14 := hpσ_14.2.2.1
          have dhpσ_14 := hpσ_14.2.2.2
          clear hpσ_14
          replace hI := q_Irw ahpσ_14 hI
          replace hF := q_letX hF dhpσ_14
          have lkx : r_13.toInt = m_look X σ a f_12.toInt := bhpσ_14.trans (m_lookK ks_σ_8 hI.1 ha (fun b g h => ⟨h.1, by omega⟩) _)
          obtain ⟨xat, hxat⟩ : ∃ y : Int, y = f_12.toInt := ⟨_, rfl⟩
          rw [← hxat] at lkx
          refine lv_istore_n (lv' := [(1, .int r_13), (0, .ref a)]) hx hb dX12_next_91 rfl hl (by decide) rfl (fun ls hl => ?_)
          refine lv_iload_n hx hb dX12_next_92 rfl (lv_at hl 0 rfl) ?_
          refine q_ci (q_runS (As := [.int r_13]) (rest := []) E (hml.trans hl.1.symm) hI (c_X12_isLetter l X σ_8 r_13) ks_X12_113 rfl ⟨Nat.le_of_ble_eq_true rfl, Nat.le_of_ble_eq_true rfl⟩ ⟨Nat.le_refl _, Nat.le_refl _⟩ rfl (Nat.le_of_ble_eq_true rfl) dX12_next_93) hI (Nat.le_of_ble_eq_true rfl) (fun r_15 σ_16 H locs hpσ_16 hkσ_16 hI => ?_)
          have ahpσ_16 := hpσ_16.1
          have bhpσ_16 := hpσ_16.2.1
          have chpσ_16 := hpσ_16.2.2.1
          have dhpσ_16 := hpσ_16.2.2.2
          clear hpσ_16
          replace hI := q_Irw ahpσ_16 hI
          replace hF := q_letX hF dhpσ_16
          refine q_if_eq (A := r_15.toInt) E rfl (tgt := 198) dX12_next_96 (by decide) (fun c_17 => ?_) (fun c_17 => ?_)
          · skip
            replace hF := q_ifp hF c_17
            replace chpσ_16 := q_ifNo chpσ_16 c_17
            refine lv_iload_n hx hb dX12_next_198 rfl (lv_at hl 0 rfl) ?_
            refine q_ci (q_runS (As := [.int r_13]) (rest := []) E (hml.trans hl.1.symm) hI (c_X12_isDigit l X σ_8 r_13) ks_X12_126 rfl ⟨Nat.le_of_ble_eq_true rfl, Nat.le_of_ble_eq_true rfl⟩ ⟨Nat.le_refl _, Nat.le_refl _⟩ rfl (Nat.le_of_ble_eq_true rfl) dX12_next_199) hI (Nat.le_of_ble_eq_true rfl) (fun r_18 σ_19 H locs hpσ_19 hkσ_19 hI => ?_)
            have ahpσ_19 := hpσ_19.1
            have bhpσ_19 := hpσ_19.2.1
            have chpσ_19 := hpσ_19.2.2.1
            have dhpσ_19 := hpσ_19.2.2.2
            clear hpσ_19
            replace hI := q_Irw ahpσ_19 hI
            replace hF := q_letX hF dhpσ_19
            refine q_if_eq (A := r_18.toInt) E rfl (tgt := 298) dX12_next_202 (by decide) (fun c_20 => ?_) (fun c_20 => ?_)
            · skip
              replace hF := q_ifp hF c_20
              replace chpσ_19 := q_ifNo chpσ_19 c_20
              refine lv_aload_n hx hb dX12_next_298 rfl (lv_at hl 1 rfl) ?_
              refine lv_aload_n hx hb dX12_next_299 rfl (lv_at hl 1 rfl) ?_
              refine gs_X12_104_12 E hI ha dX12_next_300 ?_
              refine lv_topi (fun f_21 ef_21 => ?_)
              replace hF := q_letX hF ef_21
              have if_21 : f_21.toInt = (σ_8.1 a 15).toInt := congrArg Int32.toInt ef_21
              refine lv_iconst (v := 1) hx hb dX12_next_303 zki_1 ?_
              refine lv_iadd hx hb dX12_next_304 ?_
              refine lv_topi (fun z_22 ez_22 => ?_)
              replace hF := q_letX hF ez_22
              have iz_22 := q_addI (A := f_21.toInt) (B := 1) ez_22 rfl (by decide) (by first | (clear h0 h1 h2 if_1 hm8 e8σ_3 if_6 mv9_σ_8 mv12_σ_8 mv14_σ_8 mv17_σ_8 if_10 gc_11_f_10 c_11 ahpσ_14 bhpσ_14 chpσ_14 dhpσ_14 lkx ahpσ_16 bhpσ_16 dhpσ_16 c_17 chpσ_16 ahpσ_19 bhpσ_19 dhpσ_19 c_20 chpσ_19; omega) | omega) (by first | (clear h0 h1 h2 hm8 mv12_σ_8 mv14_σ_8 mv17_σ_8 ahpσ_14 bhpσ_14 chpσ_14 dhpσ_14 lkx ahpσ_16 bhpσ_16 dhpσ_16 c_17 chpσ_16 ahpσ_19 bhpσ_19 dhpσ_19 c_20 chpσ_19; omega) | omega)
              refine ps_X12_101_12 E hI ha (by decide) dX12_next_305 (fun H locs σ_23 hσ_23 hI => ?_)
              replace hF := q_letX hF hσ_23
              have fr_σ_23 := fr_σ_8.si hσ_23 ha rfl
              have ks_σ_23 : q_KS (fun b g => b = a ∧ 12 ≤ g ∧ g ≤ 18) 9 X σ σ_23 := ks_σ_8.siS hσ_23 ⟨rfl, by decide, by decide⟩
              have mv9_σ_23 : (σ_23.1 a 9).toInt = (σ_8.1 a 9).toInt := congrArg Int32.toInt (q_rdn hσ_23 (Or.inr (by decide)))
              have mv12_σ_23 : (σ_23.1 a 12).toInt = (σ_8.1 a 12).toInt := congrArg Int32.toInt (q_rdn hσ_23 (Or.inr (by decide)))
              have mv14_σ_23 : (σ_23.1 a 14).toInt = (σ_8.1 a 14).toInt := congrArg Int32.toInt (q_rdn hσ_23 (Or.inr (by decide)))
              have mv15_σ_23 : (σ_23.1 a 15).toInt = (σ_8.1 a 15).toInt := congrArg Int32.toInt (q_rdn hσ_23 (Or.inr (by decide)))
              have mv16_σ_23 : (σ_23.1 a 16).toInt = z_22.toInt := congrArg Int32.toInt (q_rd hσ_23)
              have mv17_σ_23 : (σ_23.1 a 17).toInt = (σ_8.1 a 17).toInt := congrArg Int32.toInt (q_rdn hσ_23 (Or.inr (by decide)))
              refine lv_aload_n hx hb dX12_next_308 rfl (lv_at hl 1 rfl) ?_
              refine lv_iload_n hx hb dX12_next_309 rfl (lv_at hl 0 rfl) ?_
              refine ps_X12_129_12 E hI ha (by decide) dX12_next_310 (fun H locs σ_24 hσ_24 hI => ?_)
              replace hF := q_letX hF hσ_24
              have fr_σ_24 := fr_σ_23.si hσ_24 ha rfl
              have ks_σ_24 : q_KS (fun b g => b = a ∧ 12 ≤ g ∧ g ≤ 18) 9 X σ σ_24 := ks_σ_23.siS hσ_24 ⟨rfl, by decide, by decide⟩
              have mv9_σ_24 : (σ_24.1 a 9).toInt = (σ_23.1 a 9).toInt := congrArg Int32.toInt (q_rdn hσ_24 (Or.inr (by decide)))
              have mv12_σ_24 : (σ_24.1 a 12).toInt = (σ_23.1 a 12).toInt := congrArg Int32.toInt (q_rdn hσ_24 (Or.inr (by decide)))
              have mv14_σ_24 : (σ_24.1 a 14).toInt = (σ_23.1 a 14).toInt := congrArg Int32.toInt (q_rdn hσ_24 (Or.inr (by decide)))
              have mv15_σ_24 : (σ_24.1 a 15).toInt = (σ_23.1 a 15).toInt := congrArg Int32.toInt (q_rdn hσ_24 (Or.inr (by decide)))
              have mv16_σ_24 : (σ_24.1 a 16).toInt = (σ_23.1 a 16).toInt := congrArg Int32.toInt (q_rdn hσ_24 (Or.inr (by decide)))
              have mv17_σ_24 : (σ_24.1 a 17).toInt = r_13.toInt := congrArg Int32.toInt (q_rd hσ_24)
              refine lv_aload_n hx hb dX12_next_313 rfl (lv_at hl 1 rfl) ?_
              refine lv_aload_n hx hb dX12_next_314 rfl (lv_at hl 1 rfl) ?_
              refine lv_iload_n hx hb dX12_next_315 rfl (lv_at hl 0 rfl) ?_
              refine q_ci (q_rV11_1 (rest := [.ref a]) E (hml.trans hl.1.symm) hI (c_X12_isSignByte l X σ_24 a r_13 ha) kv_X12_132 ha ⟨Nat.le_of_ble_eq_true rfl, Nat.le_of_ble_eq_true rfl⟩ (Nat.le_of_ble_eq_true rfl) dX12_next_316) hI (Nat.le_of_ble_eq_true rfl) (fun r_25 σ_26 H locs hpσ_26 hkσ_26 hI => ?_)
              have ahpσ_26 := hpσ_26.1
              have bhpσ_26 := hpσ_26.2.1
              have chpσ_26 := hpσ_26.2.2
              clear hpσ_26
              replace hI := q_Irw ahpσ_26 hI
              replace hF := q_letX hF chpσ_26
              refine q_if_eq (A := r_25.toInt) E rfl (tgt := 326) dX12_next_319 (by decide) (fun c_27 => ?_) (fun c_27 => ?_)
              · skip
                replace hF := q_ifp hF c_27
                refine lv_iconst (v := 4) hx hb dX12_next_326 zki_4 ?_
                refine ps_X12_110_12 E hI ha (by decide) dX12_next_327 (fun H locs σ_28 hσ_28 hI => ?_)
                replace hF := q_letX hF hσ_28
                have fr_σ_28 := fr_σ_24.si hσ_28 ha rfl
                have ks_σ_28 : q_KS (fun b g => b = a ∧ 12 ≤ g ∧ g ≤ 18) 9 X σ σ_28 := ks_σ_24.siS hσ_28 ⟨rfl, by decide, by decide⟩
                have mv9_σ_28 : (σ_28.1 a 9).toInt = (σ_24.1 a 9).toInt := congrArg Int32.toInt (q_rdn hσ_28 (Or.inr (by decide)))
                have mv12_σ_28 : (σ_28.1 a 12).toInt = (σ_24.1 a 12).toInt := congrArg Int32.toInt (q_rdn hσ_28 (Or.inr (by decide)))
                have mv14_σ_28 : (σ_28.1 a 14).toInt = 4 := by rw [q_rd hσ_28]; rfl
                have mv15_σ_28 : (σ_28.1 a 15).toInt = (σ_24.1 a 15).toInt := congrArg Int32.toInt (q_rdn hσ_28 (Or.inr (by decide)))
                have mv16_σ_28 : (σ_28.1 a 16).toInt = (σ_24.1 a 16).toInt := congrArg Int32.toInt (q_rdn hσ_28 (Or.inr (by decide)))
                have mv17_σ_28 : (σ_28.1 a 17).toInt = (σ_24.1 a 17).toInt := congrArg Int32.toInt (q_rdn hσ_28 (Or.inr (by decide)))
                exact q_retv E hr hlk hI ⟨ks_σ_28, (by first | (clear h0 h1 h2 hm8 mv12_σ_8 mv14_σ_8 mv17_σ_8 ahpσ_14 bhpσ_14 chpσ_14 dhpσ_14 lkx ahpσ_16 bhpσ_16 dhpσ_16 c_17 chpσ_16 ahpσ_19 bhpσ_19 dhpσ_19 c_20 chpσ_19 mv12_σ_23 mv14_σ_23 mv17_σ_23 mv12_σ_24 mv14_σ_24 mv17_σ_24 ahpσ_26 bhpσ_26 chpσ_26 c_27 mv12_σ_28 mv17_σ_28; omega) | omega), (by first | (clear h0 h1 h2 hm8 mv14_σ_8 mv17_σ_8 gc_11_f_9 gc_11_f_10 c_11 ahpσ_14 bhpσ_14 chpσ_14 dhpσ_14 lkx ahpσ_16 bhpσ_16 dhpσ_16 c_17 chpσ_16 ahpσ_19 bhpσ_19 dhpσ_19 c_20 chpσ_19 mv14_σ_23 mv17_σ_23 mv14_σ_24 mv17_σ_24 ahpσ_26 bhpσ_26 chpσ_26 c_27 mv14_σ_28 mv17_σ_28; omega) | omega), (hF.trans hout), fr_σ_28⟩ dX12_next_330
              · skip
                replace hF := q_ifn hF c_27
                replace c_27 := q_ifOne bhpσ_26 c_27
                refine lv_iconst (v := 3) hx hb dX12_next_322 zki_3 ?_
                refine lv_goto (tgt := 327) hx hb dX12_next_323 (by decide) ?_
                refine ps_X12_110_12 E hI ha (by decide) dX12_next_327 (fun H locs σ_29 hσ_29 hI => ?_)
                replace hF := q_letX hF hσ_29
                have fr_σ_29 := fr_σ_24.si hσ_29 ha rfl
                have ks_σ_29 : q_KS (fun b g => b = a ∧ 12 ≤ g ∧ g ≤ 18) 9 X σ σ_29 := ks_σ_24.siS hσ_29 ⟨rfl, by decide, by decide⟩
                have mv9_σ_29 : (σ_29.1 a 9).toInt = (σ_24.1 a 9).toInt := congrArg Int32.toInt (q_rdn hσ_29 (Or.inr (by decide)))
                have mv12_σ_29 : (σ_29.1 a 12).toInt = (σ_24.1 a 12).toInt := congrArg Int32.toInt (q_rdn hσ_29 (Or.inr (by decide)))
                have mv14_σ_29 : (σ_29.1 a 14).toInt = 3 := by rw [q_rd hσ_29]; rfl
                have mv15_σ_29 : (σ_29.1 a 15).toInt = (σ_24.1 a 15).toInt := congrArg Int32.toInt (q_rdn hσ_29 (Or.inr (by decide)))
                have mv16_σ_29 : (σ_29.1 a 16).toInt = (σ_24.1 a 16).toInt := congrArg Int32.toInt (q_rdn hσ_29 (Or.inr (by decide)))
                have mv17_σ_29 : (σ_29.1 a 17).toInt = (σ_24.1 a 17).toInt := congrArg Int32.toInt (q_rdn hσ_29 (Or.inr (by decide)))
                exact q_retv E hr hlk hI ⟨ks_σ_29, (by first | (clear h0 h1 h2 hm8 mv12_σ_8 mv14_σ_8 mv17_σ_8 ahpσ_14 bhpσ_14 chpσ_14 dhpσ_14 lkx ahpσ_16 bhpσ_16 dhpσ_16 c_17 chpσ_16 ahpσ_19 bhpσ_19 dhpσ_19 c_20 chpσ_19 mv12_σ_23 mv14_σ_23 mv17_σ_23 mv12_σ_24 mv14_σ_24 mv17_σ_24 ahpσ_26 bhpσ_26 chpσ_26 c_27 mv12_σ_29 mv17_σ_29; omega) | omega), (by first | (clear h0 h1 h2 hm8 mv14_σ_8 mv17_σ_8 gc_11_f_9 gc_11_f_10 c_11 ahpσ_14 bhpσ_14 chpσ_14 dhpσ_14 lkx ahpσ_16 bhpσ_16 dhpσ_16 c_17 chpσ_16 ahpσ_19 bhpσ_19 dhpσ_19 c_20 chpσ_19 mv14_σ_23 mv17_σ_23 mv14_σ_24 mv17_σ_24 ahpσ_26 bhpσ_26 chpσ_26 c_27 mv14_σ_29 mv17_σ_29; omega) | omega), (hF.trans hout), fr_σ_29⟩ dX12_next_330
            · skip
              replace hF := q_ifn hF c_20
              replace c_20 := q_ifOne bhpσ_19 c_20
              replace chpσ_19 := q_ifYes chpσ_19 c_20
              refine lv_aload_n hx hb dX12_next_205 rfl (lv_at hl 1 rfl) ?_
              refine lv_iconst (v := 0) hx hb dX12_next_206 zki_0 ?_
              refine ps_X12_129_12 E hI ha (by decide) dX12_next_207 (fun H locs σ_30 hσ_30 hI => ?_)
              replace hF := q_letX hF hσ_30
              have fr_σ_30 := fr_σ_8.si hσ_30 ha rfl
              have ks_σ_30 : q_KS (fun b g => b = a ∧ 12 ≤ g ∧ g ≤ 18) 9 X σ σ_30 := ks_σ_8.siS hσ_30 ⟨rfl, by decide, by decide⟩
              have mv9_σ_30 : (σ_30.1 a 9).toInt = (σ_8.1 a 9).toInt := congrArg Int32.toInt (q_rdn hσ_30 (Or.inr (by decide)))
              have mv12_σ_30 : (σ_30.1 a 12).toInt = (σ_8.1 a 12).toInt := congrArg Int32.toInt (q_rdn hσ_30 (Or.inr (by decide)))
              have mv14_σ_30 : (σ_30.1 a 14).toInt = (σ_8.1 a 14).toInt := congrArg Int32.toInt (q_rdn hσ_30 (Or.inr (by decide)))
              have mv15_σ_30 : (σ_30.1 a 15).toInt = (σ_8.1 a 15).toInt := congrArg Int32.toInt (q_rdn hσ_30 (Or.inr (by decide)))
              have mv16_σ_30 : (σ_30.1 a 16).toInt = (σ_8.1 a 16).toInt := congrArg Int32.toInt (q_rdn hσ_30 (Or.inr (by decide)))
              have mv17_σ_30 : (σ_30.1 a 17).toInt = 0 := by rw [q_rd hσ_30]; rfl
              have L_210_32 : ∀ (k_32 : Nat)  (σ_31 : ST) (H : Heap) (locs : List Loc) (ls : Array Slot), ((σ_31.1 a 9).toInt - (σ_31.1 a 16).toInt).toNat < k_32 → ((σ_31.1 a 9).toInt = (σ.1 a 9).toInt ∧ (σ_31.1 a 12).toInt = (σ.1 a 12).toInt ∧ (σ.1 a 16).toInt ≤ (σ_31.1 a 15).toInt ∧ (σ_31.1 a 15).toInt ≤ (σ_31.1 a 16).toInt ∧ (σ_31.1 a 15).toInt < (σ.1 a 9).toInt ∧ (σ_31.1 a 16).toInt ≤ (σ.1 a 9).toInt) → ((σ_31.1 a 15).toInt < (σ_31.1 a 16).toInt ∨ (48 ≤ m_look X σ a (σ_31.1 a 16).toInt ∧ m_look X σ a (σ_31.1 a 16).toInt ≤ 57)) → (q_KS (fun b g => b = a ∧ 12 ≤ g ∧ g ≤ 18) 9 X σ σ_31) → (q_ow [(12, 14), (12, 15), (12, 16), (12, 17), (12, 18)] [(12, 19)] X σ σ_31) → (F_X12_next_L210_3 X a k_32 σ_31 = out) → q_I X 2 σ s.heap locs σ_31 H → lv_has ls 2 [(0, .ref a), (1, .int r_13)] → W p l e (q_rm 1 21) s m ([.ref a] : List Value).toArray below meth c H locs 0 0 (MQ below (q_Qv X 2 σ (fun (σ' : ST) => (q_KS (fun b g => b = a ∧ 12 ≤ g ∧ g ≤ 18) 9 X σ σ') ∧ (0 ≤ (σ'.1 a 15).toInt ∧ (σ'.1 a 15).toInt ≤ (σ'.1 a 16).toInt ∧ (σ'.1 a 16).toInt ≤ (σ'.1 a 9).toInt ∧ (σ'.1 a 9).toInt ≤ 900 ∧ 0 ≤ (σ'.1 a 14).toInt ∧ (σ'.1 a 14).toInt ≤ 4 ∧ (σ'.1 a 14).toInt ≤ 4 * ((σ'.1 a 16).toInt - (σ'.1 a 15).toInt) ∧ (σ'.1 a 14).toInt ≤ 4 * ((σ'.1 a 9).toInt - (σ'.1 a 15).toInt)) ∧ ((σ'.1 a 9).toInt = (σ.1 a 9).toInt ∧ (σ'.1 a 12).toInt = (σ.1 a 12).toInt ∧ (σ.1 a 16).toInt ≤ (σ'.1 a 15).toInt) ∧ σ' = F_X12_next X σ a ∧ q_ow [(12, 14), (12, 15), (12, 16), (12, 17), (12, 18)] [(12, 19)] X σ σ')) ([.ref a] : List Value).toArray s 0 0 (q_reg X)) (F0 m 210 ls []) := by
                clear hF
                intro k_32
                induction k_32 with
                | zero =>
                  intro σ_31 H locs ls hms
                  try clear fr_σ_3; try clear fr_σ_30; try clear mv9_σ_30; try clear mv12_σ_30; try clear mv14_σ_30; try clear mv15_σ_30; try clear mv16_σ_30; try clear mv17_σ_30
                  exact absurd hms (Nat.not_lt_zero _)
                | succ k_32 ih210 =>
                  intro σ_31 H locs ls hm210 e210σ_31 f210σ_31 ks_σ_31 fr_σ_31 hF hI hl
                  replace hF := (F_X12_next_L210_3_s).symm.trans hF
                  unfold F_X12_next_B210_3 at hF
                  refine lv_aload_n hx hb dX12_next_210 rfl (lv_at hl 0 rfl) ?_
                  refine lv_aload_n hx hb dX12_next_211 rfl (lv_at hl 0 rfl) ?_
                  refine gs_X12_101_12 E hI ha dX12_next_212 ?_
                  refine lv_topi (fun f_33 ef_33 => ?_)
                  replace hF := q_letX hF ef_33
                  have if_33 : f_33.toInt = (σ_31.1 a 16).toInt := congrArg Int32.toInt ef_33
                  refine q_ci (q_rV11_1 (rest := []) E (hml.trans hl.1.symm) hI (c_X12_look2 l X σ_31 a f_33 ha (by first | (clear h0 h1 h2 hm8 e8σ_3 if_5 if_6 if_7 mv9_σ_8 mv12_σ_8 mv14_σ_8 mv15_σ_8 mv16_σ_8 mv17_σ_8 if_9 if_10 gc_11_f_9 gc_11_f_10 c_11 if_12 ahpσ_14 bhpσ_14 chpσ_14 dhpσ_14 lkx hxat ahpσ_16 bhpσ_16 dhpσ_16 c_17 chpσ_16 ahpσ_19 bhpσ_19 dhpσ_19 c_20 chpσ_19 hm210 f210σ_31; omega) | omega) (by first | (clear h0 h1 h2 if_1 hm8 if_5 if_7 mv12_σ_8 mv14_σ_8 mv15_σ_8 mv16_σ_8 mv17_σ_8 if_9 gc_11_f_9 c_11 if_12 ahpσ_14 bhpσ_14 chpσ_14 dhpσ_14 lkx hxat ahpσ_16 bhpσ_16 dhpσ_16 c_17 chpσ_16 ahpσ_19 bhpσ_19 dhpσ_19 c_20 chpσ_19 hm210 f210σ_31 if_33; omega) | omega)) kv_X12_107 ha ⟨Nat.le_of_ble_eq_true rfl, Nat.le_of_ble_eq_true rfl⟩ (Nat.le_of_ble_eq_true rfl) dX12_next_215) hI (Nat.le_of_ble_eq_true rfl) (fun r_34 σ_35 H locs hpσ_35 hkσ_35 hI => ?_)
                  have ahpσ_35 := hpσ_35.1
                  have bhpσ_35 := hpσ_35.2.1
                  have chpσ_35 := hpσ_35.2.2.1
                  have dhpσ_35 := hpσ_35.2.2.2
                  clear hpσ_35
                  replace hI := q_Irw ahpσ_35 hI
                  replace hF := q_letX hF dhpσ_35
                  have lbr_34 : r_34.toInt = m_look X σ a f_33.toInt := bhpσ_35.trans (m_lookK ks_σ_31 hI.1 ha (fun b g h => ⟨h.1, by omega⟩) _)
                  have lcr_34 : f_33.toInt = (σ_31.1 a 16).toInt := if_33
                  rw [lcr_34] at lbr_34
                  have ldr_34 := fun h => m_look_lt (X := X) (σ := σ) (a := a) (p := (σ_31.1 a 16).toInt) h
                  refine q_ci (q_runS (As := [.int r_34]) (rest := []) E (hml.trans hl.1.symm) hI (c_X12_isDigit l X σ_31 r_34) ks_X12_126 rfl ⟨Nat.le_of_ble_eq_true rfl, Nat.le_of_ble_eq_true rfl⟩ ⟨Nat.le_refl _, Nat.le_refl _⟩ rfl (Nat.le_of_ble_eq_true rfl) dX12_next_218) hI (Nat.le_of_ble_eq_true rfl) (fun r_36 σ_37 H locs hpσ_37 hkσ_37 hI => ?_)
                  have ahpσ_37 := hpσ_37.1
                  have bhpσ_37 := hpσ_37.2.1
                  have chpσ_37 := hpσ_37.2.2.1
                  have dhpσ_37 := hpσ_37.2.2.2
                  clear hpσ_37
                  replace hI := q_Irw ahpσ_37 hI
                  replace hF := q_letX hF dhpσ_37
                  refine q_if_eq (A := r_36.toInt) E rfl (tgt := 273) dX12_next_221 (by decide) (fun c_38 => ?_) (fun c_38 => ?_)
                  · skip
                    replace hF := q_ifp hF c_38
                    replace chpσ_37 := q_ifNo chpσ_37 c_38
                    unfold F_X12_next_E273_4 at hF
                    refine lv_aload_n hx hb dX12_next_273 rfl (lv_at hl 0 rfl) ?_
                    refine lv_aload_n hx hb dX12_next_274 rfl (lv_at hl 0 rfl) ?_
                    refine gs_X12_101_12 E hI ha dX12_next_275 ?_
                    refine lv_topi (fun f_39 ef_39 => ?_)
                    replace hF := q_letX hF ef_39
                    have if_39 : f_39.toInt = (σ_31.1 a 16).toInt := congrArg Int32.toInt ef_39
                    refine lv_aload_n hx hb dX12_next_278 rfl (lv_at hl 0 rfl) ?_
                    refine gs_X12_104_12 E hI ha dX12_next_279 ?_
                    refine lv_topi (fun f_40 ef_40 => ?_)
                    replace hF := q_letX hF ef_40
                    have if_40 : f_40.toInt = (σ_31.1 a 15).toInt := congrArg Int32.toInt ef_40
                    refine lv_isub hx hb dX12_next_282 ?_
                    refine lv_topi (fun z_41 ez_41 => ?_)
                    replace hF := q_letX hF ez_41
                    have iz_41 := q_subI (A := f_39.toInt) (B := f_40.toInt) ez_41 rfl rfl (by first | (clear h0 h1 h2 if_1 hm8 e8σ_3 if_5 if_6 if_7 mv9_σ_8 mv12_σ_8 mv14_σ_8 mv15_σ_8 mv16_σ_8 mv17_σ_8 if_9 if_10 gc_11_f_9 gc_11_f_10 c_11 if_12 ahpσ_14 bhpσ_14 chpσ_14 dhpσ_14 lkx hxat ahpσ_16 bhpσ_16 dhpσ_16 c_17 chpσ_16 ahpσ_19 bhpσ_19 dhpσ_19 c_20 chpσ_19 hm210 f210σ_31 ahpσ_35 bhpσ_35 chpσ_35 dhpσ_35 lbr_34 ldr_34 ahpσ_37 bhpσ_37 dhpσ_37 c_38 chpσ_37; omega) | omega) (by first | (clear h0 h1 h2 hm8 mv12_σ_8 mv14_σ_8 mv17_σ_8 ahpσ_14 bhpσ_14 chpσ_14 dhpσ_14 lkx ahpσ_16 bhpσ_16 dhpσ_16 c_17 chpσ_16 ahpσ_19 bhpσ_19 dhpσ_19 c_20 chpσ_19 hm210 f210σ_31 ahpσ_35 bhpσ_35 chpσ_35 dhpσ_35 lbr_34 ldr_34 ahpσ_37 bhpσ_37 dhpσ_37 c_38 chpσ_37; omega) | omega)
                    refine lv_iconst (v := 4) hx hb dX12_next_283 zki_4 ?_
                    have gc_42_z_41 := q_rng z_41
                    refine q_icmp_le (A := z_41.toInt) (B := 4) E rfl (by decide) (tgt := 291) dX12_next_284 (by decide) (fun c_42 => ?_) (fun c_42 => ?_)
                    · skip
                      replace hF := q_ifn hF (Int.not_lt.mpr c_42)
                      refine lv_iconst (v := 2) hx hb dX12_next_291 zki_2 ?_
                      refine ps_X12_110_12 E hI ha (by decide) dX12_next_292 (fun H locs σ_43 hσ_43 hI => ?_)
                      replace hF := q_letX hF hσ_43
                      have fr_σ_43 := fr_σ_31.si hσ_43 ha rfl
                      have ks_σ_43 : q_KS (fun b g => b = a ∧ 12 ≤ g ∧ g ≤ 18) 9 X σ σ_43 := ks_σ_31.siS hσ_43 ⟨rfl, by decide, by decide⟩
                      have mv9_σ_43 : (σ_43.1 a 9).toInt = (σ_31.1 a 9).toInt := congrArg Int32.toInt (q_rdn hσ_43 (Or.inr (by decide)))
                      have mv12_σ_43 : (σ_43.1 a 12).toInt = (σ_31.1 a 12).toInt := congrArg Int32.toInt (q_rdn hσ_43 (Or.inr (by decide)))
                      have mv14_σ_43 : (σ_43.1 a 14).toInt = 2 := by rw [q_rd hσ_43]; rfl
                      have mv15_σ_43 : (σ_43.1 a 15).toInt = (σ_31.1 a 15).toInt := congrArg Int32.toInt (q_rdn hσ_43 (Or.inr (by decide)))
                      have mv16_σ_43 : (σ_43.1 a 16).toInt = (σ_31.1 a 16).toInt := congrArg Int32.toInt (q_rdn hσ_43 (Or.inr (by decide)))
                      have mv17_σ_43 : (σ_43.1 a 17).toInt = (σ_31.1 a 17).toInt := congrArg Int32.toInt (q_rdn hσ_43 (Or.inr (by decide)))
                      refine lv_goto (tgt := 330) hx hb dX12_next_295 (by decide) ?_
                      exact q_retv E hr hlk hI ⟨ks_σ_43, (by first | (clear h0 h1 h2 hm8 if_5 if_7 mv12_σ_8 mv14_σ_8 mv15_σ_8 mv16_σ_8 mv17_σ_8 if_9 gc_11_f_9 c_11 if_12 ahpσ_14 bhpσ_14 chpσ_14 dhpσ_14 lkx hxat ahpσ_16 bhpσ_16 dhpσ_16 c_17 chpσ_16 ahpσ_19 bhpσ_19 dhpσ_19 c_20 chpσ_19 hm210 ahpσ_35 dhpσ_35 ahpσ_37 bhpσ_37 dhpσ_37 c_38 mv12_σ_43 mv17_σ_43; omega) | omega), (by first | (clear h0 h1 h2 hm8 if_5 if_7 mv14_σ_8 mv15_σ_8 mv16_σ_8 mv17_σ_8 if_9 gc_11_f_9 gc_11_f_10 c_11 if_12 ahpσ_14 bhpσ_14 chpσ_14 dhpσ_14 lkx hxat ahpσ_16 bhpσ_16 dhpσ_16 c_17 chpσ_16 ahpσ_19 bhpσ_19 dhpσ_19 c_20 chpσ_19 hm210 f210σ_31 if_33 ahpσ_35 bhpσ_35 chpσ_35 dhpσ_35 lbr_34 ldr_34 ahpσ_37 bhpσ_37 dhpσ_37 c_38 chpσ_37 if_39 iz_41 gc_42_z_41 c_42 mv14_σ_43 mv16_σ_43 mv17_σ_43; omega) | omega), (hF.trans hout), fr_σ_43⟩ dX12_next_330
                    · skip
                      replace hF := q_ifp hF c_42
                      refine lv_iconst (v := 4) hx hb dX12_next_287 zki_4 ?_
                      refine lv_goto (tgt := 292) hx hb dX12_next_288 (by decide) ?_
                      refine ps_X12_110_12 E hI ha (by decide) dX12_next_292 (fun H locs σ_44 hσ_44 hI => ?_)
                      replace hF := q_letX hF hσ_44
                      have fr_σ_44 := fr_σ_31.si hσ_44 ha rfl
                      have ks_σ_44 : q_KS (fun b g => b = a ∧ 12 ≤ g ∧ g ≤ 18) 9 X σ σ_44 := ks_σ_31.siS hσ_44 ⟨rfl, by decide, by decide⟩
                      have mv9_σ_44 : (σ_44.1 a 9).toInt = (σ_31.1 a 9).toInt := congrArg Int32.toInt (q_rdn hσ_44 (Or.inr (by decide)))
                      have mv12_σ_44 : (σ_44.1 a 12).toInt = (σ_31.1 a 12).toInt := congrArg Int32.toInt (q_rdn hσ_44 (Or.inr (by decide)))
                      have mv14_σ_44 : (σ_44.1 a 14).toInt = 4 := by rw [q_rd hσ_44]; rfl
                      have mv15_σ_44 : (σ_44.1 a 15).toInt = (σ_31.1 a 15).toInt := congrArg Int32.toInt (q_rdn hσ_44 (Or.inr (by decide)))
                      have mv16_σ_44 : (σ_44.1 a 16).toInt = (σ_31.1 a 16).toInt := congrArg Int32.toInt (q_rdn hσ_44 (Or.inr (by decide)))
                      have mv17_σ_44 : (σ_44.1 a 17).toInt = (σ_31.1 a 17).toInt := congrArg Int32.toInt (q_rdn hσ_44 (Or.inr (by decide)))
                      refine lv_goto (tgt := 330) hx hb dX12_next_295 (by decide) ?_
                      exact q_retv E hr hlk hI ⟨ks_σ_44, (by first | (clear h0 h1 h2 hm8 if_5 if_7 mv12_σ_8 mv14_σ_8 mv15_σ_8 mv16_σ_8 mv17_σ_8 if_9 gc_11_f_9 c_11 if_12 ahpσ_14 bhpσ_14 chpσ_14 dhpσ_14 lkx hxat ahpσ_16 bhpσ_16 dhpσ_16 c_17 chpσ_16 ahpσ_19 bhpσ_19 dhpσ_19 c_20 chpσ_19 hm210 f210σ_31 ahpσ_35 bhpσ_35 chpσ_35 dhpσ_35 lbr_34 ldr_34 ahpσ_37 bhpσ_37 dhpσ_37 c_38 chpσ_37 mv12_σ_44 mv17_σ_44; omega) | omega), (by first | (clear h0 h1 h2 hm8 if_5 if_7 mv14_σ_8 mv15_σ_8 mv16_σ_8 mv17_σ_8 if_9 gc_11_f_9 gc_11_f_10 c_11 if_12 ahpσ_14 bhpσ_14 chpσ_14 dhpσ_14 lkx hxat ahpσ_16 bhpσ_16 dhpσ_16 c_17 chpσ_16 ahpσ_19 bhpσ_19 dhpσ_19 c_20 chpσ_19 hm210 f210σ_31 if_33 ahpσ_35 bhpσ_35 chpσ_35 dhpσ_35 lbr_34 ldr_34 ahpσ_37 bhpσ_37 dhpσ_37 c_38 chpσ_37 if_39 iz_41 gc_42_z_41 c_42 mv14_σ_44 mv16_σ_44 mv17_σ_44; omega) | omega), (hF.trans hout), fr_σ_44⟩ dX12_next_330
                  · skip
                    replace hF := q_ifn hF c_38
                    replace c_38 := q_ifOne bhpσ_37 c_38
                    replace chpσ_37 := q_ifYes chpσ_37 c_38
                    refine lv_aload_n hx hb dX12_next_224 rfl (lv_at hl 0 rfl) ?_
                    refine gs_X12_101_12 E hI ha dX12_next_225 ?_
                    refine lv_topi (fun f_45 ef_45 => ?_)
                    replace hF := q_letX hF ef_45
                    have if_45 : f_45.toInt = (σ_31.1 a 16).toInt := congrArg Int32.toInt ef_45
                    refine lv_aload_n hx hb dX12_next_228 rfl (lv_at hl 0 rfl) ?_
                    refine gs_X12_104_12 E hI ha dX12_next_229 ?_
                    refine lv_topi (fun f_46 ef_46 => ?_)
                    replace hF := q_letX hF ef_46
                    have if_46 : f_46.toInt = (σ_31.1 a 15).toInt := congrArg Int32.toInt ef_46
                    refine lv_isub hx hb dX12_next_232 ?_
                    refine lv_topi (fun z_47 ez_47 => ?_)
                    replace hF := q_letX hF ez_47
                    have iz_47 := q_subI (A := f_45.toInt) (B := f_46.toInt) ez_47 rfl rfl (by first | (clear h0 h1 h2 if_1 hm8 e8σ_3 if_5 if_6 if_7 mv9_σ_8 mv12_σ_8 mv14_σ_8 mv15_σ_8 mv16_σ_8 mv17_σ_8 if_9 if_10 gc_11_f_9 gc_11_f_10 c_11 if_12 ahpσ_14 bhpσ_14 chpσ_14 dhpσ_14 lkx hxat ahpσ_16 bhpσ_16 dhpσ_16 c_17 chpσ_16 ahpσ_19 bhpσ_19 dhpσ_19 c_20 chpσ_19 hm210 f210σ_31 ahpσ_35 bhpσ_35 chpσ_35 dhpσ_35 lbr_34 ldr_34 ahpσ_37 bhpσ_37 dhpσ_37 c_38 chpσ_37; omega) | omega) (by first | (clear h0 h1 h2 hm8 mv12_σ_8 mv14_σ_8 mv17_σ_8 ahpσ_14 bhpσ_14 chpσ_14 dhpσ_14 lkx ahpσ_16 bhpσ_16 dhpσ_16 c_17 chpσ_16 ahpσ_19 bhpσ_19 dhpσ_19 c_20 chpσ_19 hm210 f210σ_31 ahpσ_35 bhpσ_35 chpσ_35 dhpσ_35 lbr_34 ldr_34 ahpσ_37 bhpσ_37 dhpσ_37 c_38 chpσ_37; omega) | omega)
                    refine lv_iconst (v := 4) hx hb dX12_next_233 zki_4 ?_
                    have gc_48_z_47 := q_rng z_47
                    refine q_icmp_ge (A := z_47.toInt) (B := 4) E rfl (by decide) (tgt := 260) dX12_next_234 (by decide) (fun c_48 => ?_) (fun c_48 => ?_)
                    · skip
                      replace hF := q_ifn hF (Int.not_lt.mpr c_48)
                      refine lv_aload_n hx hb dX12_next_260 rfl (lv_at hl 0 rfl) ?_
                      refine lv_dup hx hb dX12_next_261 rfl ?_
                      refine gs_X12_101_12 E hI ha dX12_next_262 ?_
                      refine lv_topi (fun f_49 ef_49 => ?_)
                      replace hF := q_letX hF ef_49
                      have if_49 : f_49.toInt = (σ_31.1 a 16).toInt := congrArg Int32.toInt ef_49
                      refine lv_iconst (v := 1) hx hb dX12_next_265 zki_1 ?_
                      refine lv_iadd hx hb dX12_next_266 ?_
                      refine lv_topi (fun z_50 ez_50 => ?_)
                      replace hF := q_letX hF ez_50
                      have iz_50 := q_addI (A := f_49.toInt) (B := 1) ez_50 rfl (by decide) (by first | (clear h0 h1 h2 hm8 mv12_σ_8 mv14_σ_8 mv17_σ_8 ahpσ_14 bhpσ_14 chpσ_14 dhpσ_14 lkx ahpσ_16 bhpσ_16 dhpσ_16 c_17 chpσ_16 ahpσ_19 bhpσ_19 dhpσ_19 c_20 chpσ_19 hm210 f210σ_31 ahpσ_35 bhpσ_35 chpσ_35 dhpσ_35 lbr_34 ldr_34 ahpσ_37 bhpσ_37 dhpσ_37 c_38 chpσ_37; omega) | omega) (by first | (clear h0 h1 h2 hm8 mv12_σ_8 mv14_σ_8 mv17_σ_8 ahpσ_14 bhpσ_14 chpσ_14 dhpσ_14 lkx ahpσ_16 bhpσ_16 dhpσ_16 c_17 chpσ_16 ahpσ_19 bhpσ_19 dhpσ_19 c_20 chpσ_19 hm210 f210σ_31 ahpσ_35 bhpσ_35 chpσ_35 dhpσ_35 lbr_34 ldr_34 ahpσ_37 bhpσ_37 dhpσ_37 c_38 chpσ_37 if_46 gc_48_z_47 c_48; omega) | omega)
                      refine ps_X12_101_12 E hI ha (by decide) dX12_next_267 (fun H locs σ_51 hσ_51 hI => ?_)
                      replace hF := q_letX hF hσ_51
                      have fr_σ_51 := fr_σ_31.si hσ_51 ha rfl
                      have ks_σ_51 : q_KS (fun b g => b = a ∧ 12 ≤ g ∧ g ≤ 18) 9 X σ σ_51 := ks_σ_31.siS hσ_51 ⟨rfl, by decide, by decide⟩
                      have mv9_σ_51 : (σ_51.1 a 9).toInt = (σ_31.1 a 9).toInt := congrArg Int32.toInt (q_rdn hσ_51 (Or.inr (by decide)))
                      have mv12_σ_51 : (σ_51.1 a 12).toInt = (σ_31.1 a 12).toInt := congrArg Int32.toInt (q_rdn hσ_51 (Or.inr (by decide)))
                      have mv14_σ_51 : (σ_51.1 a 14).toInt = (σ_31.1 a 14).toInt := congrArg Int32.toInt (q_rdn hσ_51 (Or.inr (by decide)))
                      have mv15_σ_51 : (σ_51.1 a 15).toInt = (σ_31.1 a 15).toInt := congrArg Int32.toInt (q_rdn hσ_51 (Or.inr (by decide)))
                      have mv16_σ_51 : (σ_51.1 a 16).toInt = z_50.toInt := congrArg Int32.toInt (q_rd hσ_51)
                      have mv17_σ_51 : (σ_51.1 a 17).toInt = (σ_31.1 a 17).toInt := congrArg Int32.toInt (q_rdn hσ_51 (Or.inr (by decide)))
                      refine lv_goto (tgt := 210) hx hb dX12_next_270 (by decide) ?_
                      exact ih210 σ_51 _ _ ls (by first | (clear h0 h1 h2 if_1 hm8 if_5 if_7 mv12_σ_8 mv14_σ_8 mv15_σ_8 mv16_σ_8 mv17_σ_8 if_9 gc_11_f_9 gc_11_f_10 c_11 if_12 ahpσ_14 bhpσ_14 chpσ_14 dhpσ_14 lkx hxat ahpσ_16 bhpσ_16 dhpσ_16 c_17 chpσ_16 ahpσ_19 bhpσ_19 dhpσ_19 c_20 chpσ_19 ahpσ_35 dhpσ_35 ahpσ_37 bhpσ_37 dhpσ_37 c_38 if_46 gc_48_z_47 c_48 mv12_σ_51 mv14_σ_51 mv15_σ_51 mv17_σ_51; omega) | omega) (by first | (clear h0 h1 h2 hm8 if_5 if_7 mv14_σ_8 mv15_σ_8 mv16_σ_8 mv17_σ_8 if_9 gc_11_f_9 gc_11_f_10 c_11 if_12 ahpσ_14 bhpσ_14 chpσ_14 dhpσ_14 lkx hxat ahpσ_16 bhpσ_16 dhpσ_16 c_17 chpσ_16 ahpσ_19 bhpσ_19 dhpσ_19 c_20 chpσ_19 hm210 f210σ_31 ahpσ_35 dhpσ_35 ahpσ_37 bhpσ_37 dhpσ_37 c_38 mv14_σ_51 mv17_σ_51; omega) | omega) (by first | (clear h0 h1 h2 if_1 hm8 e8σ_3 if_5 if_6 if_7 mv9_σ_8 mv12_σ_8 mv14_σ_8 mv15_σ_8 mv16_σ_8 mv17_σ_8 if_9 if_10 gc_11_f_9 gc_11_f_10 c_11 if_12 ahpσ_14 bhpσ_14 chpσ_14 dhpσ_14 lkx hxat ahpσ_16 bhpσ_16 dhpσ_16 c_17 chpσ_16 ahpσ_19 bhpσ_19 dhpσ_19 c_20 chpσ_19 hm210 f210σ_31 ahpσ_35 bhpσ_35 chpσ_35 dhpσ_35 lbr_34 ldr_34 ahpσ_37 bhpσ_37 dhpσ_37 c_38 chpσ_37 mv9_σ_51 mv12_σ_51 mv14_σ_51 mv17_σ_51; omega) | omega) ks_σ_51 fr_σ_51 hF hI (lv_sub hl [0, 1] rfl)
                    · skip
                      replace hF := q_ifp hF c_48
                      refine lv_aload_n hx hb dX12_next_237 rfl (lv_at hl 0 rfl) ?_
                      refine lv_bipush (v := 10) hx hb dX12_next_238 zkb_10 ?_
                      refine lv_aload_n hx hb dX12_next_240 rfl (lv_at hl 0 rfl) ?_
                      refine gs_X12_129_12 E hI ha dX12_next_241 ?_
                      refine lv_topi (fun f_52 ef_52 => ?_)
                      replace hF := q_letX hF ef_52
                      have if_52 : f_52.toInt = (σ_31.1 a 17).toInt := congrArg Int32.toInt ef_52
                      refine lv_imul hx hb dX12_next_244 ?_
                      refine lv_topi (fun z_53 ez_53 => ?_)
                      replace hF := q_letX hF ez_53
                      refine lv_aload_n hx hb dX12_next_245 rfl (lv_at hl 0 rfl) ?_
                      refine lv_aload_n hx hb dX12_next_246 rfl (lv_at hl 0 rfl) ?_
                      refine gs_X12_101_12 E hI ha dX12_next_247 ?_
                      refine lv_topi (fun f_54 ef_54 => ?_)
                      replace hF := q_letX hF ef_54
                      have if_54 : f_54.toInt = (σ_31.1 a 16).toInt := congrArg Int32.toInt ef_54
                      refine q_ci (q_rV11_1 (rest := [.int z_53, .ref a]) E (hml.trans hl.1.symm) hI (c_X12_look2 l X σ_31 a f_54 ha (by first | (clear h0 h1 h2 hm8 mv12_σ_8 mv14_σ_8 mv17_σ_8 ahpσ_14 bhpσ_14 chpσ_14 dhpσ_14 lkx ahpσ_16 bhpσ_16 dhpσ_16 c_17 chpσ_16 ahpσ_19 bhpσ_19 dhpσ_19 c_20 chpσ_19 hm210 f210σ_31 ahpσ_35 bhpσ_35 chpσ_35 dhpσ_35 lbr_34 ldr_34 ahpσ_37 bhpσ_37 dhpσ_37 c_38 chpσ_37 if_52; omega) | omega) (by first | (clear h0 h1 h2 if_1 hm8 if_5 if_7 mv12_σ_8 mv14_σ_8 mv15_σ_8 mv16_σ_8 mv17_σ_8 if_9 gc_11_f_9 c_11 if_12 ahpσ_14 bhpσ_14 chpσ_14 dhpσ_14 lkx hxat ahpσ_16 bhpσ_16 dhpσ_16 c_17 chpσ_16 ahpσ_19 bhpσ_19 dhpσ_19 c_20 chpσ_19 hm210 f210σ_31 if_33 ahpσ_35 bhpσ_35 chpσ_35 dhpσ_35 lbr_34 ldr_34 ahpσ_37 bhpσ_37 dhpσ_37 c_38 chpσ_37 if_45 if_46 iz_47 gc_48_z_47 c_48 if_52 if_54; omega) | omega)) kv_X12_107 ha ⟨Nat.le_of_ble_eq_true rfl, Nat.le_of_ble_eq_true rfl⟩ (Nat.le_of_ble_eq_true rfl) dX12_next_250) hI (Nat.le_of_ble_eq_true rfl) (fun r_55 σ_56 H locs hpσ_56 hkσ_56 hI => ?_)
                      have ahpσ_56 := hpσ_56.1
                      have bhpσ_56 := hpσ_56.2.1
                      have chpσ_56 := hpσ_56.2.2.1
                      have dhpσ_56 := hpσ_56.2.2.2
                      clear hpσ_56
                      replace hI := q_Irw ahpσ_56 hI
                      replace hF := q_letX hF dhpσ_56
                      refine lv_iadd hx hb dX12_next_253 ?_
                      refine lv_topi (fun z_57 ez_57 => ?_)
                      replace hF := q_letX hF ez_57
                      refine lv_bipush (v := 48) hx hb dX12_next_254 zkb_48 ?_
                      refine lv_isub hx hb dX12_next_256 ?_
                      refine lv_topi (fun z_58 ez_58 => ?_)
                      replace hF := q_letX hF ez_58
                      refine ps_X12_129_12 E hI ha (by decide) dX12_next_257 (fun H locs σ_59 hσ_59 hI => ?_)
                      replace hF := q_letX hF hσ_59
                      have fr_σ_59 := fr_σ_31.si hσ_59 ha rfl
                      have ks_σ_59 : q_KS (fun b g => b = a ∧ 12 ≤ g ∧ g ≤ 18) 9 X σ σ_59 := ks_σ_31.siS hσ_59 ⟨rfl, by decide, by decide⟩
                      have mv9_σ_59 : (σ_59.1 a 9).toInt = (σ_31.1 a 9).toInt := congrArg Int32.toInt (q_rdn hσ_59 (Or.inr (by decide)))
                      have mv12_σ_59 : (σ_59.1 a 12).toInt = (σ_31.1 a 12).toInt := congrArg Int32.toInt (q_rdn hσ_59 (Or.inr (by decide)))
                      have mv14_σ_59 : (σ_59.1 a 14).toInt = (σ_31.1 a 14).toInt := congrArg Int32.toInt (q_rdn hσ_59 (Or.inr (by decide)))
                      have mv15_σ_59 : (σ_59.1 a 15).toInt = (σ_31.1 a 15).toInt := congrArg Int32.toInt (q_rdn hσ_59 (Or.inr (by decide)))
                      have mv16_σ_59 : (σ_59.1 a 16).toInt = (σ_31.1 a 16).toInt := congrArg Int32.toInt (q_rdn hσ_59 (Or.inr (by decide)))
                      have mv17_σ_59 : (σ_59.1 a 17).toInt = z_58.toInt := congrArg Int32.toInt (q_rd hσ_59)
                      refine lv_aload_n hx hb dX12_next_260 rfl (lv_at hl 0 rfl) ?_
                      refine lv_dup hx hb dX12_next_261 rfl ?_
                      refine gs_X12_101_12 E hI ha dX12_next_262 ?_
                      refine lv_topi (fun f_60 ef_60 => ?_)
                      replace hF := q_letX hF ef_60
                      have if_60 : f_60.toInt = (σ_59.1 a 16).toInt := congrArg Int32.toInt ef_60
                      refine lv_iconst (v := 1) hx hb dX12_next_265 zki_1 ?_
                      refine lv_iadd hx hb dX12_next_266 ?_
                      refine lv_topi (fun z_61 ez_61 => ?_)
                      replace hF := q_letX hF ez_61
                      have iz_61 := q_addI (A := f_60.toInt) (B := 1) ez_61 rfl (by decide) (by first | (clear h0 h1 h2 hm8 mv12_σ_8 mv14_σ_8 mv17_σ_8 ahpσ_14 bhpσ_14 chpσ_14 dhpσ_14 lkx ahpσ_16 bhpσ_16 dhpσ_16 c_17 chpσ_16 ahpσ_19 bhpσ_19 dhpσ_19 c_20 chpσ_19 hm210 f210σ_31 ahpσ_35 bhpσ_35 chpσ_35 dhpσ_35 lbr_34 ldr_34 ahpσ_37 bhpσ_37 dhpσ_37 c_38 chpσ_37 if_52 ahpσ_56 bhpσ_56 chpσ_56 dhpσ_56 mv12_σ_59 mv14_σ_59 mv17_σ_59; omega) | omega) (by first | (clear h0 h1 h2 hm8 mv12_σ_8 mv14_σ_8 mv17_σ_8 ahpσ_14 bhpσ_14 chpσ_14 dhpσ_14 lkx ahpσ_16 bhpσ_16 dhpσ_16 c_17 chpσ_16 ahpσ_19 bhpσ_19 dhpσ_19 c_20 chpσ_19 hm210 f210σ_31 ahpσ_35 bhpσ_35 chpσ_35 dhpσ_35 lbr_34 ldr_34 ahpσ_37 bhpσ_37 dhpσ_37 c_38 chpσ_37 if_46 gc_48_z_47 c_48 if_52 ahpσ_56 bhpσ_56 chpσ_56 dhpσ_56 mv12_σ_59 mv14_σ_59 mv15_σ_59 mv17_σ_59; omega) | omega)
                      refine ps_X12_101_12 E hI ha (by decide) dX12_next_267 (fun H locs σ_62 hσ_62 hI => ?_)
                      replace hF := q_letX hF hσ_62
                      have fr_σ_62 := fr_σ_59.si hσ_62 ha rfl
                      have ks_σ_62 : q_KS (fun b g => b = a ∧ 12 ≤ g ∧ g ≤ 18) 9 X σ σ_62 := ks_σ_59.siS hσ_62 ⟨rfl, by decide, by decide⟩
                      have mv9_σ_62 : (σ_62.1 a 9).toInt = (σ_59.1 a 9).toInt := congrArg Int32.toInt (q_rdn hσ_62 (Or.inr (by decide)))
                      have mv12_σ_62 : (σ_62.1 a 12).toInt = (σ_59.1 a 12).toInt := congrArg Int32.toInt (q_rdn hσ_62 (Or.inr (by decide)))
                      have mv14_σ_62 : (σ_62.1 a 14).toInt = (σ_59.1 a 14).toInt := congrArg Int32.toInt (q_rdn hσ_62 (Or.inr (by decide)))
                      have mv15_σ_62 : (σ_62.1 a 15).toInt = (σ_59.1 a 15).toInt := congrArg Int32.toInt (q_rdn hσ_62 (Or.inr (by decide)))
                      have mv16_σ_62 : (σ_62.1 a 16).toInt = z_61.toInt := congrArg Int32.toInt (q_rd hσ_62)
                      have mv17_σ_62 : (σ_62.1 a 17).toInt = (σ_59.1 a 17).toInt := congrArg Int32.toInt (q_rdn hσ_62 (Or.inr (by decide)))
                      refine lv_goto (tgt := 210) hx hb dX12_next_270 (by decide) ?_
                      exact ih210 σ_62 _ _ ls (by first | (clear h0 h1 h2 if_1 hm8 if_5 if_7 mv12_σ_8 mv14_σ_8 mv15_σ_8 mv16_σ_8 mv17_σ_8 if_9 gc_11_f_9 gc_11_f_10 c_11 if_12 ahpσ_14 bhpσ_14 chpσ_14 dhpσ_14 lkx hxat ahpσ_16 bhpσ_16 dhpσ_16 c_17 chpσ_16 ahpσ_19 bhpσ_19 dhpσ_19 c_20 chpσ_19 ahpσ_35 dhpσ_35 ahpσ_37 bhpσ_37 dhpσ_37 c_38 if_46 gc_48_z_47 c_48 if_52 ahpσ_56 bhpσ_56 chpσ_56 dhpσ_56 mv12_σ_59 mv14_σ_59 mv15_σ_59 mv17_σ_59 mv12_σ_62 mv14_σ_62 mv15_σ_62 mv17_σ_62; omega) | omega) (by first | (clear h0 h1 h2 hm8 if_5 if_7 mv14_σ_8 mv15_σ_8 mv16_σ_8 mv17_σ_8 if_9 gc_11_f_9 gc_11_f_10 c_11 if_12 ahpσ_14 bhpσ_14 chpσ_14 dhpσ_14 lkx hxat ahpσ_16 bhpσ_16 dhpσ_16 c_17 chpσ_16 ahpσ_19 bhpσ_19 dhpσ_19 c_20 chpσ_19 hm210 f210σ_31 ahpσ_35 dhpσ_35 ahpσ_37 bhpσ_37 dhpσ_37 c_38 if_52 ahpσ_56 bhpσ_56 chpσ_56 dhpσ_56 mv14_σ_59 mv17_σ_59 mv14_σ_62 mv17_σ_62; omega) | omega) (by first | (clear h0 h1 h2 if_1 hm8 e8σ_3 if_5 if_6 if_7 mv9_σ_8 mv12_σ_8 mv14_σ_8 mv15_σ_8 mv16_σ_8 mv17_σ_8 if_9 if_10 gc_11_f_9 gc_11_f_10 c_11 if_12 ahpσ_14 bhpσ_14 chpσ_14 dhpσ_14 lkx hxat ahpσ_16 bhpσ_16 dhpσ_16 c_17 chpσ_16 ahpσ_19 bhpσ_19 dhpσ_19 c_20 chpσ_19 hm210 f210σ_31 ahpσ_35 bhpσ_35 chpσ_35 dhpσ_35 lbr_34 ldr_34 ahpσ_37 bhpσ_37 dhpσ_37 c_38 chpσ_37 if_52 ahpσ_56 bhpσ_56 chpσ_56 dhpσ_56 mv9_σ_59 mv12_σ_59 mv14_σ_59 mv17_σ_59 mv9_σ_62 mv12_σ_62 mv14_σ_62 mv17_σ_62; omega) | omega) ks_σ_62 fr_σ_62 hF hI (lv_sub hl [0, 1] rfl)
              exact L_210_32 (((σ_30.1 a 9).toInt - (σ_30.1 a 16).toInt).toNat + 1) σ_30 _ _ ls (Nat.lt_succ_self _) (by first | (clear h0 h1 h2 hm8 mv14_σ_8 mv17_σ_8 gc_11_f_9 gc_11_f_10 ahpσ_14 bhpσ_14 chpσ_14 dhpσ_14 lkx ahpσ_16 bhpσ_16 dhpσ_16 c_17 chpσ_16 ahpσ_19 bhpσ_19 dhpσ_19 c_20 chpσ_19; omega) | omega) (Or.inr (by have q : (σ_30.1 a 16).toInt = xat := (by first | (clear h0 h1 h2 if_1 hm8 e8σ_3 if_6 mv9_σ_8 mv12_σ_8 mv14_σ_8 mv17_σ_8 if_10 gc_11_f_9 gc_11_f_10 c_11 ahpσ_14 bhpσ_14 chpσ_14 dhpσ_14 lkx ahpσ_16 bhpσ_16 dhpσ_16 c_17 chpσ_16 ahpσ_19 bhpσ_19 dhpσ_19 c_20 chpσ_19; omega) | omega); rw [q]; omega)) ks_σ_30 fr_σ_30 hF hI (lv_sub hl [1, 0] rfl)
          · skip
            replace hF := q_ifn hF c_17
            replace c_17 := q_ifOne bhpσ_16 c_17
            replace chpσ_16 := q_ifYes chpσ_16 c_17
            refine lv_aload_n hx hb dX12_next_99 rfl (lv_at hl 1 rfl) ?_
            refine lv_iconst (v := 1) hx hb dX12_next_100 zki_1 ?_
            refine ps_X12_110_12 E hI ha (by decide) dX12_next_101 (fun H locs σ_63 hσ_63 hI => ?_)
            replace hF := q_letX hF hσ_63
            have fr_σ_63 := fr_σ_8.si hσ_63 ha rfl
            have ks_σ_63 : q_KS (fun b g => b = a ∧ 12 ≤ g ∧ g ≤ 18) 9 X σ σ_63 := ks_σ_8.siS hσ_63 ⟨rfl, by decide, by decide⟩
            have mv9_σ_63 : (σ_63.1 a 9).toInt = (σ_8.1 a 9).toInt := congrArg Int32.toInt (q_rdn hσ_63 (Or.inr (by decide)))
            have mv12_σ_63 : (σ_63.1 a 12).toInt = (σ_8.1 a 12).toInt := congrArg Int32.toInt (q_rdn hσ_63 (Or.inr (by decide)))
            have mv14_σ_63 : (σ_63.1 a 14).toInt = 1 := by rw [q_rd hσ_63]; rfl
            have mv15_σ_63 : (σ_63.1 a 15).toInt = (σ_8.1 a 15).toInt := congrArg Int32.toInt (q_rdn hσ_63 (Or.inr (by decide)))
            have mv16_σ_63 : (σ_63.1 a 16).toInt = (σ_8.1 a 16).toInt := congrArg Int32.toInt (q_rdn hσ_63 (Or.inr (by decide)))
            have mv17_σ_63 : (σ_63.1 a 17).toInt = (σ_8.1 a 17).toInt := congrArg Int32.toInt (q_rdn hσ_63 (Or.inr (by decide)))
            refine lv_aload_n hx hb dX12_next_104 rfl (lv_at hl 1 rfl) ?_
            refine lv_lconst (v := 0) hx hb dX12_next_105 (by decide) ?_
            refine ps_X12_116_12 E hI ha  dX12_next_106 (fun H locs σ_64 hσ_64 hI => ?_)
            replace hF := q_letX hF hσ_64
            have fr_σ_64 := fr_σ_63.sl hσ_64 ha rfl
            have ks_σ_64 : q_KS (fun b g => b = a ∧ 12 ≤ g ∧ g ≤ 18) 9 X σ σ_64 := ks_σ_63.sl hσ_64
            have mv9_σ_64 : (σ_64.1 a 9).toInt = (σ_63.1 a 9).toInt := congrArg Int32.toInt ((fun b g _ => by rw [hσ_64]; rfl : q_K 8 X σ_63 σ_64) a 9 (by rw [ha]; decide))
            have mv12_σ_64 : (σ_64.1 a 12).toInt = (σ_63.1 a 12).toInt := congrArg Int32.toInt ((fun b g _ => by rw [hσ_64]; rfl : q_K 8 X σ_63 σ_64) a 12 (by rw [ha]; decide))
            have mv14_σ_64 : (σ_64.1 a 14).toInt = (σ_63.1 a 14).toInt := congrArg Int32.toInt ((fun b g _ => by rw [hσ_64]; rfl : q_K 8 X σ_63 σ_64) a 14 (by rw [ha]; decide))
            have mv15_σ_64 : (σ_64.1 a 15).toInt = (σ_63.1 a 15).toInt := congrArg Int32.toInt ((fun b g _ => by rw [hσ_64]; rfl : q_K 8 X σ_63 σ_64) a 15 (by rw [ha]; decide))
            have mv16_σ_64 : (σ_64.1 a 16).toInt = (σ_63.1 a 16).toInt := congrArg Int32.toInt ((fun b g _ => by rw [hσ_64]; rfl : q_K 8 X σ_63 σ_64) a 16 (by rw [ha]; decide))
            have mv17_σ_64 : (σ_64.1 a 17).toInt = (σ_63.1 a 17).toInt := congrArg Int32.toInt ((fun b g _ => by rw [hσ_64]; rfl : q_K 8 X σ_63 σ_64) a 17 (by rw [ha]; decide))
            have L_109_66 : ∀ (k_66 : Nat)  (σ_65 : ST) (H : Heap) (locs : List Loc) (ls : Array Slot), ((σ_65.1 a 9).toInt - (σ_65.1 a 16).toInt).toNat < k_66 → ((σ_65.1 a 9).toInt = (σ.1 a 9).toInt ∧ (σ_65.1 a 12).toInt = (σ.1 a 12).toInt ∧ (σ.1 a 16).toInt ≤ (σ_65.1 a 15).toInt ∧ (σ_65.1 a 14).toInt = 1 ∧ (σ_65.1 a 15).toInt ≤ (σ_65.1 a 16).toInt ∧ (σ_65.1 a 15).toInt < (σ.1 a 9).toInt ∧ (σ_65.1 a 16).toInt ≤ (σ.1 a 9).toInt) → ((σ_65.1 a 15).toInt < (σ_65.1 a 16).toInt ∨ (97 ≤ m_look X σ a (σ_65.1 a 16).toInt ∧ m_look X σ a (σ_65.1 a 16).toInt ≤ 122)) → (q_KS (fun b g => b = a ∧ 12 ≤ g ∧ g ≤ 18) 9 X σ σ_65) → (q_ow [(12, 14), (12, 15), (12, 16), (12, 17), (12, 18)] [(12, 19)] X σ σ_65) → (F_X12_next_L109_5 X a k_66 σ_65 = out) → q_I X 2 σ s.heap locs σ_65 H → lv_has ls 2 [(0, .ref a), (1, .int r_13)] → W p l e (q_rm 1 21) s m ([.ref a] : List Value).toArray below meth c H locs 0 0 (MQ below (q_Qv X 2 σ (fun (σ' : ST) => (q_KS (fun b g => b = a ∧ 12 ≤ g ∧ g ≤ 18) 9 X σ σ') ∧ (0 ≤ (σ'.1 a 15).toInt ∧ (σ'.1 a 15).toInt ≤ (σ'.1 a 16).toInt ∧ (σ'.1 a 16).toInt ≤ (σ'.1 a 9).toInt ∧ (σ'.1 a 9).toInt ≤ 900 ∧ 0 ≤ (σ'.1 a 14).toInt ∧ (σ'.1 a 14).toInt ≤ 4 ∧ (σ'.1 a 14).toInt ≤ 4 * ((σ'.1 a 16).toInt - (σ'.1 a 15).toInt) ∧ (σ'.1 a 14).toInt ≤ 4 * ((σ'.1 a 9).toInt - (σ'.1 a 15).toInt)) ∧ ((σ'.1 a 9).toInt = (σ.1 a 9).toInt ∧ (σ'.1 a 12).toInt = (σ.1 a 12).toInt ∧ (σ.1 a 16).toInt ≤ (σ'.1 a 15).toInt) ∧ σ' = F_X12_next X σ a ∧ q_ow [(12, 14), (12, 15), (12, 16), (12, 17), (12, 18)] [(12, 19)] X σ σ')) ([.ref a] : List Value).toArray s 0 0 (q_reg X)) (F0 m 109 ls []) := by
              clear hF
              intro k_66
              induction k_66 with
              | zero =>
                intro σ_65 H locs ls hms
                try clear fr_σ_63; try clear mv9_σ_63; try clear mv12_σ_63; try clear mv14_σ_63; try clear mv15_σ_63; try clear mv16_σ_63; try clear mv17_σ_63; try clear fr_σ_64; try clear mv9_σ_64; try clear mv12_σ_64; try clear mv14_σ_64; try clear mv15_σ_64; try clear mv16_σ_64; try clear mv17_σ_64
                exact absurd hms (Nat.not_lt_zero _)
              | succ k_66 ih109 =>
                intro σ_65 H locs ls hm109 e109σ_65 f109σ_65 ks_σ_65 fr_σ_65 hF hI hl
                replace hF := (F_X12_next_L109_5_s).symm.trans hF
                unfold F_X12_next_B109_5 at hF
                refine lv_aload_n hx hb dX12_next_109 rfl (lv_at hl 0 rfl) ?_
                refine lv_aload_n hx hb dX12_next_110 rfl (lv_at hl 0 rfl) ?_
                refine gs_X12_101_12 E hI ha dX12_next_111 ?_
                refine lv_topi (fun f_67 ef_67 => ?_)
                replace hF := q_letX hF ef_67
                have if_67 : f_67.toInt = (σ_65.1 a 16).toInt := congrArg Int32.toInt ef_67
                refine q_ci (q_rV11_1 (rest := []) E (hml.trans hl.1.symm) hI (c_X12_look2 l X σ_65 a f_67 ha (by first | (clear h0 h1 h2 hm8 e8σ_3 if_5 if_6 if_7 mv9_σ_8 mv12_σ_8 mv14_σ_8 mv15_σ_8 mv16_σ_8 mv17_σ_8 if_9 if_10 gc_11_f_9 gc_11_f_10 c_11 if_12 ahpσ_14 bhpσ_14 chpσ_14 dhpσ_14 lkx hxat ahpσ_16 bhpσ_16 dhpσ_16 c_17 chpσ_16 hm109 f109σ_65; omega) | omega) (by first | (clear h0 h1 h2 if_1 hm8 if_5 if_7 mv12_σ_8 mv14_σ_8 mv15_σ_8 mv16_σ_8 mv17_σ_8 if_9 gc_11_f_9 c_11 if_12 ahpσ_14 bhpσ_14 chpσ_14 dhpσ_14 lkx hxat ahpσ_16 bhpσ_16 dhpσ_16 c_17 chpσ_16 hm109 f109σ_65 if_67; omega) | omega)) kv_X12_107 ha ⟨Nat.le_of_ble_eq_true rfl, Nat.le_of_ble_eq_true rfl⟩ (Nat.le_of_ble_eq_true rfl) dX12_next_114) hI (Nat.le_of_ble_eq_true rfl) (fun r_68 σ_69 H locs hpσ_69 hkσ_69 hI => ?_)
                have ahpσ_69 := hpσ_69.1
                have bhpσ_69 := hpσ_69.2.1
                have chpσ_69 := hpσ_69.2.2.1
                have dhpσ_69 := hpσ_69.2.2.2
                clear hpσ_69
                replace hI := q_Irw ahpσ_69 hI
                replace hF := q_letX hF dhpσ_69
                have lbr_68 : r_68.toInt = m_look X σ a f_67.toInt := bhpσ_69.trans (m_lookK ks_σ_65 hI.1 ha (fun b g h => ⟨h.1, by omega⟩) _)
                have lcr_68 : f_67.toInt = (σ_65.1 a 16).toInt := if_67
                rw [lcr_68] at lbr_68
                have ldr_68 := fun h => m_look_lt (X := X) (σ := σ) (a := a) (p := (σ_65.1 a 16).toInt) h
                refine q_ci (q_runS (As := [.int r_68]) (rest := []) E (hml.trans hl.1.symm) hI (c_X12_isLetter l X σ_65 r_68) ks_X12_113 rfl ⟨Nat.le_of_ble_eq_true rfl, Nat.le_of_ble_eq_true rfl⟩ ⟨Nat.le_refl _, Nat.le_refl _⟩ rfl (Nat.le_of_ble_eq_true rfl) dX12_next_117) hI (Nat.le_of_ble_eq_true rfl) (fun r_70 σ_71 H locs hpσ_71 hkσ_71 hI => ?_)
                have ahpσ_71 := hpσ_71.1
                have bhpσ_71 := hpσ_71.2.1
                have chpσ_71 := hpσ_71.2.2.1
                have dhpσ_71 := hpσ_71.2.2.2
                clear hpσ_71
                replace hI := q_Irw ahpσ_71 hI
                replace hF := q_letX hF dhpσ_71
                refine q_if_eq (A := r_70.toInt) E rfl (tgt := 182) dX12_next_120 (by decide) (fun c_72 => ?_) (fun c_72 => ?_)
                · skip
                  replace hF := q_ifp hF c_72
                  replace chpσ_71 := q_ifNo chpσ_71 c_72
                  unfold F_X12_next_E182_6 at hF
                  refine lv_aload_n hx hb dX12_next_182 rfl (lv_at hl 0 rfl) ?_
                  refine lv_aload_n hx hb dX12_next_183 rfl (lv_at hl 0 rfl) ?_
                  refine gs_X12_101_12 E hI ha dX12_next_184 ?_
                  refine lv_topi (fun f_73 ef_73 => ?_)
                  replace hF := q_letX hF ef_73
                  have if_73 : f_73.toInt = (σ_65.1 a 16).toInt := congrArg Int32.toInt ef_73
                  refine lv_aload_n hx hb dX12_next_187 rfl (lv_at hl 0 rfl) ?_
                  refine gs_X12_104_12 E hI ha dX12_next_188 ?_
                  refine lv_topi (fun f_74 ef_74 => ?_)
                  replace hF := q_letX hF ef_74
                  have if_74 : f_74.toInt = (σ_65.1 a 15).toInt := congrArg Int32.toInt ef_74
                  refine lv_isub hx hb dX12_next_191 ?_
                  refine lv_topi (fun z_75 ez_75 => ?_)
                  replace hF := q_letX hF ez_75
                  have iz_75 := q_subI (A := f_73.toInt) (B := f_74.toInt) ez_75 rfl rfl (by first | (clear h0 h1 h2 if_1 hm8 e8σ_3 if_5 if_6 if_7 mv9_σ_8 mv12_σ_8 mv14_σ_8 mv15_σ_8 mv16_σ_8 mv17_σ_8 if_9 if_10 gc_11_f_9 gc_11_f_10 c_11 if_12 ahpσ_14 bhpσ_14 chpσ_14 dhpσ_14 lkx hxat ahpσ_16 bhpσ_16 dhpσ_16 c_17 chpσ_16 hm109 f109σ_65 ahpσ_69 bhpσ_69 chpσ_69 dhpσ_69 lbr_68 ldr_68 ahpσ_71 bhpσ_71 dhpσ_71 c_72 chpσ_71; omega) | omega) (by first | (clear h0 h1 h2 hm8 mv12_σ_8 mv14_σ_8 mv17_σ_8 ahpσ_14 bhpσ_14 chpσ_14 dhpσ_14 lkx ahpσ_16 bhpσ_16 dhpσ_16 c_17 chpσ_16 hm109 f109σ_65 ahpσ_69 bhpσ_69 chpσ_69 dhpσ_69 lbr_68 ldr_68 ahpσ_71 bhpσ_71 dhpσ_71 c_72 chpσ_71; omega) | omega)
                  refine ps_X12_123_12 E hI ha (by decide) dX12_next_192 (fun H locs σ_76 hσ_76 hI => ?_)
                  replace hF := q_letX hF hσ_76
                  have fr_σ_76 := fr_σ_65.si hσ_76 ha rfl
                  have ks_σ_76 : q_KS (fun b g => b = a ∧ 12 ≤ g ∧ g ≤ 18) 9 X σ σ_76 := ks_σ_65.siS hσ_76 ⟨rfl, by decide, by decide⟩
                  have mv9_σ_76 : (σ_76.1 a 9).toInt = (σ_65.1 a 9).toInt := congrArg Int32.toInt (q_rdn hσ_76 (Or.inr (by decide)))
                  have mv12_σ_76 : (σ_76.1 a 12).toInt = (σ_65.1 a 12).toInt := congrArg Int32.toInt (q_rdn hσ_76 (Or.inr (by decide)))
                  have mv14_σ_76 : (σ_76.1 a 14).toInt = (σ_65.1 a 14).toInt := congrArg Int32.toInt (q_rdn hσ_76 (Or.inr (by decide)))
                  have mv15_σ_76 : (σ_76.1 a 15).toInt = (σ_65.1 a 15).toInt := congrArg Int32.toInt (q_rdn hσ_76 (Or.inr (by decide)))
                  have mv16_σ_76 : (σ_76.1 a 16).toInt = (σ_65.1 a 16).toInt := congrArg Int32.toInt (q_rdn hσ_76 (Or.inr (by decide)))
                  have mv17_σ_76 : (σ_76.1 a 17).toInt = (σ_65.1 a 17).toInt := congrArg Int32.toInt (q_rdn hσ_76 (Or.inr (by decide)))
                  refine lv_goto (tgt := 330) hx hb dX12_next_195 (by decide) ?_
                  exact q_retv E hr hlk hI ⟨ks_σ_76, (by first | (clear h0 h1 h2 hm8 if_5 if_7 mv12_σ_8 mv14_σ_8 mv15_σ_8 mv16_σ_8 mv17_σ_8 if_9 gc_11_f_9 c_11 if_12 ahpσ_14 bhpσ_14 chpσ_14 dhpσ_14 lkx hxat ahpσ_16 bhpσ_16 dhpσ_16 c_17 chpσ_16 hm109 ahpσ_69 dhpσ_69 ahpσ_71 bhpσ_71 dhpσ_71 c_72 mv12_σ_76 mv17_σ_76; omega) | omega), (by first | (clear h0 h1 h2 hm8 if_5 if_7 mv14_σ_8 mv15_σ_8 mv16_σ_8 mv17_σ_8 if_9 gc_11_f_9 gc_11_f_10 c_11 if_12 ahpσ_14 bhpσ_14 chpσ_14 dhpσ_14 lkx hxat ahpσ_16 bhpσ_16 dhpσ_16 c_17 chpσ_16 hm109 f109σ_65 if_67 ahpσ_69 bhpσ_69 chpσ_69 dhpσ_69 lbr_68 ldr_68 ahpσ_71 bhpσ_71 dhpσ_71 c_72 chpσ_71 if_73 iz_75 mv14_σ_76 mv16_σ_76 mv17_σ_76; omega) | omega), (hF.trans hout), fr_σ_76⟩ dX12_next_330
                · skip
                  replace hF := q_ifn hF c_72
                  replace c_72 := q_ifOne bhpσ_71 c_72
                  replace chpσ_71 := q_ifYes chpσ_71 c_72
                  refine lv_aload_n hx hb dX12_next_123 rfl (lv_at hl 0 rfl) ?_
                  refine lv_aload_n hx hb dX12_next_124 rfl (lv_at hl 0 rfl) ?_
                  refine gs_X12_101_12 E hI ha dX12_next_125 ?_
                  refine lv_topi (fun f_77 ef_77 => ?_)
                  replace hF := q_letX hF ef_77
                  have if_77 : f_77.toInt = (σ_65.1 a 16).toInt := congrArg Int32.toInt ef_77
                  refine lv_aload_n hx hb dX12_next_128 rfl (lv_at hl 0 rfl) ?_
                  refine gs_X12_104_12 E hI ha dX12_next_129 ?_
                  refine lv_topi (fun f_78 ef_78 => ?_)
                  replace hF := q_letX hF ef_78
                  have if_78 : f_78.toInt = (σ_65.1 a 15).toInt := congrArg Int32.toInt ef_78
                  refine lv_isub hx hb dX12_next_132 ?_
                  refine lv_topi (fun z_79 ez_79 => ?_)
                  replace hF := q_letX hF ez_79
                  have iz_79 := q_subI (A := f_77.toInt) (B := f_78.toInt) ez_79 rfl rfl (by first | (clear h0 h1 h2 if_1 hm8 e8σ_3 if_5 if_6 if_7 mv9_σ_8 mv12_σ_8 mv14_σ_8 mv15_σ_8 mv16_σ_8 mv17_σ_8 if_9 if_10 gc_11_f_9 gc_11_f_10 c_11 if_12 ahpσ_14 bhpσ_14 chpσ_14 dhpσ_14 lkx hxat ahpσ_16 bhpσ_16 dhpσ_16 c_17 chpσ_16 hm109 f109σ_65 ahpσ_69 bhpσ_69 chpσ_69 dhpσ_69 lbr_68 ldr_68 ahpσ_71 bhpσ_71 dhpσ_71 c_72 chpσ_71; omega) | omega) (by first | (clear h0 h1 h2 hm8 mv12_σ_8 mv14_σ_8 mv17_σ_8 ahpσ_14 bhpσ_14 chpσ_14 dhpσ_14 lkx ahpσ_16 bhpσ_16 dhpσ_16 c_17 chpσ_16 hm109 f109σ_65 ahpσ_69 bhpσ_69 chpσ_69 dhpσ_69 lbr_68 ldr_68 ahpσ_71 bhpσ_71 dhpσ_71 c_72 chpσ_71; omega) | omega)
                  refine lv_bipush (v := 8) hx hb dX12_next_133 zkb_8 ?_
                  have gc_80_z_79 := q_rng z_79
                  refine q_icmp_ge (A := z_79.toInt) (B := 8) E rfl (by decide) (tgt := 163) dX12_next_135 (by decide) (fun c_80 => ?_) (fun c_80 => ?_)
                  · skip
                    replace hF := q_ifn hF (Int.not_lt.mpr c_80)
                    refine lv_ldc2 (v := (-1)) hx hb E.2.2.1 (E.2.2.2.1 _ (q_in_t7 (i := 163) (by first | rfl | decide +kernel) rfl)) dX12_next_163 ?_
                    refine ps_X12_116_12 E hI ha  dX12_next_166 (fun H locs σ_81 hσ_81 hI => ?_)
                    replace hF := q_letX hF hσ_81
                    have fr_σ_81 := fr_σ_65.sl hσ_81 ha rfl
                    have ks_σ_81 : q_KS (fun b g => b = a ∧ 12 ≤ g ∧ g ≤ 18) 9 X σ σ_81 := ks_σ_65.sl hσ_81
                    have mv9_σ_81 : (σ_81.1 a 9).toInt = (σ_65.1 a 9).toInt := congrArg Int32.toInt ((fun b g _ => by rw [hσ_81]; rfl : q_K 8 X σ_65 σ_81) a 9 (by rw [ha]; decide))
                    have mv12_σ_81 : (σ_81.1 a 12).toInt = (σ_65.1 a 12).toInt := congrArg Int32.toInt ((fun b g _ => by rw [hσ_81]; rfl : q_K 8 X σ_65 σ_81) a 12 (by rw [ha]; decide))
                    have mv14_σ_81 : (σ_81.1 a 14).toInt = (σ_65.1 a 14).toInt := congrArg Int32.toInt ((fun b g _ => by rw [hσ_81]; rfl : q_K 8 X σ_65 σ_81) a 14 (by rw [ha]; decide))
                    have mv15_σ_81 : (σ_81.1 a 15).toInt = (σ_65.1 a 15).toInt := congrArg Int32.toInt ((fun b g _ => by rw [hσ_81]; rfl : q_K 8 X σ_65 σ_81) a 15 (by rw [ha]; decide))
                    have mv16_σ_81 : (σ_81.1 a 16).toInt = (σ_65.1 a 16).toInt := congrArg Int32.toInt ((fun b g _ => by rw [hσ_81]; rfl : q_K 8 X σ_65 σ_81) a 16 (by rw [ha]; decide))
                    have mv17_σ_81 : (σ_81.1 a 17).toInt = (σ_65.1 a 17).toInt := congrArg Int32.toInt ((fun b g _ => by rw [hσ_81]; rfl : q_K 8 X σ_65 σ_81) a 17 (by rw [ha]; decide))
                    refine lv_aload_n hx hb dX12_next_169 rfl (lv_at hl 0 rfl) ?_
                    refine lv_dup hx hb dX12_next_170 rfl ?_
                    refine gs_X12_101_12 E hI ha dX12_next_171 ?_
                    refine lv_topi (fun f_82 ef_82 => ?_)
                    replace hF := q_letX hF ef_82
                    have if_82 : f_82.toInt = (σ_81.1 a 16).toInt := congrArg Int32.toInt ef_82
                    refine lv_iconst (v := 1) hx hb dX12_next_174 zki_1 ?_
                    refine lv_iadd hx hb dX12_next_175 ?_
                    refine lv_topi (fun z_83 ez_83 => ?_)
                    replace hF := q_letX hF ez_83
                    have iz_83 := q_addI (A := f_82.toInt) (B := 1) ez_83 rfl (by decide) (by first | (clear h0 h1 h2 hm8 mv12_σ_8 mv14_σ_8 mv17_σ_8 ahpσ_14 bhpσ_14 chpσ_14 dhpσ_14 lkx ahpσ_16 bhpσ_16 dhpσ_16 c_17 chpσ_16 hm109 f109σ_65 ahpσ_69 bhpσ_69 chpσ_69 dhpσ_69 lbr_68 ldr_68 ahpσ_71 bhpσ_71 dhpσ_71 c_72 chpσ_71 mv12_σ_81 mv14_σ_81 mv17_σ_81; omega) | omega) (by first | (clear h0 h1 h2 hm8 mv12_σ_8 mv14_σ_8 mv17_σ_8 ahpσ_14 bhpσ_14 chpσ_14 dhpσ_14 lkx ahpσ_16 bhpσ_16 dhpσ_16 c_17 chpσ_16 hm109 f109σ_65 ahpσ_69 bhpσ_69 chpσ_69 dhpσ_69 lbr_68 ldr_68 ahpσ_71 bhpσ_71 dhpσ_71 c_72 chpσ_71 gc_80_z_79 c_80 mv12_σ_81 mv14_σ_81 mv17_σ_81; omega) | omega)
                    refine ps_X12_101_12 E hI ha (by decide) dX12_next_176 (fun H locs σ_84 hσ_84 hI => ?_)
                    replace hF := q_letX hF hσ_84
                    have fr_σ_84 := fr_σ_81.si hσ_84 ha rfl
                    have ks_σ_84 : q_KS (fun b g => b = a ∧ 12 ≤ g ∧ g ≤ 18) 9 X σ σ_84 := ks_σ_81.siS hσ_84 ⟨rfl, by decide, by decide⟩
                    have mv9_σ_84 : (σ_84.1 a 9).toInt = (σ_81.1 a 9).toInt := congrArg Int32.toInt (q_rdn hσ_84 (Or.inr (by decide)))
                    have mv12_σ_84 : (σ_84.1 a 12).toInt = (σ_81.1 a 12).toInt := congrArg Int32.toInt (q_rdn hσ_84 (Or.inr (by decide)))
                    have mv14_σ_84 : (σ_84.1 a 14).toInt = (σ_81.1 a 14).toInt := congrArg Int32.toInt (q_rdn hσ_84 (Or.inr (by decide)))
                    have mv15_σ_84 : (σ_84.1 a 15).toInt = (σ_81.1 a 15).toInt := congrArg Int32.toInt (q_rdn hσ_84 (Or.inr (by decide)))
                    have mv16_σ_84 : (σ_84.1 a 16).toInt = z_83.toInt := congrArg Int32.toInt (q_rd hσ_84)
                    have mv17_σ_84 : (σ_84.1 a 17).toInt = (σ_81.1 a 17).toInt := congrArg Int32.toInt (q_rdn hσ_84 (Or.inr (by decide)))
                    refine lv_goto (tgt := 109) hx hb dX12_next_179 (by decide) ?_
                    exact ih109 σ_84 _ _ ls (by first | (clear h0 h1 h2 if_1 hm8 if_5 if_7 mv12_σ_8 mv14_σ_8 mv15_σ_8 mv16_σ_8 mv17_σ_8 if_9 gc_11_f_9 gc_11_f_10 c_11 if_12 ahpσ_14 bhpσ_14 chpσ_14 dhpσ_14 lkx hxat ahpσ_16 bhpσ_16 dhpσ_16 c_17 chpσ_16 ahpσ_69 dhpσ_69 ahpσ_71 bhpσ_71 dhpσ_71 c_72 gc_80_z_79 c_80 mv12_σ_81 mv14_σ_81 mv17_σ_81 mv12_σ_84 mv14_σ_84 mv15_σ_84 mv17_σ_84; omega) | omega) (by first | (clear h0 h1 h2 hm8 if_5 if_7 mv14_σ_8 mv15_σ_8 mv16_σ_8 mv17_σ_8 if_9 gc_11_f_9 gc_11_f_10 c_11 if_12 ahpσ_14 bhpσ_14 chpσ_14 dhpσ_14 lkx hxat ahpσ_16 bhpσ_16 dhpσ_16 c_17 chpσ_16 hm109 f109σ_65 ahpσ_69 dhpσ_69 ahpσ_71 bhpσ_71 dhpσ_71 c_72 mv17_σ_81 mv17_σ_84; omega) | omega) (by first | (clear h0 h1 h2 if_1 hm8 e8σ_3 if_5 if_6 if_7 mv9_σ_8 mv12_σ_8 mv14_σ_8 mv15_σ_8 mv16_σ_8 mv17_σ_8 if_9 if_10 gc_11_f_9 gc_11_f_10 c_11 if_12 ahpσ_14 bhpσ_14 chpσ_14 dhpσ_14 lkx hxat ahpσ_16 bhpσ_16 dhpσ_16 c_17 chpσ_16 hm109 f109σ_65 ahpσ_69 bhpσ_69 chpσ_69 dhpσ_69 lbr_68 ldr_68 ahpσ_71 bhpσ_71 dhpσ_71 c_72 chpσ_71 mv9_σ_81 mv12_σ_81 mv14_σ_81 mv17_σ_81 mv9_σ_84 mv12_σ_84 mv14_σ_84 mv17_σ_84; omega) | omega) ks_σ_84 fr_σ_84 hF hI (lv_sub hl [0, 1] rfl)
                  · skip
                    replace hF := q_ifp hF c_80
                    refine lv_aload_n hx hb dX12_next_138 rfl (lv_at hl 0 rfl) ?_
                    refine gs_X12_116_12 E hI ha dX12_next_139 ?_
                    refine lv_topl (fun g_85 eg_85 => ?_)
                    replace hF := q_letX hF eg_85
                    refine lv_ldc2 (v := 32) hx hb E.2.2.1 (E.2.2.2.1 _ (q_in_t7 (i := 199) (by first | rfl | decide +kernel) rfl)) dX12_next_142 ?_
                    refine lv_lmul hx hb dX12_next_145 ?_
                    refine lv_topl (fun y_86 ey_86 => ?_)
                    replace hF := q_letX hF ey_86
                    refine lv_aload_n hx hb dX12_next_146 rfl (lv_at hl 0 rfl) ?_
                    refine lv_aload_n hx hb dX12_next_147 rfl (lv_at hl 0 rfl) ?_
                    refine gs_X12_101_12 E hI ha dX12_next_148 ?_
                    refine lv_topi (fun f_87 ef_87 => ?_)
                    replace hF := q_letX hF ef_87
                    have if_87 : f_87.toInt = (σ_65.1 a 16).toInt := congrArg Int32.toInt ef_87
                    refine q_ci (q_rV11_1 (rest := [.long y_86, .ref a]) E (hml.trans hl.1.symm) hI (c_X12_look2 l X σ_65 a f_87 ha (by first | (clear h0 h1 h2 hm8 mv12_σ_8 mv14_σ_8 mv17_σ_8 ahpσ_14 bhpσ_14 chpσ_14 dhpσ_14 lkx ahpσ_16 bhpσ_16 dhpσ_16 c_17 chpσ_16 hm109 f109σ_65 ahpσ_69 bhpσ_69 chpσ_69 dhpσ_69 lbr_68 ldr_68 ahpσ_71 bhpσ_71 dhpσ_71 c_72 chpσ_71; omega) | omega) (by first | (clear h0 h1 h2 if_1 hm8 if_5 if_7 mv12_σ_8 mv14_σ_8 mv15_σ_8 mv16_σ_8 mv17_σ_8 if_9 gc_11_f_9 c_11 if_12 ahpσ_14 bhpσ_14 chpσ_14 dhpσ_14 lkx hxat ahpσ_16 bhpσ_16 dhpσ_16 c_17 chpσ_16 hm109 f109σ_65 if_67 ahpσ_69 bhpσ_69 chpσ_69 dhpσ_69 lbr_68 ldr_68 ahpσ_71 bhpσ_71 dhpσ_71 c_72 chpσ_71 if_77 if_78 iz_79 gc_80_z_79 c_80 if_87; omega) | omega)) kv_X12_107 ha ⟨Nat.le_of_ble_eq_true rfl, Nat.le_of_ble_eq_true rfl⟩ (Nat.le_of_ble_eq_true rfl) dX12_next_151) hI (Nat.le_of_ble_eq_true rfl) (fun r_88 σ_89 H locs hpσ_89 hkσ_89 hI => ?_)
                    have ahpσ_89 := hpσ_89.1
                    have bhpσ_89 := hpσ_89.2.1
                    have chpσ_89 := hpσ_89.2.2.1
                    have dhpσ_89 := hpσ_89.2.2.2
                    clear hpσ_89
                    replace hI := q_Irw ahpσ_89 hI
                    replace hF := q_letX hF dhpσ_89
                    refine lv_i2l hx hb dX12_next_154 rfl ?_
                    refine lv_topl (fun y_90 ey_90 => ?_)
                    replace hF := q_letX hF ey_90
                    refine lv_ladd hx hb dX12_next_155 ?_
                    refine lv_topl (fun y_91 ey_91 => ?_)
                    replace hF := q_letX hF ey_91
                    refine lv_ldc2 (v := 96) hx hb E.2.2.1 (E.2.2.2.1 _ (q_in_t7 (i := 200) (by first | rfl | decide +kernel) rfl)) dX12_next_156 ?_
                    refine lv_lsub hx hb dX12_next_159 ?_
                    refine lv_topl (fun y_92 ey_92 => ?_)
                    replace hF := q_letX hF ey_92
                    refine lv_goto (tgt := 166) hx hb dX12_next_160 (by decide) ?_
                    refine ps_X12_116_12 E hI ha  dX12_next_166 (fun H locs σ_93 hσ_93 hI => ?_)
                    replace hF := q_letX hF hσ_93
                    have fr_σ_93 := fr_σ_65.sl hσ_93 ha rfl
                    have ks_σ_93 : q_KS (fun b g => b = a ∧ 12 ≤ g ∧ g ≤ 18) 9 X σ σ_93 := ks_σ_65.sl hσ_93
                    have mv9_σ_93 : (σ_93.1 a 9).toInt = (σ_65.1 a 9).toInt := congrArg Int32.toInt ((fun b g _ => by rw [hσ_93]; rfl : q_K 8 X σ_65 σ_93) a 9 (by rw [ha]; decide))
                    have mv12_σ_93 : (σ_93.1 a 12).toInt = (σ_65.1 a 12).toInt := congrArg Int32.toInt ((fun b g _ => by rw [hσ_93]; rfl : q_K 8 X σ_65 σ_93) a 12 (by rw [ha]; decide))
                    have mv14_σ_93 : (σ_93.1 a 14).toInt = (σ_65.1 a 14).toInt := congrArg Int32.toInt ((fun b g _ => by rw [hσ_93]; rfl : q_K 8 X σ_65 σ_93) a 14 (by rw [ha]; decide))
                    have mv15_σ_93 : (σ_93.1 a 15).toInt = (σ_65.1 a 15).toInt := congrArg Int32.toInt ((fun b g _ => by rw [hσ_93]; rfl : q_K 8 X σ_65 σ_93) a 15 (by rw [ha]; decide))
                    have mv16_σ_93 : (σ_93.1 a 16).toInt = (σ_65.1 a 16).toInt := congrArg Int32.toInt ((fun b g _ => by rw [hσ_93]; rfl : q_K 8 X σ_65 σ_93) a 16 (by rw [ha]; decide))
                    have mv17_σ_93 : (σ_93.1 a 17).toInt = (σ_65.1 a 17).toInt := congrArg Int32.toInt ((fun b g _ => by rw [hσ_93]; rfl : q_K 8 X σ_65 σ_93) a 17 (by rw [ha]; decide))
                    refine lv_aload_n hx hb dX12_next_169 rfl (lv_at hl 0 rfl) ?_
                    refine lv_dup hx hb dX12_next_170 rfl ?_
                    refine gs_X12_101_12 E hI ha dX12_next_171 ?_
                    refine lv_topi (fun f_94 ef_94 => ?_)
                    replace hF := q_letX hF ef_94
                    have if_94 : f_94.toInt = (σ_93.1 a 16).toInt := congrArg Int32.toInt ef_94
                    refine lv_iconst (v := 1) hx hb dX12_next_174 zki_1 ?_
                    refine lv_iadd hx hb dX12_next_175 ?_
                    refine lv_topi (fun z_95 ez_95 => ?_)
                    replace hF := q_letX hF ez_95
                    have iz_95 := q_addI (A := f_94.toInt) (B := 1) ez_95 rfl (by decide) (by first | (clear h0 h1 h2 hm8 mv12_σ_8 mv14_σ_8 mv17_σ_8 ahpσ_14 bhpσ_14 chpσ_14 dhpσ_14 lkx ahpσ_16 bhpσ_16 dhpσ_16 c_17 chpσ_16 hm109 f109σ_65 ahpσ_69 bhpσ_69 chpσ_69 dhpσ_69 lbr_68 ldr_68 ahpσ_71 bhpσ_71 dhpσ_71 c_72 chpσ_71 ahpσ_89 bhpσ_89 chpσ_89 dhpσ_89 mv12_σ_93 mv14_σ_93 mv17_σ_93; omega) | omega) (by first | (clear h0 h1 h2 hm8 mv12_σ_8 mv14_σ_8 mv17_σ_8 ahpσ_14 bhpσ_14 chpσ_14 dhpσ_14 lkx ahpσ_16 bhpσ_16 dhpσ_16 c_17 chpσ_16 hm109 f109σ_65 ahpσ_69 bhpσ_69 chpσ_69 dhpσ_69 lbr_68 ldr_68 ahpσ_71 bhpσ_71 dhpσ_71 c_72 chpσ_71 if_78 gc_80_z_79 c_80 ahpσ_89 bhpσ_89 chpσ_89 dhpσ_89 mv12_σ_93 mv14_σ_93 mv15_σ_93 mv17_σ_93; omega) | omega)
                    refine ps_X12_101_12 E hI ha (by decide) dX12_next_176 (fun H locs σ_96 hσ_96 hI => ?_)
                    replace hF := q_letX hF hσ_96
                    have fr_σ_96 := fr_σ_93.si hσ_96 ha rfl
                    have ks_σ_96 : q_KS (fun b g => b = a ∧ 12 ≤ g ∧ g ≤ 18) 9 X σ σ_96 := ks_σ_93.siS hσ_96 ⟨rfl, by decide, by decide⟩
                    have mv9_σ_96 : (σ_96.1 a 9).toInt = (σ_93.1 a 9).toInt := congrArg Int32.toInt (q_rdn hσ_96 (Or.inr (by decide)))
                    have mv12_σ_96 : (σ_96.1 a 12).toInt = (σ_93.1 a 12).toInt := congrArg Int32.toInt (q_rdn hσ_96 (Or.inr (by decide)))
                    have mv14_σ_96 : (σ_96.1 a 14).toInt = (σ_93.1 a 14).toInt := congrArg Int32.toInt (q_rdn hσ_96 (Or.inr (by decide)))
                    have mv15_σ_96 : (σ_96.1 a 15).toInt = (σ_93.1 a 15).toInt := congrArg Int32.toInt (q_rdn hσ_96 (Or.inr (by decide)))
                    have mv16_σ_96 : (σ_96.1 a 16).toInt = z_95.toInt := congrArg Int32.toInt (q_rd hσ_96)
                    have mv17_σ_96 : (σ_96.1 a 17).toInt = (σ_93.1 a 17).toInt := congrArg Int32.toInt (q_rdn hσ_96 (Or.inr (by decide)))
                    refine lv_goto (tgt := 109) hx hb dX12_next_179 (by decide) ?_
                    exact ih109 σ_96 _ _ ls (by first | (clear h0 h1 h2 if_1 hm8 if_5 if_7 mv12_σ_8 mv14_σ_8 mv15_σ_8 mv16_σ_8 mv17_σ_8 if_9 gc_11_f_9 gc_11_f_10 c_11 if_12 ahpσ_14 bhpσ_14 chpσ_14 dhpσ_14 lkx hxat ahpσ_16 bhpσ_16 dhpσ_16 c_17 chpσ_16 ahpσ_69 dhpσ_69 ahpσ_71 bhpσ_71 dhpσ_71 c_72 if_78 gc_80_z_79 c_80 ahpσ_89 bhpσ_89 chpσ_89 dhpσ_89 mv12_σ_93 mv14_σ_93 mv15_σ_93 mv17_σ_93 mv12_σ_96 mv14_σ_96 mv15_σ_96 mv17_σ_96; omega) | omega) (by first | (clear h0 h1 h2 hm8 if_5 if_7 mv14_σ_8 mv15_σ_8 mv16_σ_8 mv17_σ_8 if_9 gc_11_f_9 gc_11_f_10 c_11 if_12 ahpσ_14 bhpσ_14 chpσ_14 dhpσ_14 lkx hxat ahpσ_16 bhpσ_16 dhpσ_16 c_17 chpσ_16 hm109 f109σ_65 ahpσ_69 dhpσ_69 ahpσ_71 bhpσ_71 dhpσ_71 c_72 ahpσ_89 bhpσ_89 chpσ_89 dhpσ_89 mv17_σ_93 mv17_σ_96; omega) | omega) (by first | (clear h0 h1 h2 if_1 hm8 e8σ_3 if_5 if_6 if_7 mv9_σ_8 mv12_σ_8 mv14_σ_8 mv15_σ_8 mv16_σ_8 mv17_σ_8 if_9 if_10 gc_11_f_9 gc_11_f_10 c_11 if_12 ahpσ_14 bhpσ_14 chpσ_14 dhpσ_14 lkx hxat ahpσ_16 bhpσ_16 dhpσ_16 c_17 chpσ_16 hm109 f109σ_65 ahpσ_69 bhpσ_69 chpσ_69 dhpσ_69 lbr_68 ldr_68 ahpσ_71 bhpσ_71 dhpσ_71 c_72 chpσ_71 ahpσ_89 bhpσ_89 chpσ_89 dhpσ_89 mv9_σ_93 mv12_σ_93 mv14_σ_93 mv17_σ_93 mv9_σ_96 mv12_σ_96 mv14_σ_96 mv17_σ_96; omega) | omega) ks_σ_96 fr_σ_96 hF hI (lv_sub hl [0, 1] rfl)
            exact L_109_66 (((σ_64.1 a 9).toInt - (σ_64.1 a 16).toInt).toNat + 1) σ_64 _ _ ls (Nat.lt_succ_self _) (by first | (clear h0 h1 h2 hm8 mv14_σ_8 mv17_σ_8 gc_11_f_9 gc_11_f_10 ahpσ_14 bhpσ_14 chpσ_14 dhpσ_14 lkx ahpσ_16 bhpσ_16 dhpσ_16 c_17 chpσ_16; omega) | omega) (Or.inr (by have q : (σ_64.1 a 16).toInt = xat := (by first | (clear h0 h1 h2 if_1 hm8 e8σ_3 if_6 mv9_σ_8 mv12_σ_8 mv14_σ_8 mv17_σ_8 if_10 gc_11_f_9 gc_11_f_10 c_11 ahpσ_14 bhpσ_14 chpσ_14 dhpσ_14 lkx ahpσ_16 bhpσ_16 dhpσ_16 c_17 chpσ_16; omega) | omega); rw [q]; omega)) ks_σ_64 fr_σ_64 hF hI (lv_sub hl [1, 0] rfl)
        · skip
          replace hF := q_ifn hF (Int.not_lt.mpr c_11)
          refine lv_aload_n hx hb dX12_next_77 rfl (lv_at hl 0 rfl) ?_
          refine lv_iconst (v := 0) hx hb dX12_next_78 zki_0 ?_
          refine ps_X12_110_12 E hI ha (by decide) dX12_next_79 (fun H locs σ_97 hσ_97 hI => ?_)
          replace hF := q_letX hF hσ_97
          have fr_σ_97 := fr_σ_8.si hσ_97 ha rfl
          have ks_σ_97 : q_KS (fun b g => b = a ∧ 12 ≤ g ∧ g ≤ 18) 9 X σ σ_97 := ks_σ_8.siS hσ_97 ⟨rfl, by decide, by decide⟩
          have mv9_σ_97 : (σ_97.1 a 9).toInt = (σ_8.1 a 9).toInt := congrArg Int32.toInt (q_rdn hσ_97 (Or.inr (by decide)))
          have mv12_σ_97 : (σ_97.1 a 12).toInt = (σ_8.1 a 12).toInt := congrArg Int32.toInt (q_rdn hσ_97 (Or.inr (by decide)))
          have mv14_σ_97 : (σ_97.1 a 14).toInt = 0 := by rw [q_rd hσ_97]; rfl
          have mv15_σ_97 : (σ_97.1 a 15).toInt = (σ_8.1 a 15).toInt := congrArg Int32.toInt (q_rdn hσ_97 (Or.inr (by decide)))
          have mv16_σ_97 : (σ_97.1 a 16).toInt = (σ_8.1 a 16).toInt := congrArg Int32.toInt (q_rdn hσ_97 (Or.inr (by decide)))
          have mv17_σ_97 : (σ_97.1 a 17).toInt = (σ_8.1 a 17).toInt := congrArg Int32.toInt (q_rdn hσ_97 (Or.inr (by decide)))
          exact q_retv E hr hlk hI ⟨ks_σ_97, (by first | (clear h0 h1 h2 hm8 mv12_σ_8 mv14_σ_8 mv17_σ_8 gc_11_f_9 mv12_σ_97 mv17_σ_97; omega) | omega), (by first | (clear h0 h1 h2 hm8 mv14_σ_8 mv17_σ_8 gc_11_f_9 gc_11_f_10 mv14_σ_97 mv17_σ_97; omega) | omega), (hF.trans hout), fr_σ_97⟩ dX12_next_82
      have gc_98_f_5 := q_rng f_5
      have gc_98_f_6 := q_rng f_6
      refine q_icmp_ge (A := f_5.toInt) (B := f_6.toInt) E rfl rfl (tgt := 58) dX12_next_16 (by decide) (fun c_98 => ?_) (fun c_98 => ?_)
      · skip
        replace hF := q_ifn hF (Int.not_lt.mpr c_98)
        exact J_58_6 _ _ ls hF hI (lv_sub hl [0] rfl)
      · skip
        replace hF := q_ifp hF c_98
        refine lv_aload_n hx hb dX12_next_19 rfl (lv_at hl 0 rfl) ?_
        refine lv_aload_n hx hb dX12_next_20 rfl (lv_at hl 0 rfl) ?_
        refine gs_X12_104_12 E hI ha dX12_next_21 ?_
        refine lv_topi (fun f_99 ef_99 => ?_)
        replace hF := q_letX hF ef_99
        have if_99 : f_99.toInt = (σ_3.1 a 15).toInt := congrArg Int32.toInt ef_99
        refine q_ci (q_rV11_1 (rest := []) E (hml.trans hl.1.symm) hI (c_X12_look2 l X σ_3 a f_99 ha (by first | (clear h0 h1 h2 hm8 if_6 gc_98_f_6 c_98; omega) | omega) (by first | (clear h0 h1 h2 if_1 hm8 if_5 gc_98_f_5 c_98 if_99; omega) | omega)) kv_X12_107 ha ⟨Nat.le_of_ble_eq_true rfl, Nat.le_of_ble_eq_true rfl⟩ (Nat.le_of_ble_eq_true rfl) dX12_next_24) hI (Nat.le_of_ble_eq_true rfl) (fun r_100 σ_101 H locs hpσ_101 hkσ_101 hI => ?_)
        have ahpσ_101 := hpσ_101.1
        have bhpσ_101 := hpσ_101.2.1
        have chpσ_101 := hpσ_101.2.2.1
        have dhpσ_101 := hpσ_101.2.2.2
        clear hpσ_101
        replace hI := q_Irw ahpσ_101 hI
        replace hF := q_letX hF dhpσ_101
        refine lv_bipush (v := 10) hx hb dX12_next_27 zkb_10 ?_
        have gc_102_r_100 := q_rng r_100
        refine q_icmp_eq (A := r_100.toInt) (B := 10) E rfl (by decide) (tgt := 45) dX12_next_29 (by decide) (fun c_102 => ?_) (fun c_102 => ?_)
        · skip
          replace hF := q_ifp hF c_102
          refine lv_aload_n hx hb dX12_next_45 rfl (lv_at hl 0 rfl) ?_
          refine lv_dup hx hb dX12_next_46 rfl ?_
          refine gs_X12_104_12 E hI ha dX12_next_47 ?_
          refine lv_topi (fun f_103 ef_103 => ?_)
          replace hF := q_letX hF ef_103
          have if_103 : f_103.toInt = (σ_3.1 a 15).toInt := congrArg Int32.toInt ef_103
          refine lv_iconst (v := 1) hx hb dX12_next_50 zki_1 ?_
          refine lv_iadd hx hb dX12_next_51 ?_
          refine lv_topi (fun z_104 ez_104 => ?_)
          replace hF := q_letX hF ez_104
          have iz_104 := q_addI (A := f_103.toInt) (B := 1) ez_104 rfl (by decide) (by first | (clear h0 h1 h2 if_1 hm8 e8σ_3 if_6 gc_98_f_6 c_98 ahpσ_101 bhpσ_101 chpσ_101 dhpσ_101 gc_102_r_100 c_102; omega) | omega) (by first | (clear h0 h1 h2 hm8 ahpσ_101 bhpσ_101 chpσ_101 dhpσ_101 gc_102_r_100 c_102; omega) | omega)
          refine ps_X12_104_12 E hI ha (by decide) dX12_next_52 (fun H locs σ_105 hσ_105 hI => ?_)
          replace hF := q_letX hF hσ_105
          have fr_σ_105 := fr_σ_3.si hσ_105 ha rfl
          have ks_σ_105 : q_KS (fun b g => b = a ∧ 12 ≤ g ∧ g ≤ 18) 9 X σ σ_105 := ks_σ_3.siS hσ_105 ⟨rfl, by decide, by decide⟩
          have mv9_σ_105 : (σ_105.1 a 9).toInt = (σ_3.1 a 9).toInt := congrArg Int32.toInt (q_rdn hσ_105 (Or.inr (by decide)))
          have mv12_σ_105 : (σ_105.1 a 12).toInt = (σ_3.1 a 12).toInt := congrArg Int32.toInt (q_rdn hσ_105 (Or.inr (by decide)))
          have mv14_σ_105 : (σ_105.1 a 14).toInt = (σ_3.1 a 14).toInt := congrArg Int32.toInt (q_rdn hσ_105 (Or.inr (by decide)))
          have mv15_σ_105 : (σ_105.1 a 15).toInt = z_104.toInt := congrArg Int32.toInt (q_rd hσ_105)
          have mv16_σ_105 : (σ_105.1 a 16).toInt = (σ_3.1 a 16).toInt := congrArg Int32.toInt (q_rdn hσ_105 (Or.inr (by decide)))
          have mv17_σ_105 : (σ_105.1 a 17).toInt = (σ_3.1 a 17).toInt := congrArg Int32.toInt (q_rdn hσ_105 (Or.inr (by decide)))
          refine lv_goto (tgt := 8) hx hb dX12_next_55 (by decide) ?_
          exact ih8 σ_105 _ _ ls (by first | (clear h0 h1 h2 if_1 e8σ_3 gc_98_f_5 gc_98_f_6 ahpσ_101 bhpσ_101 chpσ_101 dhpσ_101 gc_102_r_100 c_102 mv12_σ_105 mv14_σ_105 mv16_σ_105 mv17_σ_105; omega) | omega) (by first | (clear h0 h1 h2 hm8 gc_98_f_5 gc_98_f_6 ahpσ_101 bhpσ_101 chpσ_101 dhpσ_101 gc_102_r_100 c_102 mv14_σ_105 mv16_σ_105 mv17_σ_105; omega) | omega) ks_σ_105 fr_σ_105 hF hI (lv_sub hl [0] rfl)
        · skip
          replace hF := q_ifn hF c_102
          refine lv_aload_n hx hb dX12_next_32 rfl (lv_at hl 0 rfl) ?_
          refine lv_aload_n hx hb dX12_next_33 rfl (lv_at hl 0 rfl) ?_
          refine gs_X12_104_12 E hI ha dX12_next_34 ?_
          refine lv_topi (fun f_106 ef_106 => ?_)
          replace hF := q_letX hF ef_106
          have if_106 : f_106.toInt = (σ_3.1 a 15).toInt := congrArg Int32.toInt ef_106
          refine q_ci (q_rV11_1 (rest := []) E (hml.trans hl.1.symm) hI (c_X12_look2 l X σ_3 a f_106 ha (by first | (clear h0 h1 h2 hm8 if_6 gc_98_f_6 c_98 ahpσ_101 bhpσ_101 chpσ_101 dhpσ_101 gc_102_r_100 c_102; omega) | omega) (by first | (clear h0 h1 h2 if_1 hm8 if_5 gc_98_f_5 c_98 if_99 ahpσ_101 bhpσ_101 chpσ_101 dhpσ_101 gc_102_r_100 c_102 if_106; omega) | omega)) kv_X12_107 ha ⟨Nat.le_of_ble_eq_true rfl, Nat.le_of_ble_eq_true rfl⟩ (Nat.le_of_ble_eq_true rfl) dX12_next_37) hI (Nat.le_of_ble_eq_true rfl) (fun r_107 σ_108 H locs hpσ_108 hkσ_108 hI => ?_)
          have ahpσ_108 := hpσ_108.1
          have bhpσ_108 := hpσ_108.2.1
          have chpσ_108 := hpσ_108.2.2.1
          have dhpσ_108 := hpσ_108.2.2.2
          clear hpσ_108
          replace hI := q_Irw ahpσ_108 hI
          replace hF := q_letX hF dhpσ_108
          refine lv_bipush (v := 32) hx hb dX12_next_40 zkb_32 ?_
          have gc_109_r_107 := q_rng r_107
          refine q_icmp_ne (A := r_107.toInt) (B := 32) E rfl (by decide) (tgt := 58) dX12_next_42 (by decide) (fun c_109 => ?_) (fun c_109 => ?_)
          · skip
            replace hF := q_ifn hF c_109
            exact J_58_6 _ _ ls hF hI (lv_sub hl [0] rfl)
          · skip
            replace hF := q_ifp hF c_109
            refine lv_aload_n hx hb dX12_next_45 rfl (lv_at hl 0 rfl) ?_
            refine lv_dup hx hb dX12_next_46 rfl ?_
            refine gs_X12_104_12 E hI ha dX12_next_47 ?_
            refine lv_topi (fun f_110 ef_110 => ?_)
            replace hF := q_letX hF ef_110
            have if_110 : f_110.toInt = (σ_3.1 a 15).toInt := congrArg Int32.toInt ef_110
            refine lv_iconst (v := 1) hx hb dX12_next_50 zki_1 ?_
            refine lv_iadd hx hb dX12_next_51 ?_
            refine lv_topi (fun z_111 ez_111 => ?_)
            replace hF := q_letX hF ez_111
            have iz_111 := q_addI (A := f_110.toInt) (B := 1) ez_111 rfl (by decide) (by first | (clear h0 h1 h2 if_1 hm8 e8σ_3 if_6 gc_98_f_6 c_98 ahpσ_101 bhpσ_101 chpσ_101 dhpσ_101 gc_102_r_100 c_102 ahpσ_108 bhpσ_108 chpσ_108 dhpσ_108 gc_109_r_107 c_109; omega) | omega) (by first | (clear h0 h1 h2 hm8 ahpσ_101 bhpσ_101 chpσ_101 dhpσ_101 gc_102_r_100 c_102 ahpσ_108 bhpσ_108 chpσ_108 dhpσ_108 gc_109_r_107 c_109; omega) | omega)
            refine ps_X12_104_12 E hI ha (by decide) dX12_next_52 (fun H locs σ_112 hσ_112 hI => ?_)
            replace hF := q_letX hF hσ_112
            have fr_σ_112 := fr_σ_3.si hσ_112 ha rfl
            have ks_σ_112 : q_KS (fun b g => b = a ∧ 12 ≤ g ∧ g ≤ 18) 9 X σ σ_112 := ks_σ_3.siS hσ_112 ⟨rfl, by decide, by decide⟩
            have mv9_σ_112 : (σ_112.1 a 9).toInt = (σ_3.1 a 9).toInt := congrArg Int32.toInt (q_rdn hσ_112 (Or.inr (by decide)))
            have mv12_σ_112 : (σ_112.1 a 12).toInt = (σ_3.1 a 12).toInt := congrArg Int32.toInt (q_rdn hσ_112 (Or.inr (by decide)))
            have mv14_σ_112 : (σ_112.1 a 14).toInt = (σ_3.1 a 14).toInt := congrArg Int32.toInt (q_rdn hσ_112 (Or.inr (by decide)))
            have mv15_σ_112 : (σ_112.1 a 15).toInt = z_111.toInt := congrArg Int32.toInt (q_rd hσ_112)
            have mv16_σ_112 : (σ_112.1 a 16).toInt = (σ_3.1 a 16).toInt := congrArg Int32.toInt (q_rdn hσ_112 (Or.inr (by decide)))
            have mv17_σ_112 : (σ_112.1 a 17).toInt = (σ_3.1 a 17).toInt := congrArg Int32.toInt (q_rdn hσ_112 (Or.inr (by decide)))
            refine lv_goto (tgt := 8) hx hb dX12_next_55 (by decide) ?_
            exact ih8 σ_112 _ _ ls (by first | (clear h0 h1 h2 if_1 e8σ_3 gc_98_f_5 gc_98_f_6 ahpσ_101 bhpσ_101 chpσ_101 dhpσ_101 gc_102_r_100 ahpσ_108 bhpσ_108 chpσ_108 dhpσ_108 gc_109_r_107 c_109 mv12_σ_112 mv14_σ_112 mv16_σ_112 mv17_σ_112; omega) | omega) (by first | (clear h0 h1 h2 hm8 gc_98_f_5 gc_98_f_6 ahpσ_101 bhpσ_101 chpσ_101 dhpσ_101 gc_102_r_100 c_102 ahpσ_108 bhpσ_108 chpσ_108 dhpσ_108 gc_109_r_107 c_109 mv14_σ_112 mv16_σ_112 mv17_σ_112; omega) | omega) ks_σ_112 fr_σ_112 hF hI (lv_sub hl [0] rfl)
  exact L_8_4 (((σ_2.1 a 9).toInt - (σ_2.1 a 15).toInt).toNat + 1) σ_2 _ _ ls (Nat.lt_succ_self _) (by first | (clear h0 h1 h2; omega) | omega) ks_σ_2 fr_σ_2 hF hI (lv_sub hl [0] rfl)
end
/-! FROM 33.must.a.lean.txt -/
section
section QS
variable {p : Program} {l : Launch} {e : Env} {R : Room} {s : State} {m : MethodId} {args : Array Value} {below : List Frame} {meth : Method} {c : Code} {H : Heap} {locs : List Loc} {cells slots : Nat} {Q : State → Prop} {cc : ByteArray} {X : XW} {n : Nat} {σ0 σ : ST} {H0 : Heap} {pc : Nat} {ls : Array Slot} {rest : List Value} {a : Nat}
theorem kv_X12_200 : q_okV RX12 200 RX12 yX12_wrong cX12_wrong 1 none 0 := ⟨(q_in_t7 (i := 223) (by first | rfl | decide +kernel) rfl), (q_in_t7 (i := 225) (by first | rfl | decide +kernel) rfl), (q_in_p (i := 48) (by decide +kernel) rfl), (q_in_t1 (i := 14) (by first | rfl | decide +kernel) rfl), (q_in_t7 (i := 226) (by first | rfl | decide +kernel) rfl), ⟨rfl, by decide, by decide, rfl⟩⟩
theorem kv_X12_197 : q_okV RX12 197 RX12 yX12_next cX12_next 2 none 0 := ⟨(q_in_t7 (i := 188) (by first | rfl | decide +kernel) rfl), (q_in_t7 (i := 190) (by first | rfl | decide +kernel) rfl), (q_in_p (i := 42) (by decide +kernel) rfl), (q_in_t1 (i := 14) (by first | rfl | decide +kernel) rfl), (q_in_t7 (i := 191) (by first | rfl | decide +kernel) rfl), ⟨rfl, by decide, by decide, rfl⟩⟩
theorem ks_X12_94 : q_okS RX12 94 yX12_isIn cX12_isIn 6 (some .boolean) 3 := ⟨(q_in_t7 (i := 235) (by first | rfl | decide +kernel) rfl), (q_in_t7 (i := 236) (by first | rfl | decide +kernel) rfl), (q_in_t1 (i := 14) (by first | rfl | decide +kernel) rfl), (q_in_t7 (i := 237) (by first | rfl | decide +kernel) rfl), ⟨by decide, by decide, rfl⟩⟩
end QS
end
/-! FROM 33.must.b00.lean.txt -/
section
set_option maxRecDepth 100000 in
set_option maxHeartbeats 4000000 in
theorem c_X12_must (l : Launch) (X : XW) (σ : ST) (a : Nat) (v1 : Int32) (ha : q_kd X a = 12) (hs : 0 ≤ (σ.1 a 15).toInt ∧ (σ.1 a 15).toInt ≤ (σ.1 a 16).toInt ∧ (σ.1 a 16).toInt ≤ (σ.1 a 9).toInt ∧ (σ.1 a 9).toInt ≤ 900 ∧ 0 ≤ (σ.1 a 14).toInt ∧ (σ.1 a 14).toInt ≤ 4 ∧ (σ.1 a 14).toInt ≤ 4 * ((σ.1 a 16).toInt - (σ.1 a 15).toInt) ∧ (σ.1 a 14).toInt ≤ 4 * ((σ.1 a 9).toInt - (σ.1 a 15).toInt) ∧ 0 ≤ (σ.1 a 12).toInt) (hv : 0 ≤ v1.toInt) : Met l yX12_must (q_ws yX12_must cX12_must 2 none) (q_rm 2 42) (q_P X σ [.ref a, .int v1]) (q_Qv X 2 σ (fun (σ' : ST) => (q_KS (fun b g => b = a ∧ 12 ≤ g ∧ g ≤ 18) 9 X σ σ') ∧ (0 ≤ (σ'.1 a 15).toInt ∧ (σ'.1 a 15).toInt ≤ (σ'.1 a 16).toInt ∧ (σ'.1 a 16).toInt ≤ (σ'.1 a 9).toInt ∧ (σ'.1 a 9).toInt ≤ 900 ∧ 0 ≤ (σ'.1 a 14).toInt ∧ (σ'.1 a 14).toInt ≤ 4 ∧ (σ'.1 a 14).toInt ≤ 4 * ((σ'.1 a 16).toInt - (σ'.1 a 15).toInt) ∧ (σ'.1 a 14).toInt ≤ 4 * ((σ'.1 a 9).toInt - (σ'.1 a 15).toInt) ∧ 0 ≤ (σ'.1 a 12).toInt ∧ (σ'.1 a 9).toInt = (σ.1 a 9).toInt ∧ (σ.1 a 15).toInt ≤ (σ'.1 a 15).toInt ∧ (σ.1 a 12).toInt ≤ (σ'.1 a 12).toInt) ∧ ((σ.1 a 16).toInt ≤ (σ'.1 a 15).toInt + 1000 * (σ'.1 a 12).toInt ∧ 1 ≤ v1.toInt + (σ'.1 a 12).toInt) ∧ σ' = F_X12_must X σ a v1 ∧ q_ow [(12, 12), (12, 13), (12, 14), (12, 15), (12, 16), (12, 17), (12, 18)] [(12, 19)] X σ σ')) 0 0 (q_reg X) := by
  refine q_met 2 (by first | exact rfl | decide +kernel) rfl (Nat.le_of_ble_eq_true rfl) (fun p e s m below meth c E hml hr hlk hI ls hl => ?_)
  have hx := E.1
  have hb := E.2.1
  have hl : lv_has ls 2 [(0, .ref a), (1, .int v1)] := hl
  have ks_σ : q_KS (fun b g => b = a ∧ 12 ≤ g ∧ g ≤ 18) 9 X σ σ := q_KS.rf
  have fr_σ : q_ow [(12, 12), (12, 13), (12, 14), (12, 15), (12, 16), (12, 17), (12, 18)] [(12, 19)] X σ σ := q_ow.rf
  obtain ⟨out, hout⟩ : ∃ o, o = F_X12_must X σ a v1 := ⟨_, rfl⟩
  have hF := hout.symm
  unfold F_X12_must at hF
  refine lv_aload_n hx hb dX12_must_0 rfl (lv_at hl 0 rfl) ?_
  refine gs_X12_187_12 E hI ha dX12_must_1 ?_
  refine lv_topi (fun f_1 ef_1 => ?_)
  replace hF := q_letX hF ef_1
  have if_1 : f_1.toInt = (σ.1 a 12).toInt := congrArg Int32.toInt ef_1
  refine q_if_le (A := f_1.toInt) E rfl (tgt := 8) dX12_must_4 (by decide) (fun c_2 => ?_) (fun c_2 => ?_)
  · skip
    replace hF := q_ifn hF (Int.not_lt.mpr c_2)
    refine lv_iload_n hx hb dX12_must_8 rfl (lv_at hl 1 rfl) ?_
    refine q_if_eq (A := v1.toInt) E rfl (tgt := 19) dX12_must_9 (by decide) (fun c_3 => ?_) (fun c_3 => ?_)
    · skip
      replace hF := q_ifp hF c_3
      refine lv_aload_n hx hb dX12_must_19 rfl (lv_at hl 0 rfl) ?_
      refine q_cv (q_rV11_0 (rest := []) E (hml.trans hl.1.symm) hI (c_X12_wrong l X σ a ha (by first | (clear hv c_3; omega) | omega)) kv_X12_200 ha ⟨Nat.le_of_ble_eq_true rfl, Nat.le_of_ble_eq_true rfl⟩ (Nat.le_of_ble_eq_true rfl) dX12_must_20) hI (Nat.le_of_ble_eq_true rfl) (fun σ_5 H locs hpσ_5 hkσ_5 hI => ?_)
      have ahpσ_5 := hpσ_5.1
      have bhpσ_5 := hpσ_5.2.1
      have chpσ_5 := hpσ_5.2.2.1
      have dhpσ_5 := hpσ_5.2.2.2.1
      have ehpσ_5 := hpσ_5.2.2.2.2
      clear hpσ_5
      have fr_σ_5 := fr_σ.call ehpσ_5 rfl rfl
      replace hF := q_letX hF dhpσ_5
      have ks_σ_5 : q_KS (fun b g => b = a ∧ 12 ≤ g ∧ g ≤ 18) 9 X σ σ_5 := ks_σ.KS ahpσ_5 (by decide) (fun _ _ h => h)
      exact q_retv E hr hlk hI ⟨ks_σ_5, (by first | (clear hv c_3 ahpσ_5 dhpσ_5 ehpσ_5; omega) | omega), (by first | (clear hv if_1 c_2 ahpσ_5 dhpσ_5 ehpσ_5; omega) | omega), (hF.trans hout), fr_σ_5⟩ dX12_must_23
    · skip
      replace hF := q_ifn hF c_3
      refine lv_aload_n hx hb dX12_must_12 rfl (lv_at hl 0 rfl) ?_
      refine q_cv (q_rV11_0 (rest := []) E (hml.trans hl.1.symm) hI (c_X12_next l X σ a ha (by first | (clear hv if_1 c_2 c_3; omega) | omega) (by first | (clear hv if_1 c_2 c_3; omega) | omega) (by first | (clear hv if_1 c_2 c_3; omega) | omega)) kv_X12_197 ha ⟨Nat.le_of_ble_eq_true rfl, Nat.le_of_ble_eq_true rfl⟩ (Nat.le_of_ble_eq_true rfl) dX12_must_13) hI (Nat.le_of_ble_eq_true rfl) (fun σ_7 H locs hpσ_7 hkσ_7 hI => ?_)
      have ahpσ_7 := hpσ_7.1
      have bhpσ_7 := hpσ_7.2.1
      have chpσ_7 := hpσ_7.2.2.1
      have dhpσ_7 := hpσ_7.2.2.2.1
      have ehpσ_7 := hpσ_7.2.2.2.2
      clear hpσ_7
      have fr_σ_7 := fr_σ.call ehpσ_7 rfl rfl
      replace hF := q_letX hF dhpσ_7
      have ks_σ_7 : q_KS (fun b g => b = a ∧ 12 ≤ g ∧ g ≤ 18) 9 X σ σ_7 := ks_σ.KS ahpσ_7 (by decide) (fun _ _ h => h)
      refine lv_goto (tgt := 23) hx hb dX12_must_16 (by decide) ?_
      exact q_retv E hr hlk hI ⟨ks_σ_7, (by first | (clear hv c_3 ahpσ_7 dhpσ_7 ehpσ_7; omega) | omega), (by first | (clear ahpσ_7 bhpσ_7 dhpσ_7 ehpσ_7; omega) | omega), (hF.trans hout), fr_σ_7⟩ dX12_must_23
  · skip
    replace hF := q_ifp hF c_2
    exact q_retv E hr hlk hI ⟨ks_σ, (by first | (clear hv; omega) | omega), (by omega), (hF.trans hout), fr_σ⟩ dX12_must_7

set_option maxRecDepth 100000 in
set_option maxHeartbeats 4000000 in
theorem c_X12_count (l : Launch) (X : XW) (σ : ST) (a : Nat) (v1 : Int32) (v2 : Int32) (ha : q_kd X a = 12) (hs : 0 ≤ (σ.1 a 15).toInt ∧ (σ.1 a 15).toInt ≤ (σ.1 a 16).toInt ∧ (σ.1 a 16).toInt ≤ (σ.1 a 9).toInt ∧ (σ.1 a 9).toInt ≤ 900 ∧ 0 ≤ (σ.1 a 14).toInt ∧ (σ.1 a 14).toInt ≤ 4 ∧ (σ.1 a 14).toInt ≤ 4 * ((σ.1 a 16).toInt - (σ.1 a 15).toInt) ∧ (σ.1 a 14).toInt ≤ 4 * ((σ.1 a 9).toInt - (σ.1 a 15).toInt) ∧ 0 ≤ (σ.1 a 12).toInt) (hv : 0 ≤ v1.toInt ∧ v1.toInt ≤ 10 ∧ 0 ≤ v2.toInt) : Met l yX12_count (q_ws yX12_count cX12_count 4 (some .int)) (q_rm 2 42) (q_P X σ [.ref a, .int v1, .int v2]) (q_Qi X 2 σ (fun (r : Int32) (σ' : ST) => (q_KS (fun b g => b = a ∧ 12 ≤ g ∧ g ≤ 18) 9 X σ σ') ∧ (0 ≤ (σ'.1 a 15).toInt ∧ (σ'.1 a 15).toInt ≤ (σ'.1 a 16).toInt ∧ (σ'.1 a 16).toInt ≤ (σ'.1 a 9).toInt ∧ (σ'.1 a 9).toInt ≤ 900 ∧ 0 ≤ (σ'.1 a 14).toInt ∧ (σ'.1 a 14).toInt ≤ 4 ∧ (σ'.1 a 14).toInt ≤ 4 * ((σ'.1 a 16).toInt - (σ'.1 a 15).toInt) ∧ (σ'.1 a 14).toInt ≤ 4 * ((σ'.1 a 9).toInt - (σ'.1 a 15).toInt) ∧ 0 ≤ (σ'.1 a 12).toInt ∧ (σ'.1 a 9).toInt = (σ.1 a 9).toInt ∧ (σ.1 a 15).toInt ≤ (σ'.1 a 15).toInt ∧ (σ.1 a 12).toInt ≤ (σ'.1 a 12).toInt) ∧ ((σ.1 a 16).toInt ≤ (σ'.1 a 15).toInt + 1000 * (σ'.1 a 12).toInt ∧ 0 ≤ r.toInt ∧ r.toInt ≤ v2.toInt ∧ v1.toInt ≤ r.toInt + 10 * (σ'.1 a 12).toInt) ∧ (r, σ') = F_X12_count X σ a v1 v2 ∧ q_ow [(12, 12), (12, 13), (12, 14), (12, 15), (12, 16), (12, 17), (12, 18)] [(12, 19)] X σ σ')) 0 0 (q_reg X) := by
  refine q_met 2 (by first | exact rfl | decide +kernel) rfl (Nat.le_of_ble_eq_true rfl) (fun p e s m below meth c E hml hr hlk hI ls hl => ?_)
  have hx := E.1
  have hb := E.2.1
  have hl : lv_has ls 4 [(0, .ref a), (1, .int v1), (2, .int v2)] := hl
  have ks_σ : q_KS (fun b g => b = a ∧ 12 ≤ g ∧ g ≤ 18) 9 X σ σ := q_KS.rf
  have fr_σ : q_ow [(12, 12), (12, 13), (12, 14), (12, 15), (12, 16), (12, 17), (12, 18)] [(12, 19)] X σ σ := q_ow.rf
  obtain ⟨out, hout⟩ : ∃ o, o = F_X12_count X σ a v1 v2 := ⟨_, rfl⟩
  have hF := hout.symm
  unfold F_X12_count at hF
  refine lv_aload_n hx hb dX12_count_0 rfl (lv_at hl 0 rfl) ?_
  refine gs_X12_187_12 E hI ha dX12_count_1 ?_
  refine lv_topi (fun f_1 ef_1 => ?_)
  replace hF := q_letX hF ef_1
  have if_1 : f_1.toInt = (σ.1 a 12).toInt := congrArg Int32.toInt ef_1
  have J_19_2 : ∀  (σ_2 : ST) (H : Heap) (locs : List Loc) (ls : Array Slot), (0 ≤ (σ_2.1 a 15).toInt ∧ (σ_2.1 a 15).toInt ≤ (σ_2.1 a 16).toInt ∧ (σ_2.1 a 16).toInt ≤ (σ_2.1 a 9).toInt ∧ (σ_2.1 a 9).toInt ≤ 900 ∧ 0 ≤ (σ_2.1 a 14).toInt ∧ (σ_2.1 a 14).toInt ≤ 4 ∧ (σ_2.1 a 14).toInt ≤ 4 * ((σ_2.1 a 16).toInt - (σ_2.1 a 15).toInt) ∧ (σ_2.1 a 14).toInt ≤ 4 * ((σ_2.1 a 9).toInt - (σ_2.1 a 15).toInt) ∧ 0 ≤ (σ_2.1 a 12).toInt ∧ (σ_2.1 a 9).toInt = (σ.1 a 9).toInt ∧ (σ_2.1 a 15).toInt = (σ.1 a 15).toInt ∧ (σ_2.1 a 16).toInt = (σ.1 a 16).toInt ∧ (σ.1 a 12).toInt ≤ (σ_2.1 a 12).toInt) → (q_KS (fun b g => b = a ∧ 12 ≤ g ∧ g ≤ 18) 9 X σ σ_2) → (q_ow [(12, 12), (12, 13), (12, 14), (12, 15), (12, 16), (12, 17), (12, 18)] [(12, 19)] X σ σ_2) → (F_X12_count_J19_1 X a v1 v2 σ_2 = out) → q_I X 2 σ s.heap locs σ_2 H → lv_has ls 4 [(0, .ref a), (1, .int v1), (2, .int v2)] → W p l e (q_rm 2 42) s m ([.ref a, .int v1, .int v2] : List Value).toArray below meth c H locs 0 0 (MQ below (q_Qi X 2 σ (fun (r : Int32) (σ' : ST) => (q_KS (fun b g => b = a ∧ 12 ≤ g ∧ g ≤ 18) 9 X σ σ') ∧ (0 ≤ (σ'.1 a 15).toInt ∧ (σ'.1 a 15).toInt ≤ (σ'.1 a 16).toInt ∧ (σ'.1 a 16).toInt ≤ (σ'.1 a 9).toInt ∧ (σ'.1 a 9).toInt ≤ 900 ∧ 0 ≤ (σ'.1 a 14).toInt ∧ (σ'.1 a 14).toInt ≤ 4 ∧ (σ'.1 a 14).toInt ≤ 4 * ((σ'.1 a 16).toInt - (σ'.1 a 15).toInt) ∧ (σ'.1 a 14).toInt ≤ 4 * ((σ'.1 a 9).toInt - (σ'.1 a 15).toInt) ∧ 0 ≤ (σ'.1 a 12).toInt ∧ (σ'.1 a 9).toInt = (σ.1 a 9).toInt ∧ (σ.1 a 15).toInt ≤ (σ'.1 a 15).toInt ∧ (σ.1 a 12).toInt ≤ (σ'.1 a 12).toInt) ∧ ((σ.1 a 16).toInt ≤ (σ'.1 a 15).toInt + 1000 * (σ'.1 a 12).toInt ∧ 0 ≤ r.toInt ∧ r.toInt ≤ v2.toInt ∧ v1.toInt ≤ r.toInt + 10 * (σ'.1 a 12).toInt) ∧ (r, σ') = F_X12_count X σ a v1 v2 ∧ q_ow [(12, 12), (12, 13), (12, 14), (12, 15), (12, 16), (12, 17), (12, 18)] [(12, 19)] X σ σ')) ([.ref a, .int v1, .int v2] : List Value).toArray s 0 0 (q_reg X)) (F0 m 19 ls []) := by
    clear hF
    intro σ_2 H locs ls j19σ_2 ks_σ_2 fr_σ_2 hF hI hl
    try clear fr_σ
    unfold F_X12_count_J19_1 at hF
    refine lv_aload_n hx hb dX12_count_19 rfl (lv_at hl 0 rfl) ?_
    refine gs_X12_187_12 E hI ha dX12_count_20 ?_
    refine lv_topi (fun f_3 ef_3 => ?_)
    replace hF := q_letX hF ef_3
    have if_3 : f_3.toInt = (σ_2.1 a 12).toInt := congrArg Int32.toInt ef_3
    refine q_if_ne (A := f_3.toInt) E rfl (tgt := 50) dX12_count_23 (by decide) (fun c_4 => ?_) (fun c_4 => ?_)
    · skip
      replace hF := q_ifn hF c_4
      refine lv_aload_n hx hb dX12_count_50 rfl (lv_at hl 0 rfl) ?_
      refine gs_X12_187_12 E hI ha dX12_count_51 ?_
      refine lv_topi (fun f_5 ef_5 => ?_)
      replace hF := q_letX hF ef_5
      have if_5 : f_5.toInt = (σ_2.1 a 12).toInt := congrArg Int32.toInt ef_5
      refine q_if_le (A := f_5.toInt) E rfl (tgt := 59) dX12_count_54 (by decide) (fun c_6 => ?_) (fun c_6 => ?_)
      · skip
        replace hF := q_ifn hF (Int.not_lt.mpr c_6)
        refine lv_aload_n hx hb dX12_count_59 rfl (lv_at hl 0 rfl) ?_
        refine gs_X12_129_12 E hI ha dX12_count_60 ?_
        refine lv_topi (fun f_7 ef_7 => ?_)
        replace hF := q_letX hF ef_7
        have if_7 : f_7.toInt = (σ_2.1 a 17).toInt := congrArg Int32.toInt ef_7
        refine lv_istore_n (lv' := [(3, .int f_7), (0, .ref a), (1, .int v1), (2, .int v2)]) hx hb dX12_count_63 rfl hl (by decide) rfl (fun ls hl => ?_)
        refine lv_aload_n hx hb dX12_count_64 rfl (lv_at hl 1 rfl) ?_
        refine q_cv (q_rV11_0 (rest := []) E (hml.trans hl.1.symm) hI (c_X12_next l X σ_2 a ha (by first | (clear hv if_1 if_3 c_4 if_5 c_6 if_7; omega) | omega) (by first | (clear hs hv if_1 if_3 c_4 if_5 c_6 if_7; omega) | omega) (by first | (clear hv if_1 if_3 c_4 if_5 c_6 if_7; omega) | omega)) kv_X12_197 ha ⟨Nat.le_of_ble_eq_true rfl, Nat.le_of_ble_eq_true rfl⟩ (Nat.le_of_ble_eq_true rfl) dX12_count_65) hI (Nat.le_of_ble_eq_true rfl) (fun σ_9 H locs hpσ_9 hkσ_9 hI => ?_)
        have ahpσ_9 := hpσ_9.1
        have bhpσ_9 := hpσ_9.2.1
        have chpσ_9 := hpσ_9.2.2.1
        have dhpσ_9 := hpσ_9.2.2.2.1
        have ehpσ_9 := hpσ_9.2.2.2.2
        clear hpσ_9
        have fr_σ_9 := fr_σ_2.call ehpσ_9 rfl rfl
        replace hF := q_letX hF dhpσ_9
        have ks_σ_9 : q_KS (fun b g => b = a ∧ 12 ≤ g ∧ g ≤ 18) 9 X σ σ_9 := ks_σ_2.KS ahpσ_9 (by decide) (fun _ _ h => h)
        refine lv_iload_n hx hb dX12_count_68 rfl (lv_at hl 0 rfl) ?_
        exact q_reti E hr hlk hI ⟨ks_σ_9, (by first | (clear hv c_4 if_7 ahpσ_9 dhpσ_9 ehpσ_9; omega) | omega), (by first | (clear hs hv if_1 if_7 ahpσ_9 bhpσ_9 dhpσ_9 ehpσ_9; omega) | omega), (hF.trans hout), fr_σ_9⟩ dX12_count_69
      · skip
        replace hF := q_ifp hF c_6
        refine lv_iconst (v := 0) hx hb dX12_count_57 zki_0 ?_
        have hrv : (0 : Int32).toInt = 0 := zt_0
        exact q_reti E hr hlk hI ⟨ks_σ_2, (by first | (clear hv c_4 hrv; omega) | omega), (by first | (clear if_1 c_4; omega) | omega), (hF.trans hout), fr_σ_2⟩ dX12_count_58
    · skip
      replace hF := q_ifp hF c_4
      refine lv_aload_n hx hb dX12_count_26 rfl (lv_at hl 0 rfl) ?_
      refine gs_X12_129_12 E hI ha dX12_count_27 ?_
      refine lv_topi (fun f_10 ef_10 => ?_)
      replace hF := q_letX hF ef_10
      have if_10 : f_10.toInt = (σ_2.1 a 17).toInt := congrArg Int32.toInt ef_10
      refine lv_i2l hx hb dX12_count_30 rfl ?_
      refine lv_topl (fun y_11 ey_11 => ?_)
      replace hF := q_letX hF ey_11
      have ggy_11 := q_rng f_10
      have iy_11 : y_11.toInt = f_10.toInt := by rw [ey_11]; exact (q_i2l _).trans rfl
      refine lv_iload_n hx hb dX12_count_31 rfl (lv_at hl 1 rfl) ?_
      refine lv_i2l hx hb dX12_count_32 rfl ?_
      refine lv_topl (fun y_12 ey_12 => ?_)
      replace hF := q_letX hF ey_12
      have ggy_12 := q_rng v1
      have iy_12 : y_12.toInt = v1.toInt := by rw [ey_12]; exact (q_i2l _).trans rfl
      refine lv_iload_n hx hb dX12_count_33 rfl (lv_at hl 2 rfl) ?_
      refine lv_i2l hx hb dX12_count_34 rfl ?_
      refine lv_topl (fun y_13 ey_13 => ?_)
      replace hF := q_letX hF ey_13
      have ggy_13 := q_rng v2
      have iy_13 : y_13.toInt = v2.toInt := by rw [ey_13]; exact (q_i2l _).trans rfl
      refine q_ci (q_runS (As := [.long y_11, .long y_12, .long y_13]) (rest := []) E (hml.trans hl.1.symm) hI (c_X12_isIn l X σ_2 y_11 y_12 y_13) ks_X12_94 rfl ⟨Nat.le_of_ble_eq_true rfl, Nat.le_of_ble_eq_true rfl⟩ ⟨Nat.le_refl _, Nat.le_refl _⟩ rfl (Nat.le_of_ble_eq_true rfl) dX12_count_35) hI (Nat.le_of_ble_eq_true rfl) (fun r_14 σ_15 H locs hpσ_15 hkσ_15 hI => ?_)
      have ahpσ_15 := hpσ_15.1
      have bhpσ_15 := hpσ_15.2.1
      have chpσ_15 := hpσ_15.2.2.1
      have dhpσ_15 := hpσ_15.2.2.2
      clear hpσ_15
      replace hI := q_Irw ahpσ_15 hI
      replace hF := q_letX hF dhpσ_15
      refine q_if_ne (A := r_14.toInt) E rfl (tgt := 50) dX12_count_38 (by decide) (fun c_16 => ?_) (fun c_16 => ?_)
      · skip
        replace hF := q_ifn hF c_16
        replace c_16 := q_ifOne bhpσ_15 c_16
        replace chpσ_15 := q_ifYes chpσ_15 c_16
        refine lv_aload_n hx hb dX12_count_50 rfl (lv_at hl 0 rfl) ?_
        refine gs_X12_187_12 E hI ha dX12_count_51 ?_
        refine lv_topi (fun f_17 ef_17 => ?_)
        replace hF := q_letX hF ef_17
        have if_17 : f_17.toInt = (σ_2.1 a 12).toInt := congrArg Int32.toInt ef_17
        refine q_if_le (A := f_17.toInt) E rfl (tgt := 59) dX12_count_54 (by decide) (fun c_18 => ?_) (fun c_18 => ?_)
        · skip
          replace hF := q_ifn hF (Int.not_lt.mpr c_18)
          refine lv_aload_n hx hb dX12_count_59 rfl (lv_at hl 0 rfl) ?_
          refine gs_X12_129_12 E hI ha dX12_count_60 ?_
          refine lv_topi (fun f_19 ef_19 => ?_)
          replace hF := q_letX hF ef_19
          have if_19 : f_19.toInt = (σ_2.1 a 17).toInt := congrArg Int32.toInt ef_19
          refine lv_istore_n (lv' := [(3, .int f_19), (0, .ref a), (1, .int v1), (2, .int v2)]) hx hb dX12_count_63 rfl hl (by decide) rfl (fun ls hl => ?_)
          refine lv_aload_n hx hb dX12_count_64 rfl (lv_at hl 1 rfl) ?_
          refine q_cv (q_rV11_0 (rest := []) E (hml.trans hl.1.symm) hI (c_X12_next l X σ_2 a ha (by first | (clear hv if_1 if_3 c_4 if_10 ggy_11 iy_11 ggy_12 iy_12 ggy_13 iy_13 ahpσ_15 bhpσ_15 dhpσ_15 c_16 chpσ_15 if_17 c_18 if_19; omega) | omega) (by first | (clear hs hv if_1 if_3 c_4 if_10 ggy_11 iy_11 ggy_12 iy_12 ggy_13 iy_13 ahpσ_15 bhpσ_15 dhpσ_15 c_16 chpσ_15 if_17 c_18 if_19; omega) | omega) (by first | (clear hv if_1 if_3 c_4 if_10 ggy_11 iy_11 ggy_12 iy_12 ggy_13 iy_13 ahpσ_15 bhpσ_15 dhpσ_15 c_16 chpσ_15 if_17 c_18 if_19; omega) | omega)) kv_X12_197 ha ⟨Nat.le_of_ble_eq_true rfl, Nat.le_of_ble_eq_true rfl⟩ (Nat.le_of_ble_eq_true rfl) dX12_count_65) hI (Nat.le_of_ble_eq_true rfl) (fun σ_21 H locs hpσ_21 hkσ_21 hI => ?_)
          have ahpσ_21 := hpσ_21.1
          have bhpσ_21 := hpσ_21.2.1
          have chpσ_21 := hpσ_21.2.2.1
          have dhpσ_21 := hpσ_21.2.2.2.1
          have ehpσ_21 := hpσ_21.2.2.2.2
          clear hpσ_21
          have fr_σ_21 := fr_σ_2.call ehpσ_21 rfl rfl
          replace hF := q_letX hF dhpσ_21
          have ks_σ_21 : q_KS (fun b g => b = a ∧ 12 ≤ g ∧ g ≤ 18) 9 X σ σ_21 := ks_σ_2.KS ahpσ_21 (by decide) (fun _ _ h => h)
          refine lv_iload_n hx hb dX12_count_68 rfl (lv_at hl 0 rfl) ?_
          exact q_reti E hr hlk hI ⟨ks_σ_21, (by first | (clear hv if_10 ggy_11 iy_11 ggy_12 iy_12 ggy_13 iy_13 ahpσ_15 bhpσ_15 dhpσ_15 c_16 chpσ_15 if_17 c_18 if_19 ahpσ_21 dhpσ_21 ehpσ_21; omega) | omega), (by first | (clear hs if_1 ggy_12 ggy_13 ahpσ_15 bhpσ_15 dhpσ_15 c_16 if_17 c_18 ahpσ_21 bhpσ_21 dhpσ_21 ehpσ_21; omega) | omega), (hF.trans hout), fr_σ_21⟩ dX12_count_69
        · skip
          replace hF := q_ifp hF c_18
          refine lv_iconst (v := 0) hx hb dX12_count_57 zki_0 ?_
          have hrv : (0 : Int32).toInt = 0 := zt_0
          exact q_reti E hr hlk hI ⟨ks_σ_2, (by first | (clear hs hv if_1 j19σ_2 if_10 ggy_11 iy_11 ggy_12 iy_12 ggy_13 iy_13 ahpσ_15 bhpσ_15 dhpσ_15 c_16 chpσ_15 hrv; omega) | omega), (by first | (clear hs hv if_1 j19σ_2 if_10 ggy_11 iy_11 ggy_12 iy_12 ggy_13 iy_13 ahpσ_15 bhpσ_15 dhpσ_15 c_16 chpσ_15 hrv; omega) | omega), (hF.trans hout), fr_σ_2⟩ dX12_count_58
      · skip
        replace hF := q_ifp hF c_16
        replace chpσ_15 := q_ifNo chpσ_15 c_16
        refine lv_aload_n hx hb dX12_count_41 rfl (lv_at hl 0 rfl) ?_
        refine lv_iconst (v := 4) hx hb dX12_count_42 zki_4 ?_
        refine lv_aload_n hx hb dX12_count_43 rfl (lv_at hl 0 rfl) ?_
        refine gs_X12_104_12 E hI ha dX12_count_44 ?_
        refine lv_topi (fun f_22 ef_22 => ?_)
        replace hF := q_letX hF ef_22
        have if_22 : f_22.toInt = (σ_2.1 a 15).toInt := congrArg Int32.toInt ef_22
        have kc_23 : (4 : Int32).toInt = 4 := zt_4
        refine q_cv (q_rV11_2 (rest := []) E (hml.trans hl.1.symm) hI (c_X12_fail l X σ_2 a (4 : Int32) f_22 ha (by first | (clear hs hv if_1 j19σ_2 if_10 ggy_11 iy_11 ggy_12 iy_12 ggy_13 iy_13 ahpσ_15 bhpσ_15 dhpσ_15 c_16 chpσ_15 if_22 kc_23; omega) | omega) (by first | (clear hs hv if_1 j19σ_2 if_3 c_4 if_10 ggy_11 iy_11 ggy_12 iy_12 ggy_13 iy_13 ahpσ_15 bhpσ_15 dhpσ_15 c_16 chpσ_15 if_22; omega) | omega)) kv_X12_193 ha ⟨Nat.le_of_ble_eq_true rfl, Nat.le_of_ble_eq_true rfl⟩ (Nat.le_of_ble_eq_true rfl) dX12_count_47) hI (Nat.le_of_ble_eq_true rfl) (fun σ_25 H locs hpσ_25 hkσ_25 hI => ?_)
        have ahpσ_25 := hpσ_25.1
        have bhpσ_25 := hpσ_25.2.1
        have chpσ_25 := hpσ_25.2.2.1
        have dhpσ_25 := hpσ_25.2.2.2.1
        have ehpσ_25 := hpσ_25.2.2.2.2
        clear hpσ_25
        have fr_σ_25 := fr_σ_2.call ehpσ_25 rfl rfl
        replace hF := q_letX hF dhpσ_25
        have ks_σ_25 : q_KS (fun b g => b = a ∧ 12 ≤ g ∧ g ≤ 18) 9 X σ σ_25 := ks_σ_2.KS ahpσ_25 (by decide) (fun _ _ h => h)
        refine lv_aload_n hx hb dX12_count_50 rfl (lv_at hl 0 rfl) ?_
        refine gs_X12_187_12 E hI ha dX12_count_51 ?_
        refine lv_topi (fun f_26 ef_26 => ?_)
        replace hF := q_letX hF ef_26
        have if_26 : f_26.toInt = (σ_25.1 a 12).toInt := congrArg Int32.toInt ef_26
        refine q_if_le (A := f_26.toInt) E rfl (tgt := 59) dX12_count_54 (by decide) (fun c_27 => ?_) (fun c_27 => ?_)
        · skip
          replace hF := q_ifn hF (Int.not_lt.mpr c_27)
          refine lv_aload_n hx hb dX12_count_59 rfl (lv_at hl 0 rfl) ?_
          refine gs_X12_129_12 E hI ha dX12_count_60 ?_
          refine lv_topi (fun f_28 ef_28 => ?_)
          replace hF := q_letX hF ef_28
          have if_28 : f_28.toInt = (σ_25.1 a 17).toInt := congrArg Int32.toInt ef_28
          refine lv_istore_n (lv' := [(3, .int f_28), (0, .ref a), (1, .int v1), (2, .int v2)]) hx hb dX12_count_63 rfl hl (by decide) rfl (fun ls hl => ?_)
          refine lv_aload_n hx hb dX12_count_64 rfl (lv_at hl 1 rfl) ?_
          refine q_cv (q_rV11_0 (rest := []) E (hml.trans hl.1.symm) hI (c_X12_next l X σ_25 a ha (by first | (clear hs hv if_1 j19σ_2 if_3 c_4 if_10 ggy_11 iy_11 ggy_12 iy_12 ggy_13 iy_13 ahpσ_15 bhpσ_15 dhpσ_15 c_16 chpσ_15 if_22 kc_23 ahpσ_25 bhpσ_25 dhpσ_25 ehpσ_25 if_28; omega) | omega) (by first | (clear hs hv if_1 j19σ_2 if_3 c_4 if_10 ggy_11 iy_11 ggy_12 iy_12 ggy_13 iy_13 ahpσ_15 bhpσ_15 dhpσ_15 c_16 chpσ_15 if_22 kc_23 ahpσ_25 bhpσ_25 dhpσ_25 ehpσ_25 if_28; omega) | omega) (by first | (clear hs hv if_1 j19σ_2 if_3 c_4 if_10 ggy_11 iy_11 ggy_12 iy_12 ggy_13 iy_13 ahpσ_15 bhpσ_15 dhpσ_15 c_16 chpσ_15 if_22 kc_23 ahpσ_25 bhpσ_25 dhpσ_25 ehpσ_25 if_28; omega) | omega)) kv_X12_197 ha ⟨Nat.le_of_ble_eq_true rfl, Nat.le_of_ble_eq_true rfl⟩ (Nat.le_of_ble_eq_true rfl) dX12_count_65) hI (Nat.le_of_ble_eq_true rfl) (fun σ_30 H locs hpσ_30 hkσ_30 hI => ?_)
          have ahpσ_30 := hpσ_30.1
          have bhpσ_30 := hpσ_30.2.1
          have chpσ_30 := hpσ_30.2.2.1
          have dhpσ_30 := hpσ_30.2.2.2.1
          have ehpσ_30 := hpσ_30.2.2.2.2
          clear hpσ_30
          have fr_σ_30 := fr_σ_25.call ehpσ_30 rfl rfl
          replace hF := q_letX hF dhpσ_30
          have ks_σ_30 : q_KS (fun b g => b = a ∧ 12 ≤ g ∧ g ≤ 18) 9 X σ σ_30 := ks_σ_25.KS ahpσ_30 (by decide) (fun _ _ h => h)
          refine lv_iload_n hx hb dX12_count_68 rfl (lv_at hl 0 rfl) ?_
          exact q_reti E hr hlk hI ⟨ks_σ_30, (by first | (clear hs hv if_1 j19σ_2 if_3 c_4 if_10 ggy_11 iy_11 ggy_12 iy_12 ggy_13 iy_13 ahpσ_15 bhpσ_15 dhpσ_15 c_16 chpσ_15 if_22 kc_23 ahpσ_25 bhpσ_25 dhpσ_25 ehpσ_25 if_28 ahpσ_30 bhpσ_30 chpσ_30 dhpσ_30 ehpσ_30; omega) | omega), (by first | (clear hs hv if_1 j19σ_2 if_3 c_4 if_10 ggy_11 iy_11 ggy_12 iy_12 ggy_13 iy_13 ahpσ_15 bhpσ_15 dhpσ_15 c_16 chpσ_15 if_22 kc_23 ahpσ_25 bhpσ_25 dhpσ_25 ehpσ_25 if_28 ahpσ_30 bhpσ_30 chpσ_30 dhpσ_30 ehpσ_30; omega) | omega), (hF.trans hout), fr_σ_30⟩ dX12_count_69
        · skip
          replace hF := q_ifp hF c_27
          refine lv_iconst (v := 0) hx hb dX12_count_57 zki_0 ?_
          have hrv : (0 : Int32).toInt = 0 := zt_0
          exact q_reti E hr hlk hI ⟨ks_σ_25, (by first | (clear hv if_10 ggy_11 iy_11 ggy_12 iy_12 ggy_13 iy_13 ahpσ_15 bhpσ_15 dhpσ_15 c_16 chpσ_15 kc_23 ahpσ_25 dhpσ_25 ehpσ_25 c_27 hrv; omega) | omega), (by first | (clear if_1 if_3 c_4 if_10 ggy_11 iy_11 ggy_12 ahpσ_15 bhpσ_15 dhpσ_15 c_16 chpσ_15 kc_23 ahpσ_25 dhpσ_25 ehpσ_25 c_27; omega) | omega), (hF.trans hout), fr_σ_25⟩ dX12_count_58
  refine q_if_ne (A := f_1.toInt) E rfl (tgt := 19) dX12_count_4 (by decide) (fun c_31 => ?_) (fun c_31 => ?_)
  · skip
    replace hF := q_ifn hF c_31
    exact J_19_2 σ _ _ ls (by first | (clear hv c_31; omega) | omega) ks_σ fr_σ hF hI (lv_sub hl [0, 1, 2] rfl)
  · skip
    replace hF := q_ifp hF c_31
    refine lv_aload_n hx hb dX12_count_7 rfl (lv_at hl 0 rfl) ?_
    refine gs_X12_110_12 E hI ha dX12_count_8 ?_
    refine lv_topi (fun f_32 ef_32 => ?_)
    replace hF := q_letX hF ef_32
    have if_32 : f_32.toInt = (σ.1 a 14).toInt := congrArg Int32.toInt ef_32
    refine lv_iconst (v := 2) hx hb dX12_count_11 zki_2 ?_
    refine q_icmp_eq (A := f_32.toInt) (B := 2) E rfl (by decide) (tgt := 19) dX12_count_12 (by decide) (fun c_33 => ?_) (fun c_33 => ?_)
    · skip
      replace hF := q_ifp hF c_33
      exact J_19_2 σ _ _ ls (by first | (clear hv; omega) | omega) ks_σ fr_σ hF hI (lv_sub hl [0, 1, 2] rfl)
    · skip
      replace hF := q_ifn hF c_33
      refine lv_aload_n hx hb dX12_count_15 rfl (lv_at hl 0 rfl) ?_
      refine q_cv (q_rV11_0 (rest := []) E (hml.trans hl.1.symm) hI (c_X12_wrong l X σ a ha (by first | (clear hs hv if_32 c_33; omega) | omega)) kv_X12_200 ha ⟨Nat.le_of_ble_eq_true rfl, Nat.le_of_ble_eq_true rfl⟩ (Nat.le_of_ble_eq_true rfl) dX12_count_16) hI (Nat.le_of_ble_eq_true rfl) (fun σ_35 H locs hpσ_35 hkσ_35 hI => ?_)
      have ahpσ_35 := hpσ_35.1
      have bhpσ_35 := hpσ_35.2.1
      have chpσ_35 := hpσ_35.2.2.1
      have dhpσ_35 := hpσ_35.2.2.2.1
      have ehpσ_35 := hpσ_35.2.2.2.2
      clear hpσ_35
      have fr_σ_35 := fr_σ.call ehpσ_35 rfl rfl
      replace hF := q_letX hF dhpσ_35
      have ks_σ_35 : q_KS (fun b g => b = a ∧ 12 ≤ g ∧ g ≤ 18) 9 X σ σ_35 := ks_σ.KS ahpσ_35 (by decide) (fun _ _ h => h)
      exact J_19_2 σ_35 _ _ ls (by first | (clear hv c_33 ahpσ_35 dhpσ_35 ehpσ_35; omega) | omega) ks_σ_35 fr_σ_35 hF hI (lv_sub hl [0, 1, 2] rfl)

set_option maxRecDepth 100000 in
set_option maxHeartbeats 4000000 in
theorem c_X12_spelled (l : Launch) (X : XW) (σ : ST) (v0 : Int32) (v1 : Int32) (v2 : Int32) (v3 : Int32) (v4 : Int32) (v5 : Int32) : Met l yX12_spelled (q_ws yX12_spelled cX12_spelled 8 (some .long)) (q_rm 0 0) (q_P X σ [.int v0, .int v1, .int v2, .int v3, .int v4, .int v5]) (q_Ql X 9 σ (fun (r : Int64) (σ' : ST) => σ' = σ ∧ r = F_X12_spelled X σ v0 v1 v2 v3 v4 v5)) 0 0 (q_reg X) := by
  refine q_met 9 (by first | exact rfl | decide +kernel) rfl (Nat.le_of_ble_eq_true rfl) (fun p e s m below meth c E hml hr hlk hI ls hl => ?_)
  have hx := E.1
  have hb := E.2.1
  have hl : lv_has ls 8 [(0, .int v0), (1, .int v1), (2, .int v2), (3, .int v3), (4, .int v4), (5, .int v5)] := hl
  obtain ⟨out, hout⟩ : ∃ o, o = F_X12_spelled X σ v0 v1 v2 v3 v4 v5 := ⟨_, rfl⟩
  have hF := hout.symm
  unfold F_X12_spelled at hF
  refine lv_iload_n hx hb dX12_spelled_0 rfl (lv_at hl 0 rfl) ?_
  refine lv_i2l hx hb dX12_spelled_1 rfl ?_
  refine lv_topl (fun y_1 ey_1 => ?_)
  replace hF := q_letX hF ey_1
  refine lv_ldc2 (v := 96) hx hb E.2.2.1 (E.2.2.2.1 _ (q_in_t7 (i := 200) (by first | rfl | decide +kernel) rfl)) dX12_spelled_2 ?_
  refine lv_lsub hx hb dX12_spelled_5 ?_
  refine lv_topl (fun y_2 ey_2 => ?_)
  replace hF := q_letX hF ey_2
  refine lv_ldc2 (v := 32) hx hb E.2.2.1 (E.2.2.2.1 _ (q_in_t7 (i := 199) (by first | rfl | decide +kernel) rfl)) dX12_spelled_6 ?_
  refine lv_lmul hx hb dX12_spelled_9 ?_
  refine lv_topl (fun y_3 ey_3 => ?_)
  replace hF := q_letX hF ey_3
  refine lv_iload_n hx hb dX12_spelled_10 rfl (lv_at hl 1 rfl) ?_
  refine lv_i2l hx hb dX12_spelled_11 rfl ?_
  refine lv_topl (fun y_4 ey_4 => ?_)
  replace hF := q_letX hF ey_4
  refine lv_ladd hx hb dX12_spelled_12 ?_
  refine lv_topl (fun y_5 ey_5 => ?_)
  replace hF := q_letX hF ey_5
  refine lv_ldc2 (v := 96) hx hb E.2.2.1 (E.2.2.2.1 _ (q_in_t7 (i := 200) (by first | rfl | decide +kernel) rfl)) dX12_spelled_13 ?_
  refine lv_lsub hx hb dX12_spelled_16 ?_
  refine lv_topl (fun y_6 ey_6 => ?_)
  replace hF := q_letX hF ey_6
  refine lv_lstore (lv' := [(6, .long y_6), (0, .int v0), (1, .int v1), (2, .int v2), (3, .int v3), (4, .int v4), (5, .int v5)]) hx hb dX12_spelled_17 hl (by decide) rfl (fun ls hl => ?_)
  refine lv_iload_n hx hb dX12_spelled_19 rfl (lv_at hl 3 rfl) ?_
  refine q_if_le (A := v2.toInt) E rfl (tgt := 39) dX12_spelled_20 (by decide) (fun c_7 => ?_) (fun c_7 => ?_)
  · skip
    replace hF := q_ifn hF (Int.not_lt.mpr c_7)
    refine lv_lload hx hb dX12_spelled_39 (lv_at hl 0 rfl) ?_
    refine lv_lstore (lv' := [(6, .long y_6), (0, .int v0), (1, .int v1), (2, .int v2), (3, .int v3), (4, .int v4), (5, .int v5)]) hx hb dX12_spelled_41 hl (by decide) rfl (fun ls hl => ?_)
    refine lv_iload_n hx hb dX12_spelled_43 rfl (lv_at hl 4 rfl) ?_
    refine q_if_le (A := v3.toInt) E rfl (tgt := 63) dX12_spelled_44 (by decide) (fun c_8 => ?_) (fun c_8 => ?_)
    · skip
      replace hF := q_ifn hF (Int.not_lt.mpr c_8)
      refine lv_lload hx hb dX12_spelled_63 (lv_at hl 0 rfl) ?_
      refine lv_lstore (lv' := [(6, .long y_6), (0, .int v0), (1, .int v1), (2, .int v2), (3, .int v3), (4, .int v4), (5, .int v5)]) hx hb dX12_spelled_65 hl (by decide) rfl (fun ls hl => ?_)
      refine lv_iload hx hb dX12_spelled_67 (lv_at hl 5 rfl) ?_
      refine q_if_le (A := v4.toInt) E rfl (tgt := 89) dX12_spelled_69 (by decide) (fun c_9 => ?_) (fun c_9 => ?_)
      · skip
        replace hF := q_ifn hF (Int.not_lt.mpr c_9)
        refine lv_lload hx hb dX12_spelled_89 (lv_at hl 0 rfl) ?_
        refine lv_lstore (lv' := [(6, .long y_6), (0, .int v0), (1, .int v1), (2, .int v2), (3, .int v3), (4, .int v4), (5, .int v5)]) hx hb dX12_spelled_91 hl (by decide) rfl (fun ls hl => ?_)
        refine lv_iload hx hb dX12_spelled_93 (lv_at hl 6 rfl) ?_
        refine q_if_le (A := v5.toInt) E rfl (tgt := 115) dX12_spelled_95 (by decide) (fun c_10 => ?_) (fun c_10 => ?_)
        · skip
          replace hF := q_ifn hF (Int.not_lt.mpr c_10)
          refine lv_lload hx hb dX12_spelled_115 (lv_at hl 0 rfl) ?_
          exact q_retl E hr hlk hI ⟨rfl, (hF.trans hout)⟩ dX12_spelled_117
        · skip
          replace hF := q_ifp hF c_10
          refine lv_lload hx hb dX12_spelled_98 (lv_at hl 0 rfl) ?_
          refine lv_ldc2 (v := 32) hx hb E.2.2.1 (E.2.2.2.1 _ (q_in_t7 (i := 199) (by first | rfl | decide +kernel) rfl)) dX12_spelled_100 ?_
          refine lv_lmul hx hb dX12_spelled_103 ?_
          refine lv_topl (fun y_11 ey_11 => ?_)
          replace hF := q_letX hF ey_11
          refine lv_iload hx hb dX12_spelled_104 (lv_at hl 6 rfl) ?_
          refine lv_i2l hx hb dX12_spelled_106 rfl ?_
          refine lv_topl (fun y_12 ey_12 => ?_)
          replace hF := q_letX hF ey_12
          refine lv_ladd hx hb dX12_spelled_107 ?_
          refine lv_topl (fun y_13 ey_13 => ?_)
          replace hF := q_letX hF ey_13
          refine lv_ldc2 (v := 96) hx hb E.2.2.1 (E.2.2.2.1 _ (q_in_t7 (i := 200) (by first | rfl | decide +kernel) rfl)) dX12_spelled_108 ?_
          refine lv_lsub hx hb dX12_spelled_111 ?_
          refine lv_topl (fun y_14 ey_14 => ?_)
          replace hF := q_letX hF ey_14
          refine lv_goto (tgt := 117) hx hb dX12_spelled_112 (by decide) ?_
          exact q_retl E hr hlk hI ⟨rfl, (hF.trans hout)⟩ dX12_spelled_117
      · skip
        replace hF := q_ifp hF c_9
        refine lv_lload hx hb dX12_spelled_72 (lv_at hl 0 rfl) ?_
        refine lv_ldc2 (v := 32) hx hb E.2.2.1 (E.2.2.2.1 _ (q_in_t7 (i := 199) (by first | rfl | decide +kernel) rfl)) dX12_spelled_74 ?_
        refine lv_lmul hx hb dX12_spelled_77 ?_
        refine lv_topl (fun y_15 ey_15 => ?_)
        replace hF := q_letX hF ey_15
        refine lv_iload hx hb dX12_spelled_78 (lv_at hl 5 rfl) ?_
        refine lv_i2l hx hb dX12_spelled_80 rfl ?_
        refine lv_topl (fun y_16 ey_16 => ?_)
        replace hF := q_letX hF ey_16
        refine lv_ladd hx hb dX12_spelled_81 ?_
        refine lv_topl (fun y_17 ey_17 => ?_)
        replace hF := q_letX hF ey_17
        refine lv_ldc2 (v := 96) hx hb E.2.2.1 (E.2.2.2.1 _ (q_in_t7 (i := 200) (by first | rfl | decide +kernel) rfl)) dX12_spelled_82 ?_
        refine lv_lsub hx hb dX12_spelled_85 ?_
        refine lv_topl (fun y_18 ey_18 => ?_)
        replace hF := q_letX hF ey_18
        refine lv_goto (tgt := 91) hx hb dX12_spelled_86 (by decide) ?_
        refine lv_lstore (lv' := [(6, .long y_18), (0, .int v0), (1, .int v1), (2, .int v2), (3, .int v3), (4, .int v4), (5, .int v5)]) hx hb dX12_spelled_91 hl (by decide) rfl (fun ls hl => ?_)
        refine lv_iload hx hb dX12_spelled_93 (lv_at hl 6 rfl) ?_
        refine q_if_le (A := v5.toInt) E rfl (tgt := 115) dX12_spelled_95 (by decide) (fun c_19 => ?_) (fun c_19 => ?_)
        · skip
          replace hF := q_ifn hF (Int.not_lt.mpr c_19)
          refine lv_lload hx hb dX12_spelled_115 (lv_at hl 0 rfl) ?_
          exact q_retl E hr hlk hI ⟨rfl, (hF.trans hout)⟩ dX12_spelled_117
        · skip
          replace hF := q_ifp hF c_19
          refine lv_lload hx hb dX12_spelled_98 (lv_at hl 0 rfl) ?_
          refine lv_ldc2 (v := 32) hx hb E.2.2.1 (E.2.2.2.1 _ (q_in_t7 (i := 199) (by first | rfl | decide +kernel) rfl)) dX12_spelled_100 ?_
          refine lv_lmul hx hb dX12_spelled_103 ?_
          refine lv_topl (fun y_20 ey_20 => ?_)
          replace hF := q_letX hF ey_20
          refine lv_iload hx hb dX12_spelled_104 (lv_at hl 6 rfl) ?_
          refine lv_i2l hx hb dX12_spelled_106 rfl ?_
          refine lv_topl (fun y_21 ey_21 => ?_)
          replace hF := q_letX hF ey_21
          refine lv_ladd hx hb dX12_spelled_107 ?_
          refine lv_topl (fun y_22 ey_22 => ?_)
          replace hF := q_letX hF ey_22
          refine lv_ldc2 (v := 96) hx hb E.2.2.1 (E.2.2.2.1 _ (q_in_t7 (i := 200) (by first | rfl | decide +kernel) rfl)) dX12_spelled_108 ?_
          refine lv_lsub hx hb dX12_spelled_111 ?_
          refine lv_topl (fun y_23 ey_23 => ?_)
          replace hF := q_letX hF ey_23
          refine lv_goto (tgt := 117) hx hb dX12_spelled_112 (by decide) ?_
          exact q_retl E hr hlk hI ⟨rfl, (hF.trans hout)⟩ dX12_spelled_117
    · skip
      replace hF := q_ifp hF c_8
      refine lv_lload hx hb dX12_spelled_47 (lv_at hl 0 rfl) ?_
      refine lv_ldc2 (v := 32) hx hb E.2.2.1 (E.2.2.2.1 _ (q_in_t7 (i := 199) (by first | rfl | decide +kernel) rfl)) dX12_spelled_49 ?_
      refine lv_lmul hx hb dX12_spelled_52 ?_
      refine lv_topl (fun y_24 ey_24 => ?_)
      replace hF := q_letX hF ey_24
      refine lv_iload_n hx hb dX12_spelled_53 rfl (lv_at hl 4 rfl) ?_
      refine lv_i2l hx hb dX12_spelled_54 rfl ?_
      refine lv_topl (fun y_25 ey_25 => ?_)
      replace hF := q_letX hF ey_25
      refine lv_ladd hx hb dX12_spelled_55 ?_
      refine lv_topl (fun y_26 ey_26 => ?_)
      replace hF := q_letX hF ey_26
      refine lv_ldc2 (v := 96) hx hb E.2.2.1 (E.2.2.2.1 _ (q_in_t7 (i := 200) (by first | rfl | decide +kernel) rfl)) dX12_spelled_56 ?_
      refine lv_lsub hx hb dX12_spelled_59 ?_
      refine lv_topl (fun y_27 ey_27 => ?_)
      replace hF := q_letX hF ey_27
      refine lv_goto (tgt := 65) hx hb dX12_spelled_60 (by decide) ?_
      refine lv_lstore (lv' := [(6, .long y_27), (0, .int v0), (1, .int v1), (2, .int v2), (3, .int v3), (4, .int v4), (5, .int v5)]) hx hb dX12_spelled_65 hl (by decide) rfl (fun ls hl => ?_)
      refine lv_iload hx hb dX12_spelled_67 (lv_at hl 5 rfl) ?_
      refine q_if_le (A := v4.toInt) E rfl (tgt := 89) dX12_spelled_69 (by decide) (fun c_28 => ?_) (fun c_28 => ?_)
      · skip
        replace hF := q_ifn hF (Int.not_lt.mpr c_28)
        refine lv_lload hx hb dX12_spelled_89 (lv_at hl 0 rfl) ?_
        refine lv_lstore (lv' := [(6, .long y_27), (0, .int v0), (1, .int v1), (2, .int v2), (3, .int v3), (4, .int v4), (5, .int v5)]) hx hb dX12_spelled_91 hl (by decide) rfl (fun ls hl => ?_)
        refine lv_iload hx hb dX12_spelled_93 (lv_at hl 6 rfl) ?_
        refine q_if_le (A := v5.toInt) E rfl (tgt := 115) dX12_spelled_95 (by decide) (fun c_29 => ?_) (fun c_29 => ?_)
        · skip
          replace hF := q_ifn hF (Int.not_lt.mpr c_29)
          refine lv_lload hx hb dX12_spelled_115 (lv_at hl 0 rfl) ?_
          exact q_retl E hr hlk hI ⟨rfl, (hF.trans hout)⟩ dX12_spelled_117
        · skip
          replace hF := q_ifp hF c_29
          refine lv_lload hx hb dX12_spelled_98 (lv_at hl 0 rfl) ?_
          refine lv_ldc2 (v := 32) hx hb E.2.2.1 (E.2.2.2.1 _ (q_in_t7 (i := 199) (by first | rfl | decide +kernel) rfl)) dX12_spelled_100 ?_
          refine lv_lmul hx hb dX12_spelled_103 ?_
          refine lv_topl (fun y_30 ey_30 => ?_)
          replace hF := q_letX hF ey_30
          refine lv_iload hx hb dX12_spelled_104 (lv_at hl 6 rfl) ?_
          refine lv_i2l hx hb dX12_spelled_106 rfl ?_
          refine lv_topl (fun y_31 ey_31 => ?_)
          replace hF := q_letX hF ey_31
          refine lv_ladd hx hb dX12_spelled_107 ?_
          refine lv_topl (fun y_32 ey_32 => ?_)
          replace hF := q_letX hF ey_32
          refine lv_ldc2 (v := 96) hx hb E.2.2.1 (E.2.2.2.1 _ (q_in_t7 (i := 200) (by first | rfl | decide +kernel) rfl)) dX12_spelled_108 ?_
          refine lv_lsub hx hb dX12_spelled_111 ?_
          refine lv_topl (fun y_33 ey_33 => ?_)
          replace hF := q_letX hF ey_33
          refine lv_goto (tgt := 117) hx hb dX12_spelled_112 (by decide) ?_
          exact q_retl E hr hlk hI ⟨rfl, (hF.trans hout)⟩ dX12_spelled_117
      · skip
        replace hF := q_ifp hF c_28
        refine lv_lload hx hb dX12_spelled_72 (lv_at hl 0 rfl) ?_
        refine lv_ldc2 (v := 32) hx hb E.2.2.1 (E.2.2.2.1 _ (q_in_t7 (i := 199) (by first | rfl | decide +kernel) rfl)) dX12_spelled_74 ?_
        refine lv_lmul hx hb dX12_spelled_77 ?_
        refine lv_topl (fun y_34 ey_34 => ?_)
        replace hF := q_letX hF ey_34
        refine lv_iload hx hb dX12_spelled_78 (lv_at hl 5 rfl) ?_
        refine lv_i2l hx hb dX12_spelled_80 rfl ?_
        refine lv_topl (fun y_35 ey_35 => ?_)
        replace hF := q_letX hF ey_35
        refine lv_ladd hx hb dX12_spelled_81 ?_
        refine lv_topl (fun y_36 ey_36 => ?_)
        replace hF := q_letX hF ey_36
        refine lv_ldc2 (v := 96) hx hb E.2.2.1 (E.2.2.2.1 _ (q_in_t7 (i := 200) (by first | rfl | decide +kernel) rfl)) dX12_spelled_82 ?_
        refine lv_lsub hx hb dX12_spelled_85 ?_
        refine lv_topl (fun y_37 ey_37 => ?_)
        replace hF := q_letX hF ey_37
        refine lv_goto (tgt := 91) hx hb dX12_spelled_86 (by decide) ?_
        refine lv_lstore (lv' := [(6, .long y_37), (0, .int v0), (1, .int v1), (2, .int v2), (3, .int v3), (4, .int v4), (5, .int v5)]) hx hb dX12_spelled_91 hl (by decide) rfl (fun ls hl => ?_)
        refine lv_iload hx hb dX12_spelled_93 (lv_at hl 6 rfl) ?_
        refine q_if_le (A := v5.toInt) E rfl (tgt := 115) dX12_spelled_95 (by decide) (fun c_38 => ?_) (fun c_38 => ?_)
        · skip
          replace hF := q_ifn hF (Int.not_lt.mpr c_38)
          refine lv_lload hx hb dX12_spelled_115 (lv_at hl 0 rfl) ?_
          exact q_retl E hr hlk hI ⟨rfl, (hF.trans hout)⟩ dX12_spelled_117
        · skip
          replace hF := q_ifp hF c_38
          refine lv_lload hx hb dX12_spelled_98 (lv_at hl 0 rfl) ?_
          refine lv_ldc2 (v := 32) hx hb E.2.2.1 (E.2.2.2.1 _ (q_in_t7 (i := 199) (by first | rfl | decide +kernel) rfl)) dX12_spelled_100 ?_
          refine lv_lmul hx hb dX12_spelled_103 ?_
          refine lv_topl (fun y_39 ey_39 => ?_)
          replace hF := q_letX hF ey_39
          refine lv_iload hx hb dX12_spelled_104 (lv_at hl 6 rfl) ?_
          refine lv_i2l hx hb dX12_spelled_106 rfl ?_
          refine lv_topl (fun y_40 ey_40 => ?_)
          replace hF := q_letX hF ey_40
          refine lv_ladd hx hb dX12_spelled_107 ?_
          refine lv_topl (fun y_41 ey_41 => ?_)
          replace hF := q_letX hF ey_41
          refine lv_ldc2 (v := 96) hx hb E.2.2.1 (E.2.2.2.1 _ (q_in_t7 (i := 200) (by first | rfl | decide +kernel) rfl)) dX12_spelled_108 ?_
          refine lv_lsub hx hb dX12_spelled_111 ?_
          refine lv_topl (fun y_42 ey_42 => ?_)
          replace hF := q_letX hF ey_42
          refine lv_goto (tgt := 117) hx hb dX12_spelled_112 (by decide) ?_
          exact q_retl E hr hlk hI ⟨rfl, (hF.trans hout)⟩ dX12_spelled_117
  · skip
    replace hF := q_ifp hF c_7
    refine lv_lload hx hb dX12_spelled_23 (lv_at hl 0 rfl) ?_
    refine lv_ldc2 (v := 32) hx hb E.2.2.1 (E.2.2.2.1 _ (q_in_t7 (i := 199) (by first | rfl | decide +kernel) rfl)) dX12_spelled_25 ?_
    refine lv_lmul hx hb dX12_spelled_28 ?_
    refine lv_topl (fun y_43 ey_43 => ?_)
    replace hF := q_letX hF ey_43
    refine lv_iload_n hx hb dX12_spelled_29 rfl (lv_at hl 3 rfl) ?_
    refine lv_i2l hx hb dX12_spelled_30 rfl ?_
    refine lv_topl (fun y_44 ey_44 => ?_)
    replace hF := q_letX hF ey_44
    refine lv_ladd hx hb dX12_spelled_31 ?_
    refine lv_topl (fun y_45 ey_45 => ?_)
    replace hF := q_letX hF ey_45
    refine lv_ldc2 (v := 96) hx hb E.2.2.1 (E.2.2.2.1 _ (q_in_t7 (i := 200) (by first | rfl | decide +kernel) rfl)) dX12_spelled_32 ?_
    refine lv_lsub hx hb dX12_spelled_35 ?_
    refine lv_topl (fun y_46 ey_46 => ?_)
    replace hF := q_letX hF ey_46
    refine lv_goto (tgt := 41) hx hb dX12_spelled_36 (by decide) ?_
    refine lv_lstore (lv' := [(6, .long y_46), (0, .int v0), (1, .int v1), (2, .int v2), (3, .int v3), (4, .int v4), (5, .int v5)]) hx hb dX12_spelled_41 hl (by decide) rfl (fun ls hl => ?_)
    refine lv_iload_n hx hb dX12_spelled_43 rfl (lv_at hl 4 rfl) ?_
    refine q_if_le (A := v3.toInt) E rfl (tgt := 63) dX12_spelled_44 (by decide) (fun c_47 => ?_) (fun c_47 => ?_)
    · skip
      replace hF := q_ifn hF (Int.not_lt.mpr c_47)
      refine lv_lload hx hb dX12_spelled_63 (lv_at hl 0 rfl) ?_
      refine lv_lstore (lv' := [(6, .long y_46), (0, .int v0), (1, .int v1), (2, .int v2), (3, .int v3), (4, .int v4), (5, .int v5)]) hx hb dX12_spelled_65 hl (by decide) rfl (fun ls hl => ?_)
      refine lv_iload hx hb dX12_spelled_67 (lv_at hl 5 rfl) ?_
      refine q_if_le (A := v4.toInt) E rfl (tgt := 89) dX12_spelled_69 (by decide) (fun c_48 => ?_) (fun c_48 => ?_)
      · skip
        replace hF := q_ifn hF (Int.not_lt.mpr c_48)
        refine lv_lload hx hb dX12_spelled_89 (lv_at hl 0 rfl) ?_
        refine lv_lstore (lv' := [(6, .long y_46), (0, .int v0), (1, .int v1), (2, .int v2), (3, .int v3), (4, .int v4), (5, .int v5)]) hx hb dX12_spelled_91 hl (by decide) rfl (fun ls hl => ?_)
        refine lv_iload hx hb dX12_spelled_93 (lv_at hl 6 rfl) ?_
        refine q_if_le (A := v5.toInt) E rfl (tgt := 115) dX12_spelled_95 (by decide) (fun c_49 => ?_) (fun c_49 => ?_)
        · skip
          replace hF := q_ifn hF (Int.not_lt.mpr c_49)
          refine lv_lload hx hb dX12_spelled_115 (lv_at hl 0 rfl) ?_
          exact q_retl E hr hlk hI ⟨rfl, (hF.trans hout)⟩ dX12_spelled_117
        · skip
          replace hF := q_ifp hF c_49
          refine lv_lload hx hb dX12_spelled_98 (lv_at hl 0 rfl) ?_
          refine lv_ldc2 (v := 32) hx hb E.2.2.1 (E.2.2.2.1 _ (q_in_t7 (i := 199) (by first | rfl | decide +kernel) rfl)) dX12_spelled_100 ?_
          refine lv_lmul hx hb dX12_spelled_103 ?_
          refine lv_topl (fun y_50 ey_50 => ?_)
          replace hF := q_letX hF ey_50
          refine lv_iload hx hb dX12_spelled_104 (lv_at hl 6 rfl) ?_
          refine lv_i2l hx hb dX12_spelled_106 rfl ?_
          refine lv_topl (fun y_51 ey_51 => ?_)
          replace hF := q_letX hF ey_51
          refine lv_ladd hx hb dX12_spelled_107 ?_
          refine lv_topl (fun y_52 ey_52 => ?_)
          replace hF := q_letX hF ey_52
          refine lv_ldc2 (v := 96) hx hb E.2.2.1 (E.2.2.2.1 _ (q_in_t7 (i := 200) (by first | rfl | decide +kernel) rfl)) dX12_spelled_108 ?_
          refine lv_lsub hx hb dX12_spelled_111 ?_
          refine lv_topl (fun y_53 ey_53 => ?_)
          replace hF := q_letX hF ey_53
          refine lv_goto (tgt := 117) hx hb dX12_spelled_112 (by decide) ?_
          exact q_retl E hr hlk hI ⟨rfl, (hF.trans hout)⟩ dX12_spelled_117
      · skip
        replace hF := q_ifp hF c_48
        refine lv_lload hx hb dX12_spelled_72 (lv_at hl 0 rfl) ?_
        refine lv_ldc2 (v := 32) hx hb E.2.2.1 (E.2.2.2.1 _ (q_in_t7 (i := 199) (by first | rfl | decide +kernel) rfl)) dX12_spelled_74 ?_
        refine lv_lmul hx hb dX12_spelled_77 ?_
        refine lv_topl (fun y_54 ey_54 => ?_)
        replace hF := q_letX hF ey_54
        refine lv_iload hx hb dX12_spelled_78 (lv_at hl 5 rfl) ?_
        refine lv_i2l hx hb dX12_spelled_80 rfl ?_
        refine lv_topl (fun y_55 ey_55 => ?_)
        replace hF := q_letX hF ey_55
        refine lv_ladd hx hb dX12_spelled_81 ?_
        refine lv_topl (fun y_56 ey_56 => ?_)
        replace hF := q_letX hF ey_56
        refine lv_ldc2 (v := 96) hx hb E.2.2.1 (E.2.2.2.1 _ (q_in_t7 (i := 200) (by first | rfl | decide +kernel) rfl)) dX12_spelled_82 ?_
        refine lv_lsub hx hb dX12_spelled_85 ?_
        refine lv_topl (fun y_57 ey_57 => ?_)
        replace hF := q_letX hF ey_57
        refine lv_goto (tgt := 91) hx hb dX12_spelled_86 (by decide) ?_
        refine lv_lstore (lv' := [(6, .long y_57), (0, .int v0), (1, .int v1), (2, .int v2), (3, .int v3), (4, .int v4), (5, .int v5)]) hx hb dX12_spelled_91 hl (by decide) rfl (fun ls hl => ?_)
        refine lv_iload hx hb dX12_spelled_93 (lv_at hl 6 rfl) ?_
        refine q_if_le (A := v5.toInt) E rfl (tgt := 115) dX12_spelled_95 (by decide) (fun c_58 => ?_) (fun c_58 => ?_)
        · skip
          replace hF := q_ifn hF (Int.not_lt.mpr c_58)
          refine lv_lload hx hb dX12_spelled_115 (lv_at hl 0 rfl) ?_
          exact q_retl E hr hlk hI ⟨rfl, (hF.trans hout)⟩ dX12_spelled_117
        · skip
          replace hF := q_ifp hF c_58
          refine lv_lload hx hb dX12_spelled_98 (lv_at hl 0 rfl) ?_
          refine lv_ldc2 (v := 32) hx hb E.2.2.1 (E.2.2.2.1 _ (q_in_t7 (i := 199) (by first | rfl | decide +kernel) rfl)) dX12_spelled_100 ?_
          refine lv_lmul hx hb dX12_spelled_103 ?_
          refine lv_topl (fun y_59 ey_59 => ?_)
          replace hF := q_letX hF ey_59
          refine lv_iload hx hb dX12_spelled_104 (lv_at hl 6 rfl) ?_
          refine lv_i2l hx hb dX12_spelled_106 rfl ?_
          refine lv_topl (fun y_60 ey_60 => ?_)
          replace hF := q_letX hF ey_60
          refine lv_ladd hx hb dX12_spelled_107 ?_
          refine lv_topl (fun y_61 ey_61 => ?_)
          replace hF := q_letX hF ey_61
          refine lv_ldc2 (v := 96) hx hb E.2.2.1 (E.2.2.2.1 _ (q_in_t7 (i := 200) (by first | rfl | decide +kernel) rfl)) dX12_spelled_108 ?_
          refine lv_lsub hx hb dX12_spelled_111 ?_
          refine lv_topl (fun y_62 ey_62 => ?_)
          replace hF := q_letX hF ey_62
          refine lv_goto (tgt := 117) hx hb dX12_spelled_112 (by decide) ?_
          exact q_retl E hr hlk hI ⟨rfl, (hF.trans hout)⟩ dX12_spelled_117
    · skip
      replace hF := q_ifp hF c_47
      refine lv_lload hx hb dX12_spelled_47 (lv_at hl 0 rfl) ?_
      refine lv_ldc2 (v := 32) hx hb E.2.2.1 (E.2.2.2.1 _ (q_in_t7 (i := 199) (by first | rfl | decide +kernel) rfl)) dX12_spelled_49 ?_
      refine lv_lmul hx hb dX12_spelled_52 ?_
      refine lv_topl (fun y_63 ey_63 => ?_)
      replace hF := q_letX hF ey_63
      refine lv_iload_n hx hb dX12_spelled_53 rfl (lv_at hl 4 rfl) ?_
      refine lv_i2l hx hb dX12_spelled_54 rfl ?_
      refine lv_topl (fun y_64 ey_64 => ?_)
      replace hF := q_letX hF ey_64
      refine lv_ladd hx hb dX12_spelled_55 ?_
      refine lv_topl (fun y_65 ey_65 => ?_)
      replace hF := q_letX hF ey_65
      refine lv_ldc2 (v := 96) hx hb E.2.2.1 (E.2.2.2.1 _ (q_in_t7 (i := 200) (by first | rfl | decide +kernel) rfl)) dX12_spelled_56 ?_
      refine lv_lsub hx hb dX12_spelled_59 ?_
      refine lv_topl (fun y_66 ey_66 => ?_)
      replace hF := q_letX hF ey_66
      refine lv_goto (tgt := 65) hx hb dX12_spelled_60 (by decide) ?_
      refine lv_lstore (lv' := [(6, .long y_66), (0, .int v0), (1, .int v1), (2, .int v2), (3, .int v3), (4, .int v4), (5, .int v5)]) hx hb dX12_spelled_65 hl (by decide) rfl (fun ls hl => ?_)
      refine lv_iload hx hb dX12_spelled_67 (lv_at hl 5 rfl) ?_
      refine q_if_le (A := v4.toInt) E rfl (tgt := 89) dX12_spelled_69 (by decide) (fun c_67 => ?_) (fun c_67 => ?_)
      · skip
        replace hF := q_ifn hF (Int.not_lt.mpr c_67)
        refine lv_lload hx hb dX12_spelled_89 (lv_at hl 0 rfl) ?_
        refine lv_lstore (lv' := [(6, .long y_66), (0, .int v0), (1, .int v1), (2, .int v2), (3, .int v3), (4, .int v4), (5, .int v5)]) hx hb dX12_spelled_91 hl (by decide) rfl (fun ls hl => ?_)
        refine lv_iload hx hb dX12_spelled_93 (lv_at hl 6 rfl) ?_
        refine q_if_le (A := v5.toInt) E rfl (tgt := 115) dX12_spelled_95 (by decide) (fun c_68 => ?_) (fun c_68 => ?_)
        · skip
          replace hF := q_ifn hF (Int.not_lt.mpr c_68)
          refine lv_lload hx hb dX12_spelled_115 (lv_at hl 0 rfl) ?_
          exact q_retl E hr hlk hI ⟨rfl, (hF.trans hout)⟩ dX12_spelled_117
        · skip
          replace hF := q_ifp hF c_68
          refine lv_lload hx hb dX12_spelled_98 (lv_at hl 0 rfl) ?_
          refine lv_ldc2 (v := 32) hx hb E.2.2.1 (E.2.2.2.1 _ (q_in_t7 (i := 199) (by first | rfl | decide +kernel) rfl)) dX12_spelled_100 ?_
          refine lv_lmul hx hb dX12_spelled_103 ?_
          refine lv_topl (fun y_69 ey_69 => ?_)
          replace hF := q_letX hF ey_69
          refine lv_iload hx hb dX12_spelled_104 (lv_at hl 6 rfl) ?_
          refine lv_i2l hx hb dX12_spelled_106 rfl ?_
          refine lv_topl (fun y_70 ey_70 => ?_)
          replace hF := q_letX hF ey_70
          refine lv_ladd hx hb dX12_spelled_107 ?_
          refine lv_topl (fun y_71 ey_71 => ?_)
          replace hF := q_letX hF ey_71
          refine lv_ldc2 (v := 96) hx hb E.2.2.1 (E.2.2.2.1 _ (q_in_t7 (i := 200) (by first | rfl | decide +kernel) rfl)) dX12_spelled_108 ?_
          refine lv_lsub hx hb dX12_spelled_111 ?_
          refine lv_topl (fun y_72 ey_72 => ?_)
          replace hF := q_letX hF ey_72
          refine lv_goto (tgt := 117) hx hb dX12_spelled_112 (by decide) ?_
          exact q_retl E hr hlk hI ⟨rfl, (hF.trans hout)⟩ dX12_spelled_117
      · skip
        replace hF := q_ifp hF c_67
        refine lv_lload hx hb dX12_spelled_72 (lv_at hl 0 rfl) ?_
        refine lv_ldc2 (v := 32) hx hb E.2.2.1 (E.2.2.2.1 _ (q_in_t7 (i := 199) (by first | rfl | decide +kernel) rfl)) dX12_spelled_74 ?_
        refine lv_lmul hx hb dX12_spelled_77 ?_
        refine lv_topl (fun y_73 ey_73 => ?_)
        replace hF := q_letX hF ey_73
        refine lv_iload hx hb dX12_spelled_78 (lv_at hl 5 rfl) ?_
        refine lv_i2l hx hb dX12_spelled_80 rfl ?_
        refine lv_topl (fun y_74 ey_74 => ?_)
        replace hF := q_letX hF ey_74
        refine lv_ladd hx hb dX12_spelled_81 ?_
        refine lv_topl (fun y_75 ey_75 => ?_)
        replace hF := q_letX hF ey_75
        refine lv_ldc2 (v := 96) hx hb E.2.2.1 (E.2.2.2.1 _ (q_in_t7 (i := 200) (by first | rfl | decide +kernel) rfl)) dX12_spelled_82 ?_
        refine lv_lsub hx hb dX12_spelled_85 ?_
        refine lv_topl (fun y_76 ey_76 => ?_)
        replace hF := q_letX hF ey_76
        refine lv_goto (tgt := 91) hx hb dX12_spelled_86 (by decide) ?_
        refine lv_lstore (lv' := [(6, .long y_76), (0, .int v0), (1, .int v1), (2, .int v2), (3, .int v3), (4, .int v4), (5, .int v5)]) hx hb dX12_spelled_91 hl (by decide) rfl (fun ls hl => ?_)
        refine lv_iload hx hb dX12_spelled_93 (lv_at hl 6 rfl) ?_
        refine q_if_le (A := v5.toInt) E rfl (tgt := 115) dX12_spelled_95 (by decide) (fun c_77 => ?_) (fun c_77 => ?_)
        · skip
          replace hF := q_ifn hF (Int.not_lt.mpr c_77)
          refine lv_lload hx hb dX12_spelled_115 (lv_at hl 0 rfl) ?_
          exact q_retl E hr hlk hI ⟨rfl, (hF.trans hout)⟩ dX12_spelled_117
        · skip
          replace hF := q_ifp hF c_77
          refine lv_lload hx hb dX12_spelled_98 (lv_at hl 0 rfl) ?_
          refine lv_ldc2 (v := 32) hx hb E.2.2.1 (E.2.2.2.1 _ (q_in_t7 (i := 199) (by first | rfl | decide +kernel) rfl)) dX12_spelled_100 ?_
          refine lv_lmul hx hb dX12_spelled_103 ?_
          refine lv_topl (fun y_78 ey_78 => ?_)
          replace hF := q_letX hF ey_78
          refine lv_iload hx hb dX12_spelled_104 (lv_at hl 6 rfl) ?_
          refine lv_i2l hx hb dX12_spelled_106 rfl ?_
          refine lv_topl (fun y_79 ey_79 => ?_)
          replace hF := q_letX hF ey_79
          refine lv_ladd hx hb dX12_spelled_107 ?_
          refine lv_topl (fun y_80 ey_80 => ?_)
          replace hF := q_letX hF ey_80
          refine lv_ldc2 (v := 96) hx hb E.2.2.1 (E.2.2.2.1 _ (q_in_t7 (i := 200) (by first | rfl | decide +kernel) rfl)) dX12_spelled_108 ?_
          refine lv_lsub hx hb dX12_spelled_111 ?_
          refine lv_topl (fun y_81 ey_81 => ?_)
          replace hF := q_letX hF ey_81
          refine lv_goto (tgt := 117) hx hb dX12_spelled_112 (by decide) ?_
          exact q_retl E hr hlk hI ⟨rfl, (hF.trans hout)⟩ dX12_spelled_117
end
/-! FROM 34.words.a.lean.txt -/
section
section QS
variable {p : Program} {l : Launch} {e : Env} {R : Room} {s : State} {m : MethodId} {args : Array Value} {below : List Frame} {meth : Method} {c : Code} {H : Heap} {locs : List Loc} {cells slots : Nat} {Q : State → Prop} {cc : ByteArray} {X : XW} {n : Nat} {σ0 σ : ST} {H0 : Heap} {pc : Nat} {ls : Array Slot} {rest : List Value} {a : Nat}
theorem ks_X12_135 : q_okS RX12 135 yX12_spelled cX12_spelled 8 (some .long) 6 := ⟨(q_in_t7 (i := 212) (by first | rfl | decide +kernel) rfl), (q_in_t7 (i := 213) (by first | rfl | decide +kernel) rfl), (q_in_t1 (i := 14) (by first | rfl | decide +kernel) rfl), (q_in_t7 (i := 214) (by first | rfl | decide +kernel) rfl), ⟨by decide, by decide, rfl⟩⟩
theorem kv_X12_139 : q_okV RX12 139 RX12 yX12_isWord cX12_isWord 3 (some .boolean) 1 := ⟨(q_in_t7 (i := 215) (by first | rfl | decide +kernel) rfl), (q_in_t7 (i := 217) (by first | rfl | decide +kernel) rfl), (q_in_p (i := 46) (by decide +kernel) rfl), (q_in_t1 (i := 14) (by first | rfl | decide +kernel) rfl), (q_in_t7 (i := 218) (by first | rfl | decide +kernel) rfl), ⟨rfl, by decide, by decide, rfl⟩⟩
theorem kv_X12_143 : q_okV RX12 143 RX12 yX12_isLies cX12_isLies 1 (some .boolean) 0 := ⟨(q_in_t8 (i := 55) (by first | rfl | decide +kernel) rfl), (q_in_t8 (i := 57) (by first | rfl | decide +kernel) rfl), (q_in_p (i := 65) (by decide +kernel) rfl), (q_in_t1 (i := 14) (by first | rfl | decide +kernel) rfl), (q_in_t8 (i := 58) (by first | rfl | decide +kernel) rfl), ⟨rfl, by decide, by decide, rfl⟩⟩
theorem kv_X12_147 : q_okV RX12 147 RX12 yX12_isDoubts cX12_isDoubts 1 (some .boolean) 0 := ⟨(q_in_t8 (i := 59) (by first | rfl | decide +kernel) rfl), (q_in_t8 (i := 61) (by first | rfl | decide +kernel) rfl), (q_in_p (i := 66) (by decide +kernel) rfl), (q_in_t1 (i := 14) (by first | rfl | decide +kernel) rfl), (q_in_t8 (i := 62) (by first | rfl | decide +kernel) rfl), ⟨rfl, by decide, by decide, rfl⟩⟩
theorem kv_X12_150 : q_okV RX12 150 RX12 yX12_isKinds cX12_isKinds 1 (some .boolean) 0 := ⟨(q_in_t7 (i := 208) (by first | rfl | decide +kernel) rfl), (q_in_t7 (i := 210) (by first | rfl | decide +kernel) rfl), (q_in_p (i := 45) (by decide +kernel) rfl), (q_in_t1 (i := 14) (by first | rfl | decide +kernel) rfl), (q_in_t7 (i := 211) (by first | rfl | decide +kernel) rfl), ⟨rfl, by decide, by decide, rfl⟩⟩
theorem kv_X12_153 : q_okV RX12 153 RX12 yX12_isEach cX12_isEach 1 (some .boolean) 0 := ⟨(q_in_t7 (i := 238) (by first | rfl | decide +kernel) rfl), (q_in_t8 (i := 0) (by first | rfl | decide +kernel) rfl), (q_in_p (i := 51) (by decide +kernel) rfl), (q_in_t1 (i := 14) (by first | rfl | decide +kernel) rfl), (q_in_t8 (i := 1) (by first | rfl | decide +kernel) rfl), ⟨rfl, by decide, by decide, rfl⟩⟩
theorem kv_X12_156 : q_okV RX12 156 RX12 yX12_isLaw cX12_isLaw 1 (some .boolean) 0 := ⟨(q_in_t8 (i := 6) (by first | rfl | decide +kernel) rfl), (q_in_t8 (i := 8) (by first | rfl | decide +kernel) rfl), (q_in_p (i := 53) (by decide +kernel) rfl), (q_in_t1 (i := 14) (by first | rfl | decide +kernel) rfl), (q_in_t8 (i := 9) (by first | rfl | decide +kernel) rfl), ⟨rfl, by decide, by decide, rfl⟩⟩
theorem kv_X12_159 : q_okV RX12 159 RX12 yX12_isMost cX12_isMost 1 (some .boolean) 0 := ⟨(q_in_t8 (i := 19) (by first | rfl | decide +kernel) rfl), (q_in_t8 (i := 21) (by first | rfl | decide +kernel) rfl), (q_in_p (i := 56) (by decide +kernel) rfl), (q_in_t1 (i := 14) (by first | rfl | decide +kernel) rfl), (q_in_t8 (i := 22) (by first | rfl | decide +kernel) rfl), ⟨rfl, by decide, by decide, rfl⟩⟩
theorem kv_X12_162 : q_okV RX12 162 RX12 yX12_isPlayer cX12_isPlayer 1 (some .boolean) 0 := ⟨(q_in_t8 (i := 27) (by first | rfl | decide +kernel) rfl), (q_in_t8 (i := 29) (by first | rfl | decide +kernel) rfl), (q_in_p (i := 58) (by decide +kernel) rfl), (q_in_t1 (i := 14) (by first | rfl | decide +kernel) rfl), (q_in_t8 (i := 30) (by first | rfl | decide +kernel) rfl), ⟨rfl, by decide, by decide, rfl⟩⟩
theorem kv_X12_165 : q_okV RX12 165 RX12 yX12_isHand cX12_isHand 1 (some .boolean) 0 := ⟨(q_in_t8 (i := 43) (by first | rfl | decide +kernel) rfl), (q_in_t8 (i := 45) (by first | rfl | decide +kernel) rfl), (q_in_p (i := 62) (by decide +kernel) rfl), (q_in_t1 (i := 14) (by first | rfl | decide +kernel) rfl), (q_in_t8 (i := 46) (by first | rfl | decide +kernel) rfl), ⟨rfl, by decide, by decide, rfl⟩⟩
theorem kv_X12_168 : q_okV RX12 168 RX12 yX12_isOf cX12_isOf 1 (some .boolean) 0 := ⟨(q_in_t8 (i := 47) (by first | rfl | decide +kernel) rfl), (q_in_t8 (i := 49) (by first | rfl | decide +kernel) rfl), (q_in_p (i := 63) (by decide +kernel) rfl), (q_in_t1 (i := 14) (by first | rfl | decide +kernel) rfl), (q_in_t8 (i := 50) (by first | rfl | decide +kernel) rfl), ⟨rfl, by decide, by decide, rfl⟩⟩
theorem kv_X12_171 : q_okV RX12 171 RX12 yX12_lawWord cX12_lawWord 1 (some .int) 0 := ⟨(q_in_t8 (i := 14) (by first | rfl | decide +kernel) rfl), (q_in_t8 (i := 16) (by first | rfl | decide +kernel) rfl), (q_in_p (i := 55) (by decide +kernel) rfl), (q_in_t1 (i := 14) (by first | rfl | decide +kernel) rfl), (q_in_t8 (i := 17) (by first | rfl | decide +kernel) rfl), ⟨rfl, by decide, by decide, rfl⟩⟩
theorem kv_X12_175 : q_okV RX12 175 RX12 yX12_stepWord cX12_stepWord 1 (some .int) 0 := ⟨(q_in_t8 (i := 51) (by first | rfl | decide +kernel) rfl), (q_in_t8 (i := 53) (by first | rfl | decide +kernel) rfl), (q_in_p (i := 64) (by decide +kernel) rfl), (q_in_t1 (i := 14) (by first | rfl | decide +kernel) rfl), (q_in_t8 (i := 54) (by first | rfl | decide +kernel) rfl), ⟨rfl, by decide, by decide, rfl⟩⟩
theorem kv_X12_178 : q_okV RX12 178 RX12 yX12_testWord cX12_testWord 1 (some .int) 0 := ⟨(q_in_t8 (i := 63) (by first | rfl | decide +kernel) rfl), (q_in_t8 (i := 65) (by first | rfl | decide +kernel) rfl), (q_in_p (i := 67) (by decide +kernel) rfl), (q_in_t1 (i := 14) (by first | rfl | decide +kernel) rfl), (q_in_t8 (i := 66) (by first | rfl | decide +kernel) rfl), ⟨rfl, by decide, by decide, rfl⟩⟩
theorem kv_X12_181 : q_okV RX12 181 RX12 yX12_isEnd cX12_isEnd 1 (some .boolean) 0 := ⟨(q_in_t8 (i := 67) (by first | rfl | decide +kernel) rfl), (q_in_t8 (i := 69) (by first | rfl | decide +kernel) rfl), (q_in_p (i := 68) (by decide +kernel) rfl), (q_in_t1 (i := 14) (by first | rfl | decide +kernel) rfl), (q_in_t8 (i := 70) (by first | rfl | decide +kernel) rfl), ⟨rfl, by decide, by decide, rfl⟩⟩
theorem gs_X12_123_12 (E : q_E p c cc s m args RX12 X) (hI : q_I X n σ0 H0 locs σ H) (ha : q_kd X a = 12) (hdg : decode cc pc = .ok (.getfield 123, 3)) (kk : W p l e R s m args below meth c H locs cells slots Q (F0 m (pc + 3) ls (.int (σ.1 a 18) :: rest))) : W p l e R s m args below meth c H locs cells slots Q (F0 m pc ls (.ref a :: rest)) :=
  q_getf (ref := "CheatHeapModel") E hI ha ⟨rfl, by decide⟩ (show vwCl[11]? = some (RX12, TX12, 46) from rfl) q_inX12 (f := 18) (by decide) (q_in_t7 (i := 3) (by first | rfl | decide +kernel) rfl) (Or.inl rfl) rfl hdg kk
theorem kv_X12_184 : q_okV RX12 184 RX12 yX12_isKept cX12_isKept 1 (some .boolean) 0 := ⟨(q_in_t8 (i := 39) (by first | rfl | decide +kernel) rfl), (q_in_t8 (i := 41) (by first | rfl | decide +kernel) rfl), (q_in_p (i := 61) (by decide +kernel) rfl), (q_in_t1 (i := 14) (by first | rfl | decide +kernel) rfl), (q_in_t8 (i := 42) (by first | rfl | decide +kernel) rfl), ⟨rfl, by decide, by decide, rfl⟩⟩
end QS
end
/-! FROM 34.words.b00.lean.txt -/
section
set_option maxRecDepth 100000 in
set_option maxHeartbeats 4000000 in
theorem c_X12_isKinds (l : Launch) (X : XW) (σ : ST) (a : Nat) (ha : q_kd X a = 12) : Met l yX12_isKinds (q_ws yX12_isKinds cX12_isKinds 1 (some .boolean)) (q_rm 1 27) (q_P X σ [.ref a]) (q_Qi X 9 σ (fun (r : Int32) (σ' : ST) => σ' = σ ∧ (0 ≤ r.toInt ∧ r.toInt ≤ 1) ∧ r = F_X12_isKinds X σ a)) 0 0 (q_reg X) := by
  refine q_met 9 (by first | exact rfl | decide +kernel) rfl (Nat.le_of_ble_eq_true rfl) (fun p e s m below meth c E hml hr hlk hI ls hl => ?_)
  have hx := E.1
  have hb := E.2.1
  have hl : lv_has ls 1 [(0, .ref a)] := hl
  obtain ⟨out, hout⟩ : ∃ o, o = F_X12_isKinds X σ a := ⟨_, rfl⟩
  have hF := hout.symm
  unfold F_X12_isKinds at hF
  refine lv_aload_n hx hb dX12_isKinds_0 rfl (lv_at hl 0 rfl) ?_
  refine lv_bipush (v := 107) hx hb dX12_isKinds_1 zkb_107 ?_
  refine lv_bipush (v := 105) hx hb dX12_isKinds_3 zkb_105 ?_
  refine lv_bipush (v := 110) hx hb dX12_isKinds_5 zkb_110 ?_
  refine lv_bipush (v := 100) hx hb dX12_isKinds_7 zkb_100 ?_
  refine lv_bipush (v := 115) hx hb dX12_isKinds_9 zkb_115 ?_
  refine lv_iconst (v := 0) hx hb dX12_isKinds_11 zki_0 ?_
  have kc_1 : (107 : Int32).toInt = 107 := zt_107
  have kc_2 : (105 : Int32).toInt = 105 := zt_105
  have kc_3 : (110 : Int32).toInt = 110 := zt_110
  have kc_4 : (100 : Int32).toInt = 100 := zt_100
  have kc_5 : (115 : Int32).toInt = 115 := zt_115
  have kc_6 : (0 : Int32).toInt = 0 := zt_0
  refine q_cl_ (q_runS (As := [.int 107, .int 105, .int 110, .int 100, .int 115, .int 0]) (rest := [.ref a]) E (hml.trans hl.1.symm) hI (c_X12_spelled l X σ (107 : Int32) (105 : Int32) (110 : Int32) (100 : Int32) (115 : Int32) (0 : Int32)) ks_X12_135 rfl ⟨Nat.le_of_ble_eq_true rfl, Nat.le_of_ble_eq_true rfl⟩ ⟨Nat.le_refl _, Nat.le_refl _⟩ rfl (Nat.le_of_ble_eq_true rfl) dX12_isKinds_12) hI (Nat.le_of_ble_eq_true rfl) (fun r_7 σ_8 H locs hpσ_8 hkσ_8 hI => ?_)
  have ahpσ_8 := hpσ_8.1
  have bhpσ_8 := hpσ_8.2
  clear hpσ_8
  replace hI := q_Irw ahpσ_8 hI
  replace hF := q_letX hF bhpσ_8
  refine q_ci (q_rV11_1 (rest := []) E (hml.trans hl.1.symm) hI (c_X12_isWord l X σ a r_7 ha) kv_X12_139 ha ⟨Nat.le_of_ble_eq_true rfl, Nat.le_of_ble_eq_true rfl⟩ (Nat.le_of_ble_eq_true rfl) dX12_isKinds_15) hI (Nat.le_of_ble_eq_true rfl) (fun r_9 σ_10 H locs hpσ_10 hkσ_10 hI => ?_)
  have ahpσ_10 := hpσ_10.1
  have bhpσ_10 := hpσ_10.2.1
  have chpσ_10 := hpσ_10.2.2.1
  have dhpσ_10 := hpσ_10.2.2.2
  clear hpσ_10
  replace hI := q_Irw ahpσ_10 hI
  replace hF := q_letX hF dhpσ_10
  exact q_retz E hr hlk hI ⟨by omega, by omega⟩ ⟨rfl, ⟨by omega, by omega⟩, (hF.trans hout)⟩ dX12_isKinds_18

set_option maxRecDepth 100000 in
set_option maxHeartbeats 4000000 in
theorem c_X12_isEach (l : Launch) (X : XW) (σ : ST) (a : Nat) (ha : q_kd X a = 12) : Met l yX12_isEach (q_ws yX12_isEach cX12_isEach 1 (some .boolean)) (q_rm 1 27) (q_P X σ [.ref a]) (q_Qi X 9 σ (fun (r : Int32) (σ' : ST) => σ' = σ ∧ (0 ≤ r.toInt ∧ r.toInt ≤ 1) ∧ r = F_X12_isEach X σ a)) 0 0 (q_reg X) := by
  refine q_met 9 (by first | exact rfl | decide +kernel) rfl (Nat.le_of_ble_eq_true rfl) (fun p e s m below meth c E hml hr hlk hI ls hl => ?_)
  have hx := E.1
  have hb := E.2.1
  have hl : lv_has ls 1 [(0, .ref a)] := hl
  obtain ⟨out, hout⟩ : ∃ o, o = F_X12_isEach X σ a := ⟨_, rfl⟩
  have hF := hout.symm
  unfold F_X12_isEach at hF
  refine lv_aload_n hx hb dX12_isEach_0 rfl (lv_at hl 0 rfl) ?_
  refine lv_bipush (v := 101) hx hb dX12_isEach_1 zkb_101 ?_
  refine lv_bipush (v := 97) hx hb dX12_isEach_3 zkb_97 ?_
  refine lv_bipush (v := 99) hx hb dX12_isEach_5 zkb_99 ?_
  refine lv_bipush (v := 104) hx hb dX12_isEach_7 zkb_104 ?_
  refine lv_iconst (v := 0) hx hb dX12_isEach_9 zki_0 ?_
  refine lv_iconst (v := 0) hx hb dX12_isEach_10 zki_0 ?_
  have kc_1 : (101 : Int32).toInt = 101 := zt_101
  have kc_2 : (97 : Int32).toInt = 97 := zt_97
  have kc_3 : (99 : Int32).toInt = 99 := zt_99
  have kc_4 : (104 : Int32).toInt = 104 := zt_104
  have kc_5 : (0 : Int32).toInt = 0 := zt_0
  have kc_6 : (0 : Int32).toInt = 0 := zt_0
  refine q_cl_ (q_runS (As := [.int 101, .int 97, .int 99, .int 104, .int 0, .int 0]) (rest := [.ref a]) E (hml.trans hl.1.symm) hI (c_X12_spelled l X σ (101 : Int32) (97 : Int32) (99 : Int32) (104 : Int32) (0 : Int32) (0 : Int32)) ks_X12_135 rfl ⟨Nat.le_of_ble_eq_true rfl, Nat.le_of_ble_eq_true rfl⟩ ⟨Nat.le_refl _, Nat.le_refl _⟩ rfl (Nat.le_of_ble_eq_true rfl) dX12_isEach_11) hI (Nat.le_of_ble_eq_true rfl) (fun r_7 σ_8 H locs hpσ_8 hkσ_8 hI => ?_)
  have ahpσ_8 := hpσ_8.1
  have bhpσ_8 := hpσ_8.2
  clear hpσ_8
  replace hI := q_Irw ahpσ_8 hI
  replace hF := q_letX hF bhpσ_8
  refine q_ci (q_rV11_1 (rest := []) E (hml.trans hl.1.symm) hI (c_X12_isWord l X σ a r_7 ha) kv_X12_139 ha ⟨Nat.le_of_ble_eq_true rfl, Nat.le_of_ble_eq_true rfl⟩ (Nat.le_of_ble_eq_true rfl) dX12_isEach_14) hI (Nat.le_of_ble_eq_true rfl) (fun r_9 σ_10 H locs hpσ_10 hkσ_10 hI => ?_)
  have ahpσ_10 := hpσ_10.1
  have bhpσ_10 := hpσ_10.2.1
  have chpσ_10 := hpσ_10.2.2.1
  have dhpσ_10 := hpσ_10.2.2.2
  clear hpσ_10
  replace hI := q_Irw ahpσ_10 hI
  replace hF := q_letX hF dhpσ_10
  exact q_retz E hr hlk hI ⟨by omega, by omega⟩ ⟨rfl, ⟨by omega, by omega⟩, (hF.trans hout)⟩ dX12_isEach_17

set_option maxRecDepth 100000 in
set_option maxHeartbeats 4000000 in
theorem c_X12_isLaw (l : Launch) (X : XW) (σ : ST) (a : Nat) (ha : q_kd X a = 12) : Met l yX12_isLaw (q_ws yX12_isLaw cX12_isLaw 1 (some .boolean)) (q_rm 1 27) (q_P X σ [.ref a]) (q_Qi X 9 σ (fun (r : Int32) (σ' : ST) => σ' = σ ∧ (0 ≤ r.toInt ∧ r.toInt ≤ 1) ∧ r = F_X12_isLaw X σ a)) 0 0 (q_reg X) := by
  refine q_met 9 (by first | exact rfl | decide +kernel) rfl (Nat.le_of_ble_eq_true rfl) (fun p e s m below meth c E hml hr hlk hI ls hl => ?_)
  have hx := E.1
  have hb := E.2.1
  have hl : lv_has ls 1 [(0, .ref a)] := hl
  obtain ⟨out, hout⟩ : ∃ o, o = F_X12_isLaw X σ a := ⟨_, rfl⟩
  have hF := hout.symm
  unfold F_X12_isLaw at hF
  refine lv_aload_n hx hb dX12_isLaw_0 rfl (lv_at hl 0 rfl) ?_
  refine lv_bipush (v := 108) hx hb dX12_isLaw_1 zkb_108 ?_
  refine lv_bipush (v := 97) hx hb dX12_isLaw_3 zkb_97 ?_
  refine lv_bipush (v := 119) hx hb dX12_isLaw_5 zkb_119 ?_
  refine lv_iconst (v := 0) hx hb dX12_isLaw_7 zki_0 ?_
  refine lv_iconst (v := 0) hx hb dX12_isLaw_8 zki_0 ?_
  refine lv_iconst (v := 0) hx hb dX12_isLaw_9 zki_0 ?_
  have kc_1 : (108 : Int32).toInt = 108 := zt_108
  have kc_2 : (97 : Int32).toInt = 97 := zt_97
  have kc_3 : (119 : Int32).toInt = 119 := zt_119
  have kc_4 : (0 : Int32).toInt = 0 := zt_0
  have kc_5 : (0 : Int32).toInt = 0 := zt_0
  have kc_6 : (0 : Int32).toInt = 0 := zt_0
  refine q_cl_ (q_runS (As := [.int 108, .int 97, .int 119, .int 0, .int 0, .int 0]) (rest := [.ref a]) E (hml.trans hl.1.symm) hI (c_X12_spelled l X σ (108 : Int32) (97 : Int32) (119 : Int32) (0 : Int32) (0 : Int32) (0 : Int32)) ks_X12_135 rfl ⟨Nat.le_of_ble_eq_true rfl, Nat.le_of_ble_eq_true rfl⟩ ⟨Nat.le_refl _, Nat.le_refl _⟩ rfl (Nat.le_of_ble_eq_true rfl) dX12_isLaw_10) hI (Nat.le_of_ble_eq_true rfl) (fun r_7 σ_8 H locs hpσ_8 hkσ_8 hI => ?_)
  have ahpσ_8 := hpσ_8.1
  have bhpσ_8 := hpσ_8.2
  clear hpσ_8
  replace hI := q_Irw ahpσ_8 hI
  replace hF := q_letX hF bhpσ_8
  refine q_ci (q_rV11_1 (rest := []) E (hml.trans hl.1.symm) hI (c_X12_isWord l X σ a r_7 ha) kv_X12_139 ha ⟨Nat.le_of_ble_eq_true rfl, Nat.le_of_ble_eq_true rfl⟩ (Nat.le_of_ble_eq_true rfl) dX12_isLaw_13) hI (Nat.le_of_ble_eq_true rfl) (fun r_9 σ_10 H locs hpσ_10 hkσ_10 hI => ?_)
  have ahpσ_10 := hpσ_10.1
  have bhpσ_10 := hpσ_10.2.1
  have chpσ_10 := hpσ_10.2.2.1
  have dhpσ_10 := hpσ_10.2.2.2
  clear hpσ_10
  replace hI := q_Irw ahpσ_10 hI
  replace hF := q_letX hF dhpσ_10
  exact q_retz E hr hlk hI ⟨by omega, by omega⟩ ⟨rfl, ⟨by omega, by omega⟩, (hF.trans hout)⟩ dX12_isLaw_16

set_option maxRecDepth 100000 in
set_option maxHeartbeats 4000000 in
theorem c_X12_isMost (l : Launch) (X : XW) (σ : ST) (a : Nat) (ha : q_kd X a = 12) : Met l yX12_isMost (q_ws yX12_isMost cX12_isMost 1 (some .boolean)) (q_rm 1 27) (q_P X σ [.ref a]) (q_Qi X 9 σ (fun (r : Int32) (σ' : ST) => σ' = σ ∧ (0 ≤ r.toInt ∧ r.toInt ≤ 1) ∧ r = F_X12_isMost X σ a)) 0 0 (q_reg X) := by
  refine q_met 9 (by first | exact rfl | decide +kernel) rfl (Nat.le_of_ble_eq_true rfl) (fun p e s m below meth c E hml hr hlk hI ls hl => ?_)
  have hx := E.1
  have hb := E.2.1
  have hl : lv_has ls 1 [(0, .ref a)] := hl
  obtain ⟨out, hout⟩ : ∃ o, o = F_X12_isMost X σ a := ⟨_, rfl⟩
  have hF := hout.symm
  unfold F_X12_isMost at hF
  refine lv_aload_n hx hb dX12_isMost_0 rfl (lv_at hl 0 rfl) ?_
  refine lv_bipush (v := 109) hx hb dX12_isMost_1 zkb_109 ?_
  refine lv_bipush (v := 111) hx hb dX12_isMost_3 zkb_111 ?_
  refine lv_bipush (v := 115) hx hb dX12_isMost_5 zkb_115 ?_
  refine lv_bipush (v := 116) hx hb dX12_isMost_7 zkb_116 ?_
  refine lv_iconst (v := 0) hx hb dX12_isMost_9 zki_0 ?_
  refine lv_iconst (v := 0) hx hb dX12_isMost_10 zki_0 ?_
  have kc_1 : (109 : Int32).toInt = 109 := zt_109
  have kc_2 : (111 : Int32).toInt = 111 := zt_111
  have kc_3 : (115 : Int32).toInt = 115 := zt_115
  have kc_4 : (116 : Int32).toInt = 116 := zt_116
  have kc_5 : (0 : Int32).toInt = 0 := zt_0
  have kc_6 : (0 : Int32).toInt = 0 := zt_0
  refine q_cl_ (q_runS (As := [.int 109, .int 111, .int 115, .int 116, .int 0, .int 0]) (rest := [.ref a]) E (hml.trans hl.1.symm) hI (c_X12_spelled l X σ (109 : Int32) (111 : Int32) (115 : Int32) (116 : Int32) (0 : Int32) (0 : Int32)) ks_X12_135 rfl ⟨Nat.le_of_ble_eq_true rfl, Nat.le_of_ble_eq_true rfl⟩ ⟨Nat.le_refl _, Nat.le_refl _⟩ rfl (Nat.le_of_ble_eq_true rfl) dX12_isMost_11) hI (Nat.le_of_ble_eq_true rfl) (fun r_7 σ_8 H locs hpσ_8 hkσ_8 hI => ?_)
  have ahpσ_8 := hpσ_8.1
  have bhpσ_8 := hpσ_8.2
  clear hpσ_8
  replace hI := q_Irw ahpσ_8 hI
  replace hF := q_letX hF bhpσ_8
  refine q_ci (q_rV11_1 (rest := []) E (hml.trans hl.1.symm) hI (c_X12_isWord l X σ a r_7 ha) kv_X12_139 ha ⟨Nat.le_of_ble_eq_true rfl, Nat.le_of_ble_eq_true rfl⟩ (Nat.le_of_ble_eq_true rfl) dX12_isMost_14) hI (Nat.le_of_ble_eq_true rfl) (fun r_9 σ_10 H locs hpσ_10 hkσ_10 hI => ?_)
  have ahpσ_10 := hpσ_10.1
  have bhpσ_10 := hpσ_10.2.1
  have chpσ_10 := hpσ_10.2.2.1
  have dhpσ_10 := hpσ_10.2.2.2
  clear hpσ_10
  replace hI := q_Irw ahpσ_10 hI
  replace hF := q_letX hF dhpσ_10
  exact q_retz E hr hlk hI ⟨by omega, by omega⟩ ⟨rfl, ⟨by omega, by omega⟩, (hF.trans hout)⟩ dX12_isMost_17

set_option maxRecDepth 100000 in
set_option maxHeartbeats 4000000 in
theorem c_X12_isPlayer (l : Launch) (X : XW) (σ : ST) (a : Nat) (ha : q_kd X a = 12) : Met l yX12_isPlayer (q_ws yX12_isPlayer cX12_isPlayer 1 (some .boolean)) (q_rm 1 27) (q_P X σ [.ref a]) (q_Qi X 9 σ (fun (r : Int32) (σ' : ST) => σ' = σ ∧ (0 ≤ r.toInt ∧ r.toInt ≤ 1) ∧ r = F_X12_isPlayer X σ a)) 0 0 (q_reg X) := by
  refine q_met 9 (by first | exact rfl | decide +kernel) rfl (Nat.le_of_ble_eq_true rfl) (fun p e s m below meth c E hml hr hlk hI ls hl => ?_)
  have hx := E.1
  have hb := E.2.1
  have hl : lv_has ls 1 [(0, .ref a)] := hl
  obtain ⟨out, hout⟩ : ∃ o, o = F_X12_isPlayer X σ a := ⟨_, rfl⟩
  have hF := hout.symm
  unfold F_X12_isPlayer at hF
  refine lv_aload_n hx hb dX12_isPlayer_0 rfl (lv_at hl 0 rfl) ?_
  refine lv_bipush (v := 112) hx hb dX12_isPlayer_1 zkb_112 ?_
  refine lv_bipush (v := 108) hx hb dX12_isPlayer_3 zkb_108 ?_
  refine lv_bipush (v := 97) hx hb dX12_isPlayer_5 zkb_97 ?_
  refine lv_bipush (v := 121) hx hb dX12_isPlayer_7 zkb_121 ?_
  refine lv_bipush (v := 101) hx hb dX12_isPlayer_9 zkb_101 ?_
  refine lv_bipush (v := 114) hx hb dX12_isPlayer_11 zkb_114 ?_
  have kc_1 : (112 : Int32).toInt = 112 := zt_112
  have kc_2 : (108 : Int32).toInt = 108 := zt_108
  have kc_3 : (97 : Int32).toInt = 97 := zt_97
  have kc_4 : (121 : Int32).toInt = 121 := zt_121
  have kc_5 : (101 : Int32).toInt = 101 := zt_101
  have kc_6 : (114 : Int32).toInt = 114 := zt_114
  refine q_cl_ (q_runS (As := [.int 112, .int 108, .int 97, .int 121, .int 101, .int 114]) (rest := [.ref a]) E (hml.trans hl.1.symm) hI (c_X12_spelled l X σ (112 : Int32) (108 : Int32) (97 : Int32) (121 : Int32) (101 : Int32) (114 : Int32)) ks_X12_135 rfl ⟨Nat.le_of_ble_eq_true rfl, Nat.le_of_ble_eq_true rfl⟩ ⟨Nat.le_refl _, Nat.le_refl _⟩ rfl (Nat.le_of_ble_eq_true rfl) dX12_isPlayer_13) hI (Nat.le_of_ble_eq_true rfl) (fun r_7 σ_8 H locs hpσ_8 hkσ_8 hI => ?_)
  have ahpσ_8 := hpσ_8.1
  have bhpσ_8 := hpσ_8.2
  clear hpσ_8
  replace hI := q_Irw ahpσ_8 hI
  replace hF := q_letX hF bhpσ_8
  refine q_ci (q_rV11_1 (rest := []) E (hml.trans hl.1.symm) hI (c_X12_isWord l X σ a r_7 ha) kv_X12_139 ha ⟨Nat.le_of_ble_eq_true rfl, Nat.le_of_ble_eq_true rfl⟩ (Nat.le_of_ble_eq_true rfl) dX12_isPlayer_16) hI (Nat.le_of_ble_eq_true rfl) (fun r_9 σ_10 H locs hpσ_10 hkσ_10 hI => ?_)
  have ahpσ_10 := hpσ_10.1
  have bhpσ_10 := hpσ_10.2.1
  have chpσ_10 := hpσ_10.2.2.1
  have dhpσ_10 := hpσ_10.2.2.2
  clear hpσ_10
  replace hI := q_Irw ahpσ_10 hI
  replace hF := q_letX hF dhpσ_10
  exact q_retz E hr hlk hI ⟨by omega, by omega⟩ ⟨rfl, ⟨by omega, by omega⟩, (hF.trans hout)⟩ dX12_isPlayer_19

set_option maxRecDepth 100000 in
set_option maxHeartbeats 4000000 in
theorem c_X12_isLies (l : Launch) (X : XW) (σ : ST) (a : Nat) (ha : q_kd X a = 12) : Met l yX12_isLies (q_ws yX12_isLies cX12_isLies 1 (some .boolean)) (q_rm 1 27) (q_P X σ [.ref a]) (q_Qi X 9 σ (fun (r : Int32) (σ' : ST) => σ' = σ ∧ (0 ≤ r.toInt ∧ r.toInt ≤ 1) ∧ (r.toInt = 1 → (σ.1 a 14).toInt = 1) ∧ r = F_X12_isLies X σ a)) 0 0 (q_reg X) := by
  refine q_met 9 (by first | exact rfl | decide +kernel) rfl (Nat.le_of_ble_eq_true rfl) (fun p e s m below meth c E hml hr hlk hI ls hl => ?_)
  have hx := E.1
  have hb := E.2.1
  have hl : lv_has ls 1 [(0, .ref a)] := hl
  obtain ⟨out, hout⟩ : ∃ o, o = F_X12_isLies X σ a := ⟨_, rfl⟩
  have hF := hout.symm
  unfold F_X12_isLies at hF
  refine lv_aload_n hx hb dX12_isLies_0 rfl (lv_at hl 0 rfl) ?_
  refine lv_bipush (v := 108) hx hb dX12_isLies_1 zkb_108 ?_
  refine lv_bipush (v := 105) hx hb dX12_isLies_3 zkb_105 ?_
  refine lv_bipush (v := 101) hx hb dX12_isLies_5 zkb_101 ?_
  refine lv_bipush (v := 115) hx hb dX12_isLies_7 zkb_115 ?_
  refine lv_iconst (v := 0) hx hb dX12_isLies_9 zki_0 ?_
  refine lv_iconst (v := 0) hx hb dX12_isLies_10 zki_0 ?_
  have kc_1 : (108 : Int32).toInt = 108 := zt_108
  have kc_2 : (105 : Int32).toInt = 105 := zt_105
  have kc_3 : (101 : Int32).toInt = 101 := zt_101
  have kc_4 : (115 : Int32).toInt = 115 := zt_115
  have kc_5 : (0 : Int32).toInt = 0 := zt_0
  have kc_6 : (0 : Int32).toInt = 0 := zt_0
  refine q_cl_ (q_runS (As := [.int 108, .int 105, .int 101, .int 115, .int 0, .int 0]) (rest := [.ref a]) E (hml.trans hl.1.symm) hI (c_X12_spelled l X σ (108 : Int32) (105 : Int32) (101 : Int32) (115 : Int32) (0 : Int32) (0 : Int32)) ks_X12_135 rfl ⟨Nat.le_of_ble_eq_true rfl, Nat.le_of_ble_eq_true rfl⟩ ⟨Nat.le_refl _, Nat.le_refl _⟩ rfl (Nat.le_of_ble_eq_true rfl) dX12_isLies_11) hI (Nat.le_of_ble_eq_true rfl) (fun r_7 σ_8 H locs hpσ_8 hkσ_8 hI => ?_)
  have ahpσ_8 := hpσ_8.1
  have bhpσ_8 := hpσ_8.2
  clear hpσ_8
  replace hI := q_Irw ahpσ_8 hI
  replace hF := q_letX hF bhpσ_8
  refine q_ci (q_rV11_1 (rest := []) E (hml.trans hl.1.symm) hI (c_X12_isWord l X σ a r_7 ha) kv_X12_139 ha ⟨Nat.le_of_ble_eq_true rfl, Nat.le_of_ble_eq_true rfl⟩ (Nat.le_of_ble_eq_true rfl) dX12_isLies_14) hI (Nat.le_of_ble_eq_true rfl) (fun r_9 σ_10 H locs hpσ_10 hkσ_10 hI => ?_)
  have ahpσ_10 := hpσ_10.1
  have bhpσ_10 := hpσ_10.2.1
  have chpσ_10 := hpσ_10.2.2.1
  have dhpσ_10 := hpσ_10.2.2.2
  clear hpσ_10
  replace hI := q_Irw ahpσ_10 hI
  replace hF := q_letX hF dhpσ_10
  exact q_retz E hr hlk hI ⟨by omega, by omega⟩ ⟨rfl, ⟨by omega, by omega⟩, (by omega), (hF.trans hout)⟩ dX12_isLies_17

set_option maxRecDepth 100000 in
set_option maxHeartbeats 4000000 in
theorem c_X12_isDoubts (l : Launch) (X : XW) (σ : ST) (a : Nat) (ha : q_kd X a = 12) : Met l yX12_isDoubts (q_ws yX12_isDoubts cX12_isDoubts 1 (some .boolean)) (q_rm 1 27) (q_P X σ [.ref a]) (q_Qi X 9 σ (fun (r : Int32) (σ' : ST) => σ' = σ ∧ (0 ≤ r.toInt ∧ r.toInt ≤ 1) ∧ (r.toInt = 1 → (σ.1 a 14).toInt = 1) ∧ r = F_X12_isDoubts X σ a)) 0 0 (q_reg X) := by
  refine q_met 9 (by first | exact rfl | decide +kernel) rfl (Nat.le_of_ble_eq_true rfl) (fun p e s m below meth c E hml hr hlk hI ls hl => ?_)
  have hx := E.1
  have hb := E.2.1
  have hl : lv_has ls 1 [(0, .ref a)] := hl
  obtain ⟨out, hout⟩ : ∃ o, o = F_X12_isDoubts X σ a := ⟨_, rfl⟩
  have hF := hout.symm
  unfold F_X12_isDoubts at hF
  refine lv_aload_n hx hb dX12_isDoubts_0 rfl (lv_at hl 0 rfl) ?_
  refine lv_bipush (v := 100) hx hb dX12_isDoubts_1 zkb_100 ?_
  refine lv_bipush (v := 111) hx hb dX12_isDoubts_3 zkb_111 ?_
  refine lv_bipush (v := 117) hx hb dX12_isDoubts_5 zkb_117 ?_
  refine lv_bipush (v := 98) hx hb dX12_isDoubts_7 zkb_98 ?_
  refine lv_bipush (v := 116) hx hb dX12_isDoubts_9 zkb_116 ?_
  refine lv_bipush (v := 115) hx hb dX12_isDoubts_11 zkb_115 ?_
  have kc_1 : (100 : Int32).toInt = 100 := zt_100
  have kc_2 : (111 : Int32).toInt = 111 := zt_111
  have kc_3 : (117 : Int32).toInt = 117 := zt_117
  have kc_4 : (98 : Int32).toInt = 98 := zt_98
  have kc_5 : (116 : Int32).toInt = 116 := zt_116
  have kc_6 : (115 : Int32).toInt = 115 := zt_115
  refine q_cl_ (q_runS (As := [.int 100, .int 111, .int 117, .int 98, .int 116, .int 115]) (rest := [.ref a]) E (hml.trans hl.1.symm) hI (c_X12_spelled l X σ (100 : Int32) (111 : Int32) (117 : Int32) (98 : Int32) (116 : Int32) (115 : Int32)) ks_X12_135 rfl ⟨Nat.le_of_ble_eq_true rfl, Nat.le_of_ble_eq_true rfl⟩ ⟨Nat.le_refl _, Nat.le_refl _⟩ rfl (Nat.le_of_ble_eq_true rfl) dX12_isDoubts_13) hI (Nat.le_of_ble_eq_true rfl) (fun r_7 σ_8 H locs hpσ_8 hkσ_8 hI => ?_)
  have ahpσ_8 := hpσ_8.1
  have bhpσ_8 := hpσ_8.2
  clear hpσ_8
  replace hI := q_Irw ahpσ_8 hI
  replace hF := q_letX hF bhpσ_8
  refine q_ci (q_rV11_1 (rest := []) E (hml.trans hl.1.symm) hI (c_X12_isWord l X σ a r_7 ha) kv_X12_139 ha ⟨Nat.le_of_ble_eq_true rfl, Nat.le_of_ble_eq_true rfl⟩ (Nat.le_of_ble_eq_true rfl) dX12_isDoubts_16) hI (Nat.le_of_ble_eq_true rfl) (fun r_9 σ_10 H locs hpσ_10 hkσ_10 hI => ?_)
  have ahpσ_10 := hpσ_10.1
  have bhpσ_10 := hpσ_10.2.1
  have chpσ_10 := hpσ_10.2.2.1
  have dhpσ_10 := hpσ_10.2.2.2
  clear hpσ_10
  replace hI := q_Irw ahpσ_10 hI
  replace hF := q_letX hF dhpσ_10
  exact q_retz E hr hlk hI ⟨by omega, by omega⟩ ⟨rfl, ⟨by omega, by omega⟩, (by omega), (hF.trans hout)⟩ dX12_isDoubts_19

set_option maxRecDepth 100000 in
set_option maxHeartbeats 4000000 in
theorem c_X12_isHand (l : Launch) (X : XW) (σ : ST) (a : Nat) (ha : q_kd X a = 12) : Met l yX12_isHand (q_ws yX12_isHand cX12_isHand 1 (some .boolean)) (q_rm 1 27) (q_P X σ [.ref a]) (q_Qi X 9 σ (fun (r : Int32) (σ' : ST) => σ' = σ ∧ (0 ≤ r.toInt ∧ r.toInt ≤ 1) ∧ r = F_X12_isHand X σ a)) 0 0 (q_reg X) := by
  refine q_met 9 (by first | exact rfl | decide +kernel) rfl (Nat.le_of_ble_eq_true rfl) (fun p e s m below meth c E hml hr hlk hI ls hl => ?_)
  have hx := E.1
  have hb := E.2.1
  have hl : lv_has ls 1 [(0, .ref a)] := hl
  obtain ⟨out, hout⟩ : ∃ o, o = F_X12_isHand X σ a := ⟨_, rfl⟩
  have hF := hout.symm
  unfold F_X12_isHand at hF
  refine lv_aload_n hx hb dX12_isHand_0 rfl (lv_at hl 0 rfl) ?_
  refine lv_bipush (v := 104) hx hb dX12_isHand_1 zkb_104 ?_
  refine lv_bipush (v := 97) hx hb dX12_isHand_3 zkb_97 ?_
  refine lv_bipush (v := 110) hx hb dX12_isHand_5 zkb_110 ?_
  refine lv_bipush (v := 100) hx hb dX12_isHand_7 zkb_100 ?_
  refine lv_iconst (v := 0) hx hb dX12_isHand_9 zki_0 ?_
  refine lv_iconst (v := 0) hx hb dX12_isHand_10 zki_0 ?_
  have kc_1 : (104 : Int32).toInt = 104 := zt_104
  have kc_2 : (97 : Int32).toInt = 97 := zt_97
  have kc_3 : (110 : Int32).toInt = 110 := zt_110
  have kc_4 : (100 : Int32).toInt = 100 := zt_100
  have kc_5 : (0 : Int32).toInt = 0 := zt_0
  have kc_6 : (0 : Int32).toInt = 0 := zt_0
  refine q_cl_ (q_runS (As := [.int 104, .int 97, .int 110, .int 100, .int 0, .int 0]) (rest := [.ref a]) E (hml.trans hl.1.symm) hI (c_X12_spelled l X σ (104 : Int32) (97 : Int32) (110 : Int32) (100 : Int32) (0 : Int32) (0 : Int32)) ks_X12_135 rfl ⟨Nat.le_of_ble_eq_true rfl, Nat.le_of_ble_eq_true rfl⟩ ⟨Nat.le_refl _, Nat.le_refl _⟩ rfl (Nat.le_of_ble_eq_true rfl) dX12_isHand_11) hI (Nat.le_of_ble_eq_true rfl) (fun r_7 σ_8 H locs hpσ_8 hkσ_8 hI => ?_)
  have ahpσ_8 := hpσ_8.1
  have bhpσ_8 := hpσ_8.2
  clear hpσ_8
  replace hI := q_Irw ahpσ_8 hI
  replace hF := q_letX hF bhpσ_8
  refine q_ci (q_rV11_1 (rest := []) E (hml.trans hl.1.symm) hI (c_X12_isWord l X σ a r_7 ha) kv_X12_139 ha ⟨Nat.le_of_ble_eq_true rfl, Nat.le_of_ble_eq_true rfl⟩ (Nat.le_of_ble_eq_true rfl) dX12_isHand_14) hI (Nat.le_of_ble_eq_true rfl) (fun r_9 σ_10 H locs hpσ_10 hkσ_10 hI => ?_)
  have ahpσ_10 := hpσ_10.1
  have bhpσ_10 := hpσ_10.2.1
  have chpσ_10 := hpσ_10.2.2.1
  have dhpσ_10 := hpσ_10.2.2.2
  clear hpσ_10
  replace hI := q_Irw ahpσ_10 hI
  replace hF := q_letX hF dhpσ_10
  exact q_retz E hr hlk hI ⟨by omega, by omega⟩ ⟨rfl, ⟨by omega, by omega⟩, (hF.trans hout)⟩ dX12_isHand_17

set_option maxRecDepth 100000 in
set_option maxHeartbeats 4000000 in
theorem c_X12_isOf (l : Launch) (X : XW) (σ : ST) (a : Nat) (ha : q_kd X a = 12) : Met l yX12_isOf (q_ws yX12_isOf cX12_isOf 1 (some .boolean)) (q_rm 1 27) (q_P X σ [.ref a]) (q_Qi X 9 σ (fun (r : Int32) (σ' : ST) => σ' = σ ∧ (0 ≤ r.toInt ∧ r.toInt ≤ 1) ∧ r = F_X12_isOf X σ a)) 0 0 (q_reg X) := by
  refine q_met 9 (by first | exact rfl | decide +kernel) rfl (Nat.le_of_ble_eq_true rfl) (fun p e s m below meth c E hml hr hlk hI ls hl => ?_)
  have hx := E.1
  have hb := E.2.1
  have hl : lv_has ls 1 [(0, .ref a)] := hl
  obtain ⟨out, hout⟩ : ∃ o, o = F_X12_isOf X σ a := ⟨_, rfl⟩
  have hF := hout.symm
  unfold F_X12_isOf at hF
  refine lv_aload_n hx hb dX12_isOf_0 rfl (lv_at hl 0 rfl) ?_
  refine lv_bipush (v := 111) hx hb dX12_isOf_1 zkb_111 ?_
  refine lv_bipush (v := 102) hx hb dX12_isOf_3 zkb_102 ?_
  refine lv_iconst (v := 0) hx hb dX12_isOf_5 zki_0 ?_
  refine lv_iconst (v := 0) hx hb dX12_isOf_6 zki_0 ?_
  refine lv_iconst (v := 0) hx hb dX12_isOf_7 zki_0 ?_
  refine lv_iconst (v := 0) hx hb dX12_isOf_8 zki_0 ?_
  have kc_1 : (111 : Int32).toInt = 111 := zt_111
  have kc_2 : (102 : Int32).toInt = 102 := zt_102
  have kc_3 : (0 : Int32).toInt = 0 := zt_0
  have kc_4 : (0 : Int32).toInt = 0 := zt_0
  have kc_5 : (0 : Int32).toInt = 0 := zt_0
  have kc_6 : (0 : Int32).toInt = 0 := zt_0
  refine q_cl_ (q_runS (As := [.int 111, .int 102, .int 0, .int 0, .int 0, .int 0]) (rest := [.ref a]) E (hml.trans hl.1.symm) hI (c_X12_spelled l X σ (111 : Int32) (102 : Int32) (0 : Int32) (0 : Int32) (0 : Int32) (0 : Int32)) ks_X12_135 rfl ⟨Nat.le_of_ble_eq_true rfl, Nat.le_of_ble_eq_true rfl⟩ ⟨Nat.le_refl _, Nat.le_refl _⟩ rfl (Nat.le_of_ble_eq_true rfl) dX12_isOf_9) hI (Nat.le_of_ble_eq_true rfl) (fun r_7 σ_8 H locs hpσ_8 hkσ_8 hI => ?_)
  have ahpσ_8 := hpσ_8.1
  have bhpσ_8 := hpσ_8.2
  clear hpσ_8
  replace hI := q_Irw ahpσ_8 hI
  replace hF := q_letX hF bhpσ_8
  refine q_ci (q_rV11_1 (rest := []) E (hml.trans hl.1.symm) hI (c_X12_isWord l X σ a r_7 ha) kv_X12_139 ha ⟨Nat.le_of_ble_eq_true rfl, Nat.le_of_ble_eq_true rfl⟩ (Nat.le_of_ble_eq_true rfl) dX12_isOf_12) hI (Nat.le_of_ble_eq_true rfl) (fun r_9 σ_10 H locs hpσ_10 hkσ_10 hI => ?_)
  have ahpσ_10 := hpσ_10.1
  have bhpσ_10 := hpσ_10.2.1
  have chpσ_10 := hpσ_10.2.2.1
  have dhpσ_10 := hpσ_10.2.2.2
  clear hpσ_10
  replace hI := q_Irw ahpσ_10 hI
  replace hF := q_letX hF dhpσ_10
  exact q_retz E hr hlk hI ⟨by omega, by omega⟩ ⟨rfl, ⟨by omega, by omega⟩, (hF.trans hout)⟩ dX12_isOf_15

set_option maxRecDepth 100000 in
set_option maxHeartbeats 4000000 in
theorem c_X12_isEnd (l : Launch) (X : XW) (σ : ST) (a : Nat) (ha : q_kd X a = 12) : Met l yX12_isEnd (q_ws yX12_isEnd cX12_isEnd 1 (some .boolean)) (q_rm 1 27) (q_P X σ [.ref a]) (q_Qi X 9 σ (fun (r : Int32) (σ' : ST) => σ' = σ ∧ (0 ≤ r.toInt ∧ r.toInt ≤ 1) ∧ r = F_X12_isEnd X σ a)) 0 0 (q_reg X) := by
  refine q_met 9 (by first | exact rfl | decide +kernel) rfl (Nat.le_of_ble_eq_true rfl) (fun p e s m below meth c E hml hr hlk hI ls hl => ?_)
  have hx := E.1
  have hb := E.2.1
  have hl : lv_has ls 1 [(0, .ref a)] := hl
  obtain ⟨out, hout⟩ : ∃ o, o = F_X12_isEnd X σ a := ⟨_, rfl⟩
  have hF := hout.symm
  unfold F_X12_isEnd at hF
  refine lv_aload_n hx hb dX12_isEnd_0 rfl (lv_at hl 0 rfl) ?_
  refine lv_bipush (v := 101) hx hb dX12_isEnd_1 zkb_101 ?_
  refine lv_bipush (v := 110) hx hb dX12_isEnd_3 zkb_110 ?_
  refine lv_bipush (v := 100) hx hb dX12_isEnd_5 zkb_100 ?_
  refine lv_iconst (v := 0) hx hb dX12_isEnd_7 zki_0 ?_
  refine lv_iconst (v := 0) hx hb dX12_isEnd_8 zki_0 ?_
  refine lv_iconst (v := 0) hx hb dX12_isEnd_9 zki_0 ?_
  have kc_1 : (101 : Int32).toInt = 101 := zt_101
  have kc_2 : (110 : Int32).toInt = 110 := zt_110
  have kc_3 : (100 : Int32).toInt = 100 := zt_100
  have kc_4 : (0 : Int32).toInt = 0 := zt_0
  have kc_5 : (0 : Int32).toInt = 0 := zt_0
  have kc_6 : (0 : Int32).toInt = 0 := zt_0
  refine q_cl_ (q_runS (As := [.int 101, .int 110, .int 100, .int 0, .int 0, .int 0]) (rest := [.ref a]) E (hml.trans hl.1.symm) hI (c_X12_spelled l X σ (101 : Int32) (110 : Int32) (100 : Int32) (0 : Int32) (0 : Int32) (0 : Int32)) ks_X12_135 rfl ⟨Nat.le_of_ble_eq_true rfl, Nat.le_of_ble_eq_true rfl⟩ ⟨Nat.le_refl _, Nat.le_refl _⟩ rfl (Nat.le_of_ble_eq_true rfl) dX12_isEnd_10) hI (Nat.le_of_ble_eq_true rfl) (fun r_7 σ_8 H locs hpσ_8 hkσ_8 hI => ?_)
  have ahpσ_8 := hpσ_8.1
  have bhpσ_8 := hpσ_8.2
  clear hpσ_8
  replace hI := q_Irw ahpσ_8 hI
  replace hF := q_letX hF bhpσ_8
  refine q_ci (q_rV11_1 (rest := []) E (hml.trans hl.1.symm) hI (c_X12_isWord l X σ a r_7 ha) kv_X12_139 ha ⟨Nat.le_of_ble_eq_true rfl, Nat.le_of_ble_eq_true rfl⟩ (Nat.le_of_ble_eq_true rfl) dX12_isEnd_13) hI (Nat.le_of_ble_eq_true rfl) (fun r_9 σ_10 H locs hpσ_10 hkσ_10 hI => ?_)
  have ahpσ_10 := hpσ_10.1
  have bhpσ_10 := hpσ_10.2.1
  have chpσ_10 := hpσ_10.2.2.1
  have dhpσ_10 := hpσ_10.2.2.2
  clear hpσ_10
  replace hI := q_Irw ahpσ_10 hI
  replace hF := q_letX hF dhpσ_10
  exact q_retz E hr hlk hI ⟨by omega, by omega⟩ ⟨rfl, ⟨by omega, by omega⟩, (hF.trans hout)⟩ dX12_isEnd_16

set_option maxRecDepth 100000 in
set_option maxHeartbeats 4000000 in
theorem c_X12_lawWord (l : Launch) (X : XW) (σ : ST) (a : Nat) (ha : q_kd X a = 12) : Met l yX12_lawWord (q_ws yX12_lawWord cX12_lawWord 1 (some .int)) (q_rm 1 27) (q_P X σ [.ref a]) (q_Qi X 9 σ (fun (r : Int32) (σ' : ST) => σ' = σ ∧ (-1 ≤ r.toInt ∧ r.toInt ≤ 2) ∧ r = F_X12_lawWord X σ a)) 0 0 (q_reg X) := by
  refine q_met 9 (by first | exact rfl | decide +kernel) rfl (Nat.le_of_ble_eq_true rfl) (fun p e s m below meth c E hml hr hlk hI ls hl => ?_)
  have hx := E.1
  have hb := E.2.1
  have hl : lv_has ls 1 [(0, .ref a)] := hl
  obtain ⟨out, hout⟩ : ∃ o, o = F_X12_lawWord X σ a := ⟨_, rfl⟩
  have hF := hout.symm
  unfold F_X12_lawWord at hF
  refine lv_aload_n hx hb dX12_lawWord_0 rfl (lv_at hl 0 rfl) ?_
  refine lv_bipush (v := 117) hx hb dX12_lawWord_1 zkb_117 ?_
  refine lv_bipush (v := 112) hx hb dX12_lawWord_3 zkb_112 ?_
  refine lv_iconst (v := 0) hx hb dX12_lawWord_5 zki_0 ?_
  refine lv_iconst (v := 0) hx hb dX12_lawWord_6 zki_0 ?_
  refine lv_iconst (v := 0) hx hb dX12_lawWord_7 zki_0 ?_
  refine lv_iconst (v := 0) hx hb dX12_lawWord_8 zki_0 ?_
  have kc_1 : (117 : Int32).toInt = 117 := zt_117
  have kc_2 : (112 : Int32).toInt = 112 := zt_112
  have kc_3 : (0 : Int32).toInt = 0 := zt_0
  have kc_4 : (0 : Int32).toInt = 0 := zt_0
  have kc_5 : (0 : Int32).toInt = 0 := zt_0
  have kc_6 : (0 : Int32).toInt = 0 := zt_0
  refine q_cl_ (q_runS (As := [.int 117, .int 112, .int 0, .int 0, .int 0, .int 0]) (rest := [.ref a]) E (hml.trans hl.1.symm) hI (c_X12_spelled l X σ (117 : Int32) (112 : Int32) (0 : Int32) (0 : Int32) (0 : Int32) (0 : Int32)) ks_X12_135 rfl ⟨Nat.le_of_ble_eq_true rfl, Nat.le_of_ble_eq_true rfl⟩ ⟨Nat.le_refl _, Nat.le_refl _⟩ rfl (Nat.le_of_ble_eq_true rfl) dX12_lawWord_9) hI (Nat.le_of_ble_eq_true rfl) (fun r_7 σ_8 H locs hpσ_8 hkσ_8 hI => ?_)
  have ahpσ_8 := hpσ_8.1
  have bhpσ_8 := hpσ_8.2
  clear hpσ_8
  replace hI := q_Irw ahpσ_8 hI
  replace hF := q_letX hF bhpσ_8
  refine q_ci (q_rV11_1 (rest := []) E (hml.trans hl.1.symm) hI (c_X12_isWord l X σ a r_7 ha) kv_X12_139 ha ⟨Nat.le_of_ble_eq_true rfl, Nat.le_of_ble_eq_true rfl⟩ (Nat.le_of_ble_eq_true rfl) dX12_lawWord_12) hI (Nat.le_of_ble_eq_true rfl) (fun r_9 σ_10 H locs hpσ_10 hkσ_10 hI => ?_)
  have ahpσ_10 := hpσ_10.1
  have bhpσ_10 := hpσ_10.2.1
  have chpσ_10 := hpσ_10.2.2.1
  have dhpσ_10 := hpσ_10.2.2.2
  clear hpσ_10
  replace hI := q_Irw ahpσ_10 hI
  replace hF := q_letX hF dhpσ_10
  refine q_if_eq (A := r_9.toInt) E rfl (tgt := 20) dX12_lawWord_15 (by decide) (fun c_11 => ?_) (fun c_11 => ?_)
  · skip
    replace hF := q_ifp hF c_11
    clear chpσ_10
    refine lv_aload_n hx hb dX12_lawWord_20 rfl (lv_at hl 0 rfl) ?_
    refine lv_bipush (v := 100) hx hb dX12_lawWord_21 zkb_100 ?_
    refine lv_bipush (v := 111) hx hb dX12_lawWord_23 zkb_111 ?_
    refine lv_bipush (v := 119) hx hb dX12_lawWord_25 zkb_119 ?_
    refine lv_bipush (v := 110) hx hb dX12_lawWord_27 zkb_110 ?_
    refine lv_iconst (v := 0) hx hb dX12_lawWord_29 zki_0 ?_
    refine lv_iconst (v := 0) hx hb dX12_lawWord_30 zki_0 ?_
    have kc_12 : (100 : Int32).toInt = 100 := zt_100
    have kc_13 : (111 : Int32).toInt = 111 := zt_111
    have kc_14 : (119 : Int32).toInt = 119 := zt_119
    have kc_15 : (110 : Int32).toInt = 110 := zt_110
    have kc_16 : (0 : Int32).toInt = 0 := zt_0
    have kc_17 : (0 : Int32).toInt = 0 := zt_0
    refine q_cl_ (q_runS (As := [.int 100, .int 111, .int 119, .int 110, .int 0, .int 0]) (rest := [.ref a]) E (hml.trans hl.1.symm) hI (c_X12_spelled l X σ (100 : Int32) (111 : Int32) (119 : Int32) (110 : Int32) (0 : Int32) (0 : Int32)) ks_X12_135 rfl ⟨Nat.le_of_ble_eq_true rfl, Nat.le_of_ble_eq_true rfl⟩ ⟨Nat.le_refl _, Nat.le_refl _⟩ rfl (Nat.le_of_ble_eq_true rfl) dX12_lawWord_31) hI (Nat.le_of_ble_eq_true rfl) (fun r_18 σ_19 H locs hpσ_19 hkσ_19 hI => ?_)
    have ahpσ_19 := hpσ_19.1
    have bhpσ_19 := hpσ_19.2
    clear hpσ_19
    replace hI := q_Irw ahpσ_19 hI
    replace hF := q_letX hF bhpσ_19
    refine q_ci (q_rV11_1 (rest := []) E (hml.trans hl.1.symm) hI (c_X12_isWord l X σ a r_18 ha) kv_X12_139 ha ⟨Nat.le_of_ble_eq_true rfl, Nat.le_of_ble_eq_true rfl⟩ (Nat.le_of_ble_eq_true rfl) dX12_lawWord_34) hI (Nat.le_of_ble_eq_true rfl) (fun r_20 σ_21 H locs hpσ_21 hkσ_21 hI => ?_)
    have ahpσ_21 := hpσ_21.1
    have bhpσ_21 := hpσ_21.2.1
    have chpσ_21 := hpσ_21.2.2.1
    have dhpσ_21 := hpσ_21.2.2.2
    clear hpσ_21
    replace hI := q_Irw ahpσ_21 hI
    replace hF := q_letX hF dhpσ_21
    refine q_if_eq (A := r_20.toInt) E rfl (tgt := 42) dX12_lawWord_37 (by decide) (fun c_22 => ?_) (fun c_22 => ?_)
    · skip
      replace hF := q_ifp hF c_22
      clear chpσ_21
      refine lv_aload_n hx hb dX12_lawWord_42 rfl (lv_at hl 0 rfl) ?_
      refine lv_bipush (v := 115) hx hb dX12_lawWord_43 zkb_115 ?_
      refine lv_bipush (v := 97) hx hb dX12_lawWord_45 zkb_97 ?_
      refine lv_bipush (v := 109) hx hb dX12_lawWord_47 zkb_109 ?_
      refine lv_bipush (v := 101) hx hb dX12_lawWord_49 zkb_101 ?_
      refine lv_iconst (v := 0) hx hb dX12_lawWord_51 zki_0 ?_
      refine lv_iconst (v := 0) hx hb dX12_lawWord_52 zki_0 ?_
      have kc_23 : (115 : Int32).toInt = 115 := zt_115
      have kc_24 : (97 : Int32).toInt = 97 := zt_97
      have kc_25 : (109 : Int32).toInt = 109 := zt_109
      have kc_26 : (101 : Int32).toInt = 101 := zt_101
      have kc_27 : (0 : Int32).toInt = 0 := zt_0
      have kc_28 : (0 : Int32).toInt = 0 := zt_0
      refine q_cl_ (q_runS (As := [.int 115, .int 97, .int 109, .int 101, .int 0, .int 0]) (rest := [.ref a]) E (hml.trans hl.1.symm) hI (c_X12_spelled l X σ (115 : Int32) (97 : Int32) (109 : Int32) (101 : Int32) (0 : Int32) (0 : Int32)) ks_X12_135 rfl ⟨Nat.le_of_ble_eq_true rfl, Nat.le_of_ble_eq_true rfl⟩ ⟨Nat.le_refl _, Nat.le_refl _⟩ rfl (Nat.le_of_ble_eq_true rfl) dX12_lawWord_53) hI (Nat.le_of_ble_eq_true rfl) (fun r_29 σ_30 H locs hpσ_30 hkσ_30 hI => ?_)
      have ahpσ_30 := hpσ_30.1
      have bhpσ_30 := hpσ_30.2
      clear hpσ_30
      replace hI := q_Irw ahpσ_30 hI
      replace hF := q_letX hF bhpσ_30
      refine q_ci (q_rV11_1 (rest := []) E (hml.trans hl.1.symm) hI (c_X12_isWord l X σ a r_29 ha) kv_X12_139 ha ⟨Nat.le_of_ble_eq_true rfl, Nat.le_of_ble_eq_true rfl⟩ (Nat.le_of_ble_eq_true rfl) dX12_lawWord_56) hI (Nat.le_of_ble_eq_true rfl) (fun r_31 σ_32 H locs hpσ_32 hkσ_32 hI => ?_)
      have ahpσ_32 := hpσ_32.1
      have bhpσ_32 := hpσ_32.2.1
      have chpσ_32 := hpσ_32.2.2.1
      have dhpσ_32 := hpσ_32.2.2.2
      clear hpσ_32
      replace hI := q_Irw ahpσ_32 hI
      replace hF := q_letX hF dhpσ_32
      refine q_if_eq (A := r_31.toInt) E rfl (tgt := 66) dX12_lawWord_59 (by decide) (fun c_33 => ?_) (fun c_33 => ?_)
      · skip
        replace hF := q_ifp hF c_33
        clear chpσ_32
        refine lv_iconst (v := (-1)) hx hb dX12_lawWord_66 zki_m1 ?_
        have hrv : ((-1) : Int32).toInt = (-1) := zt_m1
        exact q_reti E hr hlk hI ⟨rfl, (by first | (clear kc_1 kc_2 kc_3 kc_4 kc_5 kc_6 ahpσ_8 bhpσ_8 ahpσ_10 bhpσ_10 dhpσ_10 c_11 kc_12 kc_13 kc_14 kc_15 kc_16 kc_17 ahpσ_19 bhpσ_19 ahpσ_21 bhpσ_21 dhpσ_21 c_22 kc_23 kc_24 kc_25 kc_26 kc_27 kc_28 ahpσ_30 bhpσ_30 ahpσ_32 bhpσ_32 dhpσ_32 c_33; omega) | omega), (hF.trans hout)⟩ dX12_lawWord_67
      · skip
        replace hF := q_ifn hF c_33
        replace c_33 := q_ifOne bhpσ_32 c_33
        replace chpσ_32 := chpσ_32 c_33
        refine lv_iconst (v := 2) hx hb dX12_lawWord_62 zki_2 ?_
        refine lv_goto (tgt := 67) hx hb dX12_lawWord_63 (by decide) ?_
        have hrv : (2 : Int32).toInt = 2 := zt_2
        exact q_reti E hr hlk hI ⟨rfl, (by first | (clear kc_1 kc_2 kc_3 kc_4 kc_5 kc_6 ahpσ_8 bhpσ_8 ahpσ_10 bhpσ_10 dhpσ_10 c_11 kc_12 kc_13 kc_14 kc_15 kc_16 kc_17 ahpσ_19 bhpσ_19 ahpσ_21 bhpσ_21 dhpσ_21 c_22 kc_23 kc_24 kc_25 kc_26 kc_27 kc_28 ahpσ_30 bhpσ_30 ahpσ_32 bhpσ_32 dhpσ_32 c_33 chpσ_32; omega) | omega), (hF.trans hout)⟩ dX12_lawWord_67
    · skip
      replace hF := q_ifn hF c_22
      replace c_22 := q_ifOne bhpσ_21 c_22
      replace chpσ_21 := chpσ_21 c_22
      refine lv_iconst (v := 1) hx hb dX12_lawWord_40 zki_1 ?_
      have hrv : (1 : Int32).toInt = 1 := zt_1
      exact q_reti E hr hlk hI ⟨rfl, (by first | (clear kc_1 kc_2 kc_3 kc_4 kc_5 kc_6 ahpσ_8 bhpσ_8 ahpσ_10 bhpσ_10 dhpσ_10 c_11 kc_12 kc_13 kc_14 kc_15 kc_16 kc_17 ahpσ_19 bhpσ_19 ahpσ_21 bhpσ_21 dhpσ_21 c_22 chpσ_21; omega) | omega), (hF.trans hout)⟩ dX12_lawWord_41
  · skip
    replace hF := q_ifn hF c_11
    replace c_11 := q_ifOne bhpσ_10 c_11
    replace chpσ_10 := chpσ_10 c_11
    refine lv_iconst (v := 0) hx hb dX12_lawWord_18 zki_0 ?_
    have hrv : (0 : Int32).toInt = 0 := zt_0
    exact q_reti E hr hlk hI ⟨rfl, (by first | (clear kc_1 kc_2 kc_4 kc_5 kc_6 ahpσ_8 bhpσ_8 ahpσ_10 bhpσ_10 dhpσ_10 c_11 chpσ_10 hrv; omega) | omega), (hF.trans hout)⟩ dX12_lawWord_19

set_option maxRecDepth 100000 in
set_option maxHeartbeats 4000000 in
theorem c_X12_stepWord (l : Launch) (X : XW) (σ : ST) (a : Nat) (ha : q_kd X a = 12) (ht : 0 ≤ (σ.1 a 14).toInt) : Met l yX12_stepWord (q_ws yX12_stepWord cX12_stepWord 1 (some .int)) (q_rm 2 47) (q_P X σ [.ref a]) (q_Qi X 9 σ (fun (r : Int32) (σ' : ST) => σ' = σ ∧ (-1 ≤ r.toInt ∧ r.toInt ≤ 5) ∧ (r.toInt + 1 ≤ 6 * (σ.1 a 14).toInt) ∧ r = F_X12_stepWord X σ a)) 0 0 (q_reg X) := by
  refine q_met 9 (by first | exact rfl | decide +kernel) rfl (Nat.le_of_ble_eq_true rfl) (fun p e s m below meth c E hml hr hlk hI ls hl => ?_)
  have hx := E.1
  have hb := E.2.1
  have hl : lv_has ls 1 [(0, .ref a)] := hl
  obtain ⟨out, hout⟩ : ∃ o, o = F_X12_stepWord X σ a := ⟨_, rfl⟩
  have hF := hout.symm
  unfold F_X12_stepWord at hF
  refine lv_aload_n hx hb dX12_stepWord_0 rfl (lv_at hl 0 rfl) ?_
  refine lv_bipush (v := 116) hx hb dX12_stepWord_1 zkb_116 ?_
  refine lv_bipush (v := 117) hx hb dX12_stepWord_3 zkb_117 ?_
  refine lv_bipush (v := 114) hx hb dX12_stepWord_5 zkb_114 ?_
  refine lv_bipush (v := 110) hx hb dX12_stepWord_7 zkb_110 ?_
  refine lv_iconst (v := 0) hx hb dX12_stepWord_9 zki_0 ?_
  refine lv_iconst (v := 0) hx hb dX12_stepWord_10 zki_0 ?_
  have kc_1 : (116 : Int32).toInt = 116 := zt_116
  have kc_2 : (117 : Int32).toInt = 117 := zt_117
  have kc_3 : (114 : Int32).toInt = 114 := zt_114
  have kc_4 : (110 : Int32).toInt = 110 := zt_110
  have kc_5 : (0 : Int32).toInt = 0 := zt_0
  have kc_6 : (0 : Int32).toInt = 0 := zt_0
  refine q_cl_ (q_runS (As := [.int 116, .int 117, .int 114, .int 110, .int 0, .int 0]) (rest := [.ref a]) E (hml.trans hl.1.symm) hI (c_X12_spelled l X σ (116 : Int32) (117 : Int32) (114 : Int32) (110 : Int32) (0 : Int32) (0 : Int32)) ks_X12_135 rfl ⟨Nat.le_of_ble_eq_true rfl, Nat.le_of_ble_eq_true rfl⟩ ⟨Nat.le_refl _, Nat.le_refl _⟩ rfl (Nat.le_of_ble_eq_true rfl) dX12_stepWord_11) hI (Nat.le_of_ble_eq_true rfl) (fun r_7 σ_8 H locs hpσ_8 hkσ_8 hI => ?_)
  have ahpσ_8 := hpσ_8.1
  have bhpσ_8 := hpσ_8.2
  clear hpσ_8
  replace hI := q_Irw ahpσ_8 hI
  replace hF := q_letX hF bhpσ_8
  refine q_ci (q_rV11_1 (rest := []) E (hml.trans hl.1.symm) hI (c_X12_isWord l X σ a r_7 ha) kv_X12_139 ha ⟨Nat.le_of_ble_eq_true rfl, Nat.le_of_ble_eq_true rfl⟩ (Nat.le_of_ble_eq_true rfl) dX12_stepWord_14) hI (Nat.le_of_ble_eq_true rfl) (fun r_9 σ_10 H locs hpσ_10 hkσ_10 hI => ?_)
  have ahpσ_10 := hpσ_10.1
  have bhpσ_10 := hpσ_10.2.1
  have chpσ_10 := hpσ_10.2.2.1
  have dhpσ_10 := hpσ_10.2.2.2
  clear hpσ_10
  replace hI := q_Irw ahpσ_10 hI
  replace hF := q_letX hF dhpσ_10
  refine q_if_eq (A := r_9.toInt) E rfl (tgt := 22) dX12_stepWord_17 (by decide) (fun c_11 => ?_) (fun c_11 => ?_)
  · skip
    replace hF := q_ifp hF c_11
    clear chpσ_10
    refine lv_aload_n hx hb dX12_stepWord_22 rfl (lv_at hl 0 rfl) ?_
    refine q_ci (q_rV11_0 (rest := []) E (hml.trans hl.1.symm) hI (c_X12_isLies l X σ a ha) kv_X12_143 ha ⟨Nat.le_of_ble_eq_true rfl, Nat.le_of_ble_eq_true rfl⟩ (Nat.le_of_ble_eq_true rfl) dX12_stepWord_23) hI (Nat.le_of_ble_eq_true rfl) (fun r_12 σ_13 H locs hpσ_13 hkσ_13 hI => ?_)
    have ahpσ_13 := hpσ_13.1
    have bhpσ_13 := hpσ_13.2.1
    have chpσ_13 := hpσ_13.2.2.1
    have dhpσ_13 := hpσ_13.2.2.2
    clear hpσ_13
    replace hI := q_Irw ahpσ_13 hI
    replace hF := q_letX hF dhpσ_13
    refine q_if_eq (A := r_12.toInt) E rfl (tgt := 31) dX12_stepWord_26 (by decide) (fun c_14 => ?_) (fun c_14 => ?_)
    · skip
      replace hF := q_ifp hF c_14
      clear chpσ_13
      refine lv_aload_n hx hb dX12_stepWord_31 rfl (lv_at hl 0 rfl) ?_
      refine q_ci (q_rV11_0 (rest := []) E (hml.trans hl.1.symm) hI (c_X12_isDoubts l X σ a ha) kv_X12_147 ha ⟨Nat.le_of_ble_eq_true rfl, Nat.le_of_ble_eq_true rfl⟩ (Nat.le_of_ble_eq_true rfl) dX12_stepWord_32) hI (Nat.le_of_ble_eq_true rfl) (fun r_15 σ_16 H locs hpσ_16 hkσ_16 hI => ?_)
      have ahpσ_16 := hpσ_16.1
      have bhpσ_16 := hpσ_16.2.1
      have chpσ_16 := hpσ_16.2.2.1
      have dhpσ_16 := hpσ_16.2.2.2
      clear hpσ_16
      replace hI := q_Irw ahpσ_16 hI
      replace hF := q_letX hF dhpσ_16
      refine q_if_eq (A := r_15.toInt) E rfl (tgt := 40) dX12_stepWord_35 (by decide) (fun c_17 => ?_) (fun c_17 => ?_)
      · skip
        replace hF := q_ifp hF c_17
        clear chpσ_16
        refine lv_aload_n hx hb dX12_stepWord_40 rfl (lv_at hl 0 rfl) ?_
        refine lv_bipush (v := 119) hx hb dX12_stepWord_41 zkb_119 ?_
        refine lv_bipush (v := 104) hx hb dX12_stepWord_43 zkb_104 ?_
        refine lv_bipush (v := 101) hx hb dX12_stepWord_45 zkb_101 ?_
        refine lv_bipush (v := 110) hx hb dX12_stepWord_47 zkb_110 ?_
        refine lv_iconst (v := 0) hx hb dX12_stepWord_49 zki_0 ?_
        refine lv_iconst (v := 0) hx hb dX12_stepWord_50 zki_0 ?_
        have kc_18 : (119 : Int32).toInt = 119 := zt_119
        have kc_19 : (104 : Int32).toInt = 104 := zt_104
        have kc_20 : (101 : Int32).toInt = 101 := zt_101
        have kc_21 : (110 : Int32).toInt = 110 := zt_110
        have kc_22 : (0 : Int32).toInt = 0 := zt_0
        have kc_23 : (0 : Int32).toInt = 0 := zt_0
        refine q_cl_ (q_runS (As := [.int 119, .int 104, .int 101, .int 110, .int 0, .int 0]) (rest := [.ref a]) E (hml.trans hl.1.symm) hI (c_X12_spelled l X σ (119 : Int32) (104 : Int32) (101 : Int32) (110 : Int32) (0 : Int32) (0 : Int32)) ks_X12_135 rfl ⟨Nat.le_of_ble_eq_true rfl, Nat.le_of_ble_eq_true rfl⟩ ⟨Nat.le_refl _, Nat.le_refl _⟩ rfl (Nat.le_of_ble_eq_true rfl) dX12_stepWord_51) hI (Nat.le_of_ble_eq_true rfl) (fun r_24 σ_25 H locs hpσ_25 hkσ_25 hI => ?_)
        have ahpσ_25 := hpσ_25.1
        have bhpσ_25 := hpσ_25.2
        clear hpσ_25
        replace hI := q_Irw ahpσ_25 hI
        replace hF := q_letX hF bhpσ_25
        refine q_ci (q_rV11_1 (rest := []) E (hml.trans hl.1.symm) hI (c_X12_isWord l X σ a r_24 ha) kv_X12_139 ha ⟨Nat.le_of_ble_eq_true rfl, Nat.le_of_ble_eq_true rfl⟩ (Nat.le_of_ble_eq_true rfl) dX12_stepWord_54) hI (Nat.le_of_ble_eq_true rfl) (fun r_26 σ_27 H locs hpσ_27 hkσ_27 hI => ?_)
        have ahpσ_27 := hpσ_27.1
        have bhpσ_27 := hpσ_27.2.1
        have chpσ_27 := hpσ_27.2.2.1
        have dhpσ_27 := hpσ_27.2.2.2
        clear hpσ_27
        replace hI := q_Irw ahpσ_27 hI
        replace hF := q_letX hF dhpσ_27
        refine q_if_eq (A := r_26.toInt) E rfl (tgt := 62) dX12_stepWord_57 (by decide) (fun c_28 => ?_) (fun c_28 => ?_)
        · skip
          replace hF := q_ifp hF c_28
          clear chpσ_27
          refine lv_aload_n hx hb dX12_stepWord_62 rfl (lv_at hl 0 rfl) ?_
          refine lv_bipush (v := 108) hx hb dX12_stepWord_63 zkb_108 ?_
          refine lv_bipush (v := 111) hx hb dX12_stepWord_65 zkb_111 ?_
          refine lv_bipush (v := 111) hx hb dX12_stepWord_67 zkb_111 ?_
          refine lv_bipush (v := 112) hx hb dX12_stepWord_69 zkb_112 ?_
          refine lv_iconst (v := 0) hx hb dX12_stepWord_71 zki_0 ?_
          refine lv_iconst (v := 0) hx hb dX12_stepWord_72 zki_0 ?_
          have kc_29 : (108 : Int32).toInt = 108 := zt_108
          have kc_30 : (111 : Int32).toInt = 111 := zt_111
          have kc_31 : (111 : Int32).toInt = 111 := zt_111
          have kc_32 : (112 : Int32).toInt = 112 := zt_112
          have kc_33 : (0 : Int32).toInt = 0 := zt_0
          have kc_34 : (0 : Int32).toInt = 0 := zt_0
          refine q_cl_ (q_runS (As := [.int 108, .int 111, .int 111, .int 112, .int 0, .int 0]) (rest := [.ref a]) E (hml.trans hl.1.symm) hI (c_X12_spelled l X σ (108 : Int32) (111 : Int32) (111 : Int32) (112 : Int32) (0 : Int32) (0 : Int32)) ks_X12_135 rfl ⟨Nat.le_of_ble_eq_true rfl, Nat.le_of_ble_eq_true rfl⟩ ⟨Nat.le_refl _, Nat.le_refl _⟩ rfl (Nat.le_of_ble_eq_true rfl) dX12_stepWord_73) hI (Nat.le_of_ble_eq_true rfl) (fun r_35 σ_36 H locs hpσ_36 hkσ_36 hI => ?_)
          have ahpσ_36 := hpσ_36.1
          have bhpσ_36 := hpσ_36.2
          clear hpσ_36
          replace hI := q_Irw ahpσ_36 hI
          replace hF := q_letX hF bhpσ_36
          refine q_ci (q_rV11_1 (rest := []) E (hml.trans hl.1.symm) hI (c_X12_isWord l X σ a r_35 ha) kv_X12_139 ha ⟨Nat.le_of_ble_eq_true rfl, Nat.le_of_ble_eq_true rfl⟩ (Nat.le_of_ble_eq_true rfl) dX12_stepWord_76) hI (Nat.le_of_ble_eq_true rfl) (fun r_37 σ_38 H locs hpσ_38 hkσ_38 hI => ?_)
          have ahpσ_38 := hpσ_38.1
          have bhpσ_38 := hpσ_38.2.1
          have chpσ_38 := hpσ_38.2.2.1
          have dhpσ_38 := hpσ_38.2.2.2
          clear hpσ_38
          replace hI := q_Irw ahpσ_38 hI
          replace hF := q_letX hF dhpσ_38
          refine q_if_eq (A := r_37.toInt) E rfl (tgt := 84) dX12_stepWord_79 (by decide) (fun c_39 => ?_) (fun c_39 => ?_)
          · skip
            replace hF := q_ifp hF c_39
            clear chpσ_38
            refine lv_aload_n hx hb dX12_stepWord_84 rfl (lv_at hl 0 rfl) ?_
            refine lv_bipush (v := 115) hx hb dX12_stepWord_85 zkb_115 ?_
            refine lv_bipush (v := 116) hx hb dX12_stepWord_87 zkb_116 ?_
            refine lv_bipush (v := 111) hx hb dX12_stepWord_89 zkb_111 ?_
            refine lv_bipush (v := 112) hx hb dX12_stepWord_91 zkb_112 ?_
            refine lv_iconst (v := 0) hx hb dX12_stepWord_93 zki_0 ?_
            refine lv_iconst (v := 0) hx hb dX12_stepWord_94 zki_0 ?_
            have kc_40 : (115 : Int32).toInt = 115 := zt_115
            have kc_41 : (116 : Int32).toInt = 116 := zt_116
            have kc_42 : (111 : Int32).toInt = 111 := zt_111
            have kc_43 : (112 : Int32).toInt = 112 := zt_112
            have kc_44 : (0 : Int32).toInt = 0 := zt_0
            have kc_45 : (0 : Int32).toInt = 0 := zt_0
            refine q_cl_ (q_runS (As := [.int 115, .int 116, .int 111, .int 112, .int 0, .int 0]) (rest := [.ref a]) E (hml.trans hl.1.symm) hI (c_X12_spelled l X σ (115 : Int32) (116 : Int32) (111 : Int32) (112 : Int32) (0 : Int32) (0 : Int32)) ks_X12_135 rfl ⟨Nat.le_of_ble_eq_true rfl, Nat.le_of_ble_eq_true rfl⟩ ⟨Nat.le_refl _, Nat.le_refl _⟩ rfl (Nat.le_of_ble_eq_true rfl) dX12_stepWord_95) hI (Nat.le_of_ble_eq_true rfl) (fun r_46 σ_47 H locs hpσ_47 hkσ_47 hI => ?_)
            have ahpσ_47 := hpσ_47.1
            have bhpσ_47 := hpσ_47.2
            clear hpσ_47
            replace hI := q_Irw ahpσ_47 hI
            replace hF := q_letX hF bhpσ_47
            refine q_ci (q_rV11_1 (rest := []) E (hml.trans hl.1.symm) hI (c_X12_isWord l X σ a r_46 ha) kv_X12_139 ha ⟨Nat.le_of_ble_eq_true rfl, Nat.le_of_ble_eq_true rfl⟩ (Nat.le_of_ble_eq_true rfl) dX12_stepWord_98) hI (Nat.le_of_ble_eq_true rfl) (fun r_48 σ_49 H locs hpσ_49 hkσ_49 hI => ?_)
            have ahpσ_49 := hpσ_49.1
            have bhpσ_49 := hpσ_49.2.1
            have chpσ_49 := hpσ_49.2.2.1
            have dhpσ_49 := hpσ_49.2.2.2
            clear hpσ_49
            replace hI := q_Irw ahpσ_49 hI
            replace hF := q_letX hF dhpσ_49
            refine q_if_eq (A := r_48.toInt) E rfl (tgt := 108) dX12_stepWord_101 (by decide) (fun c_50 => ?_) (fun c_50 => ?_)
            · skip
              replace hF := q_ifp hF c_50
              clear chpσ_49
              refine lv_iconst (v := (-1)) hx hb dX12_stepWord_108 zki_m1 ?_
              have hrv : ((-1) : Int32).toInt = (-1) := zt_m1
              exact q_reti E hr hlk hI ⟨rfl, (by first | (clear ht kc_1 kc_2 kc_3 kc_4 kc_5 kc_6 ahpσ_8 bhpσ_8 ahpσ_10 bhpσ_10 dhpσ_10 c_11 ahpσ_13 bhpσ_13 dhpσ_13 c_14 ahpσ_16 bhpσ_16 dhpσ_16 c_17 kc_18 kc_19 kc_20 kc_21 kc_22 kc_23 ahpσ_25 bhpσ_25 ahpσ_27 bhpσ_27 dhpσ_27 c_28 kc_29 kc_30 kc_31 kc_32 kc_33 kc_34 ahpσ_36 bhpσ_36 ahpσ_38 bhpσ_38 dhpσ_38 c_39 kc_40 kc_41 kc_42 kc_43 kc_44 kc_45 ahpσ_47 bhpσ_47 ahpσ_49 bhpσ_49 dhpσ_49 c_50; omega) | omega), (by first | (clear kc_1 kc_2 kc_3 kc_4 kc_5 kc_6 ahpσ_8 bhpσ_8 ahpσ_10 bhpσ_10 dhpσ_10 c_11 ahpσ_13 bhpσ_13 dhpσ_13 c_14 ahpσ_16 bhpσ_16 dhpσ_16 c_17 kc_18 kc_19 kc_20 kc_21 kc_22 kc_23 ahpσ_25 bhpσ_25 ahpσ_27 bhpσ_27 dhpσ_27 c_28 kc_29 kc_30 kc_31 kc_32 kc_33 kc_34 ahpσ_36 bhpσ_36 ahpσ_38 bhpσ_38 dhpσ_38 c_39 kc_40 kc_41 kc_42 kc_43 kc_44 kc_45 ahpσ_47 bhpσ_47 ahpσ_49 bhpσ_49 dhpσ_49 c_50; omega) | omega), (hF.trans hout)⟩ dX12_stepWord_109
            · skip
              replace hF := q_ifn hF c_50
              replace c_50 := q_ifOne bhpσ_49 c_50
              replace chpσ_49 := chpσ_49 c_50
              refine lv_iconst (v := 5) hx hb dX12_stepWord_104 zki_5 ?_
              refine lv_goto (tgt := 109) hx hb dX12_stepWord_105 (by decide) ?_
              have hrv : (5 : Int32).toInt = 5 := zt_5
              exact q_reti E hr hlk hI ⟨rfl, (by first | (clear ht kc_1 kc_2 kc_3 kc_4 kc_5 kc_6 ahpσ_8 bhpσ_8 ahpσ_10 bhpσ_10 dhpσ_10 c_11 ahpσ_13 bhpσ_13 dhpσ_13 c_14 ahpσ_16 bhpσ_16 dhpσ_16 c_17 kc_18 kc_19 kc_20 kc_21 kc_22 kc_23 ahpσ_25 bhpσ_25 ahpσ_27 bhpσ_27 dhpσ_27 c_28 kc_29 kc_30 kc_31 kc_32 kc_33 kc_34 ahpσ_36 bhpσ_36 ahpσ_38 bhpσ_38 dhpσ_38 c_39 kc_40 kc_41 kc_42 kc_43 kc_44 kc_45 ahpσ_47 bhpσ_47 ahpσ_49 bhpσ_49 dhpσ_49 c_50 chpσ_49; omega) | omega), (by first | (clear ht kc_1 kc_2 kc_3 kc_4 kc_5 kc_6 ahpσ_8 bhpσ_8 ahpσ_10 bhpσ_10 dhpσ_10 c_11 ahpσ_13 bhpσ_13 dhpσ_13 c_14 ahpσ_16 bhpσ_16 dhpσ_16 c_17 kc_18 kc_19 kc_20 kc_21 kc_22 kc_23 ahpσ_25 bhpσ_25 ahpσ_27 bhpσ_27 dhpσ_27 c_28 kc_29 kc_30 kc_31 kc_32 kc_33 kc_34 ahpσ_36 bhpσ_36 ahpσ_38 bhpσ_38 dhpσ_38 c_39 kc_40 kc_41 kc_42 kc_43 kc_44 kc_45 ahpσ_47 bhpσ_47 ahpσ_49 bhpσ_49 dhpσ_49 c_50; omega) | omega), (hF.trans hout)⟩ dX12_stepWord_109
          · skip
            replace hF := q_ifn hF c_39
            replace c_39 := q_ifOne bhpσ_38 c_39
            replace chpσ_38 := chpσ_38 c_39
            refine lv_iconst (v := 4) hx hb dX12_stepWord_82 zki_4 ?_
            have hrv : (4 : Int32).toInt = 4 := zt_4
            exact q_reti E hr hlk hI ⟨rfl, (by first | (clear ht kc_1 kc_2 kc_3 kc_4 kc_5 kc_6 ahpσ_8 bhpσ_8 ahpσ_10 bhpσ_10 dhpσ_10 c_11 ahpσ_13 bhpσ_13 dhpσ_13 c_14 ahpσ_16 bhpσ_16 dhpσ_16 c_17 kc_18 kc_19 kc_20 kc_21 kc_22 kc_23 ahpσ_25 bhpσ_25 ahpσ_27 bhpσ_27 dhpσ_27 c_28 kc_29 kc_30 kc_31 kc_32 kc_33 kc_34 ahpσ_36 bhpσ_36 ahpσ_38 bhpσ_38 dhpσ_38 c_39 chpσ_38; omega) | omega), (by first | (clear ht kc_1 kc_2 kc_3 kc_4 kc_5 kc_6 ahpσ_8 bhpσ_8 ahpσ_10 bhpσ_10 dhpσ_10 c_11 ahpσ_13 bhpσ_13 dhpσ_13 c_14 ahpσ_16 bhpσ_16 dhpσ_16 c_17 kc_18 kc_19 kc_20 kc_21 kc_22 kc_23 ahpσ_25 bhpσ_25 ahpσ_27 bhpσ_27 dhpσ_27 c_28 kc_29 kc_30 kc_31 kc_32 kc_33 kc_34 ahpσ_36 bhpσ_36 ahpσ_38 bhpσ_38 dhpσ_38 c_39; omega) | omega), (hF.trans hout)⟩ dX12_stepWord_83
        · skip
          replace hF := q_ifn hF c_28
          replace c_28 := q_ifOne bhpσ_27 c_28
          replace chpσ_27 := chpσ_27 c_28
          refine lv_iconst (v := 3) hx hb dX12_stepWord_60 zki_3 ?_
          have hrv : (3 : Int32).toInt = 3 := zt_3
          exact q_reti E hr hlk hI ⟨rfl, (by first | (clear ht kc_1 kc_2 kc_3 kc_4 kc_5 kc_6 ahpσ_8 bhpσ_8 ahpσ_10 bhpσ_10 dhpσ_10 c_11 ahpσ_13 bhpσ_13 dhpσ_13 c_14 ahpσ_16 bhpσ_16 dhpσ_16 c_17 kc_18 kc_19 kc_20 kc_21 kc_22 kc_23 ahpσ_25 bhpσ_25 ahpσ_27 bhpσ_27 dhpσ_27 c_28 chpσ_27; omega) | omega), (by first | (clear ht kc_1 kc_2 kc_3 kc_4 kc_5 kc_6 ahpσ_8 bhpσ_8 ahpσ_10 bhpσ_10 dhpσ_10 c_11 ahpσ_13 bhpσ_13 dhpσ_13 c_14 ahpσ_16 bhpσ_16 dhpσ_16 c_17 kc_18 kc_19 kc_20 kc_21 kc_22 kc_23 ahpσ_25 bhpσ_25 ahpσ_27 bhpσ_27 dhpσ_27 c_28; omega) | omega), (hF.trans hout)⟩ dX12_stepWord_61
      · skip
        replace hF := q_ifn hF c_17
        replace c_17 := q_ifOne bhpσ_16 c_17
        replace chpσ_16 := chpσ_16 c_17
        refine lv_iconst (v := 2) hx hb dX12_stepWord_38 zki_2 ?_
        have hrv : (2 : Int32).toInt = 2 := zt_2
        exact q_reti E hr hlk hI ⟨rfl, (by first | (clear ht kc_1 kc_2 kc_3 kc_4 kc_5 kc_6 ahpσ_8 bhpσ_8 ahpσ_10 bhpσ_10 dhpσ_10 c_11 ahpσ_13 bhpσ_13 dhpσ_13 c_14 ahpσ_16 bhpσ_16 dhpσ_16 c_17 chpσ_16; omega) | omega), (by first | (clear ht kc_1 kc_2 kc_3 kc_4 kc_5 kc_6 ahpσ_8 bhpσ_8 ahpσ_10 bhpσ_10 dhpσ_10 c_11 ahpσ_13 bhpσ_13 dhpσ_13 c_14 ahpσ_16 bhpσ_16 dhpσ_16 c_17; omega) | omega), (hF.trans hout)⟩ dX12_stepWord_39
    · skip
      replace hF := q_ifn hF c_14
      replace c_14 := q_ifOne bhpσ_13 c_14
      replace chpσ_13 := chpσ_13 c_14
      refine lv_iconst (v := 1) hx hb dX12_stepWord_29 zki_1 ?_
      have hrv : (1 : Int32).toInt = 1 := zt_1
      exact q_reti E hr hlk hI ⟨rfl, (by first | (clear ht kc_1 kc_2 kc_3 kc_4 kc_5 kc_6 ahpσ_8 bhpσ_8 ahpσ_10 bhpσ_10 dhpσ_10 c_11 ahpσ_13 bhpσ_13 dhpσ_13 c_14 chpσ_13; omega) | omega), (by first | (clear ht kc_1 kc_2 kc_3 kc_4 kc_5 kc_6 ahpσ_8 bhpσ_8 ahpσ_10 bhpσ_10 dhpσ_10 c_11 ahpσ_13 bhpσ_13 dhpσ_13 c_14; omega) | omega), (hF.trans hout)⟩ dX12_stepWord_30
  · skip
    replace hF := q_ifn hF c_11
    replace c_11 := q_ifOne bhpσ_10 c_11
    replace chpσ_10 := chpσ_10 c_11
    refine lv_iconst (v := 0) hx hb dX12_stepWord_20 zki_0 ?_
    have hrv : (0 : Int32).toInt = 0 := zt_0
    exact q_reti E hr hlk hI ⟨rfl, (by first | (clear ht kc_1 kc_2 kc_3 kc_4 kc_6 ahpσ_8 bhpσ_8 ahpσ_10 bhpσ_10 dhpσ_10 c_11 chpσ_10 hrv; omega) | omega), (by first | (clear ht kc_1 kc_2 kc_3 kc_4 kc_6 ahpσ_8 bhpσ_8 ahpσ_10 bhpσ_10 dhpσ_10 c_11 hrv; omega) | omega), (hF.trans hout)⟩ dX12_stepWord_21

set_option maxRecDepth 100000 in
set_option maxHeartbeats 4000000 in
theorem c_X12_testWord (l : Launch) (X : XW) (σ : ST) (a : Nat) (ha : q_kd X a = 12) : Met l yX12_testWord (q_ws yX12_testWord cX12_testWord 1 (some .int)) (q_rm 1 27) (q_P X σ [.ref a]) (q_Qi X 9 σ (fun (r : Int32) (σ' : ST) => σ' = σ ∧ (-1 ≤ r.toInt ∧ r.toInt ≤ 3) ∧ r = F_X12_testWord X σ a)) 0 0 (q_reg X) := by
  refine q_met 9 (by first | exact rfl | decide +kernel) rfl (Nat.le_of_ble_eq_true rfl) (fun p e s m below meth c E hml hr hlk hI ls hl => ?_)
  have hx := E.1
  have hb := E.2.1
  have hl : lv_has ls 1 [(0, .ref a)] := hl
  obtain ⟨out, hout⟩ : ∃ o, o = F_X12_testWord X σ a := ⟨_, rfl⟩
  have hF := hout.symm
  unfold F_X12_testWord at hF
  refine lv_aload_n hx hb dX12_testWord_0 rfl (lv_at hl 0 rfl) ?_
  refine lv_bipush (v := 99) hx hb dX12_testWord_1 zkb_99 ?_
  refine lv_bipush (v := 97) hx hb dX12_testWord_3 zkb_97 ?_
  refine lv_bipush (v := 114) hx hb dX12_testWord_5 zkb_114 ?_
  refine lv_bipush (v := 100) hx hb dX12_testWord_7 zkb_100 ?_
  refine lv_bipush (v := 115) hx hb dX12_testWord_9 zkb_115 ?_
  refine lv_iconst (v := 0) hx hb dX12_testWord_11 zki_0 ?_
  have kc_1 : (99 : Int32).toInt = 99 := zt_99
  have kc_2 : (97 : Int32).toInt = 97 := zt_97
  have kc_3 : (114 : Int32).toInt = 114 := zt_114
  have kc_4 : (100 : Int32).toInt = 100 := zt_100
  have kc_5 : (115 : Int32).toInt = 115 := zt_115
  have kc_6 : (0 : Int32).toInt = 0 := zt_0
  refine q_cl_ (q_runS (As := [.int 99, .int 97, .int 114, .int 100, .int 115, .int 0]) (rest := [.ref a]) E (hml.trans hl.1.symm) hI (c_X12_spelled l X σ (99 : Int32) (97 : Int32) (114 : Int32) (100 : Int32) (115 : Int32) (0 : Int32)) ks_X12_135 rfl ⟨Nat.le_of_ble_eq_true rfl, Nat.le_of_ble_eq_true rfl⟩ ⟨Nat.le_refl _, Nat.le_refl _⟩ rfl (Nat.le_of_ble_eq_true rfl) dX12_testWord_12) hI (Nat.le_of_ble_eq_true rfl) (fun r_7 σ_8 H locs hpσ_8 hkσ_8 hI => ?_)
  have ahpσ_8 := hpσ_8.1
  have bhpσ_8 := hpσ_8.2
  clear hpσ_8
  replace hI := q_Irw ahpσ_8 hI
  replace hF := q_letX hF bhpσ_8
  refine q_ci (q_rV11_1 (rest := []) E (hml.trans hl.1.symm) hI (c_X12_isWord l X σ a r_7 ha) kv_X12_139 ha ⟨Nat.le_of_ble_eq_true rfl, Nat.le_of_ble_eq_true rfl⟩ (Nat.le_of_ble_eq_true rfl) dX12_testWord_15) hI (Nat.le_of_ble_eq_true rfl) (fun r_9 σ_10 H locs hpσ_10 hkσ_10 hI => ?_)
  have ahpσ_10 := hpσ_10.1
  have bhpσ_10 := hpσ_10.2.1
  have chpσ_10 := hpσ_10.2.2.1
  have dhpσ_10 := hpσ_10.2.2.2
  clear hpσ_10
  replace hI := q_Irw ahpσ_10 hI
  replace hF := q_letX hF dhpσ_10
  refine q_if_eq (A := r_9.toInt) E rfl (tgt := 23) dX12_testWord_18 (by decide) (fun c_11 => ?_) (fun c_11 => ?_)
  · skip
    replace hF := q_ifp hF c_11
    clear chpσ_10
    refine lv_aload_n hx hb dX12_testWord_23 rfl (lv_at hl 0 rfl) ?_
    refine lv_bipush (v := 104) hx hb dX12_testWord_24 zkb_104 ?_
    refine lv_bipush (v := 101) hx hb dX12_testWord_26 zkb_101 ?_
    refine lv_bipush (v := 97) hx hb dX12_testWord_28 zkb_97 ?_
    refine lv_bipush (v := 112) hx hb dX12_testWord_30 zkb_112 ?_
    refine lv_iconst (v := 0) hx hb dX12_testWord_32 zki_0 ?_
    refine lv_iconst (v := 0) hx hb dX12_testWord_33 zki_0 ?_
    have kc_12 : (104 : Int32).toInt = 104 := zt_104
    have kc_13 : (101 : Int32).toInt = 101 := zt_101
    have kc_14 : (97 : Int32).toInt = 97 := zt_97
    have kc_15 : (112 : Int32).toInt = 112 := zt_112
    have kc_16 : (0 : Int32).toInt = 0 := zt_0
    have kc_17 : (0 : Int32).toInt = 0 := zt_0
    refine q_cl_ (q_runS (As := [.int 104, .int 101, .int 97, .int 112, .int 0, .int 0]) (rest := [.ref a]) E (hml.trans hl.1.symm) hI (c_X12_spelled l X σ (104 : Int32) (101 : Int32) (97 : Int32) (112 : Int32) (0 : Int32) (0 : Int32)) ks_X12_135 rfl ⟨Nat.le_of_ble_eq_true rfl, Nat.le_of_ble_eq_true rfl⟩ ⟨Nat.le_refl _, Nat.le_refl _⟩ rfl (Nat.le_of_ble_eq_true rfl) dX12_testWord_34) hI (Nat.le_of_ble_eq_true rfl) (fun r_18 σ_19 H locs hpσ_19 hkσ_19 hI => ?_)
    have ahpσ_19 := hpσ_19.1
    have bhpσ_19 := hpσ_19.2
    clear hpσ_19
    replace hI := q_Irw ahpσ_19 hI
    replace hF := q_letX hF bhpσ_19
    refine q_ci (q_rV11_1 (rest := []) E (hml.trans hl.1.symm) hI (c_X12_isWord l X σ a r_18 ha) kv_X12_139 ha ⟨Nat.le_of_ble_eq_true rfl, Nat.le_of_ble_eq_true rfl⟩ (Nat.le_of_ble_eq_true rfl) dX12_testWord_37) hI (Nat.le_of_ble_eq_true rfl) (fun r_20 σ_21 H locs hpσ_21 hkσ_21 hI => ?_)
    have ahpσ_21 := hpσ_21.1
    have bhpσ_21 := hpσ_21.2.1
    have chpσ_21 := hpσ_21.2.2.1
    have dhpσ_21 := hpσ_21.2.2.2
    clear hpσ_21
    replace hI := q_Irw ahpσ_21 hI
    replace hF := q_letX hF dhpσ_21
    refine q_if_eq (A := r_20.toInt) E rfl (tgt := 45) dX12_testWord_40 (by decide) (fun c_22 => ?_) (fun c_22 => ?_)
    · skip
      replace hF := q_ifp hF c_22
      clear chpσ_21
      refine lv_aload_n hx hb dX12_testWord_45 rfl (lv_at hl 0 rfl) ?_
      refine lv_bipush (v := 115) hx hb dX12_testWord_46 zkb_115 ?_
      refine lv_bipush (v := 104) hx hb dX12_testWord_48 zkb_104 ?_
      refine lv_bipush (v := 111) hx hb dX12_testWord_50 zkb_111 ?_
      refine lv_bipush (v := 119) hx hb dX12_testWord_52 zkb_119 ?_
      refine lv_bipush (v := 110) hx hb dX12_testWord_54 zkb_110 ?_
      refine lv_iconst (v := 0) hx hb dX12_testWord_56 zki_0 ?_
      have kc_23 : (115 : Int32).toInt = 115 := zt_115
      have kc_24 : (104 : Int32).toInt = 104 := zt_104
      have kc_25 : (111 : Int32).toInt = 111 := zt_111
      have kc_26 : (119 : Int32).toInt = 119 := zt_119
      have kc_27 : (110 : Int32).toInt = 110 := zt_110
      have kc_28 : (0 : Int32).toInt = 0 := zt_0
      refine q_cl_ (q_runS (As := [.int 115, .int 104, .int 111, .int 119, .int 110, .int 0]) (rest := [.ref a]) E (hml.trans hl.1.symm) hI (c_X12_spelled l X σ (115 : Int32) (104 : Int32) (111 : Int32) (119 : Int32) (110 : Int32) (0 : Int32)) ks_X12_135 rfl ⟨Nat.le_of_ble_eq_true rfl, Nat.le_of_ble_eq_true rfl⟩ ⟨Nat.le_refl _, Nat.le_refl _⟩ rfl (Nat.le_of_ble_eq_true rfl) dX12_testWord_57) hI (Nat.le_of_ble_eq_true rfl) (fun r_29 σ_30 H locs hpσ_30 hkσ_30 hI => ?_)
      have ahpσ_30 := hpσ_30.1
      have bhpσ_30 := hpσ_30.2
      clear hpσ_30
      replace hI := q_Irw ahpσ_30 hI
      replace hF := q_letX hF bhpσ_30
      refine q_ci (q_rV11_1 (rest := []) E (hml.trans hl.1.symm) hI (c_X12_isWord l X σ a r_29 ha) kv_X12_139 ha ⟨Nat.le_of_ble_eq_true rfl, Nat.le_of_ble_eq_true rfl⟩ (Nat.le_of_ble_eq_true rfl) dX12_testWord_60) hI (Nat.le_of_ble_eq_true rfl) (fun r_31 σ_32 H locs hpσ_32 hkσ_32 hI => ?_)
      have ahpσ_32 := hpσ_32.1
      have bhpσ_32 := hpσ_32.2.1
      have chpσ_32 := hpσ_32.2.2.1
      have dhpσ_32 := hpσ_32.2.2.2
      clear hpσ_32
      replace hI := q_Irw ahpσ_32 hI
      replace hF := q_letX hF dhpσ_32
      refine q_if_eq (A := r_31.toInt) E rfl (tgt := 68) dX12_testWord_63 (by decide) (fun c_33 => ?_) (fun c_33 => ?_)
      · skip
        replace hF := q_ifp hF c_33
        clear chpσ_32
        refine lv_aload_n hx hb dX12_testWord_68 rfl (lv_at hl 0 rfl) ?_
        refine lv_bipush (v := 119) hx hb dX12_testWord_69 zkb_119 ?_
        refine lv_bipush (v := 111) hx hb dX12_testWord_71 zkb_111 ?_
        refine lv_bipush (v := 110) hx hb dX12_testWord_73 zkb_110 ?_
        refine lv_iconst (v := 0) hx hb dX12_testWord_75 zki_0 ?_
        refine lv_iconst (v := 0) hx hb dX12_testWord_76 zki_0 ?_
        refine lv_iconst (v := 0) hx hb dX12_testWord_77 zki_0 ?_
        have kc_34 : (119 : Int32).toInt = 119 := zt_119
        have kc_35 : (111 : Int32).toInt = 111 := zt_111
        have kc_36 : (110 : Int32).toInt = 110 := zt_110
        have kc_37 : (0 : Int32).toInt = 0 := zt_0
        have kc_38 : (0 : Int32).toInt = 0 := zt_0
        have kc_39 : (0 : Int32).toInt = 0 := zt_0
        refine q_cl_ (q_runS (As := [.int 119, .int 111, .int 110, .int 0, .int 0, .int 0]) (rest := [.ref a]) E (hml.trans hl.1.symm) hI (c_X12_spelled l X σ (119 : Int32) (111 : Int32) (110 : Int32) (0 : Int32) (0 : Int32) (0 : Int32)) ks_X12_135 rfl ⟨Nat.le_of_ble_eq_true rfl, Nat.le_of_ble_eq_true rfl⟩ ⟨Nat.le_refl _, Nat.le_refl _⟩ rfl (Nat.le_of_ble_eq_true rfl) dX12_testWord_78) hI (Nat.le_of_ble_eq_true rfl) (fun r_40 σ_41 H locs hpσ_41 hkσ_41 hI => ?_)
        have ahpσ_41 := hpσ_41.1
        have bhpσ_41 := hpσ_41.2
        clear hpσ_41
        replace hI := q_Irw ahpσ_41 hI
        replace hF := q_letX hF bhpσ_41
        refine q_ci (q_rV11_1 (rest := []) E (hml.trans hl.1.symm) hI (c_X12_isWord l X σ a r_40 ha) kv_X12_139 ha ⟨Nat.le_of_ble_eq_true rfl, Nat.le_of_ble_eq_true rfl⟩ (Nat.le_of_ble_eq_true rfl) dX12_testWord_81) hI (Nat.le_of_ble_eq_true rfl) (fun r_42 σ_43 H locs hpσ_43 hkσ_43 hI => ?_)
        have ahpσ_43 := hpσ_43.1
        have bhpσ_43 := hpσ_43.2.1
        have chpσ_43 := hpσ_43.2.2.1
        have dhpσ_43 := hpσ_43.2.2.2
        clear hpσ_43
        replace hI := q_Irw ahpσ_43 hI
        replace hF := q_letX hF dhpσ_43
        refine q_if_eq (A := r_42.toInt) E rfl (tgt := 91) dX12_testWord_84 (by decide) (fun c_44 => ?_) (fun c_44 => ?_)
        · skip
          replace hF := q_ifp hF c_44
          clear chpσ_43
          refine lv_iconst (v := (-1)) hx hb dX12_testWord_91 zki_m1 ?_
          have hrv : ((-1) : Int32).toInt = (-1) := zt_m1
          exact q_reti E hr hlk hI ⟨rfl, (by first | (clear kc_1 kc_2 kc_3 kc_4 kc_5 kc_6 ahpσ_8 bhpσ_8 ahpσ_10 bhpσ_10 dhpσ_10 c_11 kc_12 kc_13 kc_14 kc_15 kc_16 kc_17 ahpσ_19 bhpσ_19 ahpσ_21 bhpσ_21 dhpσ_21 c_22 kc_23 kc_24 kc_25 kc_26 kc_27 kc_28 ahpσ_30 bhpσ_30 ahpσ_32 bhpσ_32 dhpσ_32 c_33 kc_34 kc_35 kc_36 kc_37 kc_38 kc_39 ahpσ_41 bhpσ_41 ahpσ_43 bhpσ_43 dhpσ_43 c_44; omega) | omega), (hF.trans hout)⟩ dX12_testWord_92
        · skip
          replace hF := q_ifn hF c_44
          replace c_44 := q_ifOne bhpσ_43 c_44
          replace chpσ_43 := chpσ_43 c_44
          refine lv_iconst (v := 3) hx hb dX12_testWord_87 zki_3 ?_
          refine lv_goto (tgt := 92) hx hb dX12_testWord_88 (by decide) ?_
          have hrv : (3 : Int32).toInt = 3 := zt_3
          exact q_reti E hr hlk hI ⟨rfl, (by first | (clear kc_1 kc_2 kc_3 kc_4 kc_5 kc_6 ahpσ_8 bhpσ_8 ahpσ_10 bhpσ_10 dhpσ_10 c_11 kc_12 kc_13 kc_14 kc_15 kc_16 kc_17 ahpσ_19 bhpσ_19 ahpσ_21 bhpσ_21 dhpσ_21 c_22 kc_23 kc_24 kc_25 kc_26 kc_27 kc_28 ahpσ_30 bhpσ_30 ahpσ_32 bhpσ_32 dhpσ_32 c_33 kc_34 kc_35 kc_36 kc_37 kc_38 kc_39 ahpσ_41 bhpσ_41 ahpσ_43 bhpσ_43 dhpσ_43 c_44 chpσ_43; omega) | omega), (hF.trans hout)⟩ dX12_testWord_92
      · skip
        replace hF := q_ifn hF c_33
        replace c_33 := q_ifOne bhpσ_32 c_33
        replace chpσ_32 := chpσ_32 c_33
        refine lv_iconst (v := 2) hx hb dX12_testWord_66 zki_2 ?_
        have hrv : (2 : Int32).toInt = 2 := zt_2
        exact q_reti E hr hlk hI ⟨rfl, (by first | (clear kc_1 kc_2 kc_3 kc_4 kc_5 kc_6 ahpσ_8 bhpσ_8 ahpσ_10 bhpσ_10 dhpσ_10 c_11 kc_12 kc_13 kc_14 kc_15 kc_16 kc_17 ahpσ_19 bhpσ_19 ahpσ_21 bhpσ_21 dhpσ_21 c_22 kc_23 kc_24 kc_25 kc_26 kc_27 kc_28 ahpσ_30 bhpσ_30 ahpσ_32 bhpσ_32 dhpσ_32 c_33 chpσ_32; omega) | omega), (hF.trans hout)⟩ dX12_testWord_67
    · skip
      replace hF := q_ifn hF c_22
      replace c_22 := q_ifOne bhpσ_21 c_22
      replace chpσ_21 := chpσ_21 c_22
      refine lv_iconst (v := 1) hx hb dX12_testWord_43 zki_1 ?_
      have hrv : (1 : Int32).toInt = 1 := zt_1
      exact q_reti E hr hlk hI ⟨rfl, (by first | (clear kc_1 kc_2 kc_3 kc_4 kc_5 kc_6 ahpσ_8 bhpσ_8 ahpσ_10 bhpσ_10 dhpσ_10 c_11 kc_12 kc_13 kc_14 kc_15 kc_16 kc_17 ahpσ_19 bhpσ_19 ahpσ_21 bhpσ_21 dhpσ_21 c_22 chpσ_21; omega) | omega), (hF.trans hout)⟩ dX12_testWord_44
  · skip
    replace hF := q_ifn hF c_11
    replace c_11 := q_ifOne bhpσ_10 c_11
    replace chpσ_10 := chpσ_10 c_11
    refine lv_iconst (v := 0) hx hb dX12_testWord_21 zki_0 ?_
    have hrv : (0 : Int32).toInt = 0 := zt_0
    exact q_reti E hr hlk hI ⟨rfl, (by first | (clear kc_1 kc_2 kc_3 kc_4 kc_5 ahpσ_8 bhpσ_8 ahpσ_10 bhpσ_10 dhpσ_10 c_11 chpσ_10 hrv; omega) | omega), (hF.trans hout)⟩ dX12_testWord_22

set_option maxRecDepth 100000 in
set_option maxHeartbeats 4000000 in
theorem c_X12_isKept (l : Launch) (X : XW) (σ : ST) (a : Nat) (ha : q_kd X a = 12) (ht : 0 ≤ (σ.1 a 14).toInt) : Met l yX12_isKept (q_ws yX12_isKept cX12_isKept 1 (some .boolean)) (q_rm 3 67) (q_P X σ [.ref a]) (q_Qi X 9 σ (fun (r : Int32) (σ' : ST) => σ' = σ ∧ (0 ≤ r.toInt ∧ r.toInt ≤ 1) ∧ r = F_X12_isKept X σ a)) 0 0 (q_reg X) := by
  refine q_met 9 (by first | exact rfl | decide +kernel) rfl (Nat.le_of_ble_eq_true rfl) (fun p e s m below meth c E hml hr hlk hI ls hl => ?_)
  have hx := E.1
  have hb := E.2.1
  have hl : lv_has ls 1 [(0, .ref a)] := hl
  obtain ⟨out, hout⟩ : ∃ o, o = F_X12_isKept X σ a := ⟨_, rfl⟩
  have hF := hout.symm
  unfold F_X12_isKept at hF
  refine lv_aload_n hx hb dX12_isKept_0 rfl (lv_at hl 0 rfl) ?_
  refine q_ci (q_rV11_0 (rest := []) E (hml.trans hl.1.symm) hI (c_X12_isKinds l X σ a ha) kv_X12_150 ha ⟨Nat.le_of_ble_eq_true rfl, Nat.le_of_ble_eq_true rfl⟩ (Nat.le_of_ble_eq_true rfl) dX12_isKept_1) hI (Nat.le_of_ble_eq_true rfl) (fun r_1 σ_2 H locs hpσ_2 hkσ_2 hI => ?_)
  have ahpσ_2 := hpσ_2.1
  have bhpσ_2 := hpσ_2.2.1
  have chpσ_2 := hpσ_2.2.2
  clear hpσ_2
  replace hI := q_Irw ahpσ_2 hI
  replace hF := q_letX hF chpσ_2
  refine q_if_ne (A := r_1.toInt) E rfl (tgt := 56) dX12_isKept_4 (by decide) (fun c_3 => ?_) (fun c_3 => ?_)
  · skip
    replace hF := q_ifn hF c_3
    replace c_3 := q_ifOne bhpσ_2 c_3
    refine lv_iconst (v := 1) hx hb dX12_isKept_56 zki_1 ?_
    have hrv : (1 : Int32).toInt = 1 := zt_1
    exact q_retz E hr hlk hI ⟨by decide, by decide⟩ ⟨rfl, ⟨by decide, by decide⟩, (hF.trans hout)⟩ dX12_isKept_57
  · skip
    replace hF := q_ifp hF c_3
    refine lv_aload_n hx hb dX12_isKept_7 rfl (lv_at hl 0 rfl) ?_
    refine q_ci (q_rV11_0 (rest := []) E (hml.trans hl.1.symm) hI (c_X12_isEach l X σ a ha) kv_X12_153 ha ⟨Nat.le_of_ble_eq_true rfl, Nat.le_of_ble_eq_true rfl⟩ (Nat.le_of_ble_eq_true rfl) dX12_isKept_8) hI (Nat.le_of_ble_eq_true rfl) (fun r_4 σ_5 H locs hpσ_5 hkσ_5 hI => ?_)
    have ahpσ_5 := hpσ_5.1
    have bhpσ_5 := hpσ_5.2.1
    have chpσ_5 := hpσ_5.2.2
    clear hpσ_5
    replace hI := q_Irw ahpσ_5 hI
    replace hF := q_letX hF chpσ_5
    refine q_if_ne (A := r_4.toInt) E rfl (tgt := 56) dX12_isKept_11 (by decide) (fun c_6 => ?_) (fun c_6 => ?_)
    · skip
      replace hF := q_ifn hF c_6
      replace c_6 := q_ifOne bhpσ_5 c_6
      refine lv_iconst (v := 1) hx hb dX12_isKept_56 zki_1 ?_
      have hrv : (1 : Int32).toInt = 1 := zt_1
      exact q_retz E hr hlk hI ⟨by decide, by decide⟩ ⟨rfl, ⟨by decide, by decide⟩, (hF.trans hout)⟩ dX12_isKept_57
    · skip
      replace hF := q_ifp hF c_6
      refine lv_aload_n hx hb dX12_isKept_14 rfl (lv_at hl 0 rfl) ?_
      refine q_ci (q_rV11_0 (rest := []) E (hml.trans hl.1.symm) hI (c_X12_isLaw l X σ a ha) kv_X12_156 ha ⟨Nat.le_of_ble_eq_true rfl, Nat.le_of_ble_eq_true rfl⟩ (Nat.le_of_ble_eq_true rfl) dX12_isKept_15) hI (Nat.le_of_ble_eq_true rfl) (fun r_7 σ_8 H locs hpσ_8 hkσ_8 hI => ?_)
      have ahpσ_8 := hpσ_8.1
      have bhpσ_8 := hpσ_8.2.1
      have chpσ_8 := hpσ_8.2.2
      clear hpσ_8
      replace hI := q_Irw ahpσ_8 hI
      replace hF := q_letX hF chpσ_8
      refine q_if_ne (A := r_7.toInt) E rfl (tgt := 56) dX12_isKept_18 (by decide) (fun c_9 => ?_) (fun c_9 => ?_)
      · skip
        replace hF := q_ifn hF c_9
        replace c_9 := q_ifOne bhpσ_8 c_9
        refine lv_iconst (v := 1) hx hb dX12_isKept_56 zki_1 ?_
        have hrv : (1 : Int32).toInt = 1 := zt_1
        exact q_retz E hr hlk hI ⟨by decide, by decide⟩ ⟨rfl, ⟨by decide, by decide⟩, (hF.trans hout)⟩ dX12_isKept_57
      · skip
        replace hF := q_ifp hF c_9
        refine lv_aload_n hx hb dX12_isKept_21 rfl (lv_at hl 0 rfl) ?_
        refine q_ci (q_rV11_0 (rest := []) E (hml.trans hl.1.symm) hI (c_X12_isMost l X σ a ha) kv_X12_159 ha ⟨Nat.le_of_ble_eq_true rfl, Nat.le_of_ble_eq_true rfl⟩ (Nat.le_of_ble_eq_true rfl) dX12_isKept_22) hI (Nat.le_of_ble_eq_true rfl) (fun r_10 σ_11 H locs hpσ_11 hkσ_11 hI => ?_)
        have ahpσ_11 := hpσ_11.1
        have bhpσ_11 := hpσ_11.2.1
        have chpσ_11 := hpσ_11.2.2
        clear hpσ_11
        replace hI := q_Irw ahpσ_11 hI
        replace hF := q_letX hF chpσ_11
        refine q_if_ne (A := r_10.toInt) E rfl (tgt := 56) dX12_isKept_25 (by decide) (fun c_12 => ?_) (fun c_12 => ?_)
        · skip
          replace hF := q_ifn hF c_12
          replace c_12 := q_ifOne bhpσ_11 c_12
          refine lv_iconst (v := 1) hx hb dX12_isKept_56 zki_1 ?_
          have hrv : (1 : Int32).toInt = 1 := zt_1
          exact q_retz E hr hlk hI ⟨by decide, by decide⟩ ⟨rfl, ⟨by decide, by decide⟩, (hF.trans hout)⟩ dX12_isKept_57
        · skip
          replace hF := q_ifp hF c_12
          refine lv_aload_n hx hb dX12_isKept_28 rfl (lv_at hl 0 rfl) ?_
          refine q_ci (q_rV11_0 (rest := []) E (hml.trans hl.1.symm) hI (c_X12_isPlayer l X σ a ha) kv_X12_162 ha ⟨Nat.le_of_ble_eq_true rfl, Nat.le_of_ble_eq_true rfl⟩ (Nat.le_of_ble_eq_true rfl) dX12_isKept_29) hI (Nat.le_of_ble_eq_true rfl) (fun r_13 σ_14 H locs hpσ_14 hkσ_14 hI => ?_)
          have ahpσ_14 := hpσ_14.1
          have bhpσ_14 := hpσ_14.2.1
          have chpσ_14 := hpσ_14.2.2
          clear hpσ_14
          replace hI := q_Irw ahpσ_14 hI
          replace hF := q_letX hF chpσ_14
          refine q_if_ne (A := r_13.toInt) E rfl (tgt := 56) dX12_isKept_32 (by decide) (fun c_15 => ?_) (fun c_15 => ?_)
          · skip
            replace hF := q_ifn hF c_15
            replace c_15 := q_ifOne bhpσ_14 c_15
            refine lv_iconst (v := 1) hx hb dX12_isKept_56 zki_1 ?_
            have hrv : (1 : Int32).toInt = 1 := zt_1
            exact q_retz E hr hlk hI ⟨by decide, by decide⟩ ⟨rfl, ⟨by decide, by decide⟩, (hF.trans hout)⟩ dX12_isKept_57
          · skip
            replace hF := q_ifp hF c_15
            refine lv_aload_n hx hb dX12_isKept_35 rfl (lv_at hl 0 rfl) ?_
            refine q_ci (q_rV11_0 (rest := []) E (hml.trans hl.1.symm) hI (c_X12_isHand l X σ a ha) kv_X12_165 ha ⟨Nat.le_of_ble_eq_true rfl, Nat.le_of_ble_eq_true rfl⟩ (Nat.le_of_ble_eq_true rfl) dX12_isKept_36) hI (Nat.le_of_ble_eq_true rfl) (fun r_16 σ_17 H locs hpσ_17 hkσ_17 hI => ?_)
            have ahpσ_17 := hpσ_17.1
            have bhpσ_17 := hpσ_17.2.1
            have chpσ_17 := hpσ_17.2.2
            clear hpσ_17
            replace hI := q_Irw ahpσ_17 hI
            replace hF := q_letX hF chpσ_17
            refine q_if_ne (A := r_16.toInt) E rfl (tgt := 56) dX12_isKept_39 (by decide) (fun c_18 => ?_) (fun c_18 => ?_)
            · skip
              replace hF := q_ifn hF c_18
              replace c_18 := q_ifOne bhpσ_17 c_18
              refine lv_iconst (v := 1) hx hb dX12_isKept_56 zki_1 ?_
              have hrv : (1 : Int32).toInt = 1 := zt_1
              exact q_retz E hr hlk hI ⟨by decide, by decide⟩ ⟨rfl, ⟨by decide, by decide⟩, (hF.trans hout)⟩ dX12_isKept_57
            · skip
              replace hF := q_ifp hF c_18
              refine lv_aload_n hx hb dX12_isKept_42 rfl (lv_at hl 0 rfl) ?_
              refine q_ci (q_rV11_0 (rest := []) E (hml.trans hl.1.symm) hI (c_X12_isOf l X σ a ha) kv_X12_168 ha ⟨Nat.le_of_ble_eq_true rfl, Nat.le_of_ble_eq_true rfl⟩ (Nat.le_of_ble_eq_true rfl) dX12_isKept_43) hI (Nat.le_of_ble_eq_true rfl) (fun r_19 σ_20 H locs hpσ_20 hkσ_20 hI => ?_)
              have ahpσ_20 := hpσ_20.1
              have bhpσ_20 := hpσ_20.2.1
              have chpσ_20 := hpσ_20.2.2
              clear hpσ_20
              replace hI := q_Irw ahpσ_20 hI
              replace hF := q_letX hF chpσ_20
              refine q_if_ne (A := r_19.toInt) E rfl (tgt := 56) dX12_isKept_46 (by decide) (fun c_21 => ?_) (fun c_21 => ?_)
              · skip
                replace hF := q_ifn hF c_21
                replace c_21 := q_ifOne bhpσ_20 c_21
                refine lv_iconst (v := 1) hx hb dX12_isKept_56 zki_1 ?_
                have hrv : (1 : Int32).toInt = 1 := zt_1
                exact q_retz E hr hlk hI ⟨by decide, by decide⟩ ⟨rfl, ⟨by decide, by decide⟩, (hF.trans hout)⟩ dX12_isKept_57
              · skip
                replace hF := q_ifp hF c_21
                refine lv_aload_n hx hb dX12_isKept_49 rfl (lv_at hl 0 rfl) ?_
                refine q_ci (q_rV11_0 (rest := []) E (hml.trans hl.1.symm) hI (c_X12_lawWord l X σ a ha) kv_X12_171 ha ⟨Nat.le_of_ble_eq_true rfl, Nat.le_of_ble_eq_true rfl⟩ (Nat.le_of_ble_eq_true rfl) dX12_isKept_50) hI (Nat.le_of_ble_eq_true rfl) (fun r_22 σ_23 H locs hpσ_23 hkσ_23 hI => ?_)
                have ahpσ_23 := hpσ_23.1
                have bhpσ_23 := hpσ_23.2.1
                have chpσ_23 := hpσ_23.2.2
                clear hpσ_23
                replace hI := q_Irw ahpσ_23 hI
                replace hF := q_letX hF chpσ_23
                refine q_if_lt (A := r_22.toInt) E rfl (tgt := 58) dX12_isKept_53 (by decide) (fun c_24 => ?_) (fun c_24 => ?_)
                · skip
                  replace hF := q_ifp hF c_24
                  refine lv_aload_n hx hb dX12_isKept_58 rfl (lv_at hl 0 rfl) ?_
                  refine q_ci (q_rV11_0 (rest := []) E (hml.trans hl.1.symm) hI (c_X12_stepWord l X σ a ha ht) kv_X12_175 ha ⟨Nat.le_of_ble_eq_true rfl, Nat.le_of_ble_eq_true rfl⟩ (Nat.le_of_ble_eq_true rfl) dX12_isKept_59) hI (Nat.le_of_ble_eq_true rfl) (fun r_25 σ_26 H locs hpσ_26 hkσ_26 hI => ?_)
                  have ahpσ_26 := hpσ_26.1
                  have bhpσ_26 := hpσ_26.2.1
                  have chpσ_26 := hpσ_26.2.2.1
                  have dhpσ_26 := hpσ_26.2.2.2
                  clear hpσ_26
                  replace hI := q_Irw ahpσ_26 hI
                  replace hF := q_letX hF dhpσ_26
                  refine q_if_ge (A := r_25.toInt) E rfl (tgt := 79) dX12_isKept_62 (by decide) (fun c_27 => ?_) (fun c_27 => ?_)
                  · skip
                    replace hF := q_ifn hF (Int.not_lt.mpr c_27)
                    refine lv_iconst (v := 1) hx hb dX12_isKept_79 zki_1 ?_
                    refine lv_goto (tgt := 84) hx hb dX12_isKept_80 (by decide) ?_
                    have hrv : (1 : Int32).toInt = 1 := zt_1
                    exact q_retz E hr hlk hI ⟨by decide, by decide⟩ ⟨rfl, ⟨by decide, by decide⟩, (hF.trans hout)⟩ dX12_isKept_84
                  · skip
                    replace hF := q_ifp hF c_27
                    refine lv_aload_n hx hb dX12_isKept_65 rfl (lv_at hl 0 rfl) ?_
                    refine q_ci (q_rV11_0 (rest := []) E (hml.trans hl.1.symm) hI (c_X12_testWord l X σ a ha) kv_X12_178 ha ⟨Nat.le_of_ble_eq_true rfl, Nat.le_of_ble_eq_true rfl⟩ (Nat.le_of_ble_eq_true rfl) dX12_isKept_66) hI (Nat.le_of_ble_eq_true rfl) (fun r_28 σ_29 H locs hpσ_29 hkσ_29 hI => ?_)
                    have ahpσ_29 := hpσ_29.1
                    have bhpσ_29 := hpσ_29.2.1
                    have chpσ_29 := hpσ_29.2.2
                    clear hpσ_29
                    replace hI := q_Irw ahpσ_29 hI
                    replace hF := q_letX hF chpσ_29
                    refine q_if_ge (A := r_28.toInt) E rfl (tgt := 79) dX12_isKept_69 (by decide) (fun c_30 => ?_) (fun c_30 => ?_)
                    · skip
                      replace hF := q_ifn hF (Int.not_lt.mpr c_30)
                      refine lv_iconst (v := 1) hx hb dX12_isKept_79 zki_1 ?_
                      refine lv_goto (tgt := 84) hx hb dX12_isKept_80 (by decide) ?_
                      have hrv : (1 : Int32).toInt = 1 := zt_1
                      exact q_retz E hr hlk hI ⟨by decide, by decide⟩ ⟨rfl, ⟨by decide, by decide⟩, (hF.trans hout)⟩ dX12_isKept_84
                    · skip
                      replace hF := q_ifp hF c_30
                      refine lv_aload_n hx hb dX12_isKept_72 rfl (lv_at hl 0 rfl) ?_
                      refine q_ci (q_rV11_0 (rest := []) E (hml.trans hl.1.symm) hI (c_X12_isEnd l X σ a ha) kv_X12_181 ha ⟨Nat.le_of_ble_eq_true rfl, Nat.le_of_ble_eq_true rfl⟩ (Nat.le_of_ble_eq_true rfl) dX12_isKept_73) hI (Nat.le_of_ble_eq_true rfl) (fun r_31 σ_32 H locs hpσ_32 hkσ_32 hI => ?_)
                      have ahpσ_32 := hpσ_32.1
                      have bhpσ_32 := hpσ_32.2.1
                      have chpσ_32 := hpσ_32.2.2
                      clear hpσ_32
                      replace hI := q_Irw ahpσ_32 hI
                      replace hF := q_letX hF chpσ_32
                      refine q_if_eq (A := r_31.toInt) E rfl (tgt := 83) dX12_isKept_76 (by decide) (fun c_33 => ?_) (fun c_33 => ?_)
                      · skip
                        replace hF := q_ifp hF c_33
                        refine lv_iconst (v := 0) hx hb dX12_isKept_83 zki_0 ?_
                        have hrv : (0 : Int32).toInt = 0 := zt_0
                        exact q_retz E hr hlk hI ⟨by decide, by decide⟩ ⟨rfl, ⟨by decide, by decide⟩, (hF.trans hout)⟩ dX12_isKept_84
                      · skip
                        replace hF := q_ifn hF c_33
                        replace c_33 := q_ifOne bhpσ_32 c_33
                        refine lv_iconst (v := 1) hx hb dX12_isKept_79 zki_1 ?_
                        refine lv_goto (tgt := 84) hx hb dX12_isKept_80 (by decide) ?_
                        have hrv : (1 : Int32).toInt = 1 := zt_1
                        exact q_retz E hr hlk hI ⟨by decide, by decide⟩ ⟨rfl, ⟨by decide, by decide⟩, (hF.trans hout)⟩ dX12_isKept_84
                · skip
                  replace hF := q_ifn hF (Int.not_lt.mpr c_24)
                  refine lv_iconst (v := 1) hx hb dX12_isKept_56 zki_1 ?_
                  have hrv : (1 : Int32).toInt = 1 := zt_1
                  exact q_retz E hr hlk hI ⟨by decide, by decide⟩ ⟨rfl, ⟨by decide, by decide⟩, (hF.trans hout)⟩ dX12_isKept_57

set_option maxRecDepth 100000 in
set_option maxHeartbeats 4000000 in
theorem c_X12_isName (l : Launch) (X : XW) (σ : ST) (a : Nat) (ha : q_kd X a = 12) (ht : 0 ≤ (σ.1 a 14).toInt) : Met l yX12_isName (q_ws yX12_isName cX12_isName 1 (some .boolean)) (q_rm 4 87) (q_P X σ [.ref a]) (q_Qi X 9 σ (fun (r : Int32) (σ' : ST) => σ' = σ ∧ (0 ≤ r.toInt ∧ r.toInt ≤ 1) ∧ r = F_X12_isName X σ a)) 0 0 (q_reg X) := by
  refine q_met 9 (by first | exact rfl | decide +kernel) rfl (Nat.le_of_ble_eq_true rfl) (fun p e s m below meth c E hml hr hlk hI ls hl => ?_)
  have hx := E.1
  have hb := E.2.1
  have hl : lv_has ls 1 [(0, .ref a)] := hl
  obtain ⟨out, hout⟩ : ∃ o, o = F_X12_isName X σ a := ⟨_, rfl⟩
  have hF := hout.symm
  unfold F_X12_isName at hF
  refine lv_aload_n hx hb dX12_isName_0 rfl (lv_at hl 0 rfl) ?_
  refine gs_X12_110_12 E hI ha dX12_isName_1 ?_
  refine lv_topi (fun f_1 ef_1 => ?_)
  replace hF := q_letX hF ef_1
  refine lv_iconst (v := 1) hx hb dX12_isName_4 zki_1 ?_
  refine q_icmp_ne (A := f_1.toInt) (B := 1) E rfl (by decide) (tgt := 28) dX12_isName_5 (by decide) (fun c_2 => ?_) (fun c_2 => ?_)
  · skip
    replace hF := q_ifn hF c_2
    refine lv_iconst (v := 0) hx hb dX12_isName_28 zki_0 ?_
    have hrv : (0 : Int32).toInt = 0 := zt_0
    exact q_retz E hr hlk hI ⟨by decide, by decide⟩ ⟨rfl, ⟨by decide, by decide⟩, (hF.trans hout)⟩ dX12_isName_29
  · skip
    replace hF := q_ifp hF c_2
    refine lv_aload_n hx hb dX12_isName_8 rfl (lv_at hl 0 rfl) ?_
    refine gs_X12_123_12 E hI ha dX12_isName_9 ?_
    refine lv_topi (fun f_3 ef_3 => ?_)
    replace hF := q_letX hF ef_3
    refine lv_bipush (v := 8) hx hb dX12_isName_12 zkb_8 ?_
    refine q_icmp_gt (A := f_3.toInt) (B := 8) E rfl (by decide) (tgt := 28) dX12_isName_14 (by decide) (fun c_4 => ?_) (fun c_4 => ?_)
    · skip
      replace hF := q_ifp hF c_4
      refine lv_iconst (v := 0) hx hb dX12_isName_28 zki_0 ?_
      have hrv : (0 : Int32).toInt = 0 := zt_0
      exact q_retz E hr hlk hI ⟨by decide, by decide⟩ ⟨rfl, ⟨by decide, by decide⟩, (hF.trans hout)⟩ dX12_isName_29
    · skip
      replace hF := q_ifn hF (Int.not_lt.mpr c_4)
      refine lv_aload_n hx hb dX12_isName_17 rfl (lv_at hl 0 rfl) ?_
      refine q_ci (q_rV11_0 (rest := []) E (hml.trans hl.1.symm) hI (c_X12_isKept l X σ a ha ht) kv_X12_184 ha ⟨Nat.le_of_ble_eq_true rfl, Nat.le_of_ble_eq_true rfl⟩ (Nat.le_of_ble_eq_true rfl) dX12_isName_18) hI (Nat.le_of_ble_eq_true rfl) (fun r_5 σ_6 H locs hpσ_6 hkσ_6 hI => ?_)
      have ahpσ_6 := hpσ_6.1
      have bhpσ_6 := hpσ_6.2.1
      have chpσ_6 := hpσ_6.2.2
      clear hpσ_6
      replace hI := q_Irw ahpσ_6 hI
      replace hF := q_letX hF chpσ_6
      refine q_if_ne (A := r_5.toInt) E rfl (tgt := 28) dX12_isName_21 (by decide) (fun c_7 => ?_) (fun c_7 => ?_)
      · skip
        replace hF := q_ifn hF c_7
        replace c_7 := q_ifOne bhpσ_6 c_7
        refine lv_iconst (v := 0) hx hb dX12_isName_28 zki_0 ?_
        have hrv : (0 : Int32).toInt = 0 := zt_0
        exact q_retz E hr hlk hI ⟨by decide, by decide⟩ ⟨rfl, ⟨by decide, by decide⟩, (hF.trans hout)⟩ dX12_isName_29
      · skip
        replace hF := q_ifp hF c_7
        refine lv_iconst (v := 1) hx hb dX12_isName_24 zki_1 ?_
        refine lv_goto (tgt := 29) hx hb dX12_isName_25 (by decide) ?_
        have hrv : (1 : Int32).toInt = 1 := zt_1
        exact q_retz E hr hlk hI ⟨by decide, by decide⟩ ⟨rfl, ⟨by decide, by decide⟩, (hF.trans hout)⟩ dX12_isName_29
end
/-! FROM 35.told.a.lean.txt -/
section
section QS
variable {p : Program} {l : Launch} {e : Env} {R : Room} {s : State} {m : MethodId} {args : Array Value} {below : List Frame} {meth : Method} {c : Code} {H : Heap} {locs : List Loc} {cells slots : Nat} {Q : State → Prop} {cc : ByteArray} {X : XW} {n : Nat} {σ0 σ : ST} {H0 : Heap} {pc : Nat} {ls : Array Slot} {rest : List Value} {a : Nat}
theorem gs_X12_35_12 (E : q_E p c cc s m args RX12 X) (hI : q_I X n σ0 H0 locs σ H) (ha : q_kd X a = 12) (hdg : decode cc pc = .ok (.getfield 35, 3)) (kk : W p l e R s m args below meth c H locs cells slots Q (F0 m (pc + 3) ls (.ref (q_rf X a 20) :: rest))) : W p l e R s m args below meth c H locs cells slots Q (F0 m pc ls (.ref a :: rest)) :=
  q_getf (ref := "CheatHeapModel") E hI ha ⟨rfl, by decide⟩ (show vwCl[11]? = some (RX12, TX12, 46) from rfl) q_inX12 (f := 20) (by decide) (q_in_t7 (i := 5) (by first | rfl | decide +kernel) rfl) (Or.inl rfl) rfl hdg kk
theorem gs_X12_44_12 (E : q_E p c cc s m args RX12 X) (hI : q_I X n σ0 H0 locs σ H) (ha : q_kd X a = 12) (hdg : decode cc pc = .ok (.getfield 44, 3)) (kk : W p l e R s m args below meth c H locs cells slots Q (F0 m (pc + 3) ls (.ref (q_rf X a 23) :: rest))) : W p l e R s m args below meth c H locs cells slots Q (F0 m pc ls (.ref a :: rest)) :=
  q_getf (ref := "CheatHeapModel") E hI ha ⟨rfl, by decide⟩ (show vwCl[11]? = some (RX12, TX12, 46) from rfl) q_inX12 (f := 23) (by decide) (q_in_t7 (i := 8) (by first | rfl | decide +kernel) rfl) (Or.inl rfl) rfl hdg kk
theorem kv_X12_216 : q_okV RX12 216 RX12 yX12_must cX12_must 2 none 1 := ⟨(q_in_t7 (i := 219) (by first | rfl | decide +kernel) rfl), (q_in_t7 (i := 221) (by first | rfl | decide +kernel) rfl), (q_in_p (i := 47) (by decide +kernel) rfl), (q_in_t1 (i := 14) (by first | rfl | decide +kernel) rfl), (q_in_t7 (i := 222) (by first | rfl | decide +kernel) rfl), ⟨rfl, by decide, by decide, rfl⟩⟩
theorem ks_X12_220 : q_okS RX12 220 yJ9_max_7cf53 cJ9_max_7cf53 2 (some .int) 2 := ⟨(q_in_t8 (i := 18) (by first | rfl | decide +kernel) rfl), (q_in_t1 (i := 49) (by first | rfl | decide +kernel) rfl), (q_in_t1 (i := 5) (by first | rfl | decide +kernel) rfl), (q_in_t1 (i := 50) (by first | rfl | decide +kernel) rfl), ⟨by decide, by decide, rfl⟩⟩
theorem kv_X12_213 : q_okV RX12 213 RX12 yX12_named cX12_named 3 (some .int) 1 := ⟨(q_in_t8 (i := 71) (by first | rfl | decide +kernel) rfl), (q_in_t8 (i := 73) (by first | rfl | decide +kernel) rfl), (q_in_p (i := 69) (by decide +kernel) rfl), (q_in_t1 (i := 14) (by first | rfl | decide +kernel) rfl), (q_in_t8 (i := 74) (by first | rfl | decide +kernel) rfl), ⟨rfl, by decide, by decide, rfl⟩⟩
theorem kv_X12_210 : q_okV RX12 210 RX12 yX12_isName cX12_isName 1 (some .boolean) 0 := ⟨(q_in_t8 (i := 35) (by first | rfl | decide +kernel) rfl), (q_in_t8 (i := 37) (by first | rfl | decide +kernel) rfl), (q_in_p (i := 60) (by decide +kernel) rfl), (q_in_t1 (i := 14) (by first | rfl | decide +kernel) rfl), (q_in_t8 (i := 38) (by first | rfl | decide +kernel) rfl), ⟨rfl, by decide, by decide, rfl⟩⟩
end QS
end
/-! FROM 35.told.b00.lean.txt -/
section
set_option maxRecDepth 100000 in
set_option maxHeartbeats 4000000 in
theorem c_X12_named (l : Launch) (X : XW) (σ : ST) (a : Nat) (v1 : Int32) (ha : q_kd X a = 12) (hq : v1.toInt = 0 ∨ v1.toInt = 4) (hm : m_c X σ a (930 * v1.toInt + 2) ≤ 6) : Met l yX12_named (q_ws yX12_named cX12_named 3 (some .int)) (q_rm 0 0) (q_P X σ [.ref a, .int v1]) (q_Qi X 9 σ (fun (r : Int32) (σ' : ST) => σ' = σ ∧ (-1 ≤ r.toInt ∧ r.toInt ≤ 5) ∧ r = F_X12_named X σ a v1)) 0 0 (q_reg X) := by
  refine q_met 9 (by first | exact rfl | decide +kernel) rfl (Nat.le_of_ble_eq_true rfl) (fun p e s m below meth c E hml hr hlk hI ls hl => ?_)
  have hx := E.1
  have hb := E.2.1
  have hl : lv_has ls 3 [(0, .ref a), (1, .int v1)] := hl
  obtain ⟨out, hout⟩ : ∃ o, o = F_X12_named X σ a v1 := ⟨_, rfl⟩
  have hF := hout.symm
  unfold F_X12_named at hF
  refine lv_iconst (v := 0) hx hb dX12_named_0 zki_0 ?_
  refine lv_istore_n (lv' := [(2, .int 0), (0, .ref a), (1, .int v1)]) hx hb dX12_named_1 rfl hl (by decide) rfl (fun ls hl => ?_)
  have L_2_2 : ∀ (k_2 : Nat) (x_1 : Int32) (H : Heap) (locs : List Loc) (ls : Array Slot), (2147483647 - x_1.toInt).toNat < k_2 → (0 ≤ x_1.toInt) → (F_X12_named_L2_1 X v1 σ a k_2 x_1 = out) → q_I X 9 σ s.heap locs σ H → lv_has ls 3 [(0, .ref a), (1, .int v1), (2, .int x_1)] → W p l e (q_rm 0 0) s m ([.ref a, .int v1] : List Value).toArray below meth c H locs 0 0 (MQ below (q_Qi X 9 σ (fun (r : Int32) (σ' : ST) => σ' = σ ∧ (-1 ≤ r.toInt ∧ r.toInt ≤ 5) ∧ r = F_X12_named X σ a v1)) ([.ref a, .int v1] : List Value).toArray s 0 0 (q_reg X)) (F0 m 2 ls []) := by
    clear hF
    intro k_2
    induction k_2 with
    | zero =>
      intro x_1 H locs ls hms
      exact absurd hms (Nat.not_lt_zero _)
    | succ k_2 ih2 =>
      intro x_1 H locs ls hm2 hge2 hF hI hl
      replace hF := (F_X12_named_L2_1_s).symm.trans hF
      unfold F_X12_named_B2_1 at hF
      refine lv_iload_n hx hb dX12_named_2 rfl (lv_at hl 2 rfl) ?_
      refine lv_aload_n hx hb dX12_named_3 rfl (lv_at hl 0 rfl) ?_
      refine gs_X12_35_12 E hI ha dX12_named_4 ?_
      refine lv_sipush (v := 930) hx hb dX12_named_7 zks_930 ?_
      refine lv_iload_n hx hb dX12_named_10 rfl (lv_at hl 1 rfl) ?_
      refine lv_imul hx hb dX12_named_11 ?_
      refine lv_topi (fun z_3 ez_3 => ?_)
      replace hF := q_letX hF ez_3
      have iz_3 := q_mulI (A := 930) (B := v1.toInt) ez_3 (by decide) rfl (by first | (clear hm hm2 hge2; omega) | omega) (by first | (clear hm hm2 hge2; omega) | omega)
      refine lv_iconst (v := 2) hx hb dX12_named_12 zki_2 ?_
      refine lv_iadd hx hb dX12_named_13 ?_
      refine lv_topi (fun z_4 ez_4 => ?_)
      replace hF := q_letX hF ez_4
      have iz_4 := q_addI (A := (930 * v1.toInt)) (B := 2) ez_4 iz_3 (by decide) (by first | (clear hm hm2 hge2 iz_3; omega) | omega) (by first | (clear hm hm2 hge2 iz_3; omega) | omega)
      refine q_iald E hI (q_tk (k' := 34) hI ha rfl (Nat.succ_ne_zero _)) ⟨by decide, rfl⟩ (by first | (clear hm hm2 hge2 iz_3; omega) | omega) (by rw [q_lnk (v := 4650) hI (q_tk (k' := 34) hI ha rfl (Nat.succ_ne_zero _)) rfl (by decide)]; omega) dX12_named_14 ?_
      refine lv_topi (fun f_5 ef_5 => ?_)
      replace hF := q_letX hF ef_5
      have if_5 : f_5.toInt = m_c X σ a ((930 * v1.toInt) + 2) := m_rd ef_5 iz_4
      have gc_6_x_1 := q_rng x_1
      have gc_6_f_5 := q_rng f_5
      refine q_icmp_ge (A := x_1.toInt) (B := f_5.toInt) E rfl rfl (tgt := 45) dX12_named_15 (by decide) (fun c_6 => ?_) (fun c_6 => ?_)
      · skip
        replace hF := q_ifn hF (Int.not_lt.mpr c_6)
        skip
        refine lv_iconst (v := (-1)) hx hb dX12_named_45 zki_m1 ?_
        have hrv : ((-1) : Int32).toInt = (-1) := zt_m1
        exact q_reti E hr hlk hI ⟨rfl, (by first | (clear hq hm hm2 hge2 iz_3 iz_4 if_5 gc_6_x_1 gc_6_f_5 c_6; omega) | omega), (hF.trans hout)⟩ dX12_named_46
      · skip
        replace hF := q_ifp hF c_6
        refine lv_aload_n hx hb dX12_named_18 rfl (lv_at hl 0 rfl) ?_
        refine gs_X12_44_12 E hI ha dX12_named_19 ?_
        refine lv_bipush (v := 6) hx hb dX12_named_22 zkb_6 ?_
        refine lv_iload_n hx hb dX12_named_24 rfl (lv_at hl 1 rfl) ?_
        refine lv_imul hx hb dX12_named_25 ?_
        refine lv_topi (fun z_7 ez_7 => ?_)
        replace hF := q_letX hF ez_7
        have iz_7 := q_mulI (A := 6) (B := v1.toInt) ez_7 (by decide) rfl (by first | (clear hm2 iz_3 iz_4; omega) | omega) (by first | (clear hm2 iz_3 iz_4; omega) | omega)
        refine lv_iload_n hx hb dX12_named_26 rfl (lv_at hl 2 rfl) ?_
        refine lv_iadd hx hb dX12_named_27 ?_
        refine lv_topi (fun z_8 ez_8 => ?_)
        replace hF := q_letX hF ez_8
        have iz_8 := q_addI (A := (6 * v1.toInt)) (B := x_1.toInt) ez_8 iz_7 rfl (by first | (clear hm2 iz_3 iz_4 iz_7; omega) | omega) (by first | (clear hm2 iz_3 iz_4 iz_7; omega) | omega)
        refine q_lald E hI (q_tk (k' := 37) hI ha rfl (Nat.succ_ne_zero _)) ⟨by decide, rfl⟩ (by first | (clear hm2 iz_3 iz_4 iz_7; omega) | omega) (by rw [q_lnk (v := 30) hI (q_tk (k' := 37) hI ha rfl (Nat.succ_ne_zero _)) rfl (by decide)]; omega) dX12_named_28 ?_
        refine lv_topl (fun g_9 eg_9 => ?_)
        replace hF := q_letX hF eg_9
        refine lv_aload_n hx hb dX12_named_29 rfl (lv_at hl 0 rfl) ?_
        refine gs_X12_116_12 E hI ha dX12_named_30 ?_
        refine lv_topl (fun g_10 eg_10 => ?_)
        replace hF := q_letX hF eg_10
        refine q_lcmpX E dX12_named_33 (fun z_11 ez_11 hz_11 => ?_)
        replace hF := q_letX hF ez_11
        refine q_if_ne (A := z_11.toInt) E rfl (tgt := 39) dX12_named_34 (by decide) (fun c_12 => ?_) (fun c_12 => ?_)
        · skip
          replace hF := q_ifn hF c_12
          obtain ⟨z_13, ez_13⟩ : ∃ y : Int32, y = x_1 + 1 := ⟨_, rfl⟩
          replace hF := q_letX hF ez_13
          refine lv_iinc (v := z_13) (lv' := [(2, .int z_13), (0, .ref a), (1, .int v1)]) hx hb dX12_named_39 hl (k := 2) rfl (by rw [ez_13]; rfl) (by decide) rfl (fun ls hl => ?_)
          have iz_13 : z_13.toInt = x_1.toInt + 1 := q_inc ez_13 (by first | (clear hq hm2 iz_3 iz_4 iz_7 hz_11 c_12; omega) | omega)
          refine lv_goto (tgt := 2) hx hb dX12_named_42 (by decide) ?_
          exact ih2 z_13 _ _ ls (by first | (clear hq iz_3 iz_4 iz_7; omega) | omega) (by first | (clear hq hm hm2 iz_3 iz_4 if_5 gc_6_f_5 c_6 iz_7 hz_11 c_12; omega) | omega) hF hI (lv_sub hl [1, 2, 0] rfl)
        · skip
          replace hF := q_ifp hF c_12
          skip
          refine lv_iload_n hx hb dX12_named_37 rfl (lv_at hl 2 rfl) ?_
          exact q_reti E hr hlk hI ⟨rfl, (by first | (clear hq hm2 iz_3 iz_4 iz_7 hz_11 c_12; omega) | omega), (hF.trans hout)⟩ dX12_named_38
  exact L_2_2 ((2147483647 - (0 : Int32).toInt).toNat + 1) 0 _ _ ls (Nat.lt_succ_self _) (by decide) hF hI (lv_sub hl [1, 2, 0] rfl)

set_option maxRecDepth 100000 in
set_option maxHeartbeats 4000000 in
theorem c_X12_readTold (l : Launch) (X : XW) (σ : ST) (a : Nat) (v1 : Int32) (ha : q_kd X a = 12) (hs : 0 ≤ (σ.1 a 15).toInt ∧ (σ.1 a 15).toInt ≤ (σ.1 a 16).toInt ∧ (σ.1 a 16).toInt ≤ (σ.1 a 9).toInt ∧ (σ.1 a 9).toInt ≤ 900 ∧ 0 ≤ (σ.1 a 14).toInt ∧ (σ.1 a 14).toInt ≤ 4 ∧ (σ.1 a 14).toInt ≤ 4 * ((σ.1 a 16).toInt - (σ.1 a 15).toInt) ∧ (σ.1 a 14).toInt ≤ 4 * ((σ.1 a 9).toInt - (σ.1 a 15).toInt) ∧ 0 ≤ (σ.1 a 12).toInt) (hq : v1.toInt = 0 ∨ v1.toInt = 4) (hm : m_c X σ a (930 * v1.toInt + 2) ≤ 6) : Met l yX12_readTold (q_ws yX12_readTold cX12_readTold 3 (some .int)) (q_rm 5 107) (q_P X σ [.ref a, .int v1]) (q_Qi X 2 σ (fun (r : Int32) (σ' : ST) => (q_KS (fun b g => b = a ∧ 12 ≤ g ∧ g ≤ 18) 9 X σ σ') ∧ (0 ≤ (σ'.1 a 15).toInt ∧ (σ'.1 a 15).toInt ≤ (σ'.1 a 16).toInt ∧ (σ'.1 a 16).toInt ≤ (σ'.1 a 9).toInt ∧ (σ'.1 a 9).toInt ≤ 900 ∧ 0 ≤ (σ'.1 a 14).toInt ∧ (σ'.1 a 14).toInt ≤ 4 ∧ (σ'.1 a 14).toInt ≤ 4 * ((σ'.1 a 16).toInt - (σ'.1 a 15).toInt) ∧ (σ'.1 a 14).toInt ≤ 4 * ((σ'.1 a 9).toInt - (σ'.1 a 15).toInt) ∧ 0 ≤ (σ'.1 a 12).toInt ∧ (σ'.1 a 9).toInt = (σ.1 a 9).toInt ∧ (σ.1 a 15).toInt ≤ (σ'.1 a 15).toInt ∧ (σ.1 a 12).toInt ≤ (σ'.1 a 12).toInt) ∧ ((σ.1 a 16).toInt ≤ (σ'.1 a 15).toInt + 1000 * (σ'.1 a 12).toInt ∧ 0 ≤ r.toInt ∧ r.toInt ≤ 5) ∧ (r, σ') = F_X12_readTold X σ a v1 ∧ q_ow [(12, 12), (12, 13), (12, 14), (12, 15), (12, 16), (12, 17), (12, 18)] [(12, 19)] X σ σ')) 0 0 (q_reg X) := by
  refine q_met 2 (by first | exact rfl | decide +kernel) rfl (Nat.le_of_ble_eq_true rfl) (fun p e s m below meth c E hml hr hlk hI ls hl => ?_)
  have hx := E.1
  have hb := E.2.1
  have hl : lv_has ls 3 [(0, .ref a), (1, .int v1)] := hl
  have ks_σ : q_KS (fun b g => b = a ∧ 12 ≤ g ∧ g ≤ 18) 9 X σ σ := q_KS.rf
  have fr_σ : q_ow [(12, 12), (12, 13), (12, 14), (12, 15), (12, 16), (12, 17), (12, 18)] [(12, 19)] X σ σ := q_ow.rf
  obtain ⟨out, hout⟩ : ∃ o, o = F_X12_readTold X σ a v1 := ⟨_, rfl⟩
  have hF := hout.symm
  unfold F_X12_readTold at hF
  refine lv_aload_n hx hb dX12_readTold_0 rfl (lv_at hl 0 rfl) ?_
  refine gs_X12_187_12 E hI ha dX12_readTold_1 ?_
  refine lv_topi (fun f_1 ef_1 => ?_)
  replace hF := q_letX hF ef_1
  have if_1 : f_1.toInt = (σ.1 a 12).toInt := congrArg Int32.toInt ef_1
  have J_18_2 : ∀  (σ_2 : ST) (H : Heap) (locs : List Loc) (ls : Array Slot), (0 ≤ (σ_2.1 a 15).toInt ∧ (σ_2.1 a 15).toInt ≤ (σ_2.1 a 16).toInt ∧ (σ_2.1 a 16).toInt ≤ (σ_2.1 a 9).toInt ∧ (σ_2.1 a 9).toInt ≤ 900 ∧ 0 ≤ (σ_2.1 a 14).toInt ∧ (σ_2.1 a 14).toInt ≤ 4 ∧ (σ_2.1 a 14).toInt ≤ 4 * ((σ_2.1 a 16).toInt - (σ_2.1 a 15).toInt) ∧ (σ_2.1 a 14).toInt ≤ 4 * ((σ_2.1 a 9).toInt - (σ_2.1 a 15).toInt) ∧ 0 ≤ (σ_2.1 a 12).toInt ∧ (σ_2.1 a 9).toInt = (σ.1 a 9).toInt ∧ (σ_2.1 a 15).toInt = (σ.1 a 15).toInt ∧ (σ_2.1 a 16).toInt = (σ.1 a 16).toInt ∧ (σ.1 a 12).toInt ≤ (σ_2.1 a 12).toInt) → (q_KS (fun b g => b = a ∧ 12 ≤ g ∧ g ≤ 18) 9 X σ σ_2) → (q_ow [(12, 12), (12, 13), (12, 14), (12, 15), (12, 16), (12, 17), (12, 18)] [(12, 19)] X σ σ_2) → (F_X12_readTold_J18_1 X a v1 σ_2 = out) → q_I X 2 σ s.heap locs σ_2 H → lv_has ls 3 [(0, .ref a), (1, .int v1)] → W p l e (q_rm 5 107) s m ([.ref a, .int v1] : List Value).toArray below meth c H locs 0 0 (MQ below (q_Qi X 2 σ (fun (r : Int32) (σ' : ST) => (q_KS (fun b g => b = a ∧ 12 ≤ g ∧ g ≤ 18) 9 X σ σ') ∧ (0 ≤ (σ'.1 a 15).toInt ∧ (σ'.1 a 15).toInt ≤ (σ'.1 a 16).toInt ∧ (σ'.1 a 16).toInt ≤ (σ'.1 a 9).toInt ∧ (σ'.1 a 9).toInt ≤ 900 ∧ 0 ≤ (σ'.1 a 14).toInt ∧ (σ'.1 a 14).toInt ≤ 4 ∧ (σ'.1 a 14).toInt ≤ 4 * ((σ'.1 a 16).toInt - (σ'.1 a 15).toInt) ∧ (σ'.1 a 14).toInt ≤ 4 * ((σ'.1 a 9).toInt - (σ'.1 a 15).toInt) ∧ 0 ≤ (σ'.1 a 12).toInt ∧ (σ'.1 a 9).toInt = (σ.1 a 9).toInt ∧ (σ.1 a 15).toInt ≤ (σ'.1 a 15).toInt ∧ (σ.1 a 12).toInt ≤ (σ'.1 a 12).toInt) ∧ ((σ.1 a 16).toInt ≤ (σ'.1 a 15).toInt + 1000 * (σ'.1 a 12).toInt ∧ 0 ≤ r.toInt ∧ r.toInt ≤ 5) ∧ (r, σ') = F_X12_readTold X σ a v1 ∧ q_ow [(12, 12), (12, 13), (12, 14), (12, 15), (12, 16), (12, 17), (12, 18)] [(12, 19)] X σ σ')) ([.ref a, .int v1] : List Value).toArray s 0 0 (q_reg X)) (F0 m 18 ls []) := by
    clear hF
    intro σ_2 H locs ls j18σ_2 ks_σ_2 fr_σ_2 hF hI hl
    try clear fr_σ
    unfold F_X12_readTold_J18_1 at hF
    refine lv_aload_n hx hb dX12_readTold_18 rfl (lv_at hl 0 rfl) ?_
    refine gs_X12_187_12 E hI ha dX12_readTold_19 ?_
    refine lv_topi (fun f_3 ef_3 => ?_)
    replace hF := q_letX hF ef_3
    have if_3 : f_3.toInt = (σ_2.1 a 12).toInt := congrArg Int32.toInt ef_3
    refine q_if_ne (A := f_3.toInt) E rfl (tgt := 33) dX12_readTold_22 (by decide) (fun c_4 => ?_) (fun c_4 => ?_)
    · skip
      replace hF := q_ifn hF c_4
      refine lv_iconst (v := 0) hx hb dX12_readTold_33 zki_0 ?_
      refine lv_istore_n (lv' := [(2, .int 0), (0, .ref a), (1, .int v1)]) hx hb dX12_readTold_34 rfl hl (by decide) rfl (fun ls hl => ?_)
      refine lv_aload_n hx hb dX12_readTold_35 rfl (lv_at hl 1 rfl) ?_
      refine gs_X12_187_12 E hI ha dX12_readTold_36 ?_
      refine lv_topi (fun f_5 ef_5 => ?_)
      replace hF := q_letX hF ef_5
      have if_5 : f_5.toInt = (σ_2.1 a 12).toInt := congrArg Int32.toInt ef_5
      refine q_if_ne (A := f_5.toInt) E rfl (tgt := 55) dX12_readTold_39 (by decide) (fun c_6 => ?_) (fun c_6 => ?_)
      · skip
        replace hF := q_ifn hF c_6
        refine lv_aload_n hx hb dX12_readTold_55 rfl (lv_at hl 1 rfl) ?_
        refine lv_iconst (v := 1) hx hb dX12_readTold_56 zki_1 ?_
        have kc_7 : (1 : Int32).toInt = 1 := zt_1
        refine q_cv (q_rV11_1 (rest := []) E (hml.trans hl.1.symm) hI (c_X12_must l X σ_2 a (1 : Int32) ha (by first | (clear hq hm if_1 c_4 c_6 kc_7; omega) | omega) (by first | (clear hs hq hm if_1 j18σ_2 if_3 c_4 if_5 c_6; omega) | omega)) kv_X12_216 ha ⟨Nat.le_of_ble_eq_true rfl, Nat.le_of_ble_eq_true rfl⟩ (Nat.le_of_ble_eq_true rfl) dX12_readTold_57) hI (Nat.le_of_ble_eq_true rfl) (fun σ_9 H locs hpσ_9 hkσ_9 hI => ?_)
        have ahpσ_9 := hpσ_9.1
        have bhpσ_9 := hpσ_9.2.1
        have chpσ_9 := hpσ_9.2.2.1
        have dhpσ_9 := hpσ_9.2.2.2.1
        have ehpσ_9 := hpσ_9.2.2.2.2
        clear hpσ_9
        have fr_σ_9 := fr_σ_2.call ehpσ_9 rfl rfl
        replace hF := q_letX hF dhpσ_9
        have ks_σ_9 : q_KS (fun b g => b = a ∧ 12 ≤ g ∧ g ≤ 18) 9 X σ σ_9 := ks_σ_2.KS ahpσ_9 (by decide) (fun _ _ h => h)
        refine lv_iconst (v := 0) hx hb dX12_readTold_60 zki_0 ?_
        refine lv_iload_n hx hb dX12_readTold_61 rfl (lv_at hl 0 rfl) ?_
        have kc_10 : (0 : Int32).toInt = 0 := zt_0
        have kc_11 : (0 : Int32).toInt = 0 := zt_0
        refine q_ci (q_runS (As := [.int 0, .int 0]) (rest := []) E (hml.trans hl.1.symm) hI (c_J9_max_7cf53 l X σ_9 (0 : Int32) (0 : Int32)) ks_X12_220 rfl ⟨Nat.le_of_ble_eq_true rfl, Nat.le_of_ble_eq_true rfl⟩ ⟨Nat.le_refl _, Nat.le_refl _⟩ rfl (Nat.le_of_ble_eq_true rfl) dX12_readTold_62) hI (Nat.le_of_ble_eq_true rfl) (fun r_12 σ_13 H locs hpσ_13 hkσ_13 hI => ?_)
        have ahpσ_13 := hpσ_13.1
        have bhpσ_13 := hpσ_13.2.1
        have chpσ_13 := hpσ_13.2.2
        clear hpσ_13
        replace hI := q_Irw ahpσ_13 hI
        replace hF := q_letX hF chpσ_13
        exact q_reti E hr hlk hI ⟨ks_σ_9, (by first | (clear hq hm c_4 c_6 kc_7 ahpσ_9 chpσ_9 dhpσ_9 ehpσ_9 kc_10 kc_11 ahpσ_13 bhpσ_13 chpσ_13; omega) | omega), (by first | (clear hs hq hm if_1 if_3 c_4 if_5 c_6 kc_7 ahpσ_9 bhpσ_9 dhpσ_9 ehpσ_9 kc_11 ahpσ_13 chpσ_13; omega) | omega), (hF.trans hout), fr_σ_9⟩ dX12_readTold_65
      · skip
        replace hF := q_ifp hF c_6
        refine lv_iload_n hx hb dX12_readTold_42 rfl (lv_at hl 0 rfl) ?_
        refine q_if_ge (A := 0) E (by decide) (tgt := 55) dX12_readTold_43 (by decide) (fun c_14 => ?_) (fun c_14 => ?_)
        · skip
          replace hF := q_ifn hF (Int.not_lt.mpr c_14)
          refine lv_aload_n hx hb dX12_readTold_55 rfl (lv_at hl 1 rfl) ?_
          refine lv_iconst (v := 1) hx hb dX12_readTold_56 zki_1 ?_
          have kc_15 : (1 : Int32).toInt = 1 := zt_1
          refine q_cv (q_rV11_1 (rest := []) E (hml.trans hl.1.symm) hI (c_X12_must l X σ_2 a (1 : Int32) ha (by first | (clear hq hm if_1 c_4 c_14 kc_15; omega) | omega) (by first | (clear hs hq hm if_1 j18σ_2 if_3 c_4 if_5 c_6 c_14; omega) | omega)) kv_X12_216 ha ⟨Nat.le_of_ble_eq_true rfl, Nat.le_of_ble_eq_true rfl⟩ (Nat.le_of_ble_eq_true rfl) dX12_readTold_57) hI (Nat.le_of_ble_eq_true rfl) (fun σ_17 H locs hpσ_17 hkσ_17 hI => ?_)
          have ahpσ_17 := hpσ_17.1
          have bhpσ_17 := hpσ_17.2.1
          have chpσ_17 := hpσ_17.2.2.1
          have dhpσ_17 := hpσ_17.2.2.2.1
          have ehpσ_17 := hpσ_17.2.2.2.2
          clear hpσ_17
          have fr_σ_17 := fr_σ_2.call ehpσ_17 rfl rfl
          replace hF := q_letX hF dhpσ_17
          have ks_σ_17 : q_KS (fun b g => b = a ∧ 12 ≤ g ∧ g ≤ 18) 9 X σ σ_17 := ks_σ_2.KS ahpσ_17 (by decide) (fun _ _ h => h)
          refine lv_iconst (v := 0) hx hb dX12_readTold_60 zki_0 ?_
          refine lv_iload_n hx hb dX12_readTold_61 rfl (lv_at hl 0 rfl) ?_
          have kc_18 : (0 : Int32).toInt = 0 := zt_0
          have kc_19 : (0 : Int32).toInt = 0 := zt_0
          refine q_ci (q_runS (As := [.int 0, .int 0]) (rest := []) E (hml.trans hl.1.symm) hI (c_J9_max_7cf53 l X σ_17 (0 : Int32) (0 : Int32)) ks_X12_220 rfl ⟨Nat.le_of_ble_eq_true rfl, Nat.le_of_ble_eq_true rfl⟩ ⟨Nat.le_refl _, Nat.le_refl _⟩ rfl (Nat.le_of_ble_eq_true rfl) dX12_readTold_62) hI (Nat.le_of_ble_eq_true rfl) (fun r_20 σ_21 H locs hpσ_21 hkσ_21 hI => ?_)
          have ahpσ_21 := hpσ_21.1
          have bhpσ_21 := hpσ_21.2.1
          have chpσ_21 := hpσ_21.2.2
          clear hpσ_21
          replace hI := q_Irw ahpσ_21 hI
          replace hF := q_letX hF chpσ_21
          exact q_reti E hr hlk hI ⟨ks_σ_17, (by first | (clear hq hm c_4 c_14 kc_15 ahpσ_17 chpσ_17 dhpσ_17 ehpσ_17 kc_18 kc_19 ahpσ_21 bhpσ_21 chpσ_21; omega) | omega), (by first | (clear hs hq hm if_1 if_3 c_4 if_5 c_6 c_14 kc_15 ahpσ_17 bhpσ_17 dhpσ_17 ehpσ_17 kc_19 ahpσ_21 chpσ_21; omega) | omega), (hF.trans hout), fr_σ_17⟩ dX12_readTold_65
        · skip
          replace hF := q_ifp hF c_14
          refine lv_aload_n hx hb dX12_readTold_46 rfl (lv_at hl 1 rfl) ?_
          refine lv_iconst (v := 3) hx hb dX12_readTold_47 zki_3 ?_
          refine lv_aload_n hx hb dX12_readTold_48 rfl (lv_at hl 1 rfl) ?_
          refine gs_X12_104_12 E hI ha dX12_readTold_49 ?_
          refine lv_topi (fun f_22 ef_22 => ?_)
          replace hF := q_letX hF ef_22
          have if_22 : f_22.toInt = (σ_2.1 a 15).toInt := congrArg Int32.toInt ef_22
          have kc_23 : (3 : Int32).toInt = 3 := zt_3
          refine q_cv (q_rV11_2 (rest := []) E (hml.trans hl.1.symm) hI (c_X12_fail l X σ_2 a (3 : Int32) f_22 ha (by first | (clear hs hq hm if_1 j18σ_2 if_3 c_4 if_5 c_6 if_22 kc_23; omega) | omega) (by first | (clear hs hq hm if_1 j18σ_2 if_3 c_4 if_5 c_6 if_22 kc_23; omega) | omega)) kv_X12_193 ha ⟨Nat.le_of_ble_eq_true rfl, Nat.le_of_ble_eq_true rfl⟩ (Nat.le_of_ble_eq_true rfl) dX12_readTold_52) hI (Nat.le_of_ble_eq_true rfl) (fun σ_25 H locs hpσ_25 hkσ_25 hI => ?_)
          have ahpσ_25 := hpσ_25.1
          have bhpσ_25 := hpσ_25.2.1
          have chpσ_25 := hpσ_25.2.2.1
          have dhpσ_25 := hpσ_25.2.2.2.1
          have ehpσ_25 := hpσ_25.2.2.2.2
          clear hpσ_25
          have fr_σ_25 := fr_σ_2.call ehpσ_25 rfl rfl
          replace hF := q_letX hF dhpσ_25
          have ks_σ_25 : q_KS (fun b g => b = a ∧ 12 ≤ g ∧ g ≤ 18) 9 X σ σ_25 := ks_σ_2.KS ahpσ_25 (by decide) (fun _ _ h => h)
          refine lv_aload_n hx hb dX12_readTold_55 rfl (lv_at hl 1 rfl) ?_
          refine lv_iconst (v := 1) hx hb dX12_readTold_56 zki_1 ?_
          have kc_26 : (1 : Int32).toInt = 1 := zt_1
          refine q_cv (q_rV11_1 (rest := []) E (hml.trans hl.1.symm) hI (c_X12_must l X σ_25 a (1 : Int32) ha (by first | (clear hs hq hm if_1 j18σ_2 if_3 c_4 if_5 c_6 if_22 kc_23 ahpσ_25 bhpσ_25 chpσ_25 dhpσ_25 ehpσ_25 kc_26; omega) | omega) (by first | (clear hs hq hm if_1 j18σ_2 if_3 c_4 if_5 c_6 if_22 kc_23 ahpσ_25 bhpσ_25 chpσ_25 dhpσ_25 ehpσ_25 kc_26; omega) | omega)) kv_X12_216 ha ⟨Nat.le_of_ble_eq_true rfl, Nat.le_of_ble_eq_true rfl⟩ (Nat.le_of_ble_eq_true rfl) dX12_readTold_57) hI (Nat.le_of_ble_eq_true rfl) (fun σ_28 H locs hpσ_28 hkσ_28 hI => ?_)
          have ahpσ_28 := hpσ_28.1
          have bhpσ_28 := hpσ_28.2.1
          have chpσ_28 := hpσ_28.2.2.1
          have dhpσ_28 := hpσ_28.2.2.2.1
          have ehpσ_28 := hpσ_28.2.2.2.2
          clear hpσ_28
          have fr_σ_28 := fr_σ_25.call ehpσ_28 rfl rfl
          replace hF := q_letX hF dhpσ_28
          have ks_σ_28 : q_KS (fun b g => b = a ∧ 12 ≤ g ∧ g ≤ 18) 9 X σ σ_28 := ks_σ_25.KS ahpσ_28 (by decide) (fun _ _ h => h)
          refine lv_iconst (v := 0) hx hb dX12_readTold_60 zki_0 ?_
          refine lv_iload_n hx hb dX12_readTold_61 rfl (lv_at hl 0 rfl) ?_
          have kc_29 : (0 : Int32).toInt = 0 := zt_0
          have kc_30 : (0 : Int32).toInt = 0 := zt_0
          refine q_ci (q_runS (As := [.int 0, .int 0]) (rest := []) E (hml.trans hl.1.symm) hI (c_J9_max_7cf53 l X σ_28 (0 : Int32) (0 : Int32)) ks_X12_220 rfl ⟨Nat.le_of_ble_eq_true rfl, Nat.le_of_ble_eq_true rfl⟩ ⟨Nat.le_refl _, Nat.le_refl _⟩ rfl (Nat.le_of_ble_eq_true rfl) dX12_readTold_62) hI (Nat.le_of_ble_eq_true rfl) (fun r_31 σ_32 H locs hpσ_32 hkσ_32 hI => ?_)
          have ahpσ_32 := hpσ_32.1
          have bhpσ_32 := hpσ_32.2.1
          have chpσ_32 := hpσ_32.2.2
          clear hpσ_32
          replace hI := q_Irw ahpσ_32 hI
          replace hF := q_letX hF chpσ_32
          exact q_reti E hr hlk hI ⟨ks_σ_28, (by first | (clear hs hq hm if_1 j18σ_2 if_3 c_4 if_5 c_6 if_22 kc_23 ahpσ_25 bhpσ_25 chpσ_25 dhpσ_25 ehpσ_25 kc_26 ahpσ_28 bhpσ_28 chpσ_28 dhpσ_28 ehpσ_28 kc_29 kc_30 ahpσ_32 bhpσ_32 chpσ_32; omega) | omega), (by first | (clear hs hq hm if_1 j18σ_2 if_3 c_4 if_5 c_6 if_22 kc_23 ahpσ_25 bhpσ_25 chpσ_25 dhpσ_25 ehpσ_25 kc_26 ahpσ_28 bhpσ_28 chpσ_28 dhpσ_28 ehpσ_28 kc_29 kc_30 ahpσ_32 bhpσ_32 chpσ_32; omega) | omega), (hF.trans hout), fr_σ_28⟩ dX12_readTold_65
    · skip
      replace hF := q_ifp hF c_4
      refine lv_aload_n hx hb dX12_readTold_25 rfl (lv_at hl 0 rfl) ?_
      refine lv_iload_n hx hb dX12_readTold_26 rfl (lv_at hl 1 rfl) ?_
      refine q_ci (q_rV11_1 (rest := []) E (hml.trans hl.1.symm) hI (c_X12_named l X σ_2 a v1 ha hq (by rw [m_cK hI.2.2.2.2.2 hI.1 ha (by decide)]; exact hm)) kv_X12_213 ha ⟨Nat.le_of_ble_eq_true rfl, Nat.le_of_ble_eq_true rfl⟩ (Nat.le_of_ble_eq_true rfl) dX12_readTold_27) hI (Nat.le_of_ble_eq_true rfl) (fun r_33 σ_34 H locs hpσ_34 hkσ_34 hI => ?_)
      have ahpσ_34 := hpσ_34.1
      have bhpσ_34 := hpσ_34.2.1
      have chpσ_34 := hpσ_34.2.2
      clear hpσ_34
      replace hI := q_Irw ahpσ_34 hI
      replace hF := q_letX hF chpσ_34
      refine lv_goto (tgt := 34) hx hb dX12_readTold_30 (by decide) ?_
      refine lv_istore_n (lv' := [(2, .int r_33), (0, .ref a), (1, .int v1)]) hx hb dX12_readTold_34 rfl hl (by decide) rfl (fun ls hl => ?_)
      refine lv_aload_n hx hb dX12_readTold_35 rfl (lv_at hl 1 rfl) ?_
      refine gs_X12_187_12 E hI ha dX12_readTold_36 ?_
      refine lv_topi (fun f_35 ef_35 => ?_)
      replace hF := q_letX hF ef_35
      have if_35 : f_35.toInt = (σ_2.1 a 12).toInt := congrArg Int32.toInt ef_35
      refine q_if_ne (A := f_35.toInt) E rfl (tgt := 55) dX12_readTold_39 (by decide) (fun c_36 => ?_) (fun c_36 => ?_)
      · skip
        replace hF := q_ifn hF c_36
        refine lv_aload_n hx hb dX12_readTold_55 rfl (lv_at hl 1 rfl) ?_
        refine lv_iconst (v := 1) hx hb dX12_readTold_56 zki_1 ?_
        have kc_37 : (1 : Int32).toInt = 1 := zt_1
        refine q_cv (q_rV11_1 (rest := []) E (hml.trans hl.1.symm) hI (c_X12_must l X σ_2 a (1 : Int32) ha (by first | (clear hq hm if_1 ahpσ_34 bhpσ_34 chpσ_34 if_35 c_36 kc_37; omega) | omega) (by first | (clear hs hq hm if_1 j18σ_2 if_3 c_4 ahpσ_34 bhpσ_34 chpσ_34 if_35 c_36; omega) | omega)) kv_X12_216 ha ⟨Nat.le_of_ble_eq_true rfl, Nat.le_of_ble_eq_true rfl⟩ (Nat.le_of_ble_eq_true rfl) dX12_readTold_57) hI (Nat.le_of_ble_eq_true rfl) (fun σ_39 H locs hpσ_39 hkσ_39 hI => ?_)
        have ahpσ_39 := hpσ_39.1
        have bhpσ_39 := hpσ_39.2.1
        have chpσ_39 := hpσ_39.2.2.1
        have dhpσ_39 := hpσ_39.2.2.2.1
        have ehpσ_39 := hpσ_39.2.2.2.2
        clear hpσ_39
        have fr_σ_39 := fr_σ_2.call ehpσ_39 rfl rfl
        replace hF := q_letX hF dhpσ_39
        have ks_σ_39 : q_KS (fun b g => b = a ∧ 12 ≤ g ∧ g ≤ 18) 9 X σ σ_39 := ks_σ_2.KS ahpσ_39 (by decide) (fun _ _ h => h)
        refine lv_iconst (v := 0) hx hb dX12_readTold_60 zki_0 ?_
        refine lv_iload_n hx hb dX12_readTold_61 rfl (lv_at hl 0 rfl) ?_
        have kc_40 : (0 : Int32).toInt = 0 := zt_0
        refine q_ci (q_runS (As := [.int 0, .int r_33]) (rest := []) E (hml.trans hl.1.symm) hI (c_J9_max_7cf53 l X σ_39 (0 : Int32) r_33) ks_X12_220 rfl ⟨Nat.le_of_ble_eq_true rfl, Nat.le_of_ble_eq_true rfl⟩ ⟨Nat.le_refl _, Nat.le_refl _⟩ rfl (Nat.le_of_ble_eq_true rfl) dX12_readTold_62) hI (Nat.le_of_ble_eq_true rfl) (fun r_41 σ_42 H locs hpσ_42 hkσ_42 hI => ?_)
        have ahpσ_42 := hpσ_42.1
        have bhpσ_42 := hpσ_42.2.1
        have chpσ_42 := hpσ_42.2.2
        clear hpσ_42
        replace hI := q_Irw ahpσ_42 hI
        replace hF := q_letX hF chpσ_42
        exact q_reti E hr hlk hI ⟨ks_σ_39, (by first | (clear hq hm ahpσ_34 bhpσ_34 chpσ_34 if_35 c_36 kc_37 ahpσ_39 chpσ_39 dhpσ_39 ehpσ_39 kc_40 ahpσ_42 bhpσ_42 chpσ_42; omega) | omega), (by first | (clear hs hq hm if_1 if_3 c_4 ahpσ_34 chpσ_34 if_35 c_36 kc_37 ahpσ_39 bhpσ_39 dhpσ_39 ehpσ_39 ahpσ_42 chpσ_42; omega) | omega), (hF.trans hout), fr_σ_39⟩ dX12_readTold_65
      · skip
        replace hF := q_ifp hF c_36
        refine lv_iload_n hx hb dX12_readTold_42 rfl (lv_at hl 0 rfl) ?_
        refine q_if_ge (A := r_33.toInt) E rfl (tgt := 55) dX12_readTold_43 (by decide) (fun c_43 => ?_) (fun c_43 => ?_)
        · skip
          replace hF := q_ifn hF (Int.not_lt.mpr c_43)
          refine lv_aload_n hx hb dX12_readTold_55 rfl (lv_at hl 1 rfl) ?_
          refine lv_iconst (v := 1) hx hb dX12_readTold_56 zki_1 ?_
          have kc_44 : (1 : Int32).toInt = 1 := zt_1
          refine q_cv (q_rV11_1 (rest := []) E (hml.trans hl.1.symm) hI (c_X12_must l X σ_2 a (1 : Int32) ha (by first | (clear hq hm if_1 ahpσ_34 bhpσ_34 chpσ_34 if_35 c_36 c_43 kc_44; omega) | omega) (by first | (clear hs hq hm if_1 j18σ_2 if_3 c_4 ahpσ_34 bhpσ_34 chpσ_34 if_35 c_36 c_43; omega) | omega)) kv_X12_216 ha ⟨Nat.le_of_ble_eq_true rfl, Nat.le_of_ble_eq_true rfl⟩ (Nat.le_of_ble_eq_true rfl) dX12_readTold_57) hI (Nat.le_of_ble_eq_true rfl) (fun σ_46 H locs hpσ_46 hkσ_46 hI => ?_)
          have ahpσ_46 := hpσ_46.1
          have bhpσ_46 := hpσ_46.2.1
          have chpσ_46 := hpσ_46.2.2.1
          have dhpσ_46 := hpσ_46.2.2.2.1
          have ehpσ_46 := hpσ_46.2.2.2.2
          clear hpσ_46
          have fr_σ_46 := fr_σ_2.call ehpσ_46 rfl rfl
          replace hF := q_letX hF dhpσ_46
          have ks_σ_46 : q_KS (fun b g => b = a ∧ 12 ≤ g ∧ g ≤ 18) 9 X σ σ_46 := ks_σ_2.KS ahpσ_46 (by decide) (fun _ _ h => h)
          refine lv_iconst (v := 0) hx hb dX12_readTold_60 zki_0 ?_
          refine lv_iload_n hx hb dX12_readTold_61 rfl (lv_at hl 0 rfl) ?_
          have kc_47 : (0 : Int32).toInt = 0 := zt_0
          refine q_ci (q_runS (As := [.int 0, .int r_33]) (rest := []) E (hml.trans hl.1.symm) hI (c_J9_max_7cf53 l X σ_46 (0 : Int32) r_33) ks_X12_220 rfl ⟨Nat.le_of_ble_eq_true rfl, Nat.le_of_ble_eq_true rfl⟩ ⟨Nat.le_refl _, Nat.le_refl _⟩ rfl (Nat.le_of_ble_eq_true rfl) dX12_readTold_62) hI (Nat.le_of_ble_eq_true rfl) (fun r_48 σ_49 H locs hpσ_49 hkσ_49 hI => ?_)
          have ahpσ_49 := hpσ_49.1
          have bhpσ_49 := hpσ_49.2.1
          have chpσ_49 := hpσ_49.2.2
          clear hpσ_49
          replace hI := q_Irw ahpσ_49 hI
          replace hF := q_letX hF chpσ_49
          exact q_reti E hr hlk hI ⟨ks_σ_46, (by first | (clear hq hm ahpσ_34 bhpσ_34 chpσ_34 if_35 c_36 c_43 kc_44 ahpσ_46 chpσ_46 dhpσ_46 ehpσ_46 kc_47 ahpσ_49 bhpσ_49 chpσ_49; omega) | omega), (by first | (clear hs hq hm if_1 if_3 c_4 ahpσ_34 chpσ_34 if_35 c_36 kc_44 ahpσ_46 bhpσ_46 dhpσ_46 ehpσ_46 ahpσ_49 chpσ_49; omega) | omega), (hF.trans hout), fr_σ_46⟩ dX12_readTold_65
        · skip
          replace hF := q_ifp hF c_43
          refine lv_aload_n hx hb dX12_readTold_46 rfl (lv_at hl 1 rfl) ?_
          refine lv_iconst (v := 3) hx hb dX12_readTold_47 zki_3 ?_
          refine lv_aload_n hx hb dX12_readTold_48 rfl (lv_at hl 1 rfl) ?_
          refine gs_X12_104_12 E hI ha dX12_readTold_49 ?_
          refine lv_topi (fun f_50 ef_50 => ?_)
          replace hF := q_letX hF ef_50
          have if_50 : f_50.toInt = (σ_2.1 a 15).toInt := congrArg Int32.toInt ef_50
          have kc_51 : (3 : Int32).toInt = 3 := zt_3
          refine q_cv (q_rV11_2 (rest := []) E (hml.trans hl.1.symm) hI (c_X12_fail l X σ_2 a (3 : Int32) f_50 ha (by first | (clear hs hq hm if_1 j18σ_2 ahpσ_34 bhpσ_34 chpσ_34 if_35 c_36 c_43 if_50 kc_51; omega) | omega) (by first | (clear hs hq hm if_1 j18σ_2 if_3 c_4 ahpσ_34 bhpσ_34 chpσ_34 if_35 c_36 c_43 if_50; omega) | omega)) kv_X12_193 ha ⟨Nat.le_of_ble_eq_true rfl, Nat.le_of_ble_eq_true rfl⟩ (Nat.le_of_ble_eq_true rfl) dX12_readTold_52) hI (Nat.le_of_ble_eq_true rfl) (fun σ_53 H locs hpσ_53 hkσ_53 hI => ?_)
          have ahpσ_53 := hpσ_53.1
          have bhpσ_53 := hpσ_53.2.1
          have chpσ_53 := hpσ_53.2.2.1
          have dhpσ_53 := hpσ_53.2.2.2.1
          have ehpσ_53 := hpσ_53.2.2.2.2
          clear hpσ_53
          have fr_σ_53 := fr_σ_2.call ehpσ_53 rfl rfl
          replace hF := q_letX hF dhpσ_53
          have ks_σ_53 : q_KS (fun b g => b = a ∧ 12 ≤ g ∧ g ≤ 18) 9 X σ σ_53 := ks_σ_2.KS ahpσ_53 (by decide) (fun _ _ h => h)
          refine lv_aload_n hx hb dX12_readTold_55 rfl (lv_at hl 1 rfl) ?_
          refine lv_iconst (v := 1) hx hb dX12_readTold_56 zki_1 ?_
          have kc_54 : (1 : Int32).toInt = 1 := zt_1
          refine q_cv (q_rV11_1 (rest := []) E (hml.trans hl.1.symm) hI (c_X12_must l X σ_53 a (1 : Int32) ha (by first | (clear hq hm if_1 if_3 c_4 ahpσ_34 bhpσ_34 chpσ_34 if_35 c_36 c_43 kc_51 ahpσ_53 dhpσ_53 ehpσ_53 kc_54; omega) | omega) (by first | (clear hs hq hm if_1 j18σ_2 if_3 c_4 ahpσ_34 bhpσ_34 chpσ_34 if_35 c_36 c_43 if_50 kc_51 ahpσ_53 bhpσ_53 chpσ_53 dhpσ_53 ehpσ_53; omega) | omega)) kv_X12_216 ha ⟨Nat.le_of_ble_eq_true rfl, Nat.le_of_ble_eq_true rfl⟩ (Nat.le_of_ble_eq_true rfl) dX12_readTold_57) hI (Nat.le_of_ble_eq_true rfl) (fun σ_56 H locs hpσ_56 hkσ_56 hI => ?_)
          have ahpσ_56 := hpσ_56.1
          have bhpσ_56 := hpσ_56.2.1
          have chpσ_56 := hpσ_56.2.2.1
          have dhpσ_56 := hpσ_56.2.2.2.1
          have ehpσ_56 := hpσ_56.2.2.2.2
          clear hpσ_56
          have fr_σ_56 := fr_σ_53.call ehpσ_56 rfl rfl
          replace hF := q_letX hF dhpσ_56
          have ks_σ_56 : q_KS (fun b g => b = a ∧ 12 ≤ g ∧ g ≤ 18) 9 X σ σ_56 := ks_σ_53.KS ahpσ_56 (by decide) (fun _ _ h => h)
          refine lv_iconst (v := 0) hx hb dX12_readTold_60 zki_0 ?_
          refine lv_iload_n hx hb dX12_readTold_61 rfl (lv_at hl 0 rfl) ?_
          have kc_57 : (0 : Int32).toInt = 0 := zt_0
          refine q_ci (q_runS (As := [.int 0, .int r_33]) (rest := []) E (hml.trans hl.1.symm) hI (c_J9_max_7cf53 l X σ_56 (0 : Int32) r_33) ks_X12_220 rfl ⟨Nat.le_of_ble_eq_true rfl, Nat.le_of_ble_eq_true rfl⟩ ⟨Nat.le_refl _, Nat.le_refl _⟩ rfl (Nat.le_of_ble_eq_true rfl) dX12_readTold_62) hI (Nat.le_of_ble_eq_true rfl) (fun r_58 σ_59 H locs hpσ_59 hkσ_59 hI => ?_)
          have ahpσ_59 := hpσ_59.1
          have bhpσ_59 := hpσ_59.2.1
          have chpσ_59 := hpσ_59.2.2
          clear hpσ_59
          replace hI := q_Irw ahpσ_59 hI
          replace hF := q_letX hF chpσ_59
          exact q_reti E hr hlk hI ⟨ks_σ_56, (by first | (clear hs hq hm ahpσ_34 bhpσ_34 chpσ_34 if_35 c_36 c_43 kc_51 ahpσ_53 dhpσ_53 ehpσ_53 kc_54 ahpσ_56 chpσ_56 dhpσ_56 ehpσ_56 kc_57 ahpσ_59 bhpσ_59 chpσ_59; omega) | omega), (by first | (clear hs hq hm if_1 if_3 c_4 ahpσ_34 chpσ_34 if_35 c_36 if_50 kc_51 ahpσ_53 chpσ_53 dhpσ_53 ehpσ_53 kc_54 ahpσ_56 bhpσ_56 dhpσ_56 ehpσ_56 ahpσ_59 chpσ_59; omega) | omega), (hF.trans hout), fr_σ_56⟩ dX12_readTold_65
  refine q_if_ne (A := f_1.toInt) E rfl (tgt := 18) dX12_readTold_4 (by decide) (fun c_60 => ?_) (fun c_60 => ?_)
  · skip
    replace hF := q_ifn hF c_60
    exact J_18_2 σ _ _ ls (by first | (clear hq hm c_60; omega) | omega) ks_σ fr_σ hF hI (lv_sub hl [0, 1] rfl)
  · skip
    replace hF := q_ifp hF c_60
    refine lv_aload_n hx hb dX12_readTold_7 rfl (lv_at hl 0 rfl) ?_
    refine q_ci (q_rV11_0 (rest := []) E (hml.trans hl.1.symm) hI (c_X12_isName l X σ a ha (by first | (clear hq hm if_1 c_60; omega) | omega)) kv_X12_210 ha ⟨Nat.le_of_ble_eq_true rfl, Nat.le_of_ble_eq_true rfl⟩ (Nat.le_of_ble_eq_true rfl) dX12_readTold_8) hI (Nat.le_of_ble_eq_true rfl) (fun r_61 σ_62 H locs hpσ_62 hkσ_62 hI => ?_)
    have ahpσ_62 := hpσ_62.1
    have bhpσ_62 := hpσ_62.2.1
    have chpσ_62 := hpσ_62.2.2
    clear hpσ_62
    replace hI := q_Irw ahpσ_62 hI
    replace hF := q_letX hF chpσ_62
    refine q_if_ne (A := r_61.toInt) E rfl (tgt := 18) dX12_readTold_11 (by decide) (fun c_63 => ?_) (fun c_63 => ?_)
    · skip
      replace hF := q_ifn hF c_63
      replace c_63 := q_ifOne bhpσ_62 c_63
      exact J_18_2 σ _ _ ls (by first | (clear hq hm ahpσ_62 bhpσ_62 chpσ_62 c_63; omega) | omega) ks_σ fr_σ hF hI (lv_sub hl [0, 1] rfl)
    · skip
      replace hF := q_ifp hF c_63
      refine lv_aload_n hx hb dX12_readTold_14 rfl (lv_at hl 0 rfl) ?_
      refine q_cv (q_rV11_0 (rest := []) E (hml.trans hl.1.symm) hI (c_X12_wrong l X σ a ha (by first | (clear hs hq hm ahpσ_62 bhpσ_62 chpσ_62 c_63; omega) | omega)) kv_X12_200 ha ⟨Nat.le_of_ble_eq_true rfl, Nat.le_of_ble_eq_true rfl⟩ (Nat.le_of_ble_eq_true rfl) dX12_readTold_15) hI (Nat.le_of_ble_eq_true rfl) (fun σ_65 H locs hpσ_65 hkσ_65 hI => ?_)
      have ahpσ_65 := hpσ_65.1
      have bhpσ_65 := hpσ_65.2.1
      have chpσ_65 := hpσ_65.2.2.1
      have dhpσ_65 := hpσ_65.2.2.2.1
      have ehpσ_65 := hpσ_65.2.2.2.2
      clear hpσ_65
      have fr_σ_65 := fr_σ.call ehpσ_65 rfl rfl
      replace hF := q_letX hF dhpσ_65
      have ks_σ_65 : q_KS (fun b g => b = a ∧ 12 ≤ g ∧ g ≤ 18) 9 X σ σ_65 := ks_σ.KS ahpσ_65 (by decide) (fun _ _ h => h)
      exact J_18_2 σ_65 _ _ ls (by first | (clear hq hm ahpσ_62 bhpσ_62 chpσ_62 c_63 ahpσ_65 dhpσ_65 ehpσ_65; omega) | omega) ks_σ_65 fr_σ_65 hF hI (lv_sub hl [0, 1] rfl)
end
/-! FROM 36.read.a.lean.txt -/
section
section QS
variable {p : Program} {l : Launch} {e : Env} {R : Room} {s : State} {m : MethodId} {args : Array Value} {below : List Frame} {meth : Method} {c : Code} {H : Heap} {locs : List Loc} {cells slots : Nat} {Q : State → Prop} {cc : ByteArray} {X : XW} {n : Nat} {σ0 σ : ST} {H0 : Heap} {pc : Nat} {ls : Array Slot} {rest : List Value} {a : Nat}
theorem gs_X12_232_12 (E : q_E p c cc s m args RX12 X) (hI : q_I X n σ0 H0 locs σ H) (ha : q_kd X a = 12) (hdg : decode cc pc = .ok (.getfield 232, 3)) (kk : W p l e R s m args below meth c H locs cells slots Q (F0 m (pc + 3) ls (.int (σ.1 a 25) :: rest))) : W p l e R s m args below meth c H locs cells slots Q (F0 m pc ls (.ref a :: rest)) :=
  q_getf (ref := "CheatHeapModel") E hI ha ⟨rfl, by decide⟩ (show vwCl[11]? = some (RX12, TX12, 46) from rfl) q_inX12 (f := 25) (by decide) (q_in_t7 (i := 10) (by first | rfl | decide +kernel) rfl) (Or.inl rfl) rfl hdg kk
theorem ps_X12_232_12 (E : q_E p c cc s m args RX12 X) (hI : q_I X n σ0 H0 locs σ H) (ha : q_kd X a = 12) {v : Int32} (hcl : n < 3) (h1 : 0 ≤ v.toInt) (h2 : v.toInt ≤ 1) (hdg : decode cc pc = .ok (.putfield 232, 3)) (kk : ∀ (H1 : Heap) (locs1 : List Loc) (σ1 : ST), σ1 = q_si σ a 25 v → q_I X n σ0 H0 locs1 σ1 H1 → W p l e R s m args below meth c H1 locs1 cells slots Q (F0 m (pc + 3) ls rest)) : W p l e R s m args below meth c H locs cells slots Q (F0 m pc ls (.int v :: .ref a :: rest)) :=
  q_puti (ref := "CheatHeapModel") E hI ha ⟨rfl, by decide⟩ (show vwCl[11]? = some (RX12, TX12, 46) from rfl) q_inX12 tyX12_ok nmX12 (f := 25) (by decide) (q_in_t7 (i := 10) (by first | rfl | decide +kernel) rfl) (Or.inl rfl) rfl rfl hcl hdg (q_inB rfl h1 h2) (Or.inr ⟨rfl, h1, h2⟩) (fun H1 l1 h => kk H1 l1 _ rfl h)
theorem gs_X12_236_12 (E : q_E p c cc s m args RX12 X) (hI : q_I X n σ0 H0 locs σ H) (ha : q_kd X a = 12) (hdg : decode cc pc = .ok (.getfield 236, 3)) (kk : W p l e R s m args below meth c H locs cells slots Q (F0 m (pc + 3) ls (.int (σ.1 a 26) :: rest))) : W p l e R s m args below meth c H locs cells slots Q (F0 m pc ls (.ref a :: rest)) :=
  q_getf (ref := "CheatHeapModel") E hI ha ⟨rfl, by decide⟩ (show vwCl[11]? = some (RX12, TX12, 46) from rfl) q_inX12 (f := 26) (by decide) (q_in_t7 (i := 11) (by first | rfl | decide +kernel) rfl) (Or.inl rfl) rfl hdg kk
theorem ps_X12_236_12 (E : q_E p c cc s m args RX12 X) (hI : q_I X n σ0 H0 locs σ H) (ha : q_kd X a = 12) {v : Int32} (hcl : n < 3) (h1 : 0 ≤ v.toInt) (h2 : v.toInt ≤ 1) (hdg : decode cc pc = .ok (.putfield 236, 3)) (kk : ∀ (H1 : Heap) (locs1 : List Loc) (σ1 : ST), σ1 = q_si σ a 26 v → q_I X n σ0 H0 locs1 σ1 H1 → W p l e R s m args below meth c H1 locs1 cells slots Q (F0 m (pc + 3) ls rest)) : W p l e R s m args below meth c H locs cells slots Q (F0 m pc ls (.int v :: .ref a :: rest)) :=
  q_puti (ref := "CheatHeapModel") E hI ha ⟨rfl, by decide⟩ (show vwCl[11]? = some (RX12, TX12, 46) from rfl) q_inX12 tyX12_ok nmX12 (f := 26) (by decide) (q_in_t7 (i := 11) (by first | rfl | decide +kernel) rfl) (Or.inl rfl) rfl rfl hcl hdg (q_inB rfl h1 h2) (Or.inr ⟨rfl, h1, h2⟩) (fun H1 l1 h => kk H1 l1 _ rfl h)
theorem kv_X12_223 : q_okV RX12 223 RX12 yX12_count cX12_count 4 (some .int) 2 := ⟨(q_in_t7 (i := 231) (by first | rfl | decide +kernel) rfl), (q_in_t7 (i := 233) (by first | rfl | decide +kernel) rfl), (q_in_p (i := 50) (by decide +kernel) rfl), (q_in_t1 (i := 14) (by first | rfl | decide +kernel) rfl), (q_in_t7 (i := 234) (by first | rfl | decide +kernel) rfl), ⟨rfl, by decide, by decide, rfl⟩⟩
theorem kv_X12_226 : q_okV RX12 226 RX12 yX12_readTold cX12_readTold 3 (some .int) 1 := ⟨(q_in_t8 (i := 79) (by first | rfl | decide +kernel) rfl), (q_in_t8 (i := 81) (by first | rfl | decide +kernel) rfl), (q_in_p (i := 71) (by decide +kernel) rfl), (q_in_t1 (i := 14) (by first | rfl | decide +kernel) rfl), (q_in_t8 (i := 82) (by first | rfl | decide +kernel) rfl), ⟨rfl, by decide, by decide, rfl⟩⟩
theorem gs_X12_41_12 (E : q_E p c cc s m args RX12 X) (hI : q_I X n σ0 H0 locs σ H) (ha : q_kd X a = 12) (hdg : decode cc pc = .ok (.getfield 41, 3)) (kk : W p l e R s m args below meth c H locs cells slots Q (F0 m (pc + 3) ls (.ref (q_rf X a 22) :: rest))) : W p l e R s m args below meth c H locs cells slots Q (F0 m pc ls (.ref a :: rest)) :=
  q_getf (ref := "CheatHeapModel") E hI ha ⟨rfl, by decide⟩ (show vwCl[11]? = some (RX12, TX12, 46) from rfl) q_inX12 (f := 22) (by decide) (q_in_t7 (i := 7) (by first | rfl | decide +kernel) rfl) (Or.inl rfl) rfl hdg kk
theorem kv_X12_229 : q_okV RX12 229 RX12 yX12_toldOf cX12_toldOf 4 (some .int) 1 := ⟨(q_in_t8 (i := 83) (by first | rfl | decide +kernel) rfl), (q_in_t8 (i := 85) (by first | rfl | decide +kernel) rfl), (q_in_p (i := 72) (by decide +kernel) rfl), (q_in_t1 (i := 14) (by first | rfl | decide +kernel) rfl), (q_in_t8 (i := 86) (by first | rfl | decide +kernel) rfl), ⟨rfl, by decide, by decide, rfl⟩⟩
end QS
end
