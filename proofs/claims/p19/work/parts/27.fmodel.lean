noncomputable def F_X12_status (X : XW) (σ : ST) (a : Nat) : Int32 × ST :=
  q_let (q_si σ a 1 (0 : Int32) : ST) (fun σ_1 => q_let (σ_1.1 a 0 : Int32) (fun f_2 => (f_2, σ_1)))

noncomputable def F_X12_top (X : XW) (σ : ST) (a : Nat) : Int64 × ST :=
  q_let (q_si σ a 1 (0 : Int32) : ST) (fun σ_1 => q_let (σ_1.2.1 a 2 : Int64) (fun g_2 => (g_2, σ_1)))

noncomputable def F_X12_bottom (X : XW) (σ : ST) (a : Nat) : Int64 × ST :=
  q_let (q_si σ a 1 (0 : Int32) : ST) (fun σ_1 => q_let (σ_1.2.1 a 3 : Int64) (fun g_2 => (g_2, σ_1)))

noncomputable def F_X12_no (X : XW) (σ : ST) (a : Nat) (v1 : Int32) : Int32 × ST :=
  q_let (q_si σ a 0 v1 : ST) (fun σ_1 => ((0 : Int32), σ_1))

noncomputable def F_X12_refuse (X : XW) (σ : ST) (a : Nat) (v1 : Int32) : Int32 × ST :=
  q_let (q_si σ a 0 v1 : ST) (fun σ_1 => (((-1) : Int32), σ_1))

noncomputable def F_X12_trayed (X : XW) (σ : ST) (a : Nat) (v1 : Int32) : Int32 :=
  if v1.toInt < 0 then (1 : Int32) else if v1.toInt < 4 then q_let (σ.1 (q_rf X a 5) v1.toNatClampNeg : Int32) (fun f_3 => if f_3.toInt < 0 then (3 : Int32) else (0 : Int32)) else (1 : Int32)

noncomputable def F_X12_placed (X : XW) (σ : ST) (a : Nat) (v1 : Int32) (v2 : Int32) : Int32 :=
  q_let (F_X12_trayed X σ a v1 : Int32) (fun r_1 => if 0 < r_1.toInt then r_1 else if v2.toInt < 0 then (4 : Int32) else q_let (σ.1 (q_rf X a 5) v1.toNatClampNeg : Int32) (fun f_5 => if v2.toInt < f_5.toInt then (0 : Int32) else (4 : Int32)))

noncomputable def F_X12_cut (X : XW) (σ : ST) (v0 : Int32) (v1 : Int64) : Int64 :=
  if v0.toInt = 0 then q_let (v1.toInt32 : Int32) (fun z_9 => q_let (z_9.toInt8.toInt32 : Int32) (fun z_10 => q_let (z_10.toInt64 : Int64) (fun y_11 => y_11))) else if v0.toInt = 1 then q_let (v1.toInt32 : Int32) (fun z_6 => q_let (z_6.toInt16.toInt32 : Int32) (fun z_7 => q_let (z_7.toInt64 : Int64) (fun y_8 => y_8))) else if v0.toInt = 2 then q_let (v1.toInt32 : Int32) (fun z_4 => q_let (z_4.toInt64 : Int64) (fun y_5 => y_5)) else v1

noncomputable def F_X12_tray_B74_1 (X : XW) (v3 : Int32) (v1 : Int32) (a : Nat) (B74_1 : Int32 → ST → Int32 × ST) (x_20 : Int32) (σ_21 : ST) : Int32 × ST :=
  if x_20.toInt < v3.toInt then q_let ((60 : Int32) * v1 : Int32) (fun z_24 => q_let (z_24 + x_20 : Int32) (fun z_25 => q_let (q_sl σ_21 (q_rf X a 6) z_25.toNatClampNeg (0 : Int64) : ST) (fun σ_26 => q_let (x_20 + 1 : Int32) (fun z_27 => B74_1 z_27 σ_26)))) else ((1 : Int32), σ_21)

noncomputable def F_X12_tray_L74_1 (X : XW) (v3 : Int32) (v1 : Int32) (a : Nat) : Nat → Int32 → ST → Int32 × ST
  | 0 => fun x_20 σ_21 => ((0 : Int32), σ_21)
  | k_ + 1 => F_X12_tray_B74_1 X v3 v1 a (F_X12_tray_L74_1 X v3 v1 a k_)

theorem F_X12_tray_L74_1_s {X : XW} {v3 : Int32} {v1 : Int32} {a : Nat} {k_ : Nat} {x_20 : Int32} {σ_21 : ST} : F_X12_tray_L74_1 X v3 v1 a (k_ + 1) x_20 σ_21 = F_X12_tray_B74_1 X v3 v1 a (F_X12_tray_L74_1 X v3 v1 a k_) x_20 σ_21 := rfl

noncomputable def F_X12_tray (X : XW) (σ : ST) (a : Nat) (v1 : Int32) (v2 : Int32) (v3 : Int32) : Int32 × ST :=
  q_let (q_si σ a 1 (0 : Int32) : ST) (fun σ_1 => q_let (q_si σ_1 a 0 (0 : Int32) : ST) (fun σ_2 => if v1.toInt < 0 then q_bi (F_X12_no X σ_2 a (1 : Int32)) (fun r_5 σ_6 => (r_5, σ_6)) else if v1.toInt < 4 then if v2.toInt < 0 then q_bi (F_X12_no X σ_2 a (1 : Int32)) (fun r_13 σ_14 => (r_13, σ_14)) else if 3 < v2.toInt then q_bi (F_X12_no X σ_2 a (1 : Int32)) (fun r_35 σ_36 => (r_35, σ_36)) else if 60 < v3.toInt then q_bi (F_X12_no X σ_2 a (5 : Int32)) (fun r_32 σ_33 => (r_32, σ_33)) else if v3.toInt < 0 then q_bi (F_X12_no X σ_2 a (6 : Int32)) (fun r_29 σ_30 => (r_29, σ_30)) else q_let (q_si σ_2 (q_rf X a 4) v1.toNatClampNeg v2 : ST) (fun σ_18 => q_let (q_si σ_18 (q_rf X a 5) v1.toNatClampNeg v3 : ST) (fun σ_19 => F_X12_tray_L74_1 X v3 v1 a ((2147483647 - (0 : Int32).toInt).toNat + 1) (0 : Int32) σ_19)) else q_bi (F_X12_no X σ_2 a (1 : Int32)) (fun r_9 σ_10 => (r_9, σ_10))))

noncomputable def F_X12_write (X : XW) (σ : ST) (a : Nat) (v1 : Int32) (v2 : Int32) (v3 : Int64) : Int32 × ST :=
  q_let (q_si σ a 1 (0 : Int32) : ST) (fun σ_1 => q_let (F_X12_placed X σ_1 a v1 v2 : Int32) (fun r_2 => q_let (q_si σ_1 a 0 r_2 : ST) (fun σ_4 => q_let (σ_4.1 a 0 : Int32) (fun f_5 => if 0 < f_5.toInt then ((0 : Int32), σ_4) else q_let ((60 : Int32) * v1 : Int32) (fun z_7 => q_let (z_7 + v2 : Int32) (fun z_8 => q_let (σ_4.1 (q_rf X a 4) v1.toNatClampNeg : Int32) (fun f_9 => q_let (F_X12_cut X σ_4 f_9 v3 : Int64) (fun r_10 => q_let (q_sl σ_4 (q_rf X a 6) z_8.toNatClampNeg r_10 : ST) (fun σ_12 => ((1 : Int32), σ_12))))))))))

noncomputable def F_X12_read (X : XW) (σ : ST) (a : Nat) (v1 : Int32) (v2 : Int32) : Int64 × ST :=
  q_let (q_si σ a 1 (0 : Int32) : ST) (fun σ_1 => q_let (F_X12_placed X σ_1 a v1 v2 : Int32) (fun r_2 => q_let (q_si σ_1 a 0 r_2 : ST) (fun σ_4 => q_let (σ_4.1 a 0 : Int32) (fun f_5 => if 0 < f_5.toInt then (((-1) : Int64), σ_4) else q_let ((60 : Int32) * v1 : Int32) (fun z_7 => q_let (z_7 + v2 : Int32) (fun z_8 => q_let (σ_4.2.1 (q_rf X a 6) z_8.toNatClampNeg : Int64) (fun g_9 => (g_9, σ_4))))))))

noncomputable def F_X12_pour_B158_1 (X : XW) (v5 : Int32) (v3 : Int32) (v4 : Int32) (v1 : Int32) (v2 : Int32) (a : Nat) (B158_1 : Int32 → ST → Int32 × ST) (x_53 : Int32) (σ_54 : ST) : Int32 × ST :=
  if x_53.toInt < v5.toInt then if (0 : Int) = 0 then q_let ((60 : Int32) * v3 : Int32) (fun z_58 => q_let (z_58 + v4 : Int32) (fun z_59 => q_let (z_59 + x_53 : Int32) (fun z_60 => q_let ((60 : Int32) * v1 : Int32) (fun z_61 => q_let (z_61 + v2 : Int32) (fun z_62 => q_let (z_62 + x_53 : Int32) (fun z_63 => q_let (σ_54.2.1 (q_rf X a 6) z_63.toNatClampNeg : Int64) (fun g_64 => q_let (q_sl σ_54 (q_rf X a 6) z_60.toNatClampNeg g_64 : ST) (fun σ_65 => q_let (x_53 + 1 : Int32) (fun z_66 => B158_1 z_66 σ_65))))))))) else q_let (v5 - (1 : Int32) : Int32) (fun z_67 => q_let (z_67 - x_53 : Int32) (fun z_68 => q_let ((60 : Int32) * v3 : Int32) (fun z_69 => q_let (z_69 + v4 : Int32) (fun z_70 => q_let (z_70 + z_68 : Int32) (fun z_71 => q_let ((60 : Int32) * v1 : Int32) (fun z_72 => q_let (z_72 + v2 : Int32) (fun z_73 => q_let (z_73 + z_68 : Int32) (fun z_74 => q_let (σ_54.2.1 (q_rf X a 6) z_74.toNatClampNeg : Int64) (fun g_75 => q_let (q_sl σ_54 (q_rf X a 6) z_71.toNatClampNeg g_75 : ST) (fun σ_76 => q_let (x_53 + 1 : Int32) (fun z_77 => B158_1 z_77 σ_76))))))))))) else ((1 : Int32), σ_54)

noncomputable def F_X12_pour_L158_1 (X : XW) (v5 : Int32) (v3 : Int32) (v4 : Int32) (v1 : Int32) (v2 : Int32) (a : Nat) : Nat → Int32 → ST → Int32 × ST
  | 0 => fun x_53 σ_54 => ((0 : Int32), σ_54)
  | k_ + 1 => F_X12_pour_B158_1 X v5 v3 v4 v1 v2 a (F_X12_pour_L158_1 X v5 v3 v4 v1 v2 a k_)

theorem F_X12_pour_L158_1_s {X : XW} {v5 : Int32} {v3 : Int32} {v4 : Int32} {v1 : Int32} {v2 : Int32} {a : Nat} {k_ : Nat} {x_53 : Int32} {σ_54 : ST} : F_X12_pour_L158_1 X v5 v3 v4 v1 v2 a (k_ + 1) x_53 σ_54 = F_X12_pour_B158_1 X v5 v3 v4 v1 v2 a (F_X12_pour_L158_1 X v5 v3 v4 v1 v2 a k_) x_53 σ_54 := rfl

noncomputable def F_X12_pour_B158_3 (X : XW) (v5 : Int32) (v3 : Int32) (v4 : Int32) (v1 : Int32) (v2 : Int32) (a : Nat) (B158_3 : Int32 → ST → Int32 × ST) (x_78 : Int32) (σ_79 : ST) : Int32 × ST :=
  if x_78.toInt < v5.toInt then if (1 : Int) = 0 then q_let ((60 : Int32) * v3 : Int32) (fun z_83 => q_let (z_83 + v4 : Int32) (fun z_84 => q_let (z_84 + x_78 : Int32) (fun z_85 => q_let ((60 : Int32) * v1 : Int32) (fun z_86 => q_let (z_86 + v2 : Int32) (fun z_87 => q_let (z_87 + x_78 : Int32) (fun z_88 => q_let (σ_79.2.1 (q_rf X a 6) z_88.toNatClampNeg : Int64) (fun g_89 => q_let (q_sl σ_79 (q_rf X a 6) z_85.toNatClampNeg g_89 : ST) (fun σ_90 => q_let (x_78 + 1 : Int32) (fun z_91 => B158_3 z_91 σ_90))))))))) else q_let (v5 - (1 : Int32) : Int32) (fun z_92 => q_let (z_92 - x_78 : Int32) (fun z_93 => q_let ((60 : Int32) * v3 : Int32) (fun z_94 => q_let (z_94 + v4 : Int32) (fun z_95 => q_let (z_95 + z_93 : Int32) (fun z_96 => q_let ((60 : Int32) * v1 : Int32) (fun z_97 => q_let (z_97 + v2 : Int32) (fun z_98 => q_let (z_98 + z_93 : Int32) (fun z_99 => q_let (σ_79.2.1 (q_rf X a 6) z_99.toNatClampNeg : Int64) (fun g_100 => q_let (q_sl σ_79 (q_rf X a 6) z_96.toNatClampNeg g_100 : ST) (fun σ_101 => q_let (x_78 + 1 : Int32) (fun z_102 => B158_3 z_102 σ_101))))))))))) else ((1 : Int32), σ_79)

noncomputable def F_X12_pour_L158_3 (X : XW) (v5 : Int32) (v3 : Int32) (v4 : Int32) (v1 : Int32) (v2 : Int32) (a : Nat) : Nat → Int32 → ST → Int32 × ST
  | 0 => fun x_78 σ_79 => ((0 : Int32), σ_79)
  | k_ + 1 => F_X12_pour_B158_3 X v5 v3 v4 v1 v2 a (F_X12_pour_L158_3 X v5 v3 v4 v1 v2 a k_)

theorem F_X12_pour_L158_3_s {X : XW} {v5 : Int32} {v3 : Int32} {v4 : Int32} {v1 : Int32} {v2 : Int32} {a : Nat} {k_ : Nat} {x_78 : Int32} {σ_79 : ST} : F_X12_pour_L158_3 X v5 v3 v4 v1 v2 a (k_ + 1) x_78 σ_79 = F_X12_pour_B158_3 X v5 v3 v4 v1 v2 a (F_X12_pour_L158_3 X v5 v3 v4 v1 v2 a k_) x_78 σ_79 := rfl

noncomputable def F_X12_pour (X : XW) (σ : ST) (a : Nat) (v1 : Int32) (v2 : Int32) (v3 : Int32) (v4 : Int32) (v5 : Int32) : Int32 × ST :=
  q_let (q_si σ a 1 (0 : Int32) : ST) (fun σ_1 => q_let (q_si σ_1 a 0 (0 : Int32) : ST) (fun σ_2 => if v1.toInt < 0 then q_bi (F_X12_no X σ_2 a (1 : Int32)) (fun r_5 σ_6 => (r_5, σ_6)) else if v1.toInt < 4 then if v3.toInt < 0 then q_bi (F_X12_no X σ_2 a (1 : Int32)) (fun r_13 σ_14 => (r_13, σ_14)) else if v3.toInt < 4 then q_let (σ_2.1 (q_rf X a 5) v1.toNatClampNeg : Int32) (fun f_16 => if f_16.toInt < 0 then q_bi (F_X12_no X σ_2 a (3 : Int32)) (fun r_19 σ_20 => (r_19, σ_20)) else q_let (σ_2.1 (q_rf X a 5) v3.toNatClampNeg : Int32) (fun f_21 => if f_21.toInt < 0 then q_bi (F_X12_no X σ_2 a (3 : Int32)) (fun r_113 σ_114 => (r_113, σ_114)) else q_let (σ_2.1 (q_rf X a 4) v1.toNatClampNeg : Int32) (fun f_23 => q_let (σ_2.1 (q_rf X a 4) v3.toNatClampNeg : Int32) (fun f_24 => if f_23.toInt = f_24.toInt then if v5.toInt < 0 then q_bi (F_X12_no X σ_2 a (6 : Int32)) (fun r_107 σ_108 => (r_107, σ_108)) else if v2.toInt < 0 then q_bi (F_X12_no X σ_2 a (4 : Int32)) (fun r_29 σ_30 => (r_29, σ_30)) else if v4.toInt < 0 then q_bi (F_X12_no X σ_2 a (4 : Int32)) (fun r_33 σ_34 => (r_33, σ_34)) else q_let (v2.toInt64 : Int64) (fun y_35 => q_let (v5.toInt64 : Int64) (fun y_36 => q_let (y_35 + y_36 : Int64) (fun y_37 => q_let (σ_2.1 (q_rf X a 5) v1.toNatClampNeg : Int32) (fun f_38 => q_let (f_38.toInt64 : Int64) (fun y_39 => q_let (lg_cmp y_37 y_39 : Int32) (fun z_40 => if 0 < z_40.toInt then q_bi (F_X12_no X σ_2 a (4 : Int32)) (fun r_43 σ_44 => (r_43, σ_44)) else q_let (v4.toInt64 : Int64) (fun y_45 => q_let (v5.toInt64 : Int64) (fun y_46 => q_let (y_45 + y_46 : Int64) (fun y_47 => q_let (σ_2.1 (q_rf X a 5) v3.toNatClampNeg : Int32) (fun f_48 => q_let (f_48.toInt64 : Int64) (fun y_49 => q_let (lg_cmp y_47 y_49 : Int32) (fun z_50 => if 0 < z_50.toInt then q_bi (F_X12_no X σ_2 a (4 : Int32)) (fun r_104 σ_105 => (r_104, σ_105)) else if v2.toInt < v4.toInt then F_X12_pour_L158_3 X v5 v3 v4 v1 v2 a ((2147483647 - (0 : Int32).toInt).toNat + 1) (0 : Int32) σ_2 else F_X12_pour_L158_1 X v5 v3 v4 v1 v2 a ((2147483647 - (0 : Int32).toInt).toNat + 1) (0 : Int32) σ_2)))))))))))) else q_bi (F_X12_no X σ_2 a (11 : Int32)) (fun r_110 σ_111 => (r_110, σ_111)))))) else q_bi (F_X12_no X σ_2 a (1 : Int32)) (fun r_116 σ_117 => (r_116, σ_117)) else q_bi (F_X12_no X σ_2 a (1 : Int32)) (fun r_9 σ_10 => (r_9, σ_10))))

noncomputable def F_X12_lays_B2_1 (X : XW) (a : Nat) (v1 : Int32) (B2_1 : Int32 → ST → ST) (x_1 : Int32) (σ_2 : ST) : ST :=
  if x_1.toInt < 0 then σ_2 else q_let (σ_2.1 a 8 : Int32) (fun f_5 => q_let ((8 : Int32) * x_1 : Int32) (fun z_6 => q_let (v1 >>> (z_6 &&& 31) : Int32) (fun z_7 => q_let (z_7.toInt8.toInt32 : Int32) (fun z_8 => q_let (q_si σ_2 (q_rf X a 7) f_5.toNatClampNeg z_8.toInt8.toInt32 : ST) (fun σ_9 => q_let (σ_9.1 a 8 : Int32) (fun f_10 => q_let (f_10 + (1 : Int32) : Int32) (fun z_11 => q_let (q_si σ_9 a 8 z_11 : ST) (fun σ_12 => q_let (x_1 + (-1) : Int32) (fun z_13 => B2_1 z_13 σ_12)))))))))

noncomputable def F_X12_lays_L2_1 (X : XW) (a : Nat) (v1 : Int32) : Nat → Int32 → ST → ST
  | 0 => fun x_1 σ_2 => σ_2
  | k_ + 1 => F_X12_lays_B2_1 X a v1 (F_X12_lays_L2_1 X a v1 k_)

theorem F_X12_lays_L2_1_s {X : XW} {a : Nat} {v1 : Int32} {k_ : Nat} {x_1 : Int32} {σ_2 : ST} : F_X12_lays_L2_1 X a v1 (k_ + 1) x_1 σ_2 = F_X12_lays_B2_1 X a v1 (F_X12_lays_L2_1 X a v1 k_) x_1 σ_2 := rfl

noncomputable def F_X12_lays (X : XW) (σ : ST) (a : Nat) (v1 : Int32) : ST :=
  F_X12_lays_L2_1 X a v1 (((3 : Int32).toInt + 2147483656).toNat + 1) (3 : Int32) σ

noncomputable def F_X12_feed (X : XW) (σ : ST) (a : Nat) (v1 : Int32) (v2 : Int32) (v3 : Int32) (v4 : Int32) (v5 : Int32) : Int32 × ST :=
  q_let (q_si σ a 1 (0 : Int32) : ST) (fun σ_1 => q_let (σ_1.1 a 8 : Int32) (fun f_2 => q_let (f_2 + (20 : Int32) : Int32) (fun z_3 => if 900 < z_3.toInt then (((-1) : Int32), σ_1) else q_let (F_X12_lays X σ_1 a v1 : ST) (fun σ_6 => q_let (F_X12_lays X σ_6 a v2 : ST) (fun σ_8 => q_let (F_X12_lays X σ_8 a v3 : ST) (fun σ_10 => q_let (F_X12_lays X σ_10 a v4 : ST) (fun σ_12 => q_let (F_X12_lays X σ_12 a v5 : ST) (fun σ_14 => q_let (σ_14.1 a 8 : Int32) (fun f_15 => (f_15, σ_14))))))))))

noncomputable def F_X12_fault (X : XW) (σ : ST) (a : Nat) (v1 : Int32) : Int32 × ST :=
  q_let (q_si σ a 1 (0 : Int32) : ST) (fun σ_1 => if v1.toInt = 0 then q_let (σ_1.1 a 10 : Int32) (fun f_5 => (f_5, σ_1)) else if v1.toInt = 1 then q_let (σ_1.1 a 11 : Int32) (fun f_4 => (f_4, σ_1)) else (((-1) : Int32), σ_1))

noncomputable def F_X12_isIn (X : XW) (σ : ST) (v0 : Int64) (v1 : Int64) (v2 : Int64) : Int32 :=
  q_let (lg_cmp v0 v1 : Int32) (fun z_1 => if z_1.toInt < 0 then (0 : Int32) else q_let (lg_cmp v0 v2 : Int32) (fun z_3 => if 0 < z_3.toInt then (0 : Int32) else (1 : Int32)))

noncomputable def F_X12_look2 (X : XW) (σ : ST) (a : Nat) (v1 : Int32) : Int32 :=
  q_let (σ.1 a 9 : Int32) (fun f_1 => if v1.toInt < f_1.toInt then q_let (σ.1 (q_rf X a 7) v1.toNatClampNeg : Int32) (fun f_3 => q_let (f_3 &&& (255 : Int32) : Int32) (fun z_4 => z_4)) else (0 : Int32))

noncomputable def F_X12_isLetter (X : XW) (σ : ST) (v0 : Int32) : Int32 :=
  if v0.toInt < 97 then (0 : Int32) else if 122 < v0.toInt then (0 : Int32) else (1 : Int32)

noncomputable def F_X12_isDigit (X : XW) (σ : ST) (v0 : Int32) : Int32 :=
  if v0.toInt < 48 then (0 : Int32) else if 57 < v0.toInt then (0 : Int32) else (1 : Int32)

noncomputable def F_X12_isSignByte (X : XW) (σ : ST) (a : Nat) (v1 : Int32) : Int32 :=
  if v1.toInt = 59 then (1 : Int32) else if v1.toInt = 60 then (1 : Int32) else if v1.toInt = 62 then (1 : Int32) else if v1.toInt = 61 then (1 : Int32) else (0 : Int32)

noncomputable def F_X12_isSign (X : XW) (σ : ST) (a : Nat) (v1 : Int32) : Int32 :=
  q_let (σ.1 a 14 : Int32) (fun f_1 => if f_1.toInt = 3 then q_let (σ.1 a 17 : Int32) (fun f_3 => if f_3.toInt = v1.toInt then (1 : Int32) else (0 : Int32)) else (0 : Int32))

noncomputable def F_X12_isWord (X : XW) (σ : ST) (a : Nat) (v1 : Int64) : Int32 :=
  q_let (σ.1 a 14 : Int32) (fun f_1 => if f_1.toInt = 1 then q_let (σ.2.1 a 19 : Int64) (fun g_3 => q_let (lg_cmp g_3 v1 : Int32) (fun z_4 => if z_4.toInt = 0 then (1 : Int32) else (0 : Int32))) else (0 : Int32))

noncomputable def F_X12_fail (X : XW) (σ : ST) (a : Nat) (v1 : Int32) (v2 : Int32) : ST :=
  q_let (σ.1 a 12 : Int32) (fun f_1 => if 0 < f_1.toInt then σ else q_let (q_si σ a 12 v1 : ST) (fun σ_3 => q_let (q_si σ_3 a 13 v2 : ST) (fun σ_4 => σ_4)))

noncomputable def F_X12_wrong (X : XW) (σ : ST) (a : Nat) : ST :=
  q_let (σ.1 a 14 : Int32) (fun f_1 => if f_1.toInt = 4 then q_let (σ.1 a 15 : Int32) (fun f_7 => q_let (F_X12_fail X σ a (1 : Int32) f_7 : ST) (fun σ_10 => σ_10)) else q_let (σ.1 a 15 : Int32) (fun f_3 => q_let (F_X12_fail X σ a (2 : Int32) f_3 : ST) (fun σ_6 => σ_6)))

noncomputable def F_X12_next_E273_4 (X : XW) (σ_31 : ST) (a : Nat) : ST :=
  q_let (σ_31.1 a 16 : Int32) (fun f_39 => q_let (σ_31.1 a 15 : Int32) (fun f_40 => q_let (f_39 - f_40 : Int32) (fun z_41 => if 4 < z_41.toInt then q_let (q_si σ_31 a 14 (4 : Int32) : ST) (fun σ_44 => σ_44) else q_let (q_si σ_31 a 14 (2 : Int32) : ST) (fun σ_43 => σ_43))))

noncomputable def F_X12_next_B210_3 (X : XW) (a : Nat) (B210_3 : ST → ST) (σ_31 : ST) : ST :=
  q_let (σ_31.1 a 16 : Int32) (fun f_33 => q_let (F_X12_look2 X σ_31 a f_33 : Int32) (fun r_34 => q_let (F_X12_isDigit X σ_31 r_34 : Int32) (fun r_36 => if r_36.toInt = 0 then F_X12_next_E273_4 X σ_31 a else q_let (σ_31.1 a 16 : Int32) (fun f_45 => q_let (σ_31.1 a 15 : Int32) (fun f_46 => q_let (f_45 - f_46 : Int32) (fun z_47 => if z_47.toInt < 4 then q_let (σ_31.1 a 17 : Int32) (fun f_52 => q_let ((10 : Int32) * f_52 : Int32) (fun z_53 => q_let (σ_31.1 a 16 : Int32) (fun f_54 => q_let (F_X12_look2 X σ_31 a f_54 : Int32) (fun r_55 => q_let (z_53 + r_55 : Int32) (fun z_57 => q_let (z_57 - (48 : Int32) : Int32) (fun z_58 => q_let (q_si σ_31 a 17 z_58 : ST) (fun σ_59 => q_let (σ_59.1 a 16 : Int32) (fun f_60 => q_let (f_60 + (1 : Int32) : Int32) (fun z_61 => q_let (q_si σ_59 a 16 z_61 : ST) (fun σ_62 => B210_3 σ_62)))))))))) else q_let (σ_31.1 a 16 : Int32) (fun f_49 => q_let (f_49 + (1 : Int32) : Int32) (fun z_50 => q_let (q_si σ_31 a 16 z_50 : ST) (fun σ_51 => B210_3 σ_51)))))))))

noncomputable def F_X12_next_L210_3 (X : XW) (a : Nat) : Nat → ST → ST
  | 0 => fun σ_31 => σ_31
  | k_ + 1 => F_X12_next_B210_3 X a (F_X12_next_L210_3 X a k_)

theorem F_X12_next_L210_3_s {X : XW} {a : Nat} {k_ : Nat} {σ_31 : ST} : F_X12_next_L210_3 X a (k_ + 1) σ_31 = F_X12_next_B210_3 X a (F_X12_next_L210_3 X a k_) σ_31 := rfl

noncomputable def F_X12_next_E182_6 (X : XW) (σ_65 : ST) (a : Nat) : ST :=
  q_let (σ_65.1 a 16 : Int32) (fun f_73 => q_let (σ_65.1 a 15 : Int32) (fun f_74 => q_let (f_73 - f_74 : Int32) (fun z_75 => q_let (q_si σ_65 a 18 z_75 : ST) (fun σ_76 => σ_76))))

noncomputable def F_X12_next_B109_5 (X : XW) (a : Nat) (B109_5 : ST → ST) (σ_65 : ST) : ST :=
  q_let (σ_65.1 a 16 : Int32) (fun f_67 => q_let (F_X12_look2 X σ_65 a f_67 : Int32) (fun r_68 => q_let (F_X12_isLetter X σ_65 r_68 : Int32) (fun r_70 => if r_70.toInt = 0 then F_X12_next_E182_6 X σ_65 a else q_let (σ_65.1 a 16 : Int32) (fun f_77 => q_let (σ_65.1 a 15 : Int32) (fun f_78 => q_let (f_77 - f_78 : Int32) (fun z_79 => if z_79.toInt < 8 then q_let (σ_65.2.1 a 19 : Int64) (fun g_85 => q_let (g_85 * (32 : Int64) : Int64) (fun y_86 => q_let (σ_65.1 a 16 : Int32) (fun f_87 => q_let (F_X12_look2 X σ_65 a f_87 : Int32) (fun r_88 => q_let (r_88.toInt64 : Int64) (fun y_90 => q_let (y_86 + y_90 : Int64) (fun y_91 => q_let (y_91 - (96 : Int64) : Int64) (fun y_92 => q_let (q_sl σ_65 a 19 y_92 : ST) (fun σ_93 => q_let (σ_93.1 a 16 : Int32) (fun f_94 => q_let (f_94 + (1 : Int32) : Int32) (fun z_95 => q_let (q_si σ_93 a 16 z_95 : ST) (fun σ_96 => B109_5 σ_96))))))))))) else q_let (q_sl σ_65 a 19 ((-1) : Int64) : ST) (fun σ_81 => q_let (σ_81.1 a 16 : Int32) (fun f_82 => q_let (f_82 + (1 : Int32) : Int32) (fun z_83 => q_let (q_si σ_81 a 16 z_83 : ST) (fun σ_84 => B109_5 σ_84))))))))))

noncomputable def F_X12_next_L109_5 (X : XW) (a : Nat) : Nat → ST → ST
  | 0 => fun σ_65 => σ_65
  | k_ + 1 => F_X12_next_B109_5 X a (F_X12_next_L109_5 X a k_)

theorem F_X12_next_L109_5_s {X : XW} {a : Nat} {k_ : Nat} {σ_65 : ST} : F_X12_next_L109_5 X a (k_ + 1) σ_65 = F_X12_next_B109_5 X a (F_X12_next_L109_5 X a k_) σ_65 := rfl

noncomputable def F_X12_next_J58_2 (X : XW) (σ_3 : ST) (a : Nat) : ST :=
  q_let (σ_3.1 a 15 : Int32) (fun f_7 => q_let (q_si σ_3 a 16 f_7 : ST) (fun σ_8 => q_let (σ_8.1 a 15 : Int32) (fun f_9 => q_let (σ_8.1 a 9 : Int32) (fun f_10 => if f_9.toInt < f_10.toInt then q_let (σ_8.1 a 15 : Int32) (fun f_12 => q_let (F_X12_look2 X σ_8 a f_12 : Int32) (fun r_13 => q_let (F_X12_isLetter X σ_8 r_13 : Int32) (fun r_15 => if r_15.toInt = 0 then q_let (F_X12_isDigit X σ_8 r_13 : Int32) (fun r_18 => if r_18.toInt = 0 then q_let (σ_8.1 a 15 : Int32) (fun f_21 => q_let (f_21 + (1 : Int32) : Int32) (fun z_22 => q_let (q_si σ_8 a 16 z_22 : ST) (fun σ_23 => q_let (q_si σ_23 a 17 r_13 : ST) (fun σ_24 => q_let (F_X12_isSignByte X σ_24 a r_13 : Int32) (fun r_25 => if r_25.toInt = 0 then q_let (q_si σ_24 a 14 (4 : Int32) : ST) (fun σ_28 => σ_28) else q_let (q_si σ_24 a 14 (3 : Int32) : ST) (fun σ_29 => σ_29)))))) else q_let (q_si σ_8 a 17 (0 : Int32) : ST) (fun σ_30 => F_X12_next_L210_3 X a (((σ_30.1 a 9).toInt - (σ_30.1 a 16).toInt).toNat + 1) σ_30)) else q_let (q_si σ_8 a 14 (1 : Int32) : ST) (fun σ_63 => q_let (q_sl σ_63 a 19 (0 : Int64) : ST) (fun σ_64 => F_X12_next_L109_5 X a (((σ_64.1 a 9).toInt - (σ_64.1 a 16).toInt).toNat + 1) σ_64))))) else q_let (q_si σ_8 a 14 (0 : Int32) : ST) (fun σ_97 => σ_97)))))

noncomputable def F_X12_next_B8_1 (X : XW) (a : Nat) (B8_1 : ST → ST) (σ_3 : ST) : ST :=
  q_let (σ_3.1 a 15 : Int32) (fun f_5 => q_let (σ_3.1 a 9 : Int32) (fun f_6 => if f_5.toInt < f_6.toInt then q_let (σ_3.1 a 15 : Int32) (fun f_99 => q_let (F_X12_look2 X σ_3 a f_99 : Int32) (fun r_100 => if r_100.toInt = 10 then q_let (σ_3.1 a 15 : Int32) (fun f_103 => q_let (f_103 + (1 : Int32) : Int32) (fun z_104 => q_let (q_si σ_3 a 15 z_104 : ST) (fun σ_105 => B8_1 σ_105))) else q_let (σ_3.1 a 15 : Int32) (fun f_106 => q_let (F_X12_look2 X σ_3 a f_106 : Int32) (fun r_107 => if r_107.toInt = 32 then q_let (σ_3.1 a 15 : Int32) (fun f_110 => q_let (f_110 + (1 : Int32) : Int32) (fun z_111 => q_let (q_si σ_3 a 15 z_111 : ST) (fun σ_112 => B8_1 σ_112))) else F_X12_next_J58_2 X σ_3 a)))) else F_X12_next_J58_2 X σ_3 a))

noncomputable def F_X12_next_L8_1 (X : XW) (a : Nat) : Nat → ST → ST
  | 0 => fun σ_3 => σ_3
  | k_ + 1 => F_X12_next_B8_1 X a (F_X12_next_L8_1 X a k_)

theorem F_X12_next_L8_1_s {X : XW} {a : Nat} {k_ : Nat} {σ_3 : ST} : F_X12_next_L8_1 X a (k_ + 1) σ_3 = F_X12_next_B8_1 X a (F_X12_next_L8_1 X a k_) σ_3 := rfl

noncomputable def F_X12_next (X : XW) (σ : ST) (a : Nat) : ST :=
  q_let (σ.1 a 16 : Int32) (fun f_1 => q_let (q_si σ a 15 f_1 : ST) (fun σ_2 => F_X12_next_L8_1 X a (((σ_2.1 a 9).toInt - (σ_2.1 a 15).toInt).toNat + 1) σ_2))

noncomputable def F_X12_must (X : XW) (σ : ST) (a : Nat) (v1 : Int32) : ST :=
  q_let (σ.1 a 12 : Int32) (fun f_1 => if 0 < f_1.toInt then σ else if v1.toInt = 0 then q_let (F_X12_wrong X σ a : ST) (fun σ_5 => σ_5) else q_let (F_X12_next X σ a : ST) (fun σ_7 => σ_7))

noncomputable def F_X12_count_J19_1 (X : XW) (a : Nat) (v1 : Int32) (v2 : Int32) (σ_2 : ST) : Int32 × ST :=
  q_let (σ_2.1 a 12 : Int32) (fun f_3 => if f_3.toInt = 0 then q_let (σ_2.1 a 17 : Int32) (fun f_10 => q_let (f_10.toInt64 : Int64) (fun y_11 => q_let (v1.toInt64 : Int64) (fun y_12 => q_let (v2.toInt64 : Int64) (fun y_13 => q_let (F_X12_isIn X σ_2 y_11 y_12 y_13 : Int32) (fun r_14 => if r_14.toInt = 0 then q_let (σ_2.1 a 15 : Int32) (fun f_22 => q_let (F_X12_fail X σ_2 a (4 : Int32) f_22 : ST) (fun σ_25 => q_let (σ_25.1 a 12 : Int32) (fun f_26 => if 0 < f_26.toInt then ((0 : Int32), σ_25) else q_let (σ_25.1 a 17 : Int32) (fun f_28 => q_let (F_X12_next X σ_25 a : ST) (fun σ_30 => (f_28, σ_30)))))) else q_let (σ_2.1 a 12 : Int32) (fun f_17 => if 0 < f_17.toInt then ((0 : Int32), σ_2) else q_let (σ_2.1 a 17 : Int32) (fun f_19 => q_let (F_X12_next X σ_2 a : ST) (fun σ_21 => (f_19, σ_21))))))))) else q_let (σ_2.1 a 12 : Int32) (fun f_5 => if 0 < f_5.toInt then ((0 : Int32), σ_2) else q_let (σ_2.1 a 17 : Int32) (fun f_7 => q_let (F_X12_next X σ_2 a : ST) (fun σ_9 => (f_7, σ_9)))))

noncomputable def F_X12_count (X : XW) (σ : ST) (a : Nat) (v1 : Int32) (v2 : Int32) : Int32 × ST :=
  q_let (σ.1 a 12 : Int32) (fun f_1 => if f_1.toInt = 0 then q_let (σ.1 a 14 : Int32) (fun f_32 => if f_32.toInt = 2 then F_X12_count_J19_1 X a v1 v2 σ else q_let (F_X12_wrong X σ a : ST) (fun σ_35 => F_X12_count_J19_1 X a v1 v2 σ_35)) else F_X12_count_J19_1 X a v1 v2 σ)

noncomputable def F_X12_spelled (X : XW) (σ : ST) (v0 : Int32) (v1 : Int32) (v2 : Int32) (v3 : Int32) (v4 : Int32) (v5 : Int32) : Int64 :=
  q_let (v0.toInt64 : Int64) (fun y_1 => q_let (y_1 - (96 : Int64) : Int64) (fun y_2 => q_let (y_2 * (32 : Int64) : Int64) (fun y_3 => q_let (v1.toInt64 : Int64) (fun y_4 => q_let (y_3 + y_4 : Int64) (fun y_5 => q_let (y_5 - (96 : Int64) : Int64) (fun y_6 => if 0 < v2.toInt then q_let (y_6 * (32 : Int64) : Int64) (fun y_43 => q_let (v2.toInt64 : Int64) (fun y_44 => q_let (y_43 + y_44 : Int64) (fun y_45 => q_let (y_45 - (96 : Int64) : Int64) (fun y_46 => if 0 < v3.toInt then q_let (y_46 * (32 : Int64) : Int64) (fun y_63 => q_let (v3.toInt64 : Int64) (fun y_64 => q_let (y_63 + y_64 : Int64) (fun y_65 => q_let (y_65 - (96 : Int64) : Int64) (fun y_66 => if 0 < v4.toInt then q_let (y_66 * (32 : Int64) : Int64) (fun y_73 => q_let (v4.toInt64 : Int64) (fun y_74 => q_let (y_73 + y_74 : Int64) (fun y_75 => q_let (y_75 - (96 : Int64) : Int64) (fun y_76 => if 0 < v5.toInt then q_let (y_76 * (32 : Int64) : Int64) (fun y_78 => q_let (v5.toInt64 : Int64) (fun y_79 => q_let (y_78 + y_79 : Int64) (fun y_80 => q_let (y_80 - (96 : Int64) : Int64) (fun y_81 => y_81)))) else y_76)))) else if 0 < v5.toInt then q_let (y_66 * (32 : Int64) : Int64) (fun y_69 => q_let (v5.toInt64 : Int64) (fun y_70 => q_let (y_69 + y_70 : Int64) (fun y_71 => q_let (y_71 - (96 : Int64) : Int64) (fun y_72 => y_72)))) else y_66)))) else if 0 < v4.toInt then q_let (y_46 * (32 : Int64) : Int64) (fun y_54 => q_let (v4.toInt64 : Int64) (fun y_55 => q_let (y_54 + y_55 : Int64) (fun y_56 => q_let (y_56 - (96 : Int64) : Int64) (fun y_57 => if 0 < v5.toInt then q_let (y_57 * (32 : Int64) : Int64) (fun y_59 => q_let (v5.toInt64 : Int64) (fun y_60 => q_let (y_59 + y_60 : Int64) (fun y_61 => q_let (y_61 - (96 : Int64) : Int64) (fun y_62 => y_62)))) else y_57)))) else if 0 < v5.toInt then q_let (y_46 * (32 : Int64) : Int64) (fun y_50 => q_let (v5.toInt64 : Int64) (fun y_51 => q_let (y_50 + y_51 : Int64) (fun y_52 => q_let (y_52 - (96 : Int64) : Int64) (fun y_53 => y_53)))) else y_46)))) else if 0 < v3.toInt then q_let (y_6 * (32 : Int64) : Int64) (fun y_24 => q_let (v3.toInt64 : Int64) (fun y_25 => q_let (y_24 + y_25 : Int64) (fun y_26 => q_let (y_26 - (96 : Int64) : Int64) (fun y_27 => if 0 < v4.toInt then q_let (y_27 * (32 : Int64) : Int64) (fun y_34 => q_let (v4.toInt64 : Int64) (fun y_35 => q_let (y_34 + y_35 : Int64) (fun y_36 => q_let (y_36 - (96 : Int64) : Int64) (fun y_37 => if 0 < v5.toInt then q_let (y_37 * (32 : Int64) : Int64) (fun y_39 => q_let (v5.toInt64 : Int64) (fun y_40 => q_let (y_39 + y_40 : Int64) (fun y_41 => q_let (y_41 - (96 : Int64) : Int64) (fun y_42 => y_42)))) else y_37)))) else if 0 < v5.toInt then q_let (y_27 * (32 : Int64) : Int64) (fun y_30 => q_let (v5.toInt64 : Int64) (fun y_31 => q_let (y_30 + y_31 : Int64) (fun y_32 => q_let (y_32 - (96 : Int64) : Int64) (fun y_33 => y_33)))) else y_27)))) else if 0 < v4.toInt then q_let (y_6 * (32 : Int64) : Int64) (fun y_15 => q_let (v4.toInt64 : Int64) (fun y_16 => q_let (y_15 + y_16 : Int64) (fun y_17 => q_let (y_17 - (96 : Int64) : Int64) (fun y_18 => if 0 < v5.toInt then q_let (y_18 * (32 : Int64) : Int64) (fun y_20 => q_let (v5.toInt64 : Int64) (fun y_21 => q_let (y_20 + y_21 : Int64) (fun y_22 => q_let (y_22 - (96 : Int64) : Int64) (fun y_23 => y_23)))) else y_18)))) else if 0 < v5.toInt then q_let (y_6 * (32 : Int64) : Int64) (fun y_11 => q_let (v5.toInt64 : Int64) (fun y_12 => q_let (y_11 + y_12 : Int64) (fun y_13 => q_let (y_13 - (96 : Int64) : Int64) (fun y_14 => y_14)))) else y_6))))))

noncomputable def F_X12_isKinds (X : XW) (σ : ST) (a : Nat) : Int32 :=
  q_let (F_X12_spelled X σ (107 : Int32) (105 : Int32) (110 : Int32) (100 : Int32) (115 : Int32) (0 : Int32) : Int64) (fun r_7 => q_let (F_X12_isWord X σ a r_7 : Int32) (fun r_9 => r_9))

noncomputable def F_X12_isEach (X : XW) (σ : ST) (a : Nat) : Int32 :=
  q_let (F_X12_spelled X σ (101 : Int32) (97 : Int32) (99 : Int32) (104 : Int32) (0 : Int32) (0 : Int32) : Int64) (fun r_7 => q_let (F_X12_isWord X σ a r_7 : Int32) (fun r_9 => r_9))

noncomputable def F_X12_isLaw (X : XW) (σ : ST) (a : Nat) : Int32 :=
  q_let (F_X12_spelled X σ (108 : Int32) (97 : Int32) (119 : Int32) (0 : Int32) (0 : Int32) (0 : Int32) : Int64) (fun r_7 => q_let (F_X12_isWord X σ a r_7 : Int32) (fun r_9 => r_9))

noncomputable def F_X12_isMost (X : XW) (σ : ST) (a : Nat) : Int32 :=
  q_let (F_X12_spelled X σ (109 : Int32) (111 : Int32) (115 : Int32) (116 : Int32) (0 : Int32) (0 : Int32) : Int64) (fun r_7 => q_let (F_X12_isWord X σ a r_7 : Int32) (fun r_9 => r_9))

noncomputable def F_X12_isPlayer (X : XW) (σ : ST) (a : Nat) : Int32 :=
  q_let (F_X12_spelled X σ (112 : Int32) (108 : Int32) (97 : Int32) (121 : Int32) (101 : Int32) (114 : Int32) : Int64) (fun r_7 => q_let (F_X12_isWord X σ a r_7 : Int32) (fun r_9 => r_9))

noncomputable def F_X12_isLies (X : XW) (σ : ST) (a : Nat) : Int32 :=
  q_let (F_X12_spelled X σ (108 : Int32) (105 : Int32) (101 : Int32) (115 : Int32) (0 : Int32) (0 : Int32) : Int64) (fun r_7 => q_let (F_X12_isWord X σ a r_7 : Int32) (fun r_9 => r_9))

noncomputable def F_X12_isDoubts (X : XW) (σ : ST) (a : Nat) : Int32 :=
  q_let (F_X12_spelled X σ (100 : Int32) (111 : Int32) (117 : Int32) (98 : Int32) (116 : Int32) (115 : Int32) : Int64) (fun r_7 => q_let (F_X12_isWord X σ a r_7 : Int32) (fun r_9 => r_9))

noncomputable def F_X12_isHand (X : XW) (σ : ST) (a : Nat) : Int32 :=
  q_let (F_X12_spelled X σ (104 : Int32) (97 : Int32) (110 : Int32) (100 : Int32) (0 : Int32) (0 : Int32) : Int64) (fun r_7 => q_let (F_X12_isWord X σ a r_7 : Int32) (fun r_9 => r_9))

noncomputable def F_X12_isOf (X : XW) (σ : ST) (a : Nat) : Int32 :=
  q_let (F_X12_spelled X σ (111 : Int32) (102 : Int32) (0 : Int32) (0 : Int32) (0 : Int32) (0 : Int32) : Int64) (fun r_7 => q_let (F_X12_isWord X σ a r_7 : Int32) (fun r_9 => r_9))

noncomputable def F_X12_isEnd (X : XW) (σ : ST) (a : Nat) : Int32 :=
  q_let (F_X12_spelled X σ (101 : Int32) (110 : Int32) (100 : Int32) (0 : Int32) (0 : Int32) (0 : Int32) : Int64) (fun r_7 => q_let (F_X12_isWord X σ a r_7 : Int32) (fun r_9 => r_9))

noncomputable def F_X12_lawWord (X : XW) (σ : ST) (a : Nat) : Int32 :=
  q_let (F_X12_spelled X σ (117 : Int32) (112 : Int32) (0 : Int32) (0 : Int32) (0 : Int32) (0 : Int32) : Int64) (fun r_7 => q_let (F_X12_isWord X σ a r_7 : Int32) (fun r_9 => if r_9.toInt = 0 then q_let (F_X12_spelled X σ (100 : Int32) (111 : Int32) (119 : Int32) (110 : Int32) (0 : Int32) (0 : Int32) : Int64) (fun r_18 => q_let (F_X12_isWord X σ a r_18 : Int32) (fun r_20 => if r_20.toInt = 0 then q_let (F_X12_spelled X σ (115 : Int32) (97 : Int32) (109 : Int32) (101 : Int32) (0 : Int32) (0 : Int32) : Int64) (fun r_29 => q_let (F_X12_isWord X σ a r_29 : Int32) (fun r_31 => if r_31.toInt = 0 then ((-1) : Int32) else (2 : Int32))) else (1 : Int32))) else (0 : Int32)))

noncomputable def F_X12_stepWord (X : XW) (σ : ST) (a : Nat) : Int32 :=
  q_let (F_X12_spelled X σ (116 : Int32) (117 : Int32) (114 : Int32) (110 : Int32) (0 : Int32) (0 : Int32) : Int64) (fun r_7 => q_let (F_X12_isWord X σ a r_7 : Int32) (fun r_9 => if r_9.toInt = 0 then q_let (F_X12_isLies X σ a : Int32) (fun r_12 => if r_12.toInt = 0 then q_let (F_X12_isDoubts X σ a : Int32) (fun r_15 => if r_15.toInt = 0 then q_let (F_X12_spelled X σ (119 : Int32) (104 : Int32) (101 : Int32) (110 : Int32) (0 : Int32) (0 : Int32) : Int64) (fun r_24 => q_let (F_X12_isWord X σ a r_24 : Int32) (fun r_26 => if r_26.toInt = 0 then q_let (F_X12_spelled X σ (108 : Int32) (111 : Int32) (111 : Int32) (112 : Int32) (0 : Int32) (0 : Int32) : Int64) (fun r_35 => q_let (F_X12_isWord X σ a r_35 : Int32) (fun r_37 => if r_37.toInt = 0 then q_let (F_X12_spelled X σ (115 : Int32) (116 : Int32) (111 : Int32) (112 : Int32) (0 : Int32) (0 : Int32) : Int64) (fun r_46 => q_let (F_X12_isWord X σ a r_46 : Int32) (fun r_48 => if r_48.toInt = 0 then ((-1) : Int32) else (5 : Int32))) else (4 : Int32))) else (3 : Int32))) else (2 : Int32)) else (1 : Int32)) else (0 : Int32)))

noncomputable def F_X12_testWord (X : XW) (σ : ST) (a : Nat) : Int32 :=
  q_let (F_X12_spelled X σ (99 : Int32) (97 : Int32) (114 : Int32) (100 : Int32) (115 : Int32) (0 : Int32) : Int64) (fun r_7 => q_let (F_X12_isWord X σ a r_7 : Int32) (fun r_9 => if r_9.toInt = 0 then q_let (F_X12_spelled X σ (104 : Int32) (101 : Int32) (97 : Int32) (112 : Int32) (0 : Int32) (0 : Int32) : Int64) (fun r_18 => q_let (F_X12_isWord X σ a r_18 : Int32) (fun r_20 => if r_20.toInt = 0 then q_let (F_X12_spelled X σ (115 : Int32) (104 : Int32) (111 : Int32) (119 : Int32) (110 : Int32) (0 : Int32) : Int64) (fun r_29 => q_let (F_X12_isWord X σ a r_29 : Int32) (fun r_31 => if r_31.toInt = 0 then q_let (F_X12_spelled X σ (119 : Int32) (111 : Int32) (110 : Int32) (0 : Int32) (0 : Int32) (0 : Int32) : Int64) (fun r_40 => q_let (F_X12_isWord X σ a r_40 : Int32) (fun r_42 => if r_42.toInt = 0 then ((-1) : Int32) else (3 : Int32))) else (2 : Int32))) else (1 : Int32))) else (0 : Int32)))

noncomputable def F_X12_isKept (X : XW) (σ : ST) (a : Nat) : Int32 :=
  q_let (F_X12_isKinds X σ a : Int32) (fun r_1 => if r_1.toInt = 0 then q_let (F_X12_isEach X σ a : Int32) (fun r_4 => if r_4.toInt = 0 then q_let (F_X12_isLaw X σ a : Int32) (fun r_7 => if r_7.toInt = 0 then q_let (F_X12_isMost X σ a : Int32) (fun r_10 => if r_10.toInt = 0 then q_let (F_X12_isPlayer X σ a : Int32) (fun r_13 => if r_13.toInt = 0 then q_let (F_X12_isHand X σ a : Int32) (fun r_16 => if r_16.toInt = 0 then q_let (F_X12_isOf X σ a : Int32) (fun r_19 => if r_19.toInt = 0 then q_let (F_X12_lawWord X σ a : Int32) (fun r_22 => if r_22.toInt < 0 then q_let (F_X12_stepWord X σ a : Int32) (fun r_25 => if r_25.toInt < 0 then q_let (F_X12_testWord X σ a : Int32) (fun r_28 => if r_28.toInt < 0 then q_let (F_X12_isEnd X σ a : Int32) (fun r_31 => if r_31.toInt = 0 then (0 : Int32) else (1 : Int32)) else (1 : Int32)) else (1 : Int32)) else (1 : Int32)) else (1 : Int32)) else (1 : Int32)) else (1 : Int32)) else (1 : Int32)) else (1 : Int32)) else (1 : Int32)) else (1 : Int32))

noncomputable def F_X12_isName (X : XW) (σ : ST) (a : Nat) : Int32 :=
  q_let (σ.1 a 14 : Int32) (fun f_1 => if f_1.toInt = 1 then q_let (σ.1 a 18 : Int32) (fun f_3 => if 8 < f_3.toInt then (0 : Int32) else q_let (F_X12_isKept X σ a : Int32) (fun r_5 => if r_5.toInt = 0 then (1 : Int32) else (0 : Int32))) else (0 : Int32))

noncomputable def F_X12_named_B2_1 (X : XW) (v1 : Int32) (σ : ST) (a : Nat) (B2_1 : Int32 → Int32) (x_1 : Int32) : Int32 :=
  q_let ((930 : Int32) * v1 : Int32) (fun z_3 => q_let (z_3 + (2 : Int32) : Int32) (fun z_4 => q_let (σ.1 (q_rf X a 20) z_4.toNatClampNeg : Int32) (fun f_5 => if x_1.toInt < f_5.toInt then q_let ((6 : Int32) * v1 : Int32) (fun z_7 => q_let (z_7 + x_1 : Int32) (fun z_8 => q_let (σ.2.1 (q_rf X a 23) z_8.toNatClampNeg : Int64) (fun g_9 => q_let (σ.2.1 a 19 : Int64) (fun g_10 => q_let (lg_cmp g_9 g_10 : Int32) (fun z_11 => if z_11.toInt = 0 then x_1 else q_let (x_1 + 1 : Int32) (fun z_13 => B2_1 z_13)))))) else ((-1) : Int32))))

noncomputable def F_X12_named_L2_1 (X : XW) (v1 : Int32) (σ : ST) (a : Nat) : Nat → Int32 → Int32
  | 0 => fun x_1 => (0 : Int32)
  | k_ + 1 => F_X12_named_B2_1 X v1 σ a (F_X12_named_L2_1 X v1 σ a k_)

theorem F_X12_named_L2_1_s {X : XW} {v1 : Int32} {σ : ST} {a : Nat} {k_ : Nat} {x_1 : Int32} : F_X12_named_L2_1 X v1 σ a (k_ + 1) x_1 = F_X12_named_B2_1 X v1 σ a (F_X12_named_L2_1 X v1 σ a k_) x_1 := rfl

noncomputable def F_X12_named (X : XW) (σ : ST) (a : Nat) (v1 : Int32) : Int32 :=
  F_X12_named_L2_1 X v1 σ a ((2147483647 - (0 : Int32).toInt).toNat + 1) (0 : Int32)

noncomputable def F_X12_readTold_J18_1 (X : XW) (a : Nat) (v1 : Int32) (σ_2 : ST) : Int32 × ST :=
  q_let (σ_2.1 a 12 : Int32) (fun f_3 => if f_3.toInt = 0 then q_let (F_X12_named X σ_2 a v1 : Int32) (fun r_33 => q_let (σ_2.1 a 12 : Int32) (fun f_35 => if f_35.toInt = 0 then if r_33.toInt < 0 then q_let (σ_2.1 a 15 : Int32) (fun f_50 => q_let (F_X12_fail X σ_2 a (3 : Int32) f_50 : ST) (fun σ_53 => q_let (F_X12_must X σ_53 a (1 : Int32) : ST) (fun σ_56 => q_let (F_J9_max_7cf53 X σ_56 (0 : Int32) r_33 : Int32) (fun r_58 => (r_58, σ_56))))) else q_let (F_X12_must X σ_2 a (1 : Int32) : ST) (fun σ_46 => q_let (F_J9_max_7cf53 X σ_46 (0 : Int32) r_33 : Int32) (fun r_48 => (r_48, σ_46))) else q_let (F_X12_must X σ_2 a (1 : Int32) : ST) (fun σ_39 => q_let (F_J9_max_7cf53 X σ_39 (0 : Int32) r_33 : Int32) (fun r_41 => (r_41, σ_39))))) else q_let (σ_2.1 a 12 : Int32) (fun f_5 => if f_5.toInt = 0 then if (0 : Int) < 0 then q_let (σ_2.1 a 15 : Int32) (fun f_22 => q_let (F_X12_fail X σ_2 a (3 : Int32) f_22 : ST) (fun σ_25 => q_let (F_X12_must X σ_25 a (1 : Int32) : ST) (fun σ_28 => q_let (F_J9_max_7cf53 X σ_28 (0 : Int32) (0 : Int32) : Int32) (fun r_31 => (r_31, σ_28))))) else q_let (F_X12_must X σ_2 a (1 : Int32) : ST) (fun σ_17 => q_let (F_J9_max_7cf53 X σ_17 (0 : Int32) (0 : Int32) : Int32) (fun r_20 => (r_20, σ_17))) else q_let (F_X12_must X σ_2 a (1 : Int32) : ST) (fun σ_9 => q_let (F_J9_max_7cf53 X σ_9 (0 : Int32) (0 : Int32) : Int32) (fun r_12 => (r_12, σ_9)))))

noncomputable def F_X12_readTold (X : XW) (σ : ST) (a : Nat) (v1 : Int32) : Int32 × ST :=
  q_let (σ.1 a 12 : Int32) (fun f_1 => if f_1.toInt = 0 then q_let (F_X12_isName X σ a : Int32) (fun r_61 => if r_61.toInt = 0 then q_let (F_X12_wrong X σ a : ST) (fun σ_65 => F_X12_readTold_J18_1 X a v1 σ_65) else F_X12_readTold_J18_1 X a v1 σ) else F_X12_readTold_J18_1 X a v1 σ)

noncomputable def F_X12_toldOf_B4_1 (X : XW) (v1 : Int32) (σ : ST) (a : Nat) (B4_1 : Int32 → Int32 → Int32) (x_1 : Int32) (x_2 : Int32) : Int32 :=
  if x_2.toInt < 6 then q_let ((10 : Int32) * x_2 : Int32) (fun z_5 => q_let ((3754 : Int32) + z_5 : Int32) (fun z_6 => q_let (z_6 + v1 : Int32) (fun z_7 => q_let (σ.1 (q_rf X a 20) z_7.toNatClampNeg : Int32) (fun f_8 => q_let (x_1 + f_8 : Int32) (fun z_9 => q_let (x_2 + 1 : Int32) (fun z_10 => B4_1 z_9 z_10)))))) else x_1

noncomputable def F_X12_toldOf_L4_1 (X : XW) (v1 : Int32) (σ : ST) (a : Nat) : Nat → Int32 → Int32 → Int32
  | 0 => fun x_1 x_2 => (0 : Int32)
  | k_ + 1 => F_X12_toldOf_B4_1 X v1 σ a (F_X12_toldOf_L4_1 X v1 σ a k_)

theorem F_X12_toldOf_L4_1_s {X : XW} {v1 : Int32} {σ : ST} {a : Nat} {k_ : Nat} {x_1 : Int32} {x_2 : Int32} : F_X12_toldOf_L4_1 X v1 σ a (k_ + 1) x_1 x_2 = F_X12_toldOf_B4_1 X v1 σ a (F_X12_toldOf_L4_1 X v1 σ a k_) x_1 x_2 := rfl

noncomputable def F_X12_toldOf (X : XW) (σ : ST) (a : Nat) (v1 : Int32) : Int32 :=
  F_X12_toldOf_L4_1 X v1 σ a ((2147483647 - (0 : Int32).toInt).toNat + 1) (0 : Int32) (0 : Int32)

noncomputable def F_X12_readLaw (X : XW) (σ : ST) (a : Nat) : ST :=
  q_let (σ.1 a 25 : Int32) (fun f_1 => if f_1.toInt = 0 then q_let (σ.1 a 12 : Int32) (fun f_3 => if 0 < f_3.toInt then σ else q_let (q_si σ a 25 (1 : Int32) : ST) (fun σ_5 => q_let (F_X12_next X σ_5 a : ST) (fun σ_7 => q_let (F_X12_lawWord X σ_7 a : Int32) (fun r_8 => q_let (F_J9_max_7cf53 X σ_7 (0 : Int32) r_8 : Int32) (fun r_11 => q_let (q_si σ_7 (q_rf X a 20) (3723 : Int32).toNatClampNeg r_11 : ST) (fun σ_13 => q_let (F_X12_lawWord X σ_13 a : Int32) (fun r_14 => if r_14.toInt < 0 then q_let (F_X12_must X σ_13 a (0 : Int32) : ST) (fun σ_19 => σ_19) else q_let (F_X12_must X σ_13 a (1 : Int32) : ST) (fun σ_22 => σ_22)))))))) else q_let (σ.1 a 15 : Int32) (fun f_23 => q_let (F_X12_fail X σ a (5 : Int32) f_23 : ST) (fun σ_26 => q_let (σ_26.1 a 12 : Int32) (fun f_27 => if 0 < f_27.toInt then σ_26 else q_let (q_si σ_26 a 25 (1 : Int32) : ST) (fun σ_29 => q_let (F_X12_next X σ_29 a : ST) (fun σ_31 => q_let (F_X12_lawWord X σ_31 a : Int32) (fun r_32 => q_let (F_J9_max_7cf53 X σ_31 (0 : Int32) r_32 : Int32) (fun r_35 => q_let (q_si σ_31 (q_rf X a 20) (3723 : Int32).toNatClampNeg r_35 : ST) (fun σ_37 => q_let (F_X12_lawWord X σ_37 a : Int32) (fun r_38 => if r_38.toInt < 0 then q_let (F_X12_must X σ_37 a (0 : Int32) : ST) (fun σ_43 => σ_43) else q_let (F_X12_must X σ_37 a (1 : Int32) : ST) (fun σ_46 => σ_46)))))))))))

noncomputable def F_X12_readMost (X : XW) (σ : ST) (a : Nat) : ST :=
  q_let (σ.1 a 26 : Int32) (fun f_1 => if f_1.toInt = 0 then q_let (σ.1 a 12 : Int32) (fun f_3 => if 0 < f_3.toInt then σ else q_let (q_si σ a 26 (1 : Int32) : ST) (fun σ_5 => q_let (F_X12_next X σ_5 a : ST) (fun σ_7 => q_bi (F_X12_count X σ_7 a (1 : Int32) (4 : Int32)) (fun r_10 σ_11 => q_let (q_si σ_11 (q_rf X a 20) (3724 : Int32).toNatClampNeg r_10 : ST) (fun σ_12 => σ_12))))) else q_let (σ.1 a 15 : Int32) (fun f_13 => q_let (F_X12_fail X σ a (5 : Int32) f_13 : ST) (fun σ_16 => q_let (σ_16.1 a 12 : Int32) (fun f_17 => if 0 < f_17.toInt then σ_16 else q_let (q_si σ_16 a 26 (1 : Int32) : ST) (fun σ_19 => q_let (F_X12_next X σ_19 a : ST) (fun σ_21 => q_bi (F_X12_count X σ_21 a (1 : Int32) (4 : Int32)) (fun r_24 σ_25 => q_let (q_si σ_25 (q_rf X a 20) (3724 : Int32).toNatClampNeg r_24 : ST) (fun σ_26 => σ_26))))))))

noncomputable def F_X12_readPlayer_J160_5 (X : XW) (a : Nat) (σ_23 : ST) : ST :=
  q_let (σ_23.1 a 12 : Int32) (fun f_24 => if f_24.toInt = 0 then q_let (σ_23.1 (q_rf X a 20) (3722 : Int32).toNatClampNeg : Int32) (fun f_26 => q_let (f_26 + (1 : Int32) : Int32) (fun z_27 => q_let (q_si σ_23 (q_rf X a 20) (3722 : Int32).toNatClampNeg z_27 : ST) (fun σ_28 => σ_28))) else σ_23)

noncomputable def F_X12_readPlayer_J125_4 (X : XW) (a : Nat) (f_1 : Int32) (σ_21 : ST) : ST :=
  q_let (σ_21.1 a 12 : Int32) (fun f_22 => if f_22.toInt = 0 then q_let (F_X12_isDoubts X σ_21 a : Int32) (fun r_30 => if r_30.toInt = 0 then F_X12_readPlayer_J160_5 X a σ_21 else q_let (F_X12_next X σ_21 a : ST) (fun σ_34 => q_let ((3736 : Int32) + f_1 : Int32) (fun z_35 => q_bi (F_X12_count X σ_34 a (0 : Int32) (16 : Int32)) (fun r_38 σ_39 => q_let (q_si σ_39 (q_rf X a 20) z_35.toNatClampNeg r_38 : ST) (fun σ_40 => F_X12_readPlayer_J160_5 X a σ_40))))) else F_X12_readPlayer_J160_5 X a σ_21)

noncomputable def F_X12_readPlayer_J72_3 (X : XW) (a : Nat) (f_1 : Int32) (σ_11 : ST) : ST :=
  q_let (σ_11.1 a 12 : Int32) (fun f_12 => if 0 < f_12.toInt then σ_11 else q_let ((24 : Int32) + f_1 : Int32) (fun z_14 => q_let (σ_11.2.1 a 19 : Int64) (fun g_15 => q_let (q_sl σ_11 (q_rf X a 23) z_14.toNatClampNeg g_15 : ST) (fun σ_16 => q_let (F_X12_next X σ_16 a : ST) (fun σ_18 => q_let (F_X12_isLies X σ_18 a : Int32) (fun r_19 => if r_19.toInt = 0 then F_X12_readPlayer_J125_4 X a f_1 σ_18 else q_let (F_X12_next X σ_18 a : ST) (fun σ_43 => q_let ((3730 : Int32) + f_1 : Int32) (fun z_44 => q_bi (F_X12_count X σ_43 a (0 : Int32) (16 : Int32)) (fun r_47 σ_48 => q_let (q_si σ_48 (q_rf X a 20) z_44.toNatClampNeg r_47 : ST) (fun σ_49 => F_X12_readPlayer_J125_4 X a f_1 σ_49))))))))))

noncomputable def F_X12_readPlayer_J48_2 (X : XW) (a : Nat) (f_1 : Int32) (σ_9 : ST) : ST :=
  q_let (σ_9.1 a 12 : Int32) (fun f_10 => if f_10.toInt = 0 then q_let (F_X12_named X σ_9 a (4 : Int32) : Int32) (fun r_52 => if r_52.toInt < 0 then F_X12_readPlayer_J72_3 X a f_1 σ_9 else q_let (σ_9.1 a 15 : Int32) (fun f_55 => q_let (F_X12_fail X σ_9 a (3 : Int32) f_55 : ST) (fun σ_58 => F_X12_readPlayer_J72_3 X a f_1 σ_58))) else F_X12_readPlayer_J72_3 X a f_1 σ_9)

noncomputable def F_X12_readPlayer_J25_1 (X : XW) (a : Nat) (f_1 : Int32) (σ_2 : ST) : ST :=
  q_let (σ_2.1 a 12 : Int32) (fun f_3 => if 0 < f_3.toInt then σ_2 else q_let (F_X12_next X σ_2 a : ST) (fun σ_6 => q_let (F_X12_isName X σ_6 a : Int32) (fun r_7 => if r_7.toInt = 0 then q_let (F_X12_wrong X σ_6 a : ST) (fun σ_61 => F_X12_readPlayer_J48_2 X a f_1 σ_61) else F_X12_readPlayer_J48_2 X a f_1 σ_6)))

noncomputable def F_X12_readPlayer (X : XW) (σ : ST) (a : Nat) : ST :=
  q_let (σ.1 (q_rf X a 20) (3722 : Int32).toNatClampNeg : Int32) (fun f_1 => if f_1.toInt = 6 then q_let (σ.1 a 15 : Int32) (fun f_63 => q_let (F_X12_fail X σ a (6 : Int32) f_63 : ST) (fun σ_66 => F_X12_readPlayer_J25_1 X a f_1 σ_66)) else F_X12_readPlayer_J25_1 X a f_1 σ)

noncomputable def F_X12_readHand (X : XW) (σ : ST) (a : Nat) : ST :=
  q_let (F_X12_next X σ a : ST) (fun σ_2 => q_bi (F_X12_readTold X σ_2 a (4 : Int32)) (fun r_4 σ_5 => q_bi (F_X12_count X σ_5 a (0 : Int32) (8 : Int32)) (fun r_8 σ_9 => q_let (F_X12_isOf X σ_9 a : Int32) (fun r_10 => q_let (F_X12_must X σ_9 a r_10 : ST) (fun σ_13 => q_let (σ_13.1 a 15 : Int32) (fun f_14 => q_let (σ_13.1 (q_rf X a 20) (3720 : Int32).toNatClampNeg : Int32) (fun f_15 => q_let (f_15 - (1 : Int32) : Int32) (fun z_16 => q_bi (F_X12_count X σ_13 a (0 : Int32) z_16) (fun r_18 σ_19 => q_let ((10 : Int32) * r_4 : Int32) (fun z_20 => q_let (z_20 + r_18 : Int32) (fun z_21 => q_let (σ_19.1 a 12 : Int32) (fun f_22 => if f_22.toInt = 0 then q_let (σ_19.1 (q_rf X a 22) z_21.toNatClampNeg : Int32) (fun f_29 => if f_29.toInt = 1 then q_let (F_X12_fail X σ_19 a (5 : Int32) f_14 : ST) (fun σ_33 => q_let (σ_33.1 a 12 : Int32) (fun f_34 => if 0 < f_34.toInt then σ_33 else q_let (q_si σ_33 (q_rf X a 22) z_21.toNatClampNeg (1 : Int32) : ST) (fun σ_36 => q_let ((3754 : Int32) + z_21 : Int32) (fun z_37 => q_let (q_si σ_36 (q_rf X a 20) z_37.toNatClampNeg r_8 : ST) (fun σ_38 => σ_38))))) else q_let (F_X12_toldOf X σ_19 a r_18 : Int32) (fun r_39 => q_let (r_39 + r_8 : Int32) (fun z_41 => q_let (σ_19.1 (q_rf X a 20) (3721 : Int32).toNatClampNeg : Int32) (fun f_42 => if f_42.toInt < z_41.toInt then q_let (F_X12_fail X σ_19 a (5 : Int32) f_14 : ST) (fun σ_51 => q_let (σ_51.1 a 12 : Int32) (fun f_52 => if 0 < f_52.toInt then σ_51 else q_let (q_si σ_51 (q_rf X a 22) z_21.toNatClampNeg (1 : Int32) : ST) (fun σ_54 => q_let ((3754 : Int32) + z_21 : Int32) (fun z_55 => q_let (q_si σ_54 (q_rf X a 20) z_55.toNatClampNeg r_8 : ST) (fun σ_56 => σ_56))))) else q_let (σ_19.1 a 12 : Int32) (fun f_44 => if 0 < f_44.toInt then σ_19 else q_let (q_si σ_19 (q_rf X a 22) z_21.toNatClampNeg (1 : Int32) : ST) (fun σ_46 => q_let ((3754 : Int32) + z_21 : Int32) (fun z_47 => q_let (q_si σ_46 (q_rf X a 20) z_47.toNatClampNeg r_8 : ST) (fun σ_48 => σ_48)))))))) else q_let (σ_19.1 a 12 : Int32) (fun f_24 => if 0 < f_24.toInt then σ_19 else q_let (q_si σ_19 (q_rf X a 22) z_21.toNatClampNeg (1 : Int32) : ST) (fun σ_26 => q_let ((3754 : Int32) + z_21 : Int32) (fun z_27 => q_let (q_si σ_26 (q_rf X a 20) z_27.toNatClampNeg r_8 : ST) (fun σ_28 => σ_28))))))))))))))))

noncomputable def F_X12_opens (X : XW) (σ : ST) (a : Nat) (v1 : Int32) (v2 : Int32) : Int32 × ST :=
  if v1.toInt < 0 then q_bi (F_X12_no X σ a (5 : Int32)) (fun r_3 σ_4 => (r_3, σ_4)) else q_let (σ.1 a 8 : Int32) (fun f_5 => if f_5.toInt < v1.toInt then q_bi (F_X12_no X σ a (5 : Int32)) (fun r_8 σ_9 => (r_8, σ_9)) else if v2.toInt < v1.toInt then q_bi (F_X12_no X σ a (5 : Int32)) (fun r_18 σ_19 => (r_18, σ_19)) else q_let (q_si σ a 9 v1 : ST) (fun σ_11 => q_let (q_si σ_11 a 8 (0 : Int32) : ST) (fun σ_12 => q_let (q_si σ_12 a 16 (0 : Int32) : ST) (fun σ_13 => q_let (q_si σ_13 a 12 (0 : Int32) : ST) (fun σ_14 => q_let (F_X12_next X σ_14 a : ST) (fun σ_16 => ((1 : Int32), σ_16)))))))

noncomputable def F_X12_isWell (X : XW) (σ : ST) (a : Nat) : Int32 × ST :=
  q_let (σ.1 a 12 : Int32) (fun f_1 => q_let (q_si σ a 10 f_1 : ST) (fun σ_2 => q_let (σ_2.1 a 12 : Int32) (fun f_3 => if f_3.toInt = 0 then q_let (q_si σ_2 a 11 ((-1) : Int32) : ST) (fun σ_13 => q_let (σ_13.1 a 12 : Int32) (fun f_14 => if f_14.toInt = 0 then ((1 : Int32), σ_13) else q_bi (F_X12_no X σ_13 a (10 : Int32)) (fun r_17 σ_18 => if r_17.toInt = 0 then ((0 : Int32), σ_18) else ((1 : Int32), σ_18)))) else q_let (σ_2.1 a 13 : Int32) (fun f_5 => q_let (q_si σ_2 a 11 f_5 : ST) (fun σ_6 => q_let (σ_6.1 a 12 : Int32) (fun f_7 => if f_7.toInt = 0 then ((1 : Int32), σ_6) else q_bi (F_X12_no X σ_6 a (10 : Int32)) (fun r_10 σ_11 => if r_10.toInt = 0 then ((0 : Int32), σ_11) else ((1 : Int32), σ_11))))))))

noncomputable def F_X12_copy_B41_3 (X : XW) (v2 : Int32) (v1 : Int32) (a : Nat) (B41_3 : Int32 → ST → ST) (x_5 : Int32) (σ_6 : ST) : ST :=
  if x_5.toInt < 6 then q_let ((6 : Int32) * v2 : Int32) (fun z_9 => q_let (z_9 + x_5 : Int32) (fun z_10 => q_let ((6 : Int32) * v1 : Int32) (fun z_11 => q_let (z_11 + x_5 : Int32) (fun z_12 => q_let (σ_6.2.1 (q_rf X a 23) z_12.toNatClampNeg : Int64) (fun g_13 => q_let (q_sl σ_6 (q_rf X a 23) z_10.toNatClampNeg g_13 : ST) (fun σ_14 => q_let (x_5 + 1 : Int32) (fun z_15 => B41_3 z_15 σ_14))))))) else σ_6

noncomputable def F_X12_copy_L41_3 (X : XW) (v2 : Int32) (v1 : Int32) (a : Nat) : Nat → Int32 → ST → ST
  | 0 => fun x_5 σ_6 => σ_6
  | k_ + 1 => F_X12_copy_B41_3 X v2 v1 a (F_X12_copy_L41_3 X v2 v1 a k_)

theorem F_X12_copy_L41_3_s {X : XW} {v2 : Int32} {v1 : Int32} {a : Nat} {k_ : Nat} {x_5 : Int32} {σ_6 : ST} : F_X12_copy_L41_3 X v2 v1 a (k_ + 1) x_5 σ_6 = F_X12_copy_B41_3 X v2 v1 a (F_X12_copy_L41_3 X v2 v1 a k_) x_5 σ_6 := rfl

noncomputable def F_X12_copy_B2_1 (X : XW) (v2 : Int32) (v1 : Int32) (a : Nat) (B2_1 : Int32 → ST → ST) (x_1 : Int32) (σ_2 : ST) : ST :=
  if x_1.toInt < 930 then q_let ((930 : Int32) * v2 : Int32) (fun z_16 => q_let (z_16 + x_1 : Int32) (fun z_17 => q_let ((930 : Int32) * v1 : Int32) (fun z_18 => q_let (z_18 + x_1 : Int32) (fun z_19 => q_let (σ_2.1 (q_rf X a 20) z_19.toNatClampNeg : Int32) (fun f_20 => q_let (q_si σ_2 (q_rf X a 20) z_17.toNatClampNeg f_20 : ST) (fun σ_21 => q_let (x_1 + 1 : Int32) (fun z_22 => B2_1 z_22 σ_21))))))) else F_X12_copy_L41_3 X v2 v1 a ((2147483647 - (0 : Int32).toInt).toNat + 1) (0 : Int32) σ_2

noncomputable def F_X12_copy_L2_1 (X : XW) (v2 : Int32) (v1 : Int32) (a : Nat) : Nat → Int32 → ST → ST
  | 0 => fun x_1 σ_2 => σ_2
  | k_ + 1 => F_X12_copy_B2_1 X v2 v1 a (F_X12_copy_L2_1 X v2 v1 a k_)

theorem F_X12_copy_L2_1_s {X : XW} {v2 : Int32} {v1 : Int32} {a : Nat} {k_ : Nat} {x_1 : Int32} {σ_2 : ST} : F_X12_copy_L2_1 X v2 v1 a (k_ + 1) x_1 σ_2 = F_X12_copy_B2_1 X v2 v1 a (F_X12_copy_L2_1 X v2 v1 a k_) x_1 σ_2 := rfl

noncomputable def F_X12_copy (X : XW) (σ : ST) (a : Nat) (v1 : Int32) (v2 : Int32) : ST :=
  F_X12_copy_L2_1 X v2 v1 a ((2147483647 - (0 : Int32).toInt).toNat + 1) (0 : Int32) σ

noncomputable def F_X12_table_E232_6 (X : XW) (σ_41 : ST) (a : Nat) : Int32 × ST :=
  q_bi (F_X12_isWell X σ_41 a) (fun r_45 σ_46 => if r_45.toInt = 0 then (((-1) : Int32), σ_46) else q_let (q_si σ_46 (q_rf X a 20) (3728 : Int32).toNatClampNeg ((-1) : Int32) : ST) (fun σ_48 => q_let (σ_48.1 (q_rf X a 20) (3722 : Int32).toNatClampNeg : Int32) (fun f_49 => if f_49.toInt = 0 then q_let (q_si σ_48 (q_rf X a 20) (3726 : Int32).toNatClampNeg ((-1) : Int32) : ST) (fun σ_57 => q_let (F_X12_copy X σ_57 a (4 : Int32) (0 : Int32) : ST) (fun σ_61 => q_let (σ_61.1 (q_rf X a 20) (2 : Int32).toNatClampNeg : Int32) (fun f_62 => (f_62, σ_61)))) else q_let (q_si σ_48 (q_rf X a 20) (3726 : Int32).toNatClampNeg (0 : Int32) : ST) (fun σ_51 => q_let (F_X12_copy X σ_51 a (4 : Int32) (0 : Int32) : ST) (fun σ_55 => q_let (σ_55.1 (q_rf X a 20) (2 : Int32).toNatClampNeg : Int32) (fun f_56 => (f_56, σ_55)))))))

noncomputable def F_X12_table_E232_7 (X : XW) (σ_41 : ST) (a : Nat) : Int32 × ST :=
  q_bi (F_X12_isWell X σ_41 a) (fun r_65 σ_66 => if r_65.toInt = 0 then (((-1) : Int32), σ_66) else q_let (q_si σ_66 (q_rf X a 20) (3728 : Int32).toNatClampNeg ((-1) : Int32) : ST) (fun σ_68 => q_let (σ_68.1 (q_rf X a 20) (3722 : Int32).toNatClampNeg : Int32) (fun f_69 => if f_69.toInt = 0 then q_let (q_si σ_68 (q_rf X a 20) (3726 : Int32).toNatClampNeg ((-1) : Int32) : ST) (fun σ_77 => q_let (F_X12_copy X σ_77 a (4 : Int32) (0 : Int32) : ST) (fun σ_81 => q_let (σ_81.1 (q_rf X a 20) (2 : Int32).toNatClampNeg : Int32) (fun f_82 => (f_82, σ_81)))) else q_let (q_si σ_68 (q_rf X a 20) (3726 : Int32).toNatClampNeg (0 : Int32) : ST) (fun σ_71 => q_let (F_X12_copy X σ_71 a (4 : Int32) (0 : Int32) : ST) (fun σ_75 => q_let (σ_75.1 (q_rf X a 20) (2 : Int32).toNatClampNeg : Int32) (fun f_76 => (f_76, σ_75)))))))

noncomputable def F_X12_table_B145_5 (X : XW) (a : Nat) (B145_5 : ST → Int32 × ST) (σ_41 : ST) : Int32 × ST :=
  q_let (σ_41.1 a 12 : Int32) (fun f_43 => if f_43.toInt = 0 then q_let (σ_41.1 a 14 : Int32) (fun f_63 => if f_63.toInt = 0 then F_X12_table_E232_7 X σ_41 a else q_let (F_X12_isLaw X σ_41 a : Int32) (fun r_83 => if r_83.toInt = 0 then q_let (F_X12_isMost X σ_41 a : Int32) (fun r_86 => if r_86.toInt = 0 then q_let (F_X12_isPlayer X σ_41 a : Int32) (fun r_89 => if r_89.toInt = 0 then q_let (F_X12_isHand X σ_41 a : Int32) (fun r_92 => if r_92.toInt = 0 then q_let (F_X12_wrong X σ_41 a : ST) (fun σ_96 => q_let (F_X12_isSign X σ_96 a (59 : Int32) : Int32) (fun r_98 => q_let (F_X12_must X σ_96 a r_98 : ST) (fun σ_101 => B145_5 σ_101))) else q_let (F_X12_readHand X σ_41 a : ST) (fun σ_103 => q_let (F_X12_isSign X σ_103 a (59 : Int32) : Int32) (fun r_105 => q_let (F_X12_must X σ_103 a r_105 : ST) (fun σ_108 => B145_5 σ_108)))) else q_let (F_X12_readPlayer X σ_41 a : ST) (fun σ_110 => q_let (F_X12_isSign X σ_110 a (59 : Int32) : Int32) (fun r_112 => q_let (F_X12_must X σ_110 a r_112 : ST) (fun σ_115 => B145_5 σ_115)))) else q_let (F_X12_readMost X σ_41 a : ST) (fun σ_117 => q_let (F_X12_isSign X σ_117 a (59 : Int32) : Int32) (fun r_119 => q_let (F_X12_must X σ_117 a r_119 : ST) (fun σ_122 => B145_5 σ_122)))) else q_let (F_X12_readLaw X σ_41 a : ST) (fun σ_124 => q_let (F_X12_isSign X σ_124 a (59 : Int32) : Int32) (fun r_126 => q_let (F_X12_must X σ_124 a r_126 : ST) (fun σ_129 => B145_5 σ_129))))) else F_X12_table_E232_6 X σ_41 a)

noncomputable def F_X12_table_L145_5 (X : XW) (a : Nat) : Nat → ST → Int32 × ST
  | 0 => fun σ_41 => ((0 : Int32), σ_41)
  | k_ + 1 => F_X12_table_B145_5 X a (F_X12_table_L145_5 X a k_)

theorem F_X12_table_L145_5_s {X : XW} {a : Nat} {k_ : Nat} {σ_41 : ST} : F_X12_table_L145_5 X a (k_ + 1) σ_41 = F_X12_table_B145_5 X a (F_X12_table_L145_5 X a k_) σ_41 := rfl

noncomputable def F_X12_table_E70_7 (X : XW) (σ_12 : ST) (a : Nat) : Int32 × ST :=
  q_let (q_si σ_12 a 25 (0 : Int32) : ST) (fun σ_15 => q_let (q_si σ_15 a 26 (0 : Int32) : ST) (fun σ_16 => q_let (q_si σ_16 (q_rf X a 20) (3724 : Int32).toNatClampNeg (4 : Int32) : ST) (fun σ_17 => q_let (F_X12_isKinds X σ_17 a : Int32) (fun r_18 => q_let (F_X12_must X σ_17 a r_18 : ST) (fun σ_21 => q_bi (F_X12_count X σ_21 a (2 : Int32) (10 : Int32)) (fun r_24 σ_25 => q_let (q_si σ_25 (q_rf X a 20) (3720 : Int32).toNatClampNeg r_24 : ST) (fun σ_26 => q_let (F_X12_isEach X σ_26 a : Int32) (fun r_27 => q_let (F_X12_must X σ_26 a r_27 : ST) (fun σ_30 => q_bi (F_X12_count X σ_30 a (1 : Int32) (8 : Int32)) (fun r_33 σ_34 => q_let (q_si σ_34 (q_rf X a 20) (3721 : Int32).toNatClampNeg r_33 : ST) (fun σ_35 => q_let (F_X12_isSign X σ_35 a (59 : Int32) : Int32) (fun r_37 => q_let (F_X12_must X σ_35 a r_37 : ST) (fun σ_40 => F_X12_table_L145_5 X a ((901 - (σ_40.1 a 15).toInt).toNat + (1 - (σ_40.1 a 12).toInt).toNat + 1) σ_40)))))))))))))

noncomputable def F_X12_table_B51_3 (X : XW) (a : Nat) (B51_3 : Int32 → ST → Int32 × ST) (x_11 : Int32) (σ_12 : ST) : Int32 × ST :=
  if x_11.toInt < 60 then q_let (q_si σ_12 (q_rf X a 22) x_11.toNatClampNeg (0 : Int32) : ST) (fun σ_130 => q_let (x_11 + 1 : Int32) (fun z_131 => B51_3 z_131 σ_130)) else F_X12_table_E70_7 X σ_12 a

noncomputable def F_X12_table_L51_3 (X : XW) (a : Nat) : Nat → Int32 → ST → Int32 × ST
  | 0 => fun x_11 σ_12 => ((0 : Int32), σ_12)
  | k_ + 1 => F_X12_table_B51_3 X a (F_X12_table_L51_3 X a k_)

theorem F_X12_table_L51_3_s {X : XW} {a : Nat} {k_ : Nat} {x_11 : Int32} {σ_12 : ST} : F_X12_table_L51_3 X a (k_ + 1) x_11 σ_12 = F_X12_table_B51_3 X a (F_X12_table_L51_3 X a k_) x_11 σ_12 := rfl

noncomputable def F_X12_table_B25_1 (X : XW) (a : Nat) (B25_1 : Int32 → ST → Int32 × ST) (x_7 : Int32) (σ_8 : ST) : Int32 × ST :=
  if x_7.toInt < 930 then q_let ((3720 : Int32) + x_7 : Int32) (fun z_132 => q_let (q_si σ_8 (q_rf X a 20) z_132.toNatClampNeg (0 : Int32) : ST) (fun σ_133 => q_let (x_7 + 1 : Int32) (fun z_134 => B25_1 z_134 σ_133))) else F_X12_table_L51_3 X a ((2147483647 - (0 : Int32).toInt).toNat + 1) (0 : Int32) σ_8

noncomputable def F_X12_table_L25_1 (X : XW) (a : Nat) : Nat → Int32 → ST → Int32 × ST
  | 0 => fun x_7 σ_8 => ((0 : Int32), σ_8)
  | k_ + 1 => F_X12_table_B25_1 X a (F_X12_table_L25_1 X a k_)

theorem F_X12_table_L25_1_s {X : XW} {a : Nat} {k_ : Nat} {x_7 : Int32} {σ_8 : ST} : F_X12_table_L25_1 X a (k_ + 1) x_7 σ_8 = F_X12_table_B25_1 X a (F_X12_table_L25_1 X a k_) x_7 σ_8 := rfl

noncomputable def F_X12_table (X : XW) (σ : ST) (a : Nat) (v1 : Int32) : Int32 × ST :=
  q_let (q_si σ a 1 (0 : Int32) : ST) (fun σ_1 => q_let (q_si σ_1 a 0 (0 : Int32) : ST) (fun σ_2 => q_bi (F_X12_opens X σ_2 a v1 (900 : Int32)) (fun r_4 σ_5 => if r_4.toInt = 0 then (((-1) : Int32), σ_5) else F_X12_table_L25_1 X a ((2147483647 - (0 : Int32).toInt).toNat + 1) (0 : Int32) σ_5)))

noncomputable def F_X12_readTest_J50_2 (X : XW) (a : Nat) (r_1 : Int32) (v1 : Int32) (σ_8 : ST) : ST :=
  q_let (σ_8.1 a 12 : Int32) (fun f_9 => if 0 < f_9.toInt then σ_8 else if r_1.toInt = 3 then σ_8 else q_let (v1 + (7 : Int32) : Int32) (fun z_12 => q_let (σ_8.1 a 14 : Int32) (fun f_13 => if f_13.toInt = 3 then q_let (σ_8.1 a 17 : Int32) (fun f_89 => q_let (q_si σ_8 (q_rf X a 20) z_12.toNatClampNeg f_89 : ST) (fun σ_90 => q_let (F_X12_isSign X σ_90 a (60 : Int32) : Int32) (fun r_92 => if r_92.toInt = 0 then q_let (F_X12_isSign X σ_90 a (62 : Int32) : Int32) (fun r_111 => if r_111.toInt = 0 then q_let (F_X12_isSign X σ_90 a (61 : Int32) : Int32) (fun r_130 => if r_130.toInt = 0 then q_let (F_X12_must X σ_90 a (0 : Int32) : ST) (fun σ_135 => q_let (v1 + (2 : Int32) : Int32) (fun z_136 => if r_1.toInt = 2 then q_bi (F_X12_count X σ_135 a (0 : Int32) (999 : Int32)) (fun r_145 σ_146 => q_let (q_si σ_146 (q_rf X a 20) z_136.toNatClampNeg r_145 : ST) (fun σ_147 => σ_147)) else q_bi (F_X12_count X σ_135 a (0 : Int32) (80 : Int32)) (fun r_140 σ_141 => q_let (q_si σ_141 (q_rf X a 20) z_136.toNatClampNeg r_140 : ST) (fun σ_142 => σ_142)))) else q_let (F_X12_must X σ_90 a (1 : Int32) : ST) (fun σ_150 => q_let (v1 + (2 : Int32) : Int32) (fun z_151 => if r_1.toInt = 2 then q_bi (F_X12_count X σ_150 a (0 : Int32) (999 : Int32)) (fun r_160 σ_161 => q_let (q_si σ_161 (q_rf X a 20) z_151.toNatClampNeg r_160 : ST) (fun σ_162 => σ_162)) else q_bi (F_X12_count X σ_150 a (0 : Int32) (80 : Int32)) (fun r_155 σ_156 => q_let (q_si σ_156 (q_rf X a 20) z_151.toNatClampNeg r_155 : ST) (fun σ_157 => σ_157))))) else q_let (F_X12_must X σ_90 a (1 : Int32) : ST) (fun σ_116 => q_let (v1 + (2 : Int32) : Int32) (fun z_117 => if r_1.toInt = 2 then q_bi (F_X12_count X σ_116 a (0 : Int32) (999 : Int32)) (fun r_126 σ_127 => q_let (q_si σ_127 (q_rf X a 20) z_117.toNatClampNeg r_126 : ST) (fun σ_128 => σ_128)) else q_bi (F_X12_count X σ_116 a (0 : Int32) (80 : Int32)) (fun r_121 σ_122 => q_let (q_si σ_122 (q_rf X a 20) z_117.toNatClampNeg r_121 : ST) (fun σ_123 => σ_123))))) else q_let (F_X12_must X σ_90 a (1 : Int32) : ST) (fun σ_97 => q_let (v1 + (2 : Int32) : Int32) (fun z_98 => if r_1.toInt = 2 then q_bi (F_X12_count X σ_97 a (0 : Int32) (999 : Int32)) (fun r_107 σ_108 => q_let (q_si σ_108 (q_rf X a 20) z_98.toNatClampNeg r_107 : ST) (fun σ_109 => σ_109)) else q_bi (F_X12_count X σ_97 a (0 : Int32) (80 : Int32)) (fun r_102 σ_103 => q_let (q_si σ_103 (q_rf X a 20) z_98.toNatClampNeg r_102 : ST) (fun σ_104 => σ_104))))))) else q_let (q_si σ_8 (q_rf X a 20) z_12.toNatClampNeg (0 : Int32) : ST) (fun σ_15 => q_let (F_X12_isSign X σ_15 a (60 : Int32) : Int32) (fun r_18 => if r_18.toInt = 0 then q_let (F_X12_isSign X σ_15 a (62 : Int32) : Int32) (fun r_37 => if r_37.toInt = 0 then q_let (F_X12_isSign X σ_15 a (61 : Int32) : Int32) (fun r_56 => if r_56.toInt = 0 then q_let (F_X12_must X σ_15 a (0 : Int32) : ST) (fun σ_61 => q_let (v1 + (2 : Int32) : Int32) (fun z_62 => if r_1.toInt = 2 then q_bi (F_X12_count X σ_61 a (0 : Int32) (999 : Int32)) (fun r_71 σ_72 => q_let (q_si σ_72 (q_rf X a 20) z_62.toNatClampNeg r_71 : ST) (fun σ_73 => σ_73)) else q_bi (F_X12_count X σ_61 a (0 : Int32) (80 : Int32)) (fun r_66 σ_67 => q_let (q_si σ_67 (q_rf X a 20) z_62.toNatClampNeg r_66 : ST) (fun σ_68 => σ_68)))) else q_let (F_X12_must X σ_15 a (1 : Int32) : ST) (fun σ_76 => q_let (v1 + (2 : Int32) : Int32) (fun z_77 => if r_1.toInt = 2 then q_bi (F_X12_count X σ_76 a (0 : Int32) (999 : Int32)) (fun r_86 σ_87 => q_let (q_si σ_87 (q_rf X a 20) z_77.toNatClampNeg r_86 : ST) (fun σ_88 => σ_88)) else q_bi (F_X12_count X σ_76 a (0 : Int32) (80 : Int32)) (fun r_81 σ_82 => q_let (q_si σ_82 (q_rf X a 20) z_77.toNatClampNeg r_81 : ST) (fun σ_83 => σ_83))))) else q_let (F_X12_must X σ_15 a (1 : Int32) : ST) (fun σ_42 => q_let (v1 + (2 : Int32) : Int32) (fun z_43 => if r_1.toInt = 2 then q_bi (F_X12_count X σ_42 a (0 : Int32) (999 : Int32)) (fun r_52 σ_53 => q_let (q_si σ_53 (q_rf X a 20) z_43.toNatClampNeg r_52 : ST) (fun σ_54 => σ_54)) else q_bi (F_X12_count X σ_42 a (0 : Int32) (80 : Int32)) (fun r_47 σ_48 => q_let (q_si σ_48 (q_rf X a 20) z_43.toNatClampNeg r_47 : ST) (fun σ_49 => σ_49))))) else q_let (F_X12_must X σ_15 a (1 : Int32) : ST) (fun σ_23 => q_let (v1 + (2 : Int32) : Int32) (fun z_24 => if r_1.toInt = 2 then q_bi (F_X12_count X σ_23 a (0 : Int32) (999 : Int32)) (fun r_33 σ_34 => q_let (q_si σ_34 (q_rf X a 20) z_24.toNatClampNeg r_33 : ST) (fun σ_35 => σ_35)) else q_bi (F_X12_count X σ_23 a (0 : Int32) (80 : Int32)) (fun r_28 σ_29 => q_let (q_si σ_29 (q_rf X a 20) z_24.toNatClampNeg r_28 : ST) (fun σ_30 => σ_30)))))))))

noncomputable def F_X12_readTest_J15_1 (X : XW) (σ : ST) (a : Nat) (v1 : Int32) (r_1 : Int32) (x_3 : Int32) : ST :=
  q_let (F_X12_must X σ a x_3 : ST) (fun σ_5 => q_let (v1 + (6 : Int32) : Int32) (fun z_6 => q_let (q_si σ_5 (q_rf X a 20) z_6.toNatClampNeg r_1 : ST) (fun σ_7 => if r_1.toInt = 0 then q_let (v1 + (1 : Int32) : Int32) (fun z_164 => q_bi (F_X12_readTold X σ_7 a (0 : Int32)) (fun r_166 σ_167 => q_let (q_si σ_167 (q_rf X a 20) z_164.toNatClampNeg r_166 : ST) (fun σ_168 => F_X12_readTest_J50_2 X a r_1 v1 σ_168))) else if r_1.toInt = 2 then q_let (v1 + (1 : Int32) : Int32) (fun z_170 => q_bi (F_X12_readTold X σ_7 a (0 : Int32)) (fun r_172 σ_173 => q_let (q_si σ_173 (q_rf X a 20) z_170.toNatClampNeg r_172 : ST) (fun σ_174 => F_X12_readTest_J50_2 X a r_1 v1 σ_174))) else F_X12_readTest_J50_2 X a r_1 v1 σ_7)))

noncomputable def F_X12_readTest (X : XW) (σ : ST) (a : Nat) (v1 : Int32) : ST :=
  q_let (F_X12_testWord X σ a : Int32) (fun r_1 => if r_1.toInt < 0 then F_X12_readTest_J15_1 X σ a v1 r_1 (0 : Int32) else F_X12_readTest_J15_1 X σ a v1 r_1 (1 : Int32))

noncomputable def F_X12_readRest (X : XW) (σ : ST) (a : Nat) (v1 : Int32) : ST :=
  q_let (σ.1 (q_rf X a 20) v1.toNatClampNeg : Int32) (fun f_1 => if f_1.toInt = 1 then q_let (v1 + (1 : Int32) : Int32) (fun z_3 => q_bi (F_X12_readTold X σ a (0 : Int32)) (fun r_5 σ_6 => q_let (q_si σ_6 (q_rf X a 20) z_3.toNatClampNeg r_5 : ST) (fun σ_7 => q_let (v1 + (2 : Int32) : Int32) (fun z_8 => q_bi (F_X12_count X σ_7 a (0 : Int32) (16 : Int32)) (fun r_11 σ_12 => q_let (q_si σ_12 (q_rf X a 20) z_8.toNatClampNeg r_11 : ST) (fun σ_13 => σ_13)))))) else if f_1.toInt = 2 then q_let (v1 + (1 : Int32) : Int32) (fun z_25 => q_bi (F_X12_readTold X σ a (0 : Int32)) (fun r_27 σ_28 => q_let (q_si σ_28 (q_rf X a 20) z_25.toNatClampNeg r_27 : ST) (fun σ_29 => q_let (v1 + (2 : Int32) : Int32) (fun z_30 => q_bi (F_X12_count X σ_29 a (0 : Int32) (16 : Int32)) (fun r_33 σ_34 => q_let (q_si σ_34 (q_rf X a 20) z_30.toNatClampNeg r_33 : ST) (fun σ_35 => σ_35)))))) else if f_1.toInt = 3 then q_let (F_X12_readTest X σ a v1 : ST) (fun σ_24 => σ_24) else if f_1.toInt = 4 then q_let (v1 + (1 : Int32) : Int32) (fun z_17 => q_bi (F_X12_count X σ a (1 : Int32) (99 : Int32)) (fun r_20 σ_21 => q_let (q_si σ_21 (q_rf X a 20) z_17.toNatClampNeg r_20 : ST) (fun σ_22 => σ_22))) else σ)

noncomputable def F_X12_readStep_d0_E168_6 (X : XW) (x_3 : Int32) (z_13 : Int32) (σ_27 : ST) (a : Nat) : ST :=
  if x_3.toInt = 0 then q_let (z_13 + (8 : Int32) : Int32) (fun z_31 => q_let (σ_27.1 a 27 : Int32) (fun f_32 => q_let (q_si σ_27 (q_rf X a 20) z_31.toNatClampNeg f_32 : ST) (fun σ_33 => σ_33))) else q_let (F_X12_isEnd X σ_27 a : Int32) (fun r_34 => q_let (F_X12_must X σ_27 a r_34 : ST) (fun σ_37 => q_let (F_X12_isSign X σ_37 a (59 : Int32) : Int32) (fun r_39 => q_let (F_X12_must X σ_37 a r_39 : ST) (fun σ_42 => q_let (z_13 + (8 : Int32) : Int32) (fun z_43 => q_let (σ_42.1 a 27 : Int32) (fun f_44 => q_let (q_si σ_42 (q_rf X a 20) z_43.toNatClampNeg f_44 : ST) (fun σ_45 => σ_45)))))))

noncomputable def F_X12_readStep_d0_B140_5 (X : XW) (x_3 : Int32) (z_13 : Int32) (a : Nat) (B140_5 : ST → ST) (σ_27 : ST) : ST :=
  if x_3.toInt = 0 then F_X12_readStep_d0_E168_6 X x_3 z_13 σ_27 a else σ_27

noncomputable def F_X12_readStep_d0_L140_5 (X : XW) (x_3 : Int32) (z_13 : Int32) (a : Nat) : Nat → ST → ST
  | 0 => fun σ_27 => σ_27
  | k_ + 1 => F_X12_readStep_d0_B140_5 X x_3 z_13 a (F_X12_readStep_d0_L140_5 X x_3 z_13 a k_)

theorem F_X12_readStep_d0_L140_5_s {X : XW} {x_3 : Int32} {z_13 : Int32} {a : Nat} {k_ : Nat} {σ_27 : ST} : F_X12_readStep_d0_L140_5 X x_3 z_13 a (k_ + 1) σ_27 = F_X12_readStep_d0_B140_5 X x_3 z_13 a (F_X12_readStep_d0_L140_5 X x_3 z_13 a k_) σ_27 := rfl

noncomputable def F_X12_readStep_d0_J81_4 (X : XW) (a : Nat) (r_1 : Int32) (x_3 : Int32) (σ_8 : ST) : ST :=
  q_let (σ_8.1 a 12 : Int32) (fun f_9 => if 0 < f_9.toInt then σ_8 else q_let (σ_8.1 a 27 : Int32) (fun f_11 => q_let ((9 : Int32) * f_11 : Int32) (fun z_12 => q_let ((4376 : Int32) + z_12 : Int32) (fun z_13 => q_let (σ_8.1 a 27 : Int32) (fun f_14 => q_let (f_14 + (1 : Int32) : Int32) (fun z_15 => q_let (q_si σ_8 a 27 z_15 : ST) (fun σ_16 => q_let (F_X12_next X σ_16 a : ST) (fun σ_18 => q_let (q_si σ_18 (q_rf X a 20) z_13.toNatClampNeg r_1 : ST) (fun σ_19 => q_let (F_X12_readRest X σ_19 a z_13 : ST) (fun σ_21 => q_let (F_X12_isSign X σ_21 a (59 : Int32) : Int32) (fun r_23 => q_let (F_X12_must X σ_21 a r_23 : ST) (fun σ_26 => F_X12_readStep_d0_L140_5 X x_3 z_13 a ((901 - (σ_26.1 a 15).toInt).toNat + (1 - (σ_26.1 a 12).toInt).toNat + 1) σ_26))))))))))))

noncomputable def F_X12_readStep_d0_J55_3 (X : XW) (a : Nat) (x_3 : Int32) (r_1 : Int32) (v1 : Int32) (σ_6 : ST) : ST :=
  q_let (σ_6.1 a 12 : Int32) (fun f_7 => if f_7.toInt = 0 then if x_3.toInt = 0 then F_X12_readStep_d0_J81_4 X a r_1 x_3 σ_6 else if v1.toInt = 3 then q_let (σ_6.1 a 15 : Int32) (fun f_49 => q_let (F_X12_fail X σ_6 a (7 : Int32) f_49 : ST) (fun σ_52 => F_X12_readStep_d0_J81_4 X a r_1 x_3 σ_52)) else F_X12_readStep_d0_J81_4 X a r_1 x_3 σ_6 else F_X12_readStep_d0_J81_4 X a r_1 x_3 σ_6)

noncomputable def F_X12_readStep_d0_J29_2 (X : XW) (a : Nat) (x_3 : Int32) (r_1 : Int32) (v1 : Int32) (σ_4 : ST) : ST :=
  q_let (σ_4.1 a 12 : Int32) (fun f_5 => if f_5.toInt = 0 then q_let (σ_4.1 a 27 : Int32) (fun f_54 => if f_54.toInt = 30 then q_let (σ_4.1 a 15 : Int32) (fun f_56 => q_let (F_X12_fail X σ_4 a (6 : Int32) f_56 : ST) (fun σ_59 => F_X12_readStep_d0_J55_3 X a x_3 r_1 v1 σ_59)) else F_X12_readStep_d0_J55_3 X a x_3 r_1 v1 σ_4) else F_X12_readStep_d0_J55_3 X a x_3 r_1 v1 σ_4)

noncomputable def F_X12_readStep_d0_J20_1 (X : XW) (r_1 : Int32) (σ : ST) (a : Nat) (v1 : Int32) (x_3 : Int32) : ST :=
  if r_1.toInt < 0 then q_let (F_X12_wrong X σ a : ST) (fun σ_62 => F_X12_readStep_d0_J29_2 X a x_3 r_1 v1 σ_62) else F_X12_readStep_d0_J29_2 X a x_3 r_1 v1 σ

noncomputable def F_X12_readStep_d0 (X : XW) (σ : ST) (a : Nat) (v1 : Int32) : ST :=
  q_let (F_X12_stepWord X σ a : Int32) (fun r_1 => if r_1.toInt = 3 then F_X12_readStep_d0_J20_1 X r_1 σ a v1 (1 : Int32) else if r_1.toInt = 4 then F_X12_readStep_d0_J20_1 X r_1 σ a v1 (1 : Int32) else F_X12_readStep_d0_J20_1 X r_1 σ a v1 (0 : Int32))

noncomputable def F_X12_readStep_d1_E168_6 (X : XW) (x_3 : Int32) (z_13 : Int32) (σ_27 : ST) (a : Nat) : ST :=
  if x_3.toInt = 0 then q_let (z_13 + (8 : Int32) : Int32) (fun z_31 => q_let (σ_27.1 a 27 : Int32) (fun f_32 => q_let (q_si σ_27 (q_rf X a 20) z_31.toNatClampNeg f_32 : ST) (fun σ_33 => σ_33))) else q_let (F_X12_isEnd X σ_27 a : Int32) (fun r_34 => q_let (F_X12_must X σ_27 a r_34 : ST) (fun σ_37 => q_let (F_X12_isSign X σ_37 a (59 : Int32) : Int32) (fun r_39 => q_let (F_X12_must X σ_37 a r_39 : ST) (fun σ_42 => q_let (z_13 + (8 : Int32) : Int32) (fun z_43 => q_let (σ_42.1 a 27 : Int32) (fun f_44 => q_let (q_si σ_42 (q_rf X a 20) z_43.toNatClampNeg f_44 : ST) (fun σ_45 => σ_45)))))))

noncomputable def F_X12_readStep_d1_E168_7 (X : XW) (x_3 : Int32) (z_13 : Int32) (σ_27 : ST) (a : Nat) : ST :=
  if x_3.toInt = 0 then q_let (z_13 + (8 : Int32) : Int32) (fun z_49 => q_let (σ_27.1 a 27 : Int32) (fun f_50 => q_let (q_si σ_27 (q_rf X a 20) z_49.toNatClampNeg f_50 : ST) (fun σ_51 => σ_51))) else q_let (F_X12_isEnd X σ_27 a : Int32) (fun r_52 => q_let (F_X12_must X σ_27 a r_52 : ST) (fun σ_55 => q_let (F_X12_isSign X σ_55 a (59 : Int32) : Int32) (fun r_57 => q_let (F_X12_must X σ_55 a r_57 : ST) (fun σ_60 => q_let (z_13 + (8 : Int32) : Int32) (fun z_61 => q_let (σ_60.1 a 27 : Int32) (fun f_62 => q_let (q_si σ_60 (q_rf X a 20) z_61.toNatClampNeg f_62 : ST) (fun σ_63 => σ_63)))))))

noncomputable def F_X12_readStep_d1_E168_8 (X : XW) (x_3 : Int32) (z_13 : Int32) (σ_27 : ST) (a : Nat) : ST :=
  if x_3.toInt = 0 then q_let (z_13 + (8 : Int32) : Int32) (fun z_68 => q_let (σ_27.1 a 27 : Int32) (fun f_69 => q_let (q_si σ_27 (q_rf X a 20) z_68.toNatClampNeg f_69 : ST) (fun σ_70 => σ_70))) else q_let (F_X12_isEnd X σ_27 a : Int32) (fun r_71 => q_let (F_X12_must X σ_27 a r_71 : ST) (fun σ_74 => q_let (F_X12_isSign X σ_74 a (59 : Int32) : Int32) (fun r_76 => q_let (F_X12_must X σ_74 a r_76 : ST) (fun σ_79 => q_let (z_13 + (8 : Int32) : Int32) (fun z_80 => q_let (σ_79.1 a 27 : Int32) (fun f_81 => q_let (q_si σ_79 (q_rf X a 20) z_80.toNatClampNeg f_81 : ST) (fun σ_82 => σ_82)))))))

noncomputable def F_X12_readStep_d1_B140_5 (X : XW) (x_3 : Int32) (z_13 : Int32) (a : Nat) (v1 : Int32) (B140_5 : ST → ST) (σ_27 : ST) : ST :=
  if x_3.toInt = 0 then F_X12_readStep_d1_E168_6 X x_3 z_13 σ_27 a else q_let (σ_27.1 a 12 : Int32) (fun f_46 => if f_46.toInt = 0 then q_let (F_X12_isEnd X σ_27 a : Int32) (fun r_64 => if r_64.toInt = 0 then q_let (v1 + (1 : Int32) : Int32) (fun z_83 => q_let (F_X12_readStep_d0 X σ_27 a z_83 : ST) (fun σ_85 => B140_5 σ_85)) else F_X12_readStep_d1_E168_8 X x_3 z_13 σ_27 a) else F_X12_readStep_d1_E168_7 X x_3 z_13 σ_27 a)

noncomputable def F_X12_readStep_d1_L140_5 (X : XW) (x_3 : Int32) (z_13 : Int32) (a : Nat) (v1 : Int32) : Nat → ST → ST
  | 0 => fun σ_27 => σ_27
  | k_ + 1 => F_X12_readStep_d1_B140_5 X x_3 z_13 a v1 (F_X12_readStep_d1_L140_5 X x_3 z_13 a v1 k_)

theorem F_X12_readStep_d1_L140_5_s {X : XW} {x_3 : Int32} {z_13 : Int32} {a : Nat} {v1 : Int32} {k_ : Nat} {σ_27 : ST} : F_X12_readStep_d1_L140_5 X x_3 z_13 a v1 (k_ + 1) σ_27 = F_X12_readStep_d1_B140_5 X x_3 z_13 a v1 (F_X12_readStep_d1_L140_5 X x_3 z_13 a v1 k_) σ_27 := rfl

noncomputable def F_X12_readStep_d1_J81_4 (X : XW) (a : Nat) (r_1 : Int32) (x_3 : Int32) (v1 : Int32) (σ_8 : ST) : ST :=
  q_let (σ_8.1 a 12 : Int32) (fun f_9 => if 0 < f_9.toInt then σ_8 else q_let (σ_8.1 a 27 : Int32) (fun f_11 => q_let ((9 : Int32) * f_11 : Int32) (fun z_12 => q_let ((4376 : Int32) + z_12 : Int32) (fun z_13 => q_let (σ_8.1 a 27 : Int32) (fun f_14 => q_let (f_14 + (1 : Int32) : Int32) (fun z_15 => q_let (q_si σ_8 a 27 z_15 : ST) (fun σ_16 => q_let (F_X12_next X σ_16 a : ST) (fun σ_18 => q_let (q_si σ_18 (q_rf X a 20) z_13.toNatClampNeg r_1 : ST) (fun σ_19 => q_let (F_X12_readRest X σ_19 a z_13 : ST) (fun σ_21 => q_let (F_X12_isSign X σ_21 a (59 : Int32) : Int32) (fun r_23 => q_let (F_X12_must X σ_21 a r_23 : ST) (fun σ_26 => F_X12_readStep_d1_L140_5 X x_3 z_13 a v1 ((901 - (σ_26.1 a 15).toInt).toNat + (1 - (σ_26.1 a 12).toInt).toNat + 1) σ_26))))))))))))

noncomputable def F_X12_readStep_d1_J55_3 (X : XW) (a : Nat) (x_3 : Int32) (r_1 : Int32) (v1 : Int32) (σ_6 : ST) : ST :=
  q_let (σ_6.1 a 12 : Int32) (fun f_7 => if f_7.toInt = 0 then if x_3.toInt = 0 then F_X12_readStep_d1_J81_4 X a r_1 x_3 v1 σ_6 else if v1.toInt = 3 then q_let (σ_6.1 a 15 : Int32) (fun f_89 => q_let (F_X12_fail X σ_6 a (7 : Int32) f_89 : ST) (fun σ_92 => F_X12_readStep_d1_J81_4 X a r_1 x_3 v1 σ_92)) else F_X12_readStep_d1_J81_4 X a r_1 x_3 v1 σ_6 else F_X12_readStep_d1_J81_4 X a r_1 x_3 v1 σ_6)

noncomputable def F_X12_readStep_d1_J29_2 (X : XW) (a : Nat) (x_3 : Int32) (r_1 : Int32) (v1 : Int32) (σ_4 : ST) : ST :=
  q_let (σ_4.1 a 12 : Int32) (fun f_5 => if f_5.toInt = 0 then q_let (σ_4.1 a 27 : Int32) (fun f_94 => if f_94.toInt = 30 then q_let (σ_4.1 a 15 : Int32) (fun f_96 => q_let (F_X12_fail X σ_4 a (6 : Int32) f_96 : ST) (fun σ_99 => F_X12_readStep_d1_J55_3 X a x_3 r_1 v1 σ_99)) else F_X12_readStep_d1_J55_3 X a x_3 r_1 v1 σ_4) else F_X12_readStep_d1_J55_3 X a x_3 r_1 v1 σ_4)

noncomputable def F_X12_readStep_d1_J20_1 (X : XW) (r_1 : Int32) (σ : ST) (a : Nat) (v1 : Int32) (x_3 : Int32) : ST :=
  if r_1.toInt < 0 then q_let (F_X12_wrong X σ a : ST) (fun σ_102 => F_X12_readStep_d1_J29_2 X a x_3 r_1 v1 σ_102) else F_X12_readStep_d1_J29_2 X a x_3 r_1 v1 σ

noncomputable def F_X12_readStep_d1 (X : XW) (σ : ST) (a : Nat) (v1 : Int32) : ST :=
  q_let (F_X12_stepWord X σ a : Int32) (fun r_1 => if r_1.toInt = 3 then F_X12_readStep_d1_J20_1 X r_1 σ a v1 (1 : Int32) else if r_1.toInt = 4 then F_X12_readStep_d1_J20_1 X r_1 σ a v1 (1 : Int32) else F_X12_readStep_d1_J20_1 X r_1 σ a v1 (0 : Int32))

noncomputable def F_X12_readStep_d2_E168_6 (X : XW) (x_3 : Int32) (z_13 : Int32) (σ_27 : ST) (a : Nat) : ST :=
  if x_3.toInt = 0 then q_let (z_13 + (8 : Int32) : Int32) (fun z_31 => q_let (σ_27.1 a 27 : Int32) (fun f_32 => q_let (q_si σ_27 (q_rf X a 20) z_31.toNatClampNeg f_32 : ST) (fun σ_33 => σ_33))) else q_let (F_X12_isEnd X σ_27 a : Int32) (fun r_34 => q_let (F_X12_must X σ_27 a r_34 : ST) (fun σ_37 => q_let (F_X12_isSign X σ_37 a (59 : Int32) : Int32) (fun r_39 => q_let (F_X12_must X σ_37 a r_39 : ST) (fun σ_42 => q_let (z_13 + (8 : Int32) : Int32) (fun z_43 => q_let (σ_42.1 a 27 : Int32) (fun f_44 => q_let (q_si σ_42 (q_rf X a 20) z_43.toNatClampNeg f_44 : ST) (fun σ_45 => σ_45)))))))

noncomputable def F_X12_readStep_d2_E168_7 (X : XW) (x_3 : Int32) (z_13 : Int32) (σ_27 : ST) (a : Nat) : ST :=
  if x_3.toInt = 0 then q_let (z_13 + (8 : Int32) : Int32) (fun z_49 => q_let (σ_27.1 a 27 : Int32) (fun f_50 => q_let (q_si σ_27 (q_rf X a 20) z_49.toNatClampNeg f_50 : ST) (fun σ_51 => σ_51))) else q_let (F_X12_isEnd X σ_27 a : Int32) (fun r_52 => q_let (F_X12_must X σ_27 a r_52 : ST) (fun σ_55 => q_let (F_X12_isSign X σ_55 a (59 : Int32) : Int32) (fun r_57 => q_let (F_X12_must X σ_55 a r_57 : ST) (fun σ_60 => q_let (z_13 + (8 : Int32) : Int32) (fun z_61 => q_let (σ_60.1 a 27 : Int32) (fun f_62 => q_let (q_si σ_60 (q_rf X a 20) z_61.toNatClampNeg f_62 : ST) (fun σ_63 => σ_63)))))))

noncomputable def F_X12_readStep_d2_E168_8 (X : XW) (x_3 : Int32) (z_13 : Int32) (σ_27 : ST) (a : Nat) : ST :=
  if x_3.toInt = 0 then q_let (z_13 + (8 : Int32) : Int32) (fun z_68 => q_let (σ_27.1 a 27 : Int32) (fun f_69 => q_let (q_si σ_27 (q_rf X a 20) z_68.toNatClampNeg f_69 : ST) (fun σ_70 => σ_70))) else q_let (F_X12_isEnd X σ_27 a : Int32) (fun r_71 => q_let (F_X12_must X σ_27 a r_71 : ST) (fun σ_74 => q_let (F_X12_isSign X σ_74 a (59 : Int32) : Int32) (fun r_76 => q_let (F_X12_must X σ_74 a r_76 : ST) (fun σ_79 => q_let (z_13 + (8 : Int32) : Int32) (fun z_80 => q_let (σ_79.1 a 27 : Int32) (fun f_81 => q_let (q_si σ_79 (q_rf X a 20) z_80.toNatClampNeg f_81 : ST) (fun σ_82 => σ_82)))))))

noncomputable def F_X12_readStep_d2_B140_5 (X : XW) (x_3 : Int32) (z_13 : Int32) (a : Nat) (v1 : Int32) (B140_5 : ST → ST) (σ_27 : ST) : ST :=
  if x_3.toInt = 0 then F_X12_readStep_d2_E168_6 X x_3 z_13 σ_27 a else q_let (σ_27.1 a 12 : Int32) (fun f_46 => if f_46.toInt = 0 then q_let (F_X12_isEnd X σ_27 a : Int32) (fun r_64 => if r_64.toInt = 0 then q_let (v1 + (1 : Int32) : Int32) (fun z_83 => q_let (F_X12_readStep_d1 X σ_27 a z_83 : ST) (fun σ_85 => B140_5 σ_85)) else F_X12_readStep_d2_E168_8 X x_3 z_13 σ_27 a) else F_X12_readStep_d2_E168_7 X x_3 z_13 σ_27 a)

noncomputable def F_X12_readStep_d2_L140_5 (X : XW) (x_3 : Int32) (z_13 : Int32) (a : Nat) (v1 : Int32) : Nat → ST → ST
  | 0 => fun σ_27 => σ_27
  | k_ + 1 => F_X12_readStep_d2_B140_5 X x_3 z_13 a v1 (F_X12_readStep_d2_L140_5 X x_3 z_13 a v1 k_)

theorem F_X12_readStep_d2_L140_5_s {X : XW} {x_3 : Int32} {z_13 : Int32} {a : Nat} {v1 : Int32} {k_ : Nat} {σ_27 : ST} : F_X12_readStep_d2_L140_5 X x_3 z_13 a v1 (k_ + 1) σ_27 = F_X12_readStep_d2_B140_5 X x_3 z_13 a v1 (F_X12_readStep_d2_L140_5 X x_3 z_13 a v1 k_) σ_27 := rfl

noncomputable def F_X12_readStep_d2_J81_4 (X : XW) (a : Nat) (r_1 : Int32) (x_3 : Int32) (v1 : Int32) (σ_8 : ST) : ST :=
  q_let (σ_8.1 a 12 : Int32) (fun f_9 => if 0 < f_9.toInt then σ_8 else q_let (σ_8.1 a 27 : Int32) (fun f_11 => q_let ((9 : Int32) * f_11 : Int32) (fun z_12 => q_let ((4376 : Int32) + z_12 : Int32) (fun z_13 => q_let (σ_8.1 a 27 : Int32) (fun f_14 => q_let (f_14 + (1 : Int32) : Int32) (fun z_15 => q_let (q_si σ_8 a 27 z_15 : ST) (fun σ_16 => q_let (F_X12_next X σ_16 a : ST) (fun σ_18 => q_let (q_si σ_18 (q_rf X a 20) z_13.toNatClampNeg r_1 : ST) (fun σ_19 => q_let (F_X12_readRest X σ_19 a z_13 : ST) (fun σ_21 => q_let (F_X12_isSign X σ_21 a (59 : Int32) : Int32) (fun r_23 => q_let (F_X12_must X σ_21 a r_23 : ST) (fun σ_26 => F_X12_readStep_d2_L140_5 X x_3 z_13 a v1 ((901 - (σ_26.1 a 15).toInt).toNat + (1 - (σ_26.1 a 12).toInt).toNat + 1) σ_26))))))))))))

noncomputable def F_X12_readStep_d2_J55_3 (X : XW) (a : Nat) (x_3 : Int32) (r_1 : Int32) (v1 : Int32) (σ_6 : ST) : ST :=
  q_let (σ_6.1 a 12 : Int32) (fun f_7 => if f_7.toInt = 0 then if x_3.toInt = 0 then F_X12_readStep_d2_J81_4 X a r_1 x_3 v1 σ_6 else if v1.toInt = 3 then q_let (σ_6.1 a 15 : Int32) (fun f_89 => q_let (F_X12_fail X σ_6 a (7 : Int32) f_89 : ST) (fun σ_92 => F_X12_readStep_d2_J81_4 X a r_1 x_3 v1 σ_92)) else F_X12_readStep_d2_J81_4 X a r_1 x_3 v1 σ_6 else F_X12_readStep_d2_J81_4 X a r_1 x_3 v1 σ_6)

noncomputable def F_X12_readStep_d2_J29_2 (X : XW) (a : Nat) (x_3 : Int32) (r_1 : Int32) (v1 : Int32) (σ_4 : ST) : ST :=
  q_let (σ_4.1 a 12 : Int32) (fun f_5 => if f_5.toInt = 0 then q_let (σ_4.1 a 27 : Int32) (fun f_94 => if f_94.toInt = 30 then q_let (σ_4.1 a 15 : Int32) (fun f_96 => q_let (F_X12_fail X σ_4 a (6 : Int32) f_96 : ST) (fun σ_99 => F_X12_readStep_d2_J55_3 X a x_3 r_1 v1 σ_99)) else F_X12_readStep_d2_J55_3 X a x_3 r_1 v1 σ_4) else F_X12_readStep_d2_J55_3 X a x_3 r_1 v1 σ_4)

noncomputable def F_X12_readStep_d2_J20_1 (X : XW) (r_1 : Int32) (σ : ST) (a : Nat) (v1 : Int32) (x_3 : Int32) : ST :=
  if r_1.toInt < 0 then q_let (F_X12_wrong X σ a : ST) (fun σ_102 => F_X12_readStep_d2_J29_2 X a x_3 r_1 v1 σ_102) else F_X12_readStep_d2_J29_2 X a x_3 r_1 v1 σ

noncomputable def F_X12_readStep_d2 (X : XW) (σ : ST) (a : Nat) (v1 : Int32) : ST :=
  q_let (F_X12_stepWord X σ a : Int32) (fun r_1 => if r_1.toInt = 3 then F_X12_readStep_d2_J20_1 X r_1 σ a v1 (1 : Int32) else if r_1.toInt = 4 then F_X12_readStep_d2_J20_1 X r_1 σ a v1 (1 : Int32) else F_X12_readStep_d2_J20_1 X r_1 σ a v1 (0 : Int32))

noncomputable def F_X12_readStep_d3_E168_6 (X : XW) (x_3 : Int32) (z_13 : Int32) (σ_27 : ST) (a : Nat) : ST :=
  if x_3.toInt = 0 then q_let (z_13 + (8 : Int32) : Int32) (fun z_31 => q_let (σ_27.1 a 27 : Int32) (fun f_32 => q_let (q_si σ_27 (q_rf X a 20) z_31.toNatClampNeg f_32 : ST) (fun σ_33 => σ_33))) else q_let (F_X12_isEnd X σ_27 a : Int32) (fun r_34 => q_let (F_X12_must X σ_27 a r_34 : ST) (fun σ_37 => q_let (F_X12_isSign X σ_37 a (59 : Int32) : Int32) (fun r_39 => q_let (F_X12_must X σ_37 a r_39 : ST) (fun σ_42 => q_let (z_13 + (8 : Int32) : Int32) (fun z_43 => q_let (σ_42.1 a 27 : Int32) (fun f_44 => q_let (q_si σ_42 (q_rf X a 20) z_43.toNatClampNeg f_44 : ST) (fun σ_45 => σ_45)))))))

noncomputable def F_X12_readStep_d3_E168_7 (X : XW) (x_3 : Int32) (z_13 : Int32) (σ_27 : ST) (a : Nat) : ST :=
  if x_3.toInt = 0 then q_let (z_13 + (8 : Int32) : Int32) (fun z_49 => q_let (σ_27.1 a 27 : Int32) (fun f_50 => q_let (q_si σ_27 (q_rf X a 20) z_49.toNatClampNeg f_50 : ST) (fun σ_51 => σ_51))) else q_let (F_X12_isEnd X σ_27 a : Int32) (fun r_52 => q_let (F_X12_must X σ_27 a r_52 : ST) (fun σ_55 => q_let (F_X12_isSign X σ_55 a (59 : Int32) : Int32) (fun r_57 => q_let (F_X12_must X σ_55 a r_57 : ST) (fun σ_60 => q_let (z_13 + (8 : Int32) : Int32) (fun z_61 => q_let (σ_60.1 a 27 : Int32) (fun f_62 => q_let (q_si σ_60 (q_rf X a 20) z_61.toNatClampNeg f_62 : ST) (fun σ_63 => σ_63)))))))

noncomputable def F_X12_readStep_d3_E168_8 (X : XW) (x_3 : Int32) (z_13 : Int32) (σ_27 : ST) (a : Nat) : ST :=
  if x_3.toInt = 0 then q_let (z_13 + (8 : Int32) : Int32) (fun z_68 => q_let (σ_27.1 a 27 : Int32) (fun f_69 => q_let (q_si σ_27 (q_rf X a 20) z_68.toNatClampNeg f_69 : ST) (fun σ_70 => σ_70))) else q_let (F_X12_isEnd X σ_27 a : Int32) (fun r_71 => q_let (F_X12_must X σ_27 a r_71 : ST) (fun σ_74 => q_let (F_X12_isSign X σ_74 a (59 : Int32) : Int32) (fun r_76 => q_let (F_X12_must X σ_74 a r_76 : ST) (fun σ_79 => q_let (z_13 + (8 : Int32) : Int32) (fun z_80 => q_let (σ_79.1 a 27 : Int32) (fun f_81 => q_let (q_si σ_79 (q_rf X a 20) z_80.toNatClampNeg f_81 : ST) (fun σ_82 => σ_82)))))))

noncomputable def F_X12_readStep_d3_B140_5 (X : XW) (x_3 : Int32) (z_13 : Int32) (a : Nat) (v1 : Int32) (B140_5 : ST → ST) (σ_27 : ST) : ST :=
  if x_3.toInt = 0 then F_X12_readStep_d3_E168_6 X x_3 z_13 σ_27 a else q_let (σ_27.1 a 12 : Int32) (fun f_46 => if f_46.toInt = 0 then q_let (F_X12_isEnd X σ_27 a : Int32) (fun r_64 => if r_64.toInt = 0 then q_let (v1 + (1 : Int32) : Int32) (fun z_83 => q_let (F_X12_readStep_d2 X σ_27 a z_83 : ST) (fun σ_85 => B140_5 σ_85)) else F_X12_readStep_d3_E168_8 X x_3 z_13 σ_27 a) else F_X12_readStep_d3_E168_7 X x_3 z_13 σ_27 a)

noncomputable def F_X12_readStep_d3_L140_5 (X : XW) (x_3 : Int32) (z_13 : Int32) (a : Nat) (v1 : Int32) : Nat → ST → ST
  | 0 => fun σ_27 => σ_27
  | k_ + 1 => F_X12_readStep_d3_B140_5 X x_3 z_13 a v1 (F_X12_readStep_d3_L140_5 X x_3 z_13 a v1 k_)

theorem F_X12_readStep_d3_L140_5_s {X : XW} {x_3 : Int32} {z_13 : Int32} {a : Nat} {v1 : Int32} {k_ : Nat} {σ_27 : ST} : F_X12_readStep_d3_L140_5 X x_3 z_13 a v1 (k_ + 1) σ_27 = F_X12_readStep_d3_B140_5 X x_3 z_13 a v1 (F_X12_readStep_d3_L140_5 X x_3 z_13 a v1 k_) σ_27 := rfl

noncomputable def F_X12_readStep_d3_J81_4 (X : XW) (a : Nat) (r_1 : Int32) (x_3 : Int32) (v1 : Int32) (σ_8 : ST) : ST :=
  q_let (σ_8.1 a 12 : Int32) (fun f_9 => if 0 < f_9.toInt then σ_8 else q_let (σ_8.1 a 27 : Int32) (fun f_11 => q_let ((9 : Int32) * f_11 : Int32) (fun z_12 => q_let ((4376 : Int32) + z_12 : Int32) (fun z_13 => q_let (σ_8.1 a 27 : Int32) (fun f_14 => q_let (f_14 + (1 : Int32) : Int32) (fun z_15 => q_let (q_si σ_8 a 27 z_15 : ST) (fun σ_16 => q_let (F_X12_next X σ_16 a : ST) (fun σ_18 => q_let (q_si σ_18 (q_rf X a 20) z_13.toNatClampNeg r_1 : ST) (fun σ_19 => q_let (F_X12_readRest X σ_19 a z_13 : ST) (fun σ_21 => q_let (F_X12_isSign X σ_21 a (59 : Int32) : Int32) (fun r_23 => q_let (F_X12_must X σ_21 a r_23 : ST) (fun σ_26 => F_X12_readStep_d3_L140_5 X x_3 z_13 a v1 ((901 - (σ_26.1 a 15).toInt).toNat + (1 - (σ_26.1 a 12).toInt).toNat + 1) σ_26))))))))))))

noncomputable def F_X12_readStep_d3_J55_3 (X : XW) (a : Nat) (x_3 : Int32) (r_1 : Int32) (v1 : Int32) (σ_6 : ST) : ST :=
  q_let (σ_6.1 a 12 : Int32) (fun f_7 => if f_7.toInt = 0 then if x_3.toInt = 0 then F_X12_readStep_d3_J81_4 X a r_1 x_3 v1 σ_6 else if v1.toInt = 3 then q_let (σ_6.1 a 15 : Int32) (fun f_89 => q_let (F_X12_fail X σ_6 a (7 : Int32) f_89 : ST) (fun σ_92 => F_X12_readStep_d3_J81_4 X a r_1 x_3 v1 σ_92)) else F_X12_readStep_d3_J81_4 X a r_1 x_3 v1 σ_6 else F_X12_readStep_d3_J81_4 X a r_1 x_3 v1 σ_6)

noncomputable def F_X12_readStep_d3_J29_2 (X : XW) (a : Nat) (x_3 : Int32) (r_1 : Int32) (v1 : Int32) (σ_4 : ST) : ST :=
  q_let (σ_4.1 a 12 : Int32) (fun f_5 => if f_5.toInt = 0 then q_let (σ_4.1 a 27 : Int32) (fun f_94 => if f_94.toInt = 30 then q_let (σ_4.1 a 15 : Int32) (fun f_96 => q_let (F_X12_fail X σ_4 a (6 : Int32) f_96 : ST) (fun σ_99 => F_X12_readStep_d3_J55_3 X a x_3 r_1 v1 σ_99)) else F_X12_readStep_d3_J55_3 X a x_3 r_1 v1 σ_4) else F_X12_readStep_d3_J55_3 X a x_3 r_1 v1 σ_4)

noncomputable def F_X12_readStep_d3_J20_1 (X : XW) (r_1 : Int32) (σ : ST) (a : Nat) (v1 : Int32) (x_3 : Int32) : ST :=
  if r_1.toInt < 0 then q_let (F_X12_wrong X σ a : ST) (fun σ_102 => F_X12_readStep_d3_J29_2 X a x_3 r_1 v1 σ_102) else F_X12_readStep_d3_J29_2 X a x_3 r_1 v1 σ

noncomputable def F_X12_readStep_d3 (X : XW) (σ : ST) (a : Nat) (v1 : Int32) : ST :=
  q_let (F_X12_stepWord X σ a : Int32) (fun r_1 => if r_1.toInt = 3 then F_X12_readStep_d3_J20_1 X r_1 σ a v1 (1 : Int32) else if r_1.toInt = 4 then F_X12_readStep_d3_J20_1 X r_1 σ a v1 (1 : Int32) else F_X12_readStep_d3_J20_1 X r_1 σ a v1 (0 : Int32))

noncomputable def F_X12_round_E119_4 (X : XW) (σ_19 : ST) (a : Nat) : Int32 × ST :=
  q_let (σ_19.1 a 27 : Int32) (fun f_24 => (f_24, σ_19))

noncomputable def F_X12_round_B82_3 (X : XW) (a : Nat) (B82_3 : Int32 → ST → Int32 × ST) (x_18 : Int32) (σ_19 : ST) : Int32 × ST :=
  q_let (σ_19.1 a 27 : Int32) (fun f_21 => q_let ((9 : Int32) * f_21 : Int32) (fun z_22 => if x_18.toInt < z_22.toInt then q_let ((656 : Int32) + x_18 : Int32) (fun z_25 => q_let ((4376 : Int32) + x_18 : Int32) (fun z_26 => q_let (σ_19.1 (q_rf X a 20) z_26.toNatClampNeg : Int32) (fun f_27 => q_let (q_si σ_19 (q_rf X a 20) z_25.toNatClampNeg f_27 : ST) (fun σ_28 => q_let (x_18 + 1 : Int32) (fun z_29 => B82_3 z_29 σ_28))))) else F_X12_round_E119_4 X σ_19 a))

noncomputable def F_X12_round_L82_3 (X : XW) (a : Nat) : Nat → Int32 → ST → Int32 × ST
  | 0 => fun x_18 σ_19 => ((0 : Int32), σ_19)
  | k_ + 1 => F_X12_round_B82_3 X a (F_X12_round_L82_3 X a k_)

theorem F_X12_round_L82_3_s {X : XW} {a : Nat} {k_ : Nat} {x_18 : Int32} {σ_19 : ST} : F_X12_round_L82_3 X a (k_ + 1) x_18 σ_19 = F_X12_round_B82_3 X a (F_X12_round_L82_3 X a k_) x_18 σ_19 := rfl

noncomputable def F_X12_round_J50_2 (X : XW) (σ_8 : ST) (a : Nat) : Int32 × ST :=
  q_bi (F_X12_isWell X σ_8 a) (fun r_11 σ_12 => if r_11.toInt = 0 then (((-1) : Int32), σ_12) else q_let (q_si σ_12 (q_rf X a 20) (654 : Int32).toNatClampNeg (1 : Int32) : ST) (fun σ_14 => q_let (σ_14.1 a 27 : Int32) (fun f_16 => q_let (q_si σ_14 (q_rf X a 20) (655 : Int32).toNatClampNeg f_16 : ST) (fun σ_17 => F_X12_round_L82_3 X a ((2147483647 - (0 : Int32).toInt).toNat + 1) (0 : Int32) σ_17))))

noncomputable def F_X12_round_B28_1 (X : XW) (a : Nat) (B28_1 : ST → Int32 × ST) (σ_8 : ST) : Int32 × ST :=
  q_let (σ_8.1 a 12 : Int32) (fun f_10 => if f_10.toInt = 0 then q_let (σ_8.1 a 14 : Int32) (fun f_32 => if f_32.toInt = 0 then F_X12_round_J50_2 X σ_8 a else q_let (F_X12_readStep_d3 X σ_8 a (0 : Int32) : ST) (fun σ_36 => B28_1 σ_36)) else F_X12_round_J50_2 X σ_8 a)

noncomputable def F_X12_round_L28_1 (X : XW) (a : Nat) : Nat → ST → Int32 × ST
  | 0 => fun σ_8 => ((0 : Int32), σ_8)
  | k_ + 1 => F_X12_round_B28_1 X a (F_X12_round_L28_1 X a k_)

theorem F_X12_round_L28_1_s {X : XW} {a : Nat} {k_ : Nat} {σ_8 : ST} : F_X12_round_L28_1 X a (k_ + 1) σ_8 = F_X12_round_B28_1 X a (F_X12_round_L28_1 X a k_) σ_8 := rfl

noncomputable def F_X12_round (X : XW) (σ : ST) (a : Nat) (v1 : Int32) : Int32 × ST :=
  q_let (q_si σ a 1 (0 : Int32) : ST) (fun σ_1 => q_let (q_si σ_1 a 0 (0 : Int32) : ST) (fun σ_2 => q_bi (F_X12_opens X σ_2 a v1 (300 : Int32)) (fun r_4 σ_5 => if r_4.toInt = 0 then (((-1) : Int32), σ_5) else q_let (q_si σ_5 a 27 (0 : Int32) : ST) (fun σ_7 => F_X12_round_L28_1 X a ((901 - (σ_7.1 a 15).toInt).toNat + (1 - (σ_7.1 a 12).toInt).toNat + 1) σ_7))))

noncomputable def F_X12_isPlayerAt (X : XW) (σ : ST) (a : Nat) (v1 : Int32) : Int32 :=
  q_let (v1.toInt64 : Int64) (fun y_1 => q_let (σ.1 (q_rf X a 20) (2 : Int32).toNatClampNeg : Int32) (fun f_2 => q_let (f_2 - (1 : Int32) : Int32) (fun z_3 => q_let (z_3.toInt64 : Int64) (fun y_4 => q_let (F_X12_isIn X σ y_1 (0 : Int64) y_4 : Int32) (fun r_6 => r_6)))))

noncomputable def F_X12_isKindAt (X : XW) (σ : ST) (a : Nat) (v1 : Int32) : Int32 :=
  q_let (v1.toInt64 : Int64) (fun y_1 => q_let (σ.1 (q_rf X a 20) (0 : Int32).toNatClampNeg : Int32) (fun f_2 => q_let (f_2 - (1 : Int32) : Int32) (fun z_3 => q_let (z_3.toInt64 : Int64) (fun y_4 => q_let (F_X12_isIn X σ y_1 (0 : Int64) y_4 : Int32) (fun r_6 => r_6)))))

noncomputable def F_X12_isTray (X : XW) (σ : ST) (a : Nat) (v1 : Int32) : Int32 :=
  q_let (v1.toInt64 : Int64) (fun y_1 => q_let (F_X12_isIn X σ y_1 (0 : Int64) (3 : Int64) : Int32) (fun r_4 => r_4))

noncomputable def F_X12_handOf (X : XW) (σ : ST) (a : Nat) (v1 : Int32) (v2 : Int32) : Int32 :=
  q_let ((10 : Int32) * v1 : Int32) (fun z_1 => q_let ((34 : Int32) + z_1 : Int32) (fun z_2 => q_let (z_2 + v2 : Int32) (fun z_3 => q_let (σ.1 (q_rf X a 20) z_3.toNatClampNeg : Int32) (fun f_4 => f_4))))

noncomputable def F_X12_laid (X : XW) (σ : ST) (v0 : Int32) : Int32 :=
  q_let ((7 : Int32) * v0 : Int32) (fun z_1 => q_let ((94 : Int32) + z_1 : Int32) (fun z_2 => z_2))

noncomputable def F_X12_cardsOf_B4_1 (X : XW) (σ : ST) (a : Nat) (v1 : Int32) (B4_1 : Int32 → Int32 → Int32) (x_1 : Int32) (x_2 : Int32) : Int32 :=
  if x_2.toInt < 10 then q_let (F_X12_handOf X σ a v1 x_2 : Int32) (fun r_5 => q_let (x_1 + r_5 : Int32) (fun z_7 => q_let (x_2 + 1 : Int32) (fun z_8 => B4_1 z_7 z_8))) else x_1

noncomputable def F_X12_cardsOf_L4_1 (X : XW) (σ : ST) (a : Nat) (v1 : Int32) : Nat → Int32 → Int32 → Int32
  | 0 => fun x_1 x_2 => (0 : Int32)
  | k_ + 1 => F_X12_cardsOf_B4_1 X σ a v1 (F_X12_cardsOf_L4_1 X σ a v1 k_)

theorem F_X12_cardsOf_L4_1_s {X : XW} {σ : ST} {a : Nat} {v1 : Int32} {k_ : Nat} {x_1 : Int32} {x_2 : Int32} : F_X12_cardsOf_L4_1 X σ a v1 (k_ + 1) x_1 x_2 = F_X12_cardsOf_B4_1 X σ a v1 (F_X12_cardsOf_L4_1 X σ a v1 k_) x_1 x_2 := rfl

noncomputable def F_X12_cardsOf (X : XW) (σ : ST) (a : Nat) (v1 : Int32) : Int32 :=
  F_X12_cardsOf_L4_1 X σ a v1 ((2147483647 - (0 : Int32).toInt).toNat + 1) (0 : Int32) (0 : Int32)

noncomputable def F_X12_heapMany_B4_1 (X : XW) (σ : ST) (a : Nat) (B4_1 : Int32 → Int32 → Int32) (x_1 : Int32) (x_2 : Int32) : Int32 :=
  q_let (σ.1 (q_rf X a 20) (9 : Int32).toNatClampNeg : Int32) (fun f_4 => if x_2.toInt < f_4.toInt then q_let (F_X12_laid X σ x_2 : Int32) (fun r_6 => q_let (r_6 + (2 : Int32) : Int32) (fun z_8 => q_let (σ.1 (q_rf X a 20) z_8.toNatClampNeg : Int32) (fun f_9 => q_let (x_1 + f_9 : Int32) (fun z_10 => q_let (x_2 + 1 : Int32) (fun z_11 => B4_1 z_10 z_11))))) else x_1)

noncomputable def F_X12_heapMany_L4_1 (X : XW) (σ : ST) (a : Nat) : Nat → Int32 → Int32 → Int32
  | 0 => fun x_1 x_2 => (0 : Int32)
  | k_ + 1 => F_X12_heapMany_B4_1 X σ a (F_X12_heapMany_L4_1 X σ a k_)

theorem F_X12_heapMany_L4_1_s {X : XW} {σ : ST} {a : Nat} {k_ : Nat} {x_1 : Int32} {x_2 : Int32} : F_X12_heapMany_L4_1 X σ a (k_ + 1) x_1 x_2 = F_X12_heapMany_B4_1 X σ a (F_X12_heapMany_L4_1 X σ a k_) x_1 x_2 := rfl

noncomputable def F_X12_heapMany (X : XW) (σ : ST) (a : Nat) : Int32 :=
  F_X12_heapMany_L4_1 X σ a ((2147483647 - (0 : Int32).toInt).toNat + 1) (0 : Int32) (0 : Int32)

noncomputable def F_X12_laidOf_E93_5 (X : XW) (x_2 : Int32) (B5_1 : Int32 → Int32 → Int32) (x_8 : Int32) : Int32 :=
  q_let (x_2 + 1 : Int32) (fun z_14 => B5_1 x_8 z_14)

noncomputable def F_X12_laidOf_B45_4 (X : XW) (r_6 : Int32) (σ : ST) (a : Nat) (v2 : Int32) (x_2 : Int32) (B5_1 : Int32 → Int32 → Int32) (B45_4 : Int32 → Int32 → Int32) (x_8 : Int32) (x_9 : Int32) : Int32 :=
  q_let (r_6 + (2 : Int32) : Int32) (fun z_11 => q_let (σ.1 (q_rf X a 20) z_11.toNatClampNeg : Int32) (fun f_12 => if x_9.toInt < f_12.toInt then if v2.toInt < 0 then q_let (x_8 + (1 : Int32) : Int32) (fun z_16 => q_let (x_9 + 1 : Int32) (fun z_17 => B45_4 z_16 z_17)) else q_let (r_6 + (3 : Int32) : Int32) (fun z_18 => q_let (z_18 + x_9 : Int32) (fun z_19 => q_let (σ.1 (q_rf X a 20) z_19.toNatClampNeg : Int32) (fun f_20 => if f_20.toInt = v2.toInt then q_let (x_8 + (1 : Int32) : Int32) (fun z_24 => q_let (x_9 + 1 : Int32) (fun z_25 => B45_4 z_24 z_25)) else q_let (x_8 + (0 : Int32) : Int32) (fun z_22 => q_let (x_9 + 1 : Int32) (fun z_23 => B45_4 z_22 z_23))))) else F_X12_laidOf_E93_5 X x_2 B5_1 x_8))

noncomputable def F_X12_laidOf_L45_4 (X : XW) (r_6 : Int32) (σ : ST) (a : Nat) (v2 : Int32) (x_2 : Int32) (B5_1 : Int32 → Int32 → Int32) : Nat → Int32 → Int32 → Int32
  | 0 => fun x_8 x_9 => (0 : Int32)
  | k_ + 1 => F_X12_laidOf_B45_4 X r_6 σ a v2 x_2 B5_1 (F_X12_laidOf_L45_4 X r_6 σ a v2 x_2 B5_1 k_)

theorem F_X12_laidOf_L45_4_s {X : XW} {r_6 : Int32} {σ : ST} {a : Nat} {v2 : Int32} {x_2 : Int32} {B5_1 : Int32 → Int32 → Int32} {k_ : Nat} {x_8 : Int32} {x_9 : Int32} : F_X12_laidOf_L45_4 X r_6 σ a v2 x_2 B5_1 (k_ + 1) x_8 x_9 = F_X12_laidOf_B45_4 X r_6 σ a v2 x_2 B5_1 (F_X12_laidOf_L45_4 X r_6 σ a v2 x_2 B5_1 k_) x_8 x_9 := rfl

noncomputable def F_X12_laidOf_J42_3 (X : XW) (r_6 : Int32) (σ : ST) (a : Nat) (v2 : Int32) (x_2 : Int32) (B5_1 : Int32 → Int32 → Int32) (x_1 : Int32) : Int32 :=
  F_X12_laidOf_L45_4 X r_6 σ a v2 x_2 B5_1 ((2147483647 - (0 : Int32).toInt).toNat + 1) x_1 (0 : Int32)

noncomputable def F_X12_laidOf_B5_1 (X : XW) (σ : ST) (a : Nat) (v1 : Int32) (v2 : Int32) (B5_1 : Int32 → Int32 → Int32) (x_1 : Int32) (x_2 : Int32) : Int32 :=
  q_let (σ.1 (q_rf X a 20) (9 : Int32).toNatClampNeg : Int32) (fun f_4 => if x_2.toInt < f_4.toInt then q_let (F_X12_laid X σ x_2 : Int32) (fun r_6 => if v1.toInt < 0 then F_X12_laidOf_J42_3 X r_6 σ a v2 x_2 B5_1 x_1 else q_let (σ.1 (q_rf X a 20) r_6.toNatClampNeg : Int32) (fun f_28 => if f_28.toInt = v1.toInt then F_X12_laidOf_J42_3 X r_6 σ a v2 x_2 B5_1 x_1 else q_let (x_2 + 1 : Int32) (fun z_30 => B5_1 x_1 z_30))) else x_1)

noncomputable def F_X12_laidOf_L5_1 (X : XW) (σ : ST) (a : Nat) (v1 : Int32) (v2 : Int32) : Nat → Int32 → Int32 → Int32
  | 0 => fun x_1 x_2 => (0 : Int32)
  | k_ + 1 => F_X12_laidOf_B5_1 X σ a v1 v2 (F_X12_laidOf_L5_1 X σ a v1 v2 k_)

theorem F_X12_laidOf_L5_1_s {X : XW} {σ : ST} {a : Nat} {v1 : Int32} {v2 : Int32} {k_ : Nat} {x_1 : Int32} {x_2 : Int32} : F_X12_laidOf_L5_1 X σ a v1 v2 (k_ + 1) x_1 x_2 = F_X12_laidOf_B5_1 X σ a v1 v2 (F_X12_laidOf_L5_1 X σ a v1 v2 k_) x_1 x_2 := rfl

noncomputable def F_X12_laidOf (X : XW) (σ : ST) (a : Nat) (v1 : Int32) (v2 : Int32) : Int32 :=
  F_X12_laidOf_L5_1 X σ a v1 v2 ((2147483647 - (0 : Int32).toInt).toNat + 1) (0 : Int32) (0 : Int32)

noncomputable def F_X12_inGameOf_B9_1 (X : XW) (σ : ST) (a : Nat) (v1 : Int32) (B9_1 : Int32 → Int32 → Int32) (x_4 : Int32) (x_5 : Int32) : Int32 :=
  q_let (σ.1 (q_rf X a 20) (2 : Int32).toNatClampNeg : Int32) (fun f_7 => if x_5.toInt < f_7.toInt then q_let (F_X12_handOf X σ a x_5 v1 : Int32) (fun r_9 => q_let (x_4 + r_9 : Int32) (fun z_11 => q_let (x_5 + 1 : Int32) (fun z_12 => B9_1 z_11 z_12))) else x_4)

noncomputable def F_X12_inGameOf_L9_1 (X : XW) (σ : ST) (a : Nat) (v1 : Int32) : Nat → Int32 → Int32 → Int32
  | 0 => fun x_4 x_5 => (0 : Int32)
  | k_ + 1 => F_X12_inGameOf_B9_1 X σ a v1 (F_X12_inGameOf_L9_1 X σ a v1 k_)

theorem F_X12_inGameOf_L9_1_s {X : XW} {σ : ST} {a : Nat} {v1 : Int32} {k_ : Nat} {x_4 : Int32} {x_5 : Int32} : F_X12_inGameOf_L9_1 X σ a v1 (k_ + 1) x_4 x_5 = F_X12_inGameOf_B9_1 X σ a v1 (F_X12_inGameOf_L9_1 X σ a v1 k_) x_4 x_5 := rfl

noncomputable def F_X12_inGameOf (X : XW) (σ : ST) (a : Nat) (v1 : Int32) : Int32 :=
  q_let (F_X12_laidOf X σ a ((-1) : Int32) v1 : Int32) (fun r_2 => F_X12_inGameOf_L9_1 X σ a v1 ((2147483647 - (0 : Int32).toInt).toNat + 1) r_2 (0 : Int32))

noncomputable def F_X12_sortOf_E59_2 (X : XW) (r_1 : Int32) (σ : ST) (a : Nat) (x_3 : Int32) : Int32 :=
  q_let (r_1 + (2 : Int32) : Int32) (fun z_9 => q_let (σ.1 (q_rf X a 20) z_9.toNatClampNeg : Int32) (fun f_10 => if x_3.toInt = f_10.toInt then (0 : Int32) else if x_3.toInt = 0 then (2 : Int32) else (1 : Int32)))

noncomputable def F_X12_sortOf_B10_1 (X : XW) (r_1 : Int32) (σ : ST) (a : Nat) (B10_1 : Int32 → Int32 → Int32) (x_3 : Int32) (x_4 : Int32) : Int32 :=
  q_let (r_1 + (2 : Int32) : Int32) (fun z_6 => q_let (σ.1 (q_rf X a 20) z_6.toNatClampNeg : Int32) (fun f_7 => if x_4.toInt < f_7.toInt then q_let (r_1 + (3 : Int32) : Int32) (fun z_13 => q_let (z_13 + x_4 : Int32) (fun z_14 => q_let (σ.1 (q_rf X a 20) z_14.toNatClampNeg : Int32) (fun f_15 => q_let (r_1 + (1 : Int32) : Int32) (fun z_16 => q_let (σ.1 (q_rf X a 20) z_16.toNatClampNeg : Int32) (fun f_17 => if f_15.toInt = f_17.toInt then q_let (x_3 + (1 : Int32) : Int32) (fun z_21 => q_let (x_4 + 1 : Int32) (fun z_22 => B10_1 z_21 z_22)) else q_let (x_3 + (0 : Int32) : Int32) (fun z_19 => q_let (x_4 + 1 : Int32) (fun z_20 => B10_1 z_19 z_20))))))) else F_X12_sortOf_E59_2 X r_1 σ a x_3))

noncomputable def F_X12_sortOf_L10_1 (X : XW) (r_1 : Int32) (σ : ST) (a : Nat) : Nat → Int32 → Int32 → Int32
  | 0 => fun x_3 x_4 => (0 : Int32)
  | k_ + 1 => F_X12_sortOf_B10_1 X r_1 σ a (F_X12_sortOf_L10_1 X r_1 σ a k_)

theorem F_X12_sortOf_L10_1_s {X : XW} {r_1 : Int32} {σ : ST} {a : Nat} {k_ : Nat} {x_3 : Int32} {x_4 : Int32} : F_X12_sortOf_L10_1 X r_1 σ a (k_ + 1) x_3 x_4 = F_X12_sortOf_B10_1 X r_1 σ a (F_X12_sortOf_L10_1 X r_1 σ a k_) x_3 x_4 := rfl

noncomputable def F_X12_sortOf (X : XW) (σ : ST) (a : Nat) (v1 : Int32) : Int32 :=
  q_let (F_X12_laid X σ v1 : Int32) (fun r_1 => F_X12_sortOf_L10_1 X r_1 σ a ((2147483647 - (0 : Int32).toInt).toNat + 1) (0 : Int32) (0 : Int32))

noncomputable def F_X12_knownOf (X : XW) (σ : ST) (a : Nat) (v1 : Int32) (v2 : Int32) : Int32 :=
  q_let (F_X12_handOf X σ a v1 v2 : Int32) (fun r_1 => q_let (F_X12_laidOf X σ a v1 v2 : Int32) (fun r_3 => q_let (r_1 + r_3 : Int32) (fun z_5 => z_5)))

noncomputable def F_X12_unknownOf (X : XW) (σ : ST) (a : Nat) (v1 : Int32) (v2 : Int32) : Int32 :=
  q_let (F_X12_inGameOf X σ a v2 : Int32) (fun r_1 => q_let (F_X12_knownOf X σ a v1 v2 : Int32) (fun r_3 => q_let (r_1 - r_3 : Int32) (fun z_5 => z_5)))

noncomputable def F_X12_unknownAll_B4_1 (X : XW) (σ : ST) (a : Nat) (v1 : Int32) (B4_1 : Int32 → Int32 → Int32) (x_1 : Int32) (x_2 : Int32) : Int32 :=
  q_let (σ.1 (q_rf X a 20) (0 : Int32).toNatClampNeg : Int32) (fun f_4 => if x_2.toInt < f_4.toInt then q_let (F_X12_unknownOf X σ a v1 x_2 : Int32) (fun r_6 => q_let (x_1 + r_6 : Int32) (fun z_8 => q_let (x_2 + 1 : Int32) (fun z_9 => B4_1 z_8 z_9))) else x_1)

noncomputable def F_X12_unknownAll_L4_1 (X : XW) (σ : ST) (a : Nat) (v1 : Int32) : Nat → Int32 → Int32 → Int32
  | 0 => fun x_1 x_2 => (0 : Int32)
  | k_ + 1 => F_X12_unknownAll_B4_1 X σ a v1 (F_X12_unknownAll_L4_1 X σ a v1 k_)

theorem F_X12_unknownAll_L4_1_s {X : XW} {σ : ST} {a : Nat} {v1 : Int32} {k_ : Nat} {x_1 : Int32} {x_2 : Int32} : F_X12_unknownAll_L4_1 X σ a v1 (k_ + 1) x_1 x_2 = F_X12_unknownAll_B4_1 X σ a v1 (F_X12_unknownAll_L4_1 X σ a v1 k_) x_1 x_2 := rfl

noncomputable def F_X12_unknownAll (X : XW) (σ : ST) (a : Nat) (v1 : Int32) : Int32 :=
  F_X12_unknownAll_L4_1 X σ a v1 ((2147483647 - (0 : Int32).toInt).toNat + 1) (0 : Int32) (0 : Int32)

noncomputable def F_X12_choose_B12_1 (X : XW) (v1 : Int32) (v0 : Int32) (B12_1 : Int64 → Int32 → Int64) (w_2 : Int64) (x_3 : Int32) : Int64 :=
  if v1.toInt < x_3.toInt then w_2 else q_let (v0 - v1 : Int32) (fun z_6 => q_let (z_6 + x_3 : Int32) (fun z_7 => q_let (z_7.toInt64 : Int64) (fun y_8 => q_let (w_2 * y_8 : Int64) (fun y_9 => q_let (x_3.toInt64 : Int64) (fun y_10 => q_let (y_9 / y_10 : Int64) (fun y_11 => q_let (x_3 + 1 : Int32) (fun z_12 => B12_1 y_11 z_12)))))))

noncomputable def F_X12_choose_L12_1 (X : XW) (v1 : Int32) (v0 : Int32) : Nat → Int64 → Int32 → Int64
  | 0 => fun w_2 x_3 => (0 : Int64)
  | k_ + 1 => F_X12_choose_B12_1 X v1 v0 (F_X12_choose_L12_1 X v1 v0 k_)

theorem F_X12_choose_L12_1_s {X : XW} {v1 : Int32} {v0 : Int32} {k_ : Nat} {w_2 : Int64} {x_3 : Int32} : F_X12_choose_L12_1 X v1 v0 (k_ + 1) w_2 x_3 = F_X12_choose_B12_1 X v1 v0 (F_X12_choose_L12_1 X v1 v0 k_) w_2 x_3 := rfl

noncomputable def F_X12_choose (X : XW) (σ : ST) (v0 : Int32) (v1 : Int32) : Int64 :=
  if v0.toInt < v1.toInt then (0 : Int64) else F_X12_choose_L12_1 X v1 v0 ((2147483647 - (1 : Int32).toInt).toNat + 1) (1 : Int64) (1 : Int32)

noncomputable def F_J9_abs_m (X : XW) (σ : ST) (v0 : Int64) : Int64 :=
  q_let (lg_cmp v0 (0 : Int64) : Int32) (fun z_1 => if z_1.toInt < 0 then q_let (-v0 : Int64) (fun y_4 => y_4) else v0)

noncomputable def F_X12_fraction_E34_2 (X : XW) (v1 : Int64) (w_3 : Int64) (σ : ST) (a : Nat) (v2 : Int64) : Int32 × ST :=
  q_let (v1 / w_3 : Int64) (fun y_9 => q_let (q_sl σ a 2 y_9 : ST) (fun σ_10 => q_let (v2 / w_3 : Int64) (fun y_11 => q_let (q_sl σ_10 a 3 y_11 : ST) (fun σ_12 => ((1 : Int32), σ_12)))))

noncomputable def F_X12_fraction_B9_1 (X : XW) (v1 : Int64) (σ : ST) (a : Nat) (v2 : Int64) (B9_1 : Int64 → Int64 → Int32 × ST) (w_3 : Int64) (w_4 : Int64) : Int32 × ST :=
  q_let (lg_cmp w_4 (0 : Int64) : Int32) (fun z_6 => if z_6.toInt = 0 then F_X12_fraction_E34_2 X v1 w_3 σ a v2 else q_let (w_3 % w_4 : Int64) (fun y_13 => B9_1 w_4 y_13))

noncomputable def F_X12_fraction_L9_1 (X : XW) (v1 : Int64) (σ : ST) (a : Nat) (v2 : Int64) : Nat → Int64 → Int64 → Int32 × ST
  | 0 => fun w_3 w_4 => ((0 : Int32), σ)
  | k_ + 1 => F_X12_fraction_B9_1 X v1 σ a v2 (F_X12_fraction_L9_1 X v1 σ a v2 k_)

theorem F_X12_fraction_L9_1_s {X : XW} {v1 : Int64} {σ : ST} {a : Nat} {v2 : Int64} {k_ : Nat} {w_3 : Int64} {w_4 : Int64} : F_X12_fraction_L9_1 X v1 σ a v2 (k_ + 1) w_3 w_4 = F_X12_fraction_B9_1 X v1 σ a v2 (F_X12_fraction_L9_1 X v1 σ a v2 k_) w_3 w_4 := rfl

noncomputable def F_X12_fraction (X : XW) (σ : ST) (a : Nat) (v1 : Int64) (v2 : Int64) : Int32 × ST :=
  q_let (F_J9_abs_m X σ v1 : Int64) (fun r_1 => F_X12_fraction_L9_1 X v1 σ a v2 ((v2.toInt.natAbs) + 1) r_1 v2)

noncomputable def F_X12_nextKind (X : XW) (σ : ST) (a : Nat) (v1 : Int32) : Int32 :=
  q_let (σ.1 (q_rf X a 20) (0 : Int32).toNatClampNeg : Int32) (fun f_1 => q_let (σ.1 (q_rf X a 20) (3 : Int32).toNatClampNeg : Int32) (fun f_2 => if f_2.toInt = 0 then q_let (σ.1 (q_rf X a 20) (5 : Int32).toNatClampNeg : Int32) (fun f_4 => q_let (f_4 + (1 : Int32) : Int32) (fun z_5 => q_let (z_5 % f_1 : Int32) (fun z_6 => z_6))) else q_let (σ.1 (q_rf X a 20) (3 : Int32).toNatClampNeg : Int32) (fun f_7 => if f_7.toInt = 1 then q_let (σ.1 (q_rf X a 20) (3 : Int32).toNatClampNeg : Int32) (fun f_9 => if f_9.toInt = 1 then q_let (σ.1 (q_rf X a 20) (5 : Int32).toNatClampNeg : Int32) (fun f_12 => q_let (f_12 + f_1 : Int32) (fun z_13 => q_let (z_13 - (1 : Int32) : Int32) (fun z_14 => q_let (z_14 % f_1 : Int32) (fun z_15 => z_15)))) else q_let (σ.1 (q_rf X a 20) (5 : Int32).toNatClampNeg : Int32) (fun f_11 => f_11)) else if v1.toInt = 0 then q_let (σ.1 (q_rf X a 20) (5 : Int32).toNatClampNeg : Int32) (fun f_24 => q_let (f_24 + (1 : Int32) : Int32) (fun z_25 => q_let (z_25 % f_1 : Int32) (fun z_26 => z_26))) else q_let (σ.1 (q_rf X a 20) (3 : Int32).toNatClampNeg : Int32) (fun f_17 => if f_17.toInt = 1 then q_let (σ.1 (q_rf X a 20) (5 : Int32).toNatClampNeg : Int32) (fun f_20 => q_let (f_20 + f_1 : Int32) (fun z_21 => q_let (z_21 - (1 : Int32) : Int32) (fun z_22 => q_let (z_22 % f_1 : Int32) (fun z_23 => z_23)))) else q_let (σ.1 (q_rf X a 20) (5 : Int32).toNatClampNeg : Int32) (fun f_19 => f_19)))))

noncomputable def F_X12_behindOf (X : XW) (σ : ST) (a : Nat) (v1 : Int32) : Int32 :=
  q_let (v1 + (1 : Int32) : Int32) (fun z_1 => q_let (σ.1 (q_rf X a 20) (2 : Int32).toNatClampNeg : Int32) (fun f_2 => q_let (z_1 % f_2 : Int32) (fun z_3 => z_3)))

noncomputable def F_X12_waitsOf (X : XW) (σ : ST) (a : Nat) (v1 : Int32) : Int32 :=
  q_let (σ.1 (q_rf X a 20) (7 : Int32).toNatClampNeg : Int32) (fun f_1 => if f_1.toInt = 1 then q_let (σ.1 (q_rf X a 20) (6 : Int32).toNatClampNeg : Int32) (fun f_9 => q_let (F_X12_behindOf X σ a f_9 : Int32) (fun r_10 => q_let (v1 - r_10 : Int32) (fun z_12 => q_let (σ.1 (q_rf X a 20) (2 : Int32).toNatClampNeg : Int32) (fun f_13 => q_let (z_12 + f_13 : Int32) (fun z_14 => q_let (σ.1 (q_rf X a 20) (2 : Int32).toNatClampNeg : Int32) (fun f_15 => q_let (z_14 % f_15 : Int32) (fun z_16 => z_16))))))) else q_let (σ.1 (q_rf X a 20) (6 : Int32).toNatClampNeg : Int32) (fun f_3 => q_let (v1 - f_3 : Int32) (fun z_4 => q_let (σ.1 (q_rf X a 20) (2 : Int32).toNatClampNeg : Int32) (fun f_5 => q_let (z_4 + f_5 : Int32) (fun z_6 => q_let (σ.1 (q_rf X a 20) (2 : Int32).toNatClampNeg : Int32) (fun f_7 => q_let (z_6 % f_7 : Int32) (fun z_8 => z_8)))))))

noncomputable def F_X12_fallsTo_J25_1 (X : XW) (σ : ST) (a : Nat) (v1 : Int32) (v2 : Int32) (x_2 : Int32) : Int32 :=
  q_let (F_X12_waitsOf X σ a v1 : Int32) (fun r_3 => q_let (σ.1 (q_rf X a 20) (2 : Int32).toNatClampNeg : Int32) (fun f_5 => q_let (v2 * f_5 : Int32) (fun z_6 => q_let (r_3 + z_6 : Int32) (fun z_7 => q_let (σ.1 (q_rf X a 20) (0 : Int32).toNatClampNeg : Int32) (fun f_8 => q_let (z_7 % f_8 : Int32) (fun z_9 => q_let (σ.1 (q_rf X a 20) (3 : Int32).toNatClampNeg : Int32) (fun f_10 => if f_10.toInt = 0 then q_let (x_2 + z_9 : Int32) (fun z_19 => q_let (σ.1 (q_rf X a 20) (0 : Int32).toNatClampNeg : Int32) (fun f_20 => q_let (z_19 % f_20 : Int32) (fun z_21 => z_21))) else q_let (σ.1 (q_rf X a 20) (3 : Int32).toNatClampNeg : Int32) (fun f_12 => if f_12.toInt = 1 then q_let (σ.1 (q_rf X a 20) (0 : Int32).toNatClampNeg : Int32) (fun f_14 => q_let (x_2 + f_14 : Int32) (fun z_15 => q_let (z_15 - z_9 : Int32) (fun z_16 => q_let (σ.1 (q_rf X a 20) (0 : Int32).toNatClampNeg : Int32) (fun f_17 => q_let (z_16 % f_17 : Int32) (fun z_18 => z_18))))) else x_2))))))))

noncomputable def F_X12_fallsTo (X : XW) (σ : ST) (a : Nat) (v1 : Int32) (v2 : Int32) : Int32 :=
  q_let (σ.1 (q_rf X a 20) (7 : Int32).toNatClampNeg : Int32) (fun f_1 => if f_1.toInt = 1 then q_let (F_X12_nextKind X σ a (1 : Int32) : Int32) (fun r_25 => F_X12_fallsTo_J25_1 X σ a v1 v2 r_25) else q_let (σ.1 (q_rf X a 20) (5 : Int32).toNatClampNeg : Int32) (fun f_23 => F_X12_fallsTo_J25_1 X σ a v1 v2 f_23))

noncomputable def F_X12_isImpossible (X : XW) (σ : ST) (a : Nat) (v1 : Int32) : Int32 :=
  q_let (σ.1 (q_rf X a 20) (5 : Int32).toNatClampNeg : Int32) (fun f_1 => q_let (F_X12_unknownOf X σ a v1 f_1 : Int32) (fun r_2 => q_let (σ.1 (q_rf X a 20) (9 : Int32).toNatClampNeg : Int32) (fun f_4 => q_let (f_4 - (1 : Int32) : Int32) (fun z_5 => q_let (F_X12_laid X σ z_5 : Int32) (fun r_6 => q_let (r_6 + (2 : Int32) : Int32) (fun z_8 => q_let (σ.1 (q_rf X a 20) z_8.toNatClampNeg : Int32) (fun f_9 => if r_2.toInt < f_9.toInt then (1 : Int32) else (0 : Int32))))))))

noncomputable def F_X12_whyNot (X : XW) (σ : ST) (a : Nat) (v1 : Int32) : Int32 :=
  q_let (F_X12_isPlayerAt X σ a v1 : Int32) (fun r_1 => if r_1.toInt = 0 then (2 : Int32) else q_let (σ.1 (q_rf X a 20) (7 : Int32).toNatClampNeg : Int32) (fun f_4 => if f_4.toInt = 0 then (8 : Int32) else q_let (σ.1 (q_rf X a 20) (6 : Int32).toNatClampNeg : Int32) (fun f_6 => if f_6.toInt = v1.toInt then (5 : Int32) else (0 : Int32))))

noncomputable def F_X12_otherKind_B4_1 (X : XW) (σ : ST) (a : Nat) (v1 : Int32) (B4_1 : Int32 → Int32 → Int32) (x_1 : Int32) (x_2 : Int32) : Int32 :=
  q_let (σ.1 (q_rf X a 20) (0 : Int32).toNatClampNeg : Int32) (fun f_4 => if x_2.toInt < f_4.toInt then q_let (σ.1 (q_rf X a 20) (5 : Int32).toNatClampNeg : Int32) (fun f_6 => if x_2.toInt = f_6.toInt then q_let (x_2 + 1 : Int32) (fun z_8 => B4_1 x_1 z_8) else q_let (F_X12_handOf X σ a v1 x_2 : Int32) (fun r_9 => if 0 < r_9.toInt then if x_1.toInt < 0 then q_let (x_2 + 1 : Int32) (fun z_14 => B4_1 x_2 z_14) else q_let (F_X12_handOf X σ a v1 x_2 : Int32) (fun r_15 => q_let (F_X12_handOf X σ a v1 x_1 : Int32) (fun r_17 => if r_17.toInt < r_15.toInt then q_let (x_2 + 1 : Int32) (fun z_21 => B4_1 x_2 z_21) else q_let (x_2 + 1 : Int32) (fun z_20 => B4_1 x_1 z_20))) else q_let (x_2 + 1 : Int32) (fun z_12 => B4_1 x_1 z_12))) else x_1)

noncomputable def F_X12_otherKind_L4_1 (X : XW) (σ : ST) (a : Nat) (v1 : Int32) : Nat → Int32 → Int32 → Int32
  | 0 => fun x_1 x_2 => (0 : Int32)
  | k_ + 1 => F_X12_otherKind_B4_1 X σ a v1 (F_X12_otherKind_L4_1 X σ a v1 k_)

theorem F_X12_otherKind_L4_1_s {X : XW} {σ : ST} {a : Nat} {v1 : Int32} {k_ : Nat} {x_1 : Int32} {x_2 : Int32} : F_X12_otherKind_L4_1 X σ a v1 (k_ + 1) x_1 x_2 = F_X12_otherKind_B4_1 X σ a v1 (F_X12_otherKind_L4_1 X σ a v1 k_) x_1 x_2 := rfl

noncomputable def F_X12_otherKind (X : XW) (σ : ST) (a : Nat) (v1 : Int32) : Int32 :=
  F_X12_otherKind_L4_1 X σ a v1 ((2147483647 - (0 : Int32).toInt).toNat + 1) ((-1) : Int32) (0 : Int32)

noncomputable def F_X12_isSo_J78_1 (X : XW) (v1 : Int32) (σ : ST) (a : Nat) (x_4 : Int32) : Int32 :=
  q_let (v1 + (7 : Int32) : Int32) (fun z_5 => q_let (σ.1 (q_rf X a 20) z_5.toNatClampNeg : Int32) (fun f_6 => if f_6.toInt = 60 then q_let (v1 + (2 : Int32) : Int32) (fun z_17 => q_let (σ.1 (q_rf X a 20) z_17.toNatClampNeg : Int32) (fun f_18 => if x_4.toInt < f_18.toInt then (1 : Int32) else (0 : Int32))) else q_let (v1 + (7 : Int32) : Int32) (fun z_8 => q_let (σ.1 (q_rf X a 20) z_8.toNatClampNeg : Int32) (fun f_9 => if f_9.toInt = 62 then q_let (v1 + (2 : Int32) : Int32) (fun z_14 => q_let (σ.1 (q_rf X a 20) z_14.toNatClampNeg : Int32) (fun f_15 => if f_15.toInt < x_4.toInt then (1 : Int32) else (0 : Int32))) else q_let (v1 + (2 : Int32) : Int32) (fun z_11 => q_let (σ.1 (q_rf X a 20) z_11.toNatClampNeg : Int32) (fun f_12 => if x_4.toInt = f_12.toInt then (1 : Int32) else (0 : Int32)))))))

noncomputable def F_X12_isSo (X : XW) (σ : ST) (a : Nat) (v1 : Int32) : Int32 :=
  q_let (v1 + (6 : Int32) : Int32) (fun z_1 => q_let (σ.1 (q_rf X a 20) z_1.toNatClampNeg : Int32) (fun f_2 => if f_2.toInt = 3 then q_let (σ.1 (q_rf X a 20) (8 : Int32).toNatClampNeg : Int32) (fun f_32 => if f_32.toInt < 0 then (0 : Int32) else (1 : Int32)) else if f_2.toInt = 0 then q_let (v1 + (1 : Int32) : Int32) (fun z_28 => q_let (σ.1 (q_rf X a 20) z_28.toNatClampNeg : Int32) (fun f_29 => q_let (F_X12_cardsOf X σ a f_29 : Int32) (fun r_30 => F_X12_isSo_J78_1 X v1 σ a r_30))) else if f_2.toInt = 1 then q_let (F_X12_heapMany X σ a : Int32) (fun r_26 => F_X12_isSo_J78_1 X v1 σ a r_26) else q_let (v1 + (1 : Int32) : Int32) (fun z_22 => q_let (σ.1 (q_rf X a 20) z_22.toNatClampNeg : Int32) (fun f_23 => q_let ((22 : Int32) + f_23 : Int32) (fun z_24 => q_let (σ.1 (q_rf X a 20) z_24.toNatClampNeg : Int32) (fun f_25 => F_X12_isSo_J78_1 X v1 σ a f_25))))))

noncomputable def F_X12_blinds (X : XW) (σ : ST) (a : Nat) (v1 : Int32) : ST :=
  q_let (σ.1 (q_rf X a 20) (9 : Int32).toNatClampNeg : Int32) (fun f_1 => q_let (f_1 - (1 : Int32) : Int32) (fun z_2 => q_let (F_X12_laid X σ z_2 : Int32) (fun r_3 => q_let (r_3 + (2 : Int32) : Int32) (fun z_5 => q_let (σ.1 (q_rf X a 20) z_5.toNatClampNeg : Int32) (fun f_6 => q_let (σ.1 (q_rf X a 20) (5 : Int32).toNatClampNeg : Int32) (fun f_7 => q_let (F_X12_unknownOf X σ a v1 f_7 : Int32) (fun r_8 => q_let (F_X12_choose X σ r_8 f_6 : Int64) (fun r_10 => q_let (q_sl σ a 30 r_10 : ST) (fun σ_12 => q_let (F_X12_unknownAll X σ_12 a v1 : Int32) (fun r_13 => q_let (F_X12_choose X σ_12 r_13 f_6 : Int64) (fun r_15 => q_let (q_sl σ_12 a 31 r_15 : ST) (fun σ_17 => σ_17))))))))))))

noncomputable def F_X12_many (X : XW) (σ : ST) (a : Nat) (v1 : Int32) : Int32 × ST :=
  q_let (q_si σ a 1 (0 : Int32) : ST) (fun σ_1 => q_let (q_si σ_1 a 0 (0 : Int32) : ST) (fun σ_2 => q_let (v1.toInt64 : Int64) (fun y_3 => q_let (F_X12_isIn X σ_2 y_3 (0 : Int64) (10 : Int64) : Int32) (fun r_6 => if r_6.toInt = 0 then q_bi (F_X12_refuse X σ_2 a (5 : Int32)) (fun r_32 σ_33 => (r_32, σ_33)) else (if v1.toInt = 6 then q_let (σ_2.1 (q_rf X a 20) (6 : Int32).toNatClampNeg : Int32) (fun f_10 => if f_10.toInt < 0 then q_bi (F_X12_refuse X σ_2 a (8 : Int32)) (fun r_14 σ_15 => (r_14, σ_15)) else q_let (σ_2.1 (q_rf X a 20) (6 : Int32).toNatClampNeg : Int32) (fun f_12 => (f_12, σ_2))) else (if v1.toInt = 7 then q_let (F_X12_heapMany X σ_2 a : Int32) (fun r_17 => (r_17, σ_2)) else (if v1.toInt = 8 then q_let (σ_2.1 (q_rf X a 20) (7 : Int32).toNatClampNeg : Int32) (fun f_20 => (f_20, σ_2)) else (if v1.toInt = 9 then q_let (σ_2.1 (q_rf X a 20) (8 : Int32).toNatClampNeg : Int32) (fun f_22 => if f_22.toInt < 0 then q_bi (F_X12_refuse X σ_2 a (8 : Int32)) (fun r_26 σ_27 => (r_26, σ_27)) else q_let (σ_2.1 (q_rf X a 20) (8 : Int32).toNatClampNeg : Int32) (fun f_24 => (f_24, σ_2))) else (if v1.toInt = 10 then q_let (σ_2.1 (q_rf X a 20) (9 : Int32).toNatClampNeg : Int32) (fun f_29 => (f_29, σ_2)) else q_let (σ_2.1 (q_rf X a 20) v1.toNatClampNeg : Int32) (fun f_30 => (f_30, σ_2)))))))))))

noncomputable def F_X12_player (X : XW) (σ : ST) (a : Nat) (v1 : Int32) (v2 : Int32) : Int32 × ST :=
  q_let (q_si σ a 1 (0 : Int32) : ST) (fun σ_1 => q_let (q_si σ_1 a 0 (0 : Int32) : ST) (fun σ_2 => q_let (F_X12_isPlayerAt X σ_2 a v1 : Int32) (fun r_3 => if r_3.toInt = 0 then q_bi (F_X12_refuse X σ_2 a (2 : Int32)) (fun r_29 σ_30 => (r_29, σ_30)) else (if v2.toInt = 0 then q_let ((10 : Int32) + v1 : Int32) (fun z_7 => q_let (σ_2.1 (q_rf X a 20) z_7.toNatClampNeg : Int32) (fun f_8 => (f_8, σ_2))) else (if v2.toInt = 1 then q_let ((16 : Int32) + v1 : Int32) (fun z_10 => q_let (σ_2.1 (q_rf X a 20) z_10.toNatClampNeg : Int32) (fun f_11 => (f_11, σ_2))) else (if v2.toInt = 2 then q_let (F_X12_cardsOf X σ_2 a v1 : Int32) (fun r_13 => (r_13, σ_2)) else (if v2.toInt = 3 then q_let ((22 : Int32) + v1 : Int32) (fun z_16 => q_let (σ_2.1 (q_rf X a 20) z_16.toNatClampNeg : Int32) (fun f_17 => (f_17, σ_2))) else (if v2.toInt = 4 then q_let ((28 : Int32) + v1 : Int32) (fun z_19 => q_let (σ_2.1 (q_rf X a 20) z_19.toNatClampNeg : Int32) (fun f_20 => (f_20, σ_2))) else (if v2.toInt = 5 then q_let (F_X12_laidOf X σ_2 a v1 ((-1) : Int32) : Int32) (fun r_23 => (r_23, σ_2)) else q_bi (F_X12_refuse X σ_2 a (5 : Int32)) (fun r_26 σ_27 => (r_26, σ_27)))))))))))

noncomputable def F_X12_hand (X : XW) (σ : ST) (a : Nat) (v1 : Int32) (v2 : Int32) : Int32 × ST :=
  q_let (q_si σ a 1 (0 : Int32) : ST) (fun σ_1 => q_let (q_si σ_1 a 0 (0 : Int32) : ST) (fun σ_2 => q_let (F_X12_isPlayerAt X σ_2 a v1 : Int32) (fun r_3 => if r_3.toInt = 0 then q_bi (F_X12_refuse X σ_2 a (2 : Int32)) (fun r_7 σ_8 => (r_7, σ_8)) else q_let (F_X12_isKindAt X σ_2 a v2 : Int32) (fun r_9 => if r_9.toInt = 0 then q_bi (F_X12_refuse X σ_2 a (2 : Int32)) (fun r_13 σ_14 => (r_13, σ_14)) else q_let (F_X12_handOf X σ_2 a v1 v2 : Int32) (fun r_15 => (r_15, σ_2))))))

noncomputable def F_X12_inGame (X : XW) (σ : ST) (a : Nat) (v1 : Int32) : Int32 × ST :=
  q_let (q_si σ a 1 (0 : Int32) : ST) (fun σ_1 => q_let (q_si σ_1 a 0 (0 : Int32) : ST) (fun σ_2 => q_let (F_X12_isKindAt X σ_2 a v1 : Int32) (fun r_3 => if r_3.toInt = 0 then q_bi (F_X12_refuse X σ_2 a (2 : Int32)) (fun r_7 σ_8 => (r_7, σ_8)) else q_let (F_X12_inGameOf X σ_2 a v1 : Int32) (fun r_9 => (r_9, σ_2)))))

noncomputable def F_X12_laying (X : XW) (σ : ST) (a : Nat) (v1 : Int32) (v2 : Int32) : Int32 × ST :=
  q_let (q_si σ a 1 (0 : Int32) : ST) (fun σ_1 => q_let (q_si σ_1 a 0 (0 : Int32) : ST) (fun σ_2 => q_let (v2.toInt64 : Int64) (fun y_3 => q_let (F_X12_isIn X σ_2 y_3 (0 : Int64) (3 : Int64) : Int32) (fun r_6 => if r_6.toInt = 0 then q_bi (F_X12_refuse X σ_2 a (5 : Int32)) (fun r_28 σ_29 => (r_28, σ_29)) else q_let (v1.toInt64 : Int64) (fun y_9 => q_let (σ_2.1 (q_rf X a 20) (9 : Int32).toNatClampNeg : Int32) (fun f_10 => q_let (f_10 - (1 : Int32) : Int32) (fun z_11 => q_let (z_11.toInt64 : Int64) (fun y_12 => q_let (F_X12_isIn X σ_2 y_9 (0 : Int64) y_12 : Int32) (fun r_14 => if r_14.toInt = 0 then q_bi (F_X12_refuse X σ_2 a (8 : Int32)) (fun r_25 σ_26 => (r_25, σ_26)) else if v2.toInt = 3 then q_let (F_X12_sortOf X σ_2 a v1 : Int32) (fun r_22 => (r_22, σ_2)) else q_let (F_X12_laid X σ_2 v1 : Int32) (fun r_18 => q_let (r_18 + v2 : Int32) (fun z_20 => q_let (σ_2.1 (q_rf X a 20) z_20.toNatClampNeg : Int32) (fun f_21 => (f_21, σ_2)))))))))))))

noncomputable def F_X12_cardOf (X : XW) (σ : ST) (a : Nat) (v1 : Int32) (v2 : Int32) : Int32 × ST :=
  q_let (q_si σ a 1 (0 : Int32) : ST) (fun σ_1 => q_let (q_si σ_1 a 0 (0 : Int32) : ST) (fun σ_2 => q_let (v1.toInt64 : Int64) (fun y_3 => q_let (σ_2.1 (q_rf X a 20) (9 : Int32).toNatClampNeg : Int32) (fun f_4 => q_let (f_4 - (1 : Int32) : Int32) (fun z_5 => q_let (z_5.toInt64 : Int64) (fun y_6 => q_let (F_X12_isIn X σ_2 y_3 (0 : Int64) y_6 : Int32) (fun r_8 => if r_8.toInt = 0 then q_bi (F_X12_refuse X σ_2 a (8 : Int32)) (fun r_12 σ_13 => (r_12, σ_13)) else q_let (v2.toInt64 : Int64) (fun y_14 => q_let (F_X12_laid X σ_2 v1 : Int32) (fun r_15 => q_let (r_15 + (2 : Int32) : Int32) (fun z_17 => q_let (σ_2.1 (q_rf X a 20) z_17.toNatClampNeg : Int32) (fun f_18 => q_let (f_18 - (1 : Int32) : Int32) (fun z_19 => q_let (z_19.toInt64 : Int64) (fun y_20 => q_let (F_X12_isIn X σ_2 y_14 (0 : Int64) y_20 : Int32) (fun r_22 => if r_22.toInt = 0 then q_bi (F_X12_refuse X σ_2 a (8 : Int32)) (fun r_31 σ_32 => (r_31, σ_32)) else q_let (F_X12_laid X σ_2 v1 : Int32) (fun r_25 => q_let (r_25 + (3 : Int32) : Int32) (fun z_27 => q_let (z_27 + v2 : Int32) (fun z_28 => q_let (σ_2.1 (q_rf X a 20) z_28.toNatClampNeg : Int32) (fun f_29 => (f_29, σ_2)))))))))))))))))))

noncomputable def F_X12_copyHand_E110_2 (X : XW) (σ_15 : ST) (a : Nat) : Int32 × ST :=
  q_let (σ_15.1 (q_rf X a 20) (0 : Int32).toNatClampNeg : Int32) (fun f_19 => (f_19, σ_15))

noncomputable def F_X12_copyHand_B76_1 (X : XW) (a : Nat) (v2 : Int32) (v1 : Int32) (B76_1 : Int32 → ST → Int32 × ST) (x_14 : Int32) (σ_15 : ST) : Int32 × ST :=
  q_let (σ_15.1 (q_rf X a 20) (0 : Int32).toNatClampNeg : Int32) (fun f_17 => if x_14.toInt < f_17.toInt then q_let ((60 : Int32) * v2 : Int32) (fun z_20 => q_let (z_20 + x_14 : Int32) (fun z_21 => q_let (F_X12_handOf X σ_15 a v1 x_14 : Int32) (fun r_22 => q_let (r_22.toInt64 : Int64) (fun y_24 => q_let (q_sl σ_15 (q_rf X a 6) z_21.toNatClampNeg y_24 : ST) (fun σ_25 => q_let (x_14 + 1 : Int32) (fun z_26 => B76_1 z_26 σ_25)))))) else F_X12_copyHand_E110_2 X σ_15 a)

noncomputable def F_X12_copyHand_L76_1 (X : XW) (a : Nat) (v2 : Int32) (v1 : Int32) : Nat → Int32 → ST → Int32 × ST
  | 0 => fun x_14 σ_15 => ((0 : Int32), σ_15)
  | k_ + 1 => F_X12_copyHand_B76_1 X a v2 v1 (F_X12_copyHand_L76_1 X a v2 v1 k_)

theorem F_X12_copyHand_L76_1_s {X : XW} {a : Nat} {v2 : Int32} {v1 : Int32} {k_ : Nat} {x_14 : Int32} {σ_15 : ST} : F_X12_copyHand_L76_1 X a v2 v1 (k_ + 1) x_14 σ_15 = F_X12_copyHand_B76_1 X a v2 v1 (F_X12_copyHand_L76_1 X a v2 v1 k_) x_14 σ_15 := rfl

noncomputable def F_X12_copyHand (X : XW) (σ : ST) (a : Nat) (v1 : Int32) (v2 : Int32) : Int32 × ST :=
  q_let (q_si σ a 1 (0 : Int32) : ST) (fun σ_1 => q_let (q_si σ_1 a 0 (0 : Int32) : ST) (fun σ_2 => q_let (F_X12_isTray X σ_2 a v2 : Int32) (fun r_3 => if r_3.toInt = 0 then q_bi (F_X12_refuse X σ_2 a (1 : Int32)) (fun r_38 σ_39 => (r_38, σ_39)) else q_let (σ_2.1 (q_rf X a 5) v2.toNatClampNeg : Int32) (fun f_6 => if f_6.toInt < 0 then q_bi (F_X12_refuse X σ_2 a (3 : Int32)) (fun r_35 σ_36 => (r_35, σ_36)) else q_let (F_X12_isPlayerAt X σ_2 a v1 : Int32) (fun r_8 => if r_8.toInt = 0 then q_bi (F_X12_refuse X σ_2 a (2 : Int32)) (fun r_32 σ_33 => (r_32, σ_33)) else q_let (σ_2.1 (q_rf X a 5) v2.toNatClampNeg : Int32) (fun f_11 => q_let (σ_2.1 (q_rf X a 20) (0 : Int32).toNatClampNeg : Int32) (fun f_12 => if f_11.toInt < f_12.toInt then q_bi (F_X12_refuse X σ_2 a (4 : Int32)) (fun r_29 σ_30 => (r_29, σ_30)) else F_X12_copyHand_L76_1 X a v2 v1 ((2147483647 - (0 : Int32).toInt).toNat + 1) (0 : Int32) σ_2)))))))

noncomputable def F_X12_known (X : XW) (σ : ST) (a : Nat) (v1 : Int32) (v2 : Int32) : Int32 × ST :=
  q_let (q_si σ a 1 (0 : Int32) : ST) (fun σ_1 => q_let (q_si σ_1 a 0 (0 : Int32) : ST) (fun σ_2 => q_let (F_X12_isPlayerAt X σ_2 a v1 : Int32) (fun r_3 => if r_3.toInt = 0 then q_bi (F_X12_refuse X σ_2 a (2 : Int32)) (fun r_7 σ_8 => (r_7, σ_8)) else q_let (F_X12_isKindAt X σ_2 a v2 : Int32) (fun r_9 => if r_9.toInt = 0 then q_bi (F_X12_refuse X σ_2 a (2 : Int32)) (fun r_13 σ_14 => (r_13, σ_14)) else q_let (F_X12_knownOf X σ_2 a v1 v2 : Int32) (fun r_15 => (r_15, σ_2))))))

noncomputable def F_X12_unknown (X : XW) (σ : ST) (a : Nat) (v1 : Int32) (v2 : Int32) : Int32 × ST :=
  q_let (q_si σ a 1 (0 : Int32) : ST) (fun σ_1 => q_let (q_si σ_1 a 0 (0 : Int32) : ST) (fun σ_2 => q_let (F_X12_isPlayerAt X σ_2 a v1 : Int32) (fun r_3 => if r_3.toInt = 0 then q_bi (F_X12_refuse X σ_2 a (2 : Int32)) (fun r_7 σ_8 => (r_7, σ_8)) else if v2.toInt = (-1) then if v2.toInt = (-1) then q_let (F_X12_unknownAll X σ_2 a v1 : Int32) (fun r_13 => (r_13, σ_2)) else q_let (F_X12_unknownOf X σ_2 a v1 v2 : Int32) (fun r_11 => (r_11, σ_2)) else q_let (F_X12_isKindAt X σ_2 a v2 : Int32) (fun r_15 => if r_15.toInt = 0 then q_bi (F_X12_refuse X σ_2 a (2 : Int32)) (fun r_24 σ_25 => (r_24, σ_25)) else if v2.toInt = (-1) then q_let (F_X12_unknownAll X σ_2 a v1 : Int32) (fun r_21 => (r_21, σ_2)) else q_let (F_X12_unknownOf X σ_2 a v1 v2 : Int32) (fun r_19 => (r_19, σ_2))))))

noncomputable def F_X12_impossible (X : XW) (σ : ST) (a : Nat) (v1 : Int32) : Int32 × ST :=
  q_let (q_si σ a 1 (0 : Int32) : ST) (fun σ_1 => q_let (F_X12_whyNot X σ_1 a v1 : Int32) (fun r_2 => q_let (q_si σ_1 a 0 r_2 : ST) (fun σ_4 => q_let (σ_4.1 a 0 : Int32) (fun f_5 => if 0 < f_5.toInt then (((-1) : Int32), σ_4) else q_let (F_X12_isImpossible X σ_4 a v1 : Int32) (fun r_7 => if r_7.toInt = 0 then ((0 : Int32), σ_4) else ((1 : Int32), σ_4))))))

noncomputable def F_X12_blind (X : XW) (σ : ST) (a : Nat) (v1 : Int32) : Int32 × ST :=
  q_let (q_si σ a 1 (0 : Int32) : ST) (fun σ_1 => q_let (F_X12_whyNot X σ_1 a v1 : Int32) (fun r_2 => q_let (q_si σ_1 a 0 r_2 : ST) (fun σ_4 => q_let (σ_4.1 a 0 : Int32) (fun f_5 => if 0 < f_5.toInt then ((0 : Int32), σ_4) else q_let (F_X12_blinds X σ_4 a v1 : ST) (fun σ_8 => q_let (σ_8.2.1 a 30 : Int64) (fun g_9 => q_let (σ_8.2.1 a 31 : Int64) (fun g_10 => q_bi (F_X12_fraction X σ_8 a g_9 g_10) (fun r_11 σ_12 => (r_11, σ_12)))))))))

noncomputable def F_X12_honest (X : XW) (σ : ST) (a : Nat) (v1 : Int32) : Int32 × ST :=
  q_let (q_si σ a 1 (0 : Int32) : ST) (fun σ_1 => q_let (q_si σ_1 a 0 (0 : Int32) : ST) (fun σ_2 => q_let (F_X12_isPlayerAt X σ_2 a v1 : Int32) (fun r_3 => if r_3.toInt = 0 then q_bi (F_X12_no X σ_2 a (2 : Int32)) (fun r_20 σ_21 => (r_20, σ_21)) else q_let ((22 : Int32) + v1 : Int32) (fun z_6 => q_let (σ_2.1 (q_rf X a 20) z_6.toNatClampNeg : Int32) (fun f_7 => q_let ((28 : Int32) + v1 : Int32) (fun z_8 => q_let (σ_2.1 (q_rf X a 20) z_8.toNatClampNeg : Int32) (fun f_9 => q_let (f_7 - f_9 : Int32) (fun z_10 => q_let (z_10 + (1 : Int32) : Int32) (fun z_11 => q_let (z_11.toInt64 : Int64) (fun y_12 => q_let ((22 : Int32) + v1 : Int32) (fun z_13 => q_let (σ_2.1 (q_rf X a 20) z_13.toNatClampNeg : Int32) (fun f_14 => q_let (f_14 + (2 : Int32) : Int32) (fun z_15 => q_let (z_15.toInt64 : Int64) (fun y_16 => q_bi (F_X12_fraction X σ_2 a y_12 y_16) (fun r_17 σ_18 => (r_17, σ_18))))))))))))))))

noncomputable def F_X12_belief (X : XW) (σ : ST) (a : Nat) (v1 : Int32) : Int32 × ST :=
  q_let (q_si σ a 1 (0 : Int32) : ST) (fun σ_1 => q_let (F_X12_whyNot X σ_1 a v1 : Int32) (fun r_2 => q_let (q_si σ_1 a 0 r_2 : ST) (fun σ_4 => q_let (σ_4.1 a 0 : Int32) (fun f_5 => if 0 < f_5.toInt then ((0 : Int32), σ_4) else q_let (F_X12_blinds X σ_4 a v1 : ST) (fun σ_8 => q_let (σ_8.1 (q_rf X a 20) (6 : Int32).toNatClampNeg : Int32) (fun f_9 => q_let (σ_8.2.1 a 30 : Int64) (fun g_10 => q_let ((22 : Int32) + f_9 : Int32) (fun z_11 => q_let (σ_8.1 (q_rf X a 20) z_11.toNatClampNeg : Int32) (fun f_12 => q_let ((28 : Int32) + f_9 : Int32) (fun z_13 => q_let (σ_8.1 (q_rf X a 20) z_13.toNatClampNeg : Int32) (fun f_14 => q_let (f_12 - f_14 : Int32) (fun z_15 => q_let (z_15 + (1 : Int32) : Int32) (fun z_16 => q_let (z_16.toInt64 : Int64) (fun y_17 => q_let (g_10 * y_17 : Int64) (fun y_18 => q_let (σ_8.2.1 a 31 : Int64) (fun g_19 => q_let (σ_8.2.1 a 30 : Int64) (fun g_20 => q_let (g_19 - g_20 : Int64) (fun y_21 => q_let ((28 : Int32) + f_9 : Int32) (fun z_22 => q_let (σ_8.1 (q_rf X a 20) z_22.toNatClampNeg : Int32) (fun f_23 => q_let (f_23 + (1 : Int32) : Int32) (fun z_24 => q_let (z_24.toInt64 : Int64) (fun y_25 => q_let (y_21 * y_25 : Int64) (fun y_26 => q_let (y_18 + y_26 : Int64) (fun y_27 => q_bi (F_X12_fraction X σ_8 a y_18 y_27) (fun r_28 σ_29 => (r_28, σ_29))))))))))))))))))))))))))

noncomputable def F_X12_worth (X : XW) (σ : ST) (a : Nat) (v1 : Int32) : Int32 × ST :=
  q_let (q_si σ a 1 (0 : Int32) : ST) (fun σ_1 => q_let (F_X12_whyNot X σ_1 a v1 : Int32) (fun r_2 => q_let (q_si σ_1 a 0 r_2 : ST) (fun σ_4 => q_let (σ_4.1 a 0 : Int32) (fun f_5 => if 0 < f_5.toInt then ((0 : Int32), σ_4) else q_let (F_X12_blinds X σ_4 a v1 : ST) (fun σ_8 => q_let (F_X12_heapMany X σ_8 a : Int32) (fun r_9 => q_let (r_9.toInt64 : Int64) (fun y_11 => q_let (σ_8.2.1 a 31 : Int64) (fun g_12 => q_let (σ_8.2.1 a 30 : Int64) (fun g_13 => q_let ((2 : Int64) * g_13 : Int64) (fun y_14 => q_let (g_12 - y_14 : Int64) (fun y_15 => q_let (y_11 * y_15 : Int64) (fun y_16 => q_let (σ_8.2.1 a 31 : Int64) (fun g_17 => q_bi (F_X12_fraction X σ_8 a y_16 g_17) (fun r_18 σ_19 => (r_18, σ_19)))))))))))))))

noncomputable def F_X12_ready_B57_1 (X : XW) (a : Nat) (B57_1 : Int32 → Int64 → Int64 → Int32 → ST → Int32 × ST) (x_13 : Int32) (w_14 : Int64) (w_15 : Int64) (x_16 : Int32) (σ_17 : ST) : Int32 × ST :=
  q_let (σ_17.1 (q_rf X a 20) (6 : Int32).toNatClampNeg : Int32) (fun f_19 => if x_16.toInt = f_19.toInt then (x_13, σ_17) else q_let (F_X12_blinds X σ_17 a x_16 : ST) (fun σ_22 => q_let (σ_22.2.1 a 31 : Int64) (fun g_23 => q_let (σ_22.2.1 a 30 : Int64) (fun g_24 => q_let ((2 : Int64) * g_24 : Int64) (fun y_25 => q_let (g_23 - y_25 : Int64) (fun y_26 => if x_13.toInt < 0 then q_let (σ_22.2.1 a 31 : Int64) (fun g_28 => q_let (F_X12_behindOf X σ_22 a x_16 : Int32) (fun r_29 => B57_1 x_16 y_26 g_28 r_29 σ_22)) else q_let (y_26 * w_15 : Int64) (fun y_31 => q_let (σ_22.2.1 a 31 : Int64) (fun g_32 => q_let (w_14 * g_32 : Int64) (fun y_33 => q_let (lg_cmp y_31 y_33 : Int32) (fun z_34 => if 0 < z_34.toInt then q_let (σ_22.2.1 a 31 : Int64) (fun g_36 => q_let (F_X12_behindOf X σ_22 a x_16 : Int32) (fun r_37 => B57_1 x_16 y_26 g_36 r_37 σ_22)) else q_let (F_X12_behindOf X σ_22 a x_16 : Int32) (fun r_39 => B57_1 x_13 w_14 w_15 r_39 σ_22)))))))))))

noncomputable def F_X12_ready_L57_1 (X : XW) (a : Nat) : Nat → Int32 → Int64 → Int64 → Int32 → ST → Int32 × ST
  | 0 => fun x_13 w_14 w_15 x_16 σ_17 => ((0 : Int32), σ_17)
  | k_ + 1 => F_X12_ready_B57_1 X a (F_X12_ready_L57_1 X a k_)

theorem F_X12_ready_L57_1_s {X : XW} {a : Nat} {k_ : Nat} {x_13 : Int32} {w_14 : Int64} {w_15 : Int64} {x_16 : Int32} {σ_17 : ST} : F_X12_ready_L57_1 X a (k_ + 1) x_13 w_14 w_15 x_16 σ_17 = F_X12_ready_B57_1 X a (F_X12_ready_L57_1 X a k_) x_13 w_14 w_15 x_16 σ_17 := rfl

noncomputable def F_X12_ready (X : XW) (σ : ST) (a : Nat) : Int32 × ST :=
  q_let (q_si σ a 1 (0 : Int32) : ST) (fun σ_1 => q_let (q_si σ_1 a 0 (0 : Int32) : ST) (fun σ_2 => q_let (σ_2.1 (q_rf X a 20) (7 : Int32).toNatClampNeg : Int32) (fun f_3 => if f_3.toInt = 0 then q_bi (F_X12_refuse X σ_2 a (8 : Int32)) (fun r_6 σ_7 => (r_6, σ_7)) else q_let (σ_2.1 (q_rf X a 20) (2 : Int32).toNatClampNeg : Int32) (fun f_8 => if f_8.toInt < 2 then q_bi (F_X12_refuse X σ_2 a (8 : Int32)) (fun r_43 σ_44 => (r_43, σ_44)) else q_let (σ_2.1 (q_rf X a 20) (6 : Int32).toNatClampNeg : Int32) (fun f_10 => q_let (F_X12_behindOf X σ_2 a f_10 : Int32) (fun r_11 => F_X12_ready_L57_1 X a ((m_c X σ a 6 - r_11.toInt + 20 * min 1 (max 0 (r_11.toInt - m_c X σ a 6))).toNat + 1) ((-1) : Int32) (0 : Int64) (1 : Int64) r_11 σ_2))))))

noncomputable def F_X12_heap (X : XW) (σ : ST) (a : Nat) (v1 : Int32) (v2 : Int32) : Int32 × ST :=
  q_let (q_si σ a 1 (0 : Int32) : ST) (fun σ_1 => q_let (q_si σ_1 a 0 (0 : Int32) : ST) (fun σ_2 => q_let (F_X12_isPlayerAt X σ_2 a v1 : Int32) (fun r_3 => if r_3.toInt = 0 then q_bi (F_X12_no X σ_2 a (2 : Int32)) (fun r_7 σ_8 => (r_7, σ_8)) else q_let (F_X12_isKindAt X σ_2 a v2 : Int32) (fun r_9 => if r_9.toInt = 0 then q_bi (F_X12_no X σ_2 a (2 : Int32)) (fun r_40 σ_41 => (r_40, σ_41)) else q_let (F_X12_laidOf X σ_2 a v1 v2 : Int32) (fun r_12 => q_let (r_12.toInt64 : Int64) (fun y_14 => q_let (F_X12_heapMany X σ_2 a : Int32) (fun r_15 => q_let (F_X12_laidOf X σ_2 a v1 ((-1) : Int32) : Int32) (fun r_18 => q_let (r_15 - r_18 : Int32) (fun z_20 => q_let (z_20.toInt64 : Int64) (fun y_21 => q_let (F_X12_unknownAll X σ_2 a v1 : Int32) (fun r_22 => q_let (r_22.toInt64 : Int64) (fun y_24 => q_let (lg_cmp y_24 (0 : Int64) : Int32) (fun z_25 => if z_25.toInt = 0 then q_bi (F_X12_fraction X σ_2 a y_14 (1 : Int64)) (fun r_37 σ_38 => (r_37, σ_38)) else q_let (y_14 * y_24 : Int64) (fun y_28 => q_let (F_X12_unknownOf X σ_2 a v1 v2 : Int32) (fun r_29 => q_let (r_29.toInt64 : Int64) (fun y_31 => q_let (y_21 * y_31 : Int64) (fun y_32 => q_let (y_28 + y_32 : Int64) (fun y_33 => q_bi (F_X12_fraction X σ_2 a y_33 y_24) (fun r_34 σ_35 => (r_34, σ_35))))))))))))))))))))

noncomputable def F_X12_said_B37_1 (X : XW) (σ_2 : ST) (a : Nat) (v1 : Int32) (v2 : Int32) (B37_1 : Int32 → Int32 → Int32 × ST) (x_12 : Int32) (x_13 : Int32) : Int32 × ST :=
  q_let (σ_2.1 (q_rf X a 20) (9 : Int32).toNatClampNeg : Int32) (fun f_15 => if x_13.toInt < f_15.toInt then q_let (F_X12_laid X σ_2 x_13 : Int32) (fun r_17 => q_let (σ_2.1 (q_rf X a 20) r_17.toNatClampNeg : Int32) (fun f_19 => if f_19.toInt = v1.toInt then q_let (F_X12_laid X σ_2 x_13 : Int32) (fun r_23 => q_let (r_23 + (1 : Int32) : Int32) (fun z_25 => q_let (σ_2.1 (q_rf X a 20) z_25.toNatClampNeg : Int32) (fun f_26 => if f_26.toInt = v2.toInt then q_let (x_12 + (1 : Int32) : Int32) (fun z_30 => q_let (x_13 + 1 : Int32) (fun z_31 => B37_1 z_30 z_31)) else q_let (x_12 + (0 : Int32) : Int32) (fun z_28 => q_let (x_13 + 1 : Int32) (fun z_29 => B37_1 z_28 z_29))))) else q_let (x_12 + (0 : Int32) : Int32) (fun z_21 => q_let (x_13 + 1 : Int32) (fun z_22 => B37_1 z_21 z_22)))) else (x_12, σ_2))

noncomputable def F_X12_said_L37_1 (X : XW) (σ_2 : ST) (a : Nat) (v1 : Int32) (v2 : Int32) : Nat → Int32 → Int32 → Int32 × ST
  | 0 => fun x_12 x_13 => ((0 : Int32), σ_2)
  | k_ + 1 => F_X12_said_B37_1 X σ_2 a v1 v2 (F_X12_said_L37_1 X σ_2 a v1 v2 k_)

theorem F_X12_said_L37_1_s {X : XW} {σ_2 : ST} {a : Nat} {v1 : Int32} {v2 : Int32} {k_ : Nat} {x_12 : Int32} {x_13 : Int32} : F_X12_said_L37_1 X σ_2 a v1 v2 (k_ + 1) x_12 x_13 = F_X12_said_B37_1 X σ_2 a v1 v2 (F_X12_said_L37_1 X σ_2 a v1 v2 k_) x_12 x_13 := rfl

noncomputable def F_X12_said (X : XW) (σ : ST) (a : Nat) (v1 : Int32) (v2 : Int32) : Int32 × ST :=
  q_let (q_si σ a 1 (0 : Int32) : ST) (fun σ_1 => q_let (q_si σ_1 a 0 (0 : Int32) : ST) (fun σ_2 => q_let (F_X12_isPlayerAt X σ_2 a v1 : Int32) (fun r_3 => if r_3.toInt = 0 then q_bi (F_X12_refuse X σ_2 a (2 : Int32)) (fun r_7 σ_8 => (r_7, σ_8)) else q_let (F_X12_isKindAt X σ_2 a v2 : Int32) (fun r_9 => if r_9.toInt = 0 then q_bi (F_X12_refuse X σ_2 a (2 : Int32)) (fun r_34 σ_35 => (r_34, σ_35)) else F_X12_said_L37_1 X σ_2 a v1 v2 ((2147483647 - (0 : Int32).toInt).toNat + 1) (0 : Int32) (0 : Int32)))))

noncomputable def F_X12_waits (X : XW) (σ : ST) (a : Nat) (v1 : Int32) : Int32 × ST :=
  q_let (q_si σ a 1 (0 : Int32) : ST) (fun σ_1 => q_let (q_si σ_1 a 0 (0 : Int32) : ST) (fun σ_2 => q_let (F_X12_isPlayerAt X σ_2 a v1 : Int32) (fun r_3 => if r_3.toInt = 0 then q_bi (F_X12_refuse X σ_2 a (2 : Int32)) (fun r_7 σ_8 => (r_7, σ_8)) else q_let (F_X12_waitsOf X σ_2 a v1 : Int32) (fun r_9 => (r_9, σ_2)))))

noncomputable def F_X12_falls (X : XW) (σ : ST) (a : Nat) (v1 : Int32) (v2 : Int32) : Int32 × ST :=
  q_let (q_si σ a 1 (0 : Int32) : ST) (fun σ_1 => q_let (q_si σ_1 a 0 (0 : Int32) : ST) (fun σ_2 => q_let (F_X12_isPlayerAt X σ_2 a v1 : Int32) (fun r_3 => if r_3.toInt = 0 then q_bi (F_X12_refuse X σ_2 a (2 : Int32)) (fun r_18 σ_19 => (r_18, σ_19)) else q_let (v2.toInt64 : Int64) (fun y_6 => q_let (F_X12_isIn X σ_2 y_6 (0 : Int64) (60 : Int64) : Int32) (fun r_9 => if r_9.toInt = 0 then q_bi (F_X12_refuse X σ_2 a (5 : Int32)) (fun r_13 σ_14 => (r_13, σ_14)) else q_let (F_X12_fallsTo X σ_2 a v1 v2 : Int32) (fun r_15 => (r_15, σ_2)))))))

noncomputable def F_X12_honestFor_J105_5 (X : XW) (a : Nat) (r_15 : Int32) (r_19 : Int32) (x_10 : Int32) (x_11 : Int32) (B50_3 : Int32 → Int32 → ST → Int32 × ST) (σ_21 : ST) : Int32 × ST :=
  q_let (σ_21.1 (q_rf X a 32) r_15.toNatClampNeg : Int32) (fun f_22 => q_let (f_22 - r_19 : Int32) (fun z_23 => q_let (q_si σ_21 (q_rf X a 32) r_15.toNatClampNeg z_23 : ST) (fun σ_24 => q_let (σ_24.1 a 33 : Int32) (fun f_25 => q_let (f_25 + r_19 : Int32) (fun z_26 => q_let (q_si σ_24 a 33 z_26 : ST) (fun σ_27 => q_let (x_10 - r_19 : Int32) (fun z_28 => if 0 < r_19.toInt then q_let (q_si σ_27 a 34 r_15 : ST) (fun σ_33 => q_let (x_11 + 1 : Int32) (fun z_34 => B50_3 z_28 z_34 σ_33)) else q_let (σ_27.1 a 34 : Int32) (fun f_30 => q_let (q_si σ_27 a 34 f_30 : ST) (fun σ_31 => q_let (x_11 + 1 : Int32) (fun z_32 => B50_3 z_28 z_32 σ_31))))))))))

noncomputable def F_X12_honestFor_B50_3 (X : XW) (v2 : Int32) (a : Nat) (v1 : Int32) (B50_3 : Int32 → Int32 → ST → Int32 × ST) (x_10 : Int32) (x_11 : Int32) (σ_12 : ST) : Int32 × ST :=
  if x_11.toInt < v2.toInt then q_let (F_X12_fallsTo X σ_12 a v1 x_11 : Int32) (fun r_15 => q_let (σ_12.1 (q_rf X a 20) (4 : Int32).toNatClampNeg : Int32) (fun f_17 => q_let (σ_12.1 (q_rf X a 32) r_15.toNatClampNeg : Int32) (fun f_18 => q_let (F_J9_min_7cf53 X σ_12 f_17 f_18 : Int32) (fun r_19 => if r_19.toInt = 0 then if 0 < x_10.toInt then q_let (σ_12.1 a 35 : Int32) (fun f_37 => if f_37.toInt < 0 then q_let (q_si σ_12 a 35 x_11 : ST) (fun σ_39 => F_X12_honestFor_J105_5 X a r_15 r_19 x_10 x_11 B50_3 σ_39) else F_X12_honestFor_J105_5 X a r_15 r_19 x_10 x_11 B50_3 σ_12) else F_X12_honestFor_J105_5 X a r_15 r_19 x_10 x_11 B50_3 σ_12 else F_X12_honestFor_J105_5 X a r_15 r_19 x_10 x_11 B50_3 σ_12)))) else (x_10, σ_12)

noncomputable def F_X12_honestFor_L50_3 (X : XW) (v2 : Int32) (a : Nat) (v1 : Int32) : Nat → Int32 → Int32 → ST → Int32 × ST
  | 0 => fun x_10 x_11 σ_12 => ((0 : Int32), σ_12)
  | k_ + 1 => F_X12_honestFor_B50_3 X v2 a v1 (F_X12_honestFor_L50_3 X v2 a v1 k_)

theorem F_X12_honestFor_L50_3_s {X : XW} {v2 : Int32} {a : Nat} {v1 : Int32} {k_ : Nat} {x_10 : Int32} {x_11 : Int32} {σ_12 : ST} : F_X12_honestFor_L50_3 X v2 a v1 (k_ + 1) x_10 x_11 σ_12 = F_X12_honestFor_B50_3 X v2 a v1 (F_X12_honestFor_L50_3 X v2 a v1 k_) x_10 x_11 σ_12 := rfl

noncomputable def F_X12_honestFor_E26_5 (X : XW) (σ_2 : ST) (a : Nat) (v1 : Int32) (v2 : Int32) : Int32 × ST :=
  q_let (F_X12_cardsOf X σ_2 a v1 : Int32) (fun r_5 => q_let (q_si σ_2 a 33 (0 : Int32) : ST) (fun σ_7 => q_let (q_si σ_7 a 34 ((-1) : Int32) : ST) (fun σ_8 => q_let (q_si σ_8 a 35 ((-1) : Int32) : ST) (fun σ_9 => F_X12_honestFor_L50_3 X v2 a v1 ((2147483647 - (0 : Int32).toInt).toNat + 1) r_5 (0 : Int32) σ_9))))

noncomputable def F_X12_honestFor_B2_1 (X : XW) (a : Nat) (v1 : Int32) (v2 : Int32) (B2_1 : Int32 → ST → Int32 × ST) (x_1 : Int32) (σ_2 : ST) : Int32 × ST :=
  if x_1.toInt < 10 then q_let (F_X12_handOf X σ_2 a v1 x_1 : Int32) (fun r_41 => q_let (q_si σ_2 (q_rf X a 32) x_1.toNatClampNeg r_41 : ST) (fun σ_43 => q_let (x_1 + 1 : Int32) (fun z_44 => B2_1 z_44 σ_43))) else F_X12_honestFor_E26_5 X σ_2 a v1 v2

noncomputable def F_X12_honestFor_L2_1 (X : XW) (a : Nat) (v1 : Int32) (v2 : Int32) : Nat → Int32 → ST → Int32 × ST
  | 0 => fun x_1 σ_2 => ((0 : Int32), σ_2)
  | k_ + 1 => F_X12_honestFor_B2_1 X a v1 v2 (F_X12_honestFor_L2_1 X a v1 v2 k_)

theorem F_X12_honestFor_L2_1_s {X : XW} {a : Nat} {v1 : Int32} {v2 : Int32} {k_ : Nat} {x_1 : Int32} {σ_2 : ST} : F_X12_honestFor_L2_1 X a v1 v2 (k_ + 1) x_1 σ_2 = F_X12_honestFor_B2_1 X a v1 v2 (F_X12_honestFor_L2_1 X a v1 v2 k_) x_1 σ_2 := rfl

noncomputable def F_X12_honestFor (X : XW) (σ : ST) (a : Nat) (v1 : Int32) (v2 : Int32) : Int32 × ST :=
  F_X12_honestFor_L2_1 X a v1 v2 ((2147483647 - (0 : Int32).toInt).toNat + 1) (0 : Int32) σ

noncomputable def F_X12_honestly (X : XW) (σ : ST) (a : Nat) (v1 : Int32) (v2 : Int32) : Int32 × ST :=
  q_let (q_si σ a 1 (0 : Int32) : ST) (fun σ_1 => q_let (q_si σ_1 a 0 (0 : Int32) : ST) (fun σ_2 => q_let (F_X12_isPlayerAt X σ_2 a v1 : Int32) (fun r_3 => if r_3.toInt = 0 then q_bi (F_X12_refuse X σ_2 a (2 : Int32)) (fun r_19 σ_20 => (r_19, σ_20)) else q_let (v2.toInt64 : Int64) (fun y_6 => q_let (F_X12_isIn X σ_2 y_6 (0 : Int64) (60 : Int64) : Int32) (fun r_9 => if r_9.toInt = 0 then q_bi (F_X12_refuse X σ_2 a (5 : Int32)) (fun r_16 σ_17 => (r_16, σ_17)) else q_bi (F_X12_honestFor X σ_2 a v1 v2) (fun r_12 σ_13 => q_let (σ_13.1 a 33 : Int32) (fun f_14 => (f_14, σ_13))))))))

noncomputable def F_X12_ridOf_B2_1 (X : XW) (a : Nat) (v1 : Int32) (B2_1 : Int32 → ST → Int32 × ST) (x_1 : Int32) (σ_2 : ST) : Int32 × ST :=
  if 60 < x_1.toInt then (((-1) : Int32), σ_2) else q_bi (F_X12_honestFor X σ_2 a v1 x_1) (fun r_5 σ_6 => if r_5.toInt = 0 then (x_1, σ_6) else q_let (x_1 + 1 : Int32) (fun z_8 => B2_1 z_8 σ_6))

noncomputable def F_X12_ridOf_L2_1 (X : XW) (a : Nat) (v1 : Int32) : Nat → Int32 → ST → Int32 × ST
  | 0 => fun x_1 σ_2 => ((0 : Int32), σ_2)
  | k_ + 1 => F_X12_ridOf_B2_1 X a v1 (F_X12_ridOf_L2_1 X a v1 k_)

theorem F_X12_ridOf_L2_1_s {X : XW} {a : Nat} {v1 : Int32} {k_ : Nat} {x_1 : Int32} {σ_2 : ST} : F_X12_ridOf_L2_1 X a v1 (k_ + 1) x_1 σ_2 = F_X12_ridOf_B2_1 X a v1 (F_X12_ridOf_L2_1 X a v1 k_) x_1 σ_2 := rfl

noncomputable def F_X12_ridOf (X : XW) (σ : ST) (a : Nat) (v1 : Int32) : Int32 × ST :=
  F_X12_ridOf_L2_1 X a v1 ((2147483647 - (0 : Int32).toInt).toNat + 1) (0 : Int32) σ

noncomputable def F_X12_rid (X : XW) (σ : ST) (a : Nat) (v1 : Int32) : Int32 × ST :=
  q_let (q_si σ a 1 (0 : Int32) : ST) (fun σ_1 => q_let (q_si σ_1 a 0 (0 : Int32) : ST) (fun σ_2 => q_let (F_X12_isPlayerAt X σ_2 a v1 : Int32) (fun r_3 => if r_3.toInt = 0 then q_bi (F_X12_refuse X σ_2 a (2 : Int32)) (fun r_13 σ_14 => (r_13, σ_14)) else q_bi (F_X12_ridOf X σ_2 a v1) (fun r_6 σ_7 => if r_6.toInt < 0 then q_bi (F_X12_refuse X σ_7 a (8 : Int32)) (fun r_10 σ_11 => (r_10, σ_11)) else (r_6, σ_7)))))

noncomputable def F_X12_lastKind (X : XW) (σ : ST) (a : Nat) (v1 : Int32) : Int32 × ST :=
  q_let (q_si σ a 1 (0 : Int32) : ST) (fun σ_1 => q_let (q_si σ_1 a 0 (0 : Int32) : ST) (fun σ_2 => q_let (F_X12_isPlayerAt X σ_2 a v1 : Int32) (fun r_3 => if r_3.toInt = 0 then q_bi (F_X12_refuse X σ_2 a (2 : Int32)) (fun r_20 σ_21 => (r_20, σ_21)) else q_let (F_X12_cardsOf X σ_2 a v1 : Int32) (fun r_6 => if r_6.toInt = 0 then q_bi (F_X12_refuse X σ_2 a (8 : Int32)) (fun r_10 σ_11 => (r_10, σ_11)) else q_bi (F_X12_ridOf X σ_2 a v1) (fun r_12 σ_13 => if r_12.toInt < 0 then q_bi (F_X12_refuse X σ_13 a (8 : Int32)) (fun r_17 σ_18 => (r_17, σ_18)) else q_let (σ_13.1 a 34 : Int32) (fun f_15 => (f_15, σ_13)))))))

noncomputable def F_X12_mustLie (X : XW) (σ : ST) (a : Nat) (v1 : Int32) : Int32 × ST :=
  q_let (q_si σ a 1 (0 : Int32) : ST) (fun σ_1 => q_let (q_si σ_1 a 0 (0 : Int32) : ST) (fun σ_2 => q_let (F_X12_isPlayerAt X σ_2 a v1 : Int32) (fun r_3 => if r_3.toInt = 0 then q_bi (F_X12_refuse X σ_2 a (2 : Int32)) (fun r_16 σ_17 => (r_16, σ_17)) else q_bi (F_X12_honestFor X σ_2 a v1 (60 : Int32)) (fun r_7 σ_8 => q_let (σ_8.1 a 35 : Int32) (fun f_9 => if f_9.toInt < 0 then q_bi (F_X12_refuse X σ_8 a (8 : Int32)) (fun r_13 σ_14 => (r_13, σ_14)) else q_let (σ_8.1 a 35 : Int32) (fun f_11 => (f_11, σ_8)))))))

noncomputable def F_X12_soonest_E59_2 (X : XW) (x_3 : Int32) (σ_6 : ST) (a : Nat) : Int32 × ST :=
  if x_3.toInt < 0 then q_bi (F_X12_refuse X σ_6 a (8 : Int32)) (fun r_12 σ_13 => (r_12, σ_13)) else (x_3, σ_6)

noncomputable def F_X12_soonest_B17_1 (X : XW) (a : Nat) (B17_1 : Int32 → Int32 → Int32 → ST → Int32 × ST) (x_3 : Int32) (x_4 : Int32) (x_5 : Int32) (σ_6 : ST) : Int32 × ST :=
  q_let (σ_6.1 (q_rf X a 20) (2 : Int32).toNatClampNeg : Int32) (fun f_8 => if x_5.toInt < f_8.toInt then q_bi (F_X12_ridOf X σ_6 a x_5) (fun r_14 σ_15 => if r_14.toInt < 0 then q_let (x_5 + 1 : Int32) (fun z_17 => B17_1 x_3 x_4 z_17 σ_15) else if r_14.toInt < x_4.toInt then q_let (x_5 + 1 : Int32) (fun z_19 => B17_1 x_5 r_14 z_19 σ_15) else q_let (x_5 + 1 : Int32) (fun z_20 => B17_1 x_3 x_4 z_20 σ_15)) else F_X12_soonest_E59_2 X x_3 σ_6 a)

noncomputable def F_X12_soonest_L17_1 (X : XW) (a : Nat) : Nat → Int32 → Int32 → Int32 → ST → Int32 × ST
  | 0 => fun x_3 x_4 x_5 σ_6 => ((0 : Int32), σ_6)
  | k_ + 1 => F_X12_soonest_B17_1 X a (F_X12_soonest_L17_1 X a k_)

theorem F_X12_soonest_L17_1_s {X : XW} {a : Nat} {k_ : Nat} {x_3 : Int32} {x_4 : Int32} {x_5 : Int32} {σ_6 : ST} : F_X12_soonest_L17_1 X a (k_ + 1) x_3 x_4 x_5 σ_6 = F_X12_soonest_B17_1 X a (F_X12_soonest_L17_1 X a k_) x_3 x_4 x_5 σ_6 := rfl

noncomputable def F_X12_soonest (X : XW) (σ : ST) (a : Nat) : Int32 × ST :=
  q_let (q_si σ a 1 (0 : Int32) : ST) (fun σ_1 => q_let (q_si σ_1 a 0 (0 : Int32) : ST) (fun σ_2 => F_X12_soonest_L17_1 X a ((2147483647 - (0 : Int32).toInt).toNat + 1) ((-1) : Int32) (99 : Int32) (0 : Int32) σ_2))

noncomputable def F_X12_best_E263_2 (X : XW) (x_41 : Int32) (σ_2 : ST) (a : Nat) (v2 : Int32) (x_39 : Int32) (x_40 : Int32) : Int32 × ST :=
  q_let (x_41.toInt64 : Int64) (fun y_49 => q_bi (F_X12_fraction X σ_2 a y_49 (16 : Int64)) (fun r_51 σ_52 => if v2.toInt = 0 then (x_39, σ_52) else (x_40, σ_52)))

noncomputable def F_X12_best_E257_4 (X : XW) (x_42 : Int32) (B134_1 : Int32 → Int32 → Int32 → Int32 → Int32 × ST) (x_58 : Int32) (x_59 : Int32) (x_60 : Int32) : Int32 × ST :=
  q_let (x_42 + 1 : Int32) (fun z_64 => B134_1 x_58 x_59 x_60 z_64)

noncomputable def F_X12_best_B169_3 (X : XW) (x_42 : Int32) (B134_1 : Int32 → Int32 → Int32 → Int32 → Int32 × ST) (r_21 : Int32) (r_37 : Int32) (v1 : Int32) (σ_2 : ST) (B169_3 : Int32 → Int32 → Int32 → Int32 → Int32 × ST) (x_58 : Int32) (x_59 : Int32) (x_60 : Int32) (x_61 : Int32) : Int32 × ST :=
  if x_61.toInt < 0 then F_X12_best_E257_4 X x_42 B134_1 x_58 x_59 x_60 else q_let (x_61 + x_42 : Int32) (fun z_65 => if z_65.toInt = 0 then q_let (x_61 + (-1) : Int32) (fun z_87 => B169_3 x_58 x_59 x_60 z_87) else if x_42.toInt = 0 then q_let (r_21 - x_61 : Int32) (fun z_80 => q_let ((16 : Int32) * z_80 : Int32) (fun z_81 => if x_58.toInt < 0 then q_let (x_61 + (-1) : Int32) (fun z_83 => B169_3 x_61 x_42 z_81 z_83) else if z_81.toInt < x_60.toInt then q_let (x_61 + (-1) : Int32) (fun z_85 => B169_3 x_61 x_42 z_81 z_85) else q_let (x_61 + (-1) : Int32) (fun z_86 => B169_3 x_58 x_59 x_60 z_86))) else q_let (r_21 + r_37 : Int32) (fun z_68 => q_let (v1 * z_68 : Int32) (fun z_69 => q_let ((16 : Int32) - v1 : Int32) (fun z_70 => q_let (r_21 - x_61 : Int32) (fun z_71 => q_let (z_71 - x_42 : Int32) (fun z_72 => q_let (z_70 * z_72 : Int32) (fun z_73 => q_let (z_69 + z_73 : Int32) (fun z_74 => if x_58.toInt < 0 then q_let (x_61 + (-1) : Int32) (fun z_76 => B169_3 x_61 x_42 z_74 z_76) else if z_74.toInt < x_60.toInt then q_let (x_61 + (-1) : Int32) (fun z_78 => B169_3 x_61 x_42 z_74 z_78) else q_let (x_61 + (-1) : Int32) (fun z_79 => B169_3 x_58 x_59 x_60 z_79)))))))))

noncomputable def F_X12_best_L169_3 (X : XW) (x_42 : Int32) (B134_1 : Int32 → Int32 → Int32 → Int32 → Int32 × ST) (r_21 : Int32) (r_37 : Int32) (v1 : Int32) (σ_2 : ST) : Nat → Int32 → Int32 → Int32 → Int32 → Int32 × ST
  | 0 => fun x_58 x_59 x_60 x_61 => ((0 : Int32), σ_2)
  | k_ + 1 => F_X12_best_B169_3 X x_42 B134_1 r_21 r_37 v1 σ_2 (F_X12_best_L169_3 X x_42 B134_1 r_21 r_37 v1 σ_2 k_)

theorem F_X12_best_L169_3_s {X : XW} {x_42 : Int32} {B134_1 : Int32 → Int32 → Int32 → Int32 → Int32 × ST} {r_21 : Int32} {r_37 : Int32} {v1 : Int32} {σ_2 : ST} {k_ : Nat} {x_58 : Int32} {x_59 : Int32} {x_60 : Int32} {x_61 : Int32} : F_X12_best_L169_3 X x_42 B134_1 r_21 r_37 v1 σ_2 (k_ + 1) x_58 x_59 x_60 x_61 = F_X12_best_B169_3 X x_42 B134_1 r_21 r_37 v1 σ_2 (F_X12_best_L169_3 X x_42 B134_1 r_21 r_37 v1 σ_2 k_) x_58 x_59 x_60 x_61 := rfl

noncomputable def F_X12_best_B134_1 (X : XW) (σ_2 : ST) (a : Nat) (r_21 : Int32) (r_35 : Int32) (v2 : Int32) (r_37 : Int32) (v1 : Int32) (B134_1 : Int32 → Int32 → Int32 → Int32 → Int32 × ST) (x_39 : Int32) (x_40 : Int32) (x_41 : Int32) (x_42 : Int32) : Int32 × ST :=
  q_let (σ_2.1 (q_rf X a 20) (4 : Int32).toNatClampNeg : Int32) (fun f_44 => q_let (r_21 - r_35 : Int32) (fun z_45 => q_let (F_J9_min_7cf53 X σ_2 f_44 z_45 : Int32) (fun r_46 => if r_46.toInt < x_42.toInt then F_X12_best_E263_2 X x_41 σ_2 a v2 x_39 x_40 else q_let (σ_2.1 (q_rf X a 20) (4 : Int32).toNatClampNeg : Int32) (fun f_54 => q_let (f_54 - x_42 : Int32) (fun z_55 => q_let (F_J9_min_7cf53 X σ_2 z_55 r_35 : Int32) (fun r_56 => F_X12_best_L169_3 X x_42 B134_1 r_21 r_37 v1 σ_2 ((r_56.toInt + 2147483649).toNat + 1) x_39 x_40 x_41 r_56))))))

noncomputable def F_X12_best_L134_1 (X : XW) (σ_2 : ST) (a : Nat) (r_21 : Int32) (r_35 : Int32) (v2 : Int32) (r_37 : Int32) (v1 : Int32) : Nat → Int32 → Int32 → Int32 → Int32 → Int32 × ST
  | 0 => fun x_39 x_40 x_41 x_42 => ((0 : Int32), σ_2)
  | k_ + 1 => F_X12_best_B134_1 X σ_2 a r_21 r_35 v2 r_37 v1 (F_X12_best_L134_1 X σ_2 a r_21 r_35 v2 r_37 v1 k_)

theorem F_X12_best_L134_1_s {X : XW} {σ_2 : ST} {a : Nat} {r_21 : Int32} {r_35 : Int32} {v2 : Int32} {r_37 : Int32} {v1 : Int32} {k_ : Nat} {x_39 : Int32} {x_40 : Int32} {x_41 : Int32} {x_42 : Int32} : F_X12_best_L134_1 X σ_2 a r_21 r_35 v2 r_37 v1 (k_ + 1) x_39 x_40 x_41 x_42 = F_X12_best_B134_1 X σ_2 a r_21 r_35 v2 r_37 v1 (F_X12_best_L134_1 X σ_2 a r_21 r_35 v2 r_37 v1 k_) x_39 x_40 x_41 x_42 := rfl

noncomputable def F_X12_best (X : XW) (σ : ST) (a : Nat) (v1 : Int32) (v2 : Int32) : Int32 × ST :=
  q_let (q_si σ a 1 (0 : Int32) : ST) (fun σ_1 => q_let (q_si σ_1 a 0 (0 : Int32) : ST) (fun σ_2 => q_let (v1.toInt64 : Int64) (fun y_3 => q_let (F_X12_isIn X σ_2 y_3 (0 : Int64) (16 : Int64) : Int32) (fun r_6 => if r_6.toInt = 0 then q_bi (F_X12_refuse X σ_2 a (5 : Int32)) (fun r_10 σ_11 => (r_10, σ_11)) else q_let (v2.toInt64 : Int64) (fun y_12 => q_let (F_X12_isIn X σ_2 y_12 (0 : Int64) (1 : Int64) : Int32) (fun r_15 => if r_15.toInt = 0 then q_bi (F_X12_refuse X σ_2 a (5 : Int32)) (fun r_97 σ_98 => (r_97, σ_98)) else q_let (σ_2.1 (q_rf X a 20) (6 : Int32).toNatClampNeg : Int32) (fun f_18 => if f_18.toInt < 0 then q_bi (F_X12_refuse X σ_2 a (8 : Int32)) (fun r_94 σ_95 => (r_94, σ_95)) else q_let (σ_2.1 (q_rf X a 20) (6 : Int32).toNatClampNeg : Int32) (fun f_20 => q_let (F_X12_cardsOf X σ_2 a f_20 : Int32) (fun r_21 => q_let (σ_2.1 (q_rf X a 20) (7 : Int32).toNatClampNeg : Int32) (fun f_23 => if f_23.toInt = 1 then q_bi (F_X12_refuse X σ_2 a (9 : Int32)) (fun r_26 σ_27 => (r_26, σ_27)) else q_let (σ_2.1 (q_rf X a 20) (8 : Int32).toNatClampNeg : Int32) (fun f_28 => if f_28.toInt < 0 then if r_21.toInt = 0 then q_bi (F_X12_refuse X σ_2 a (9 : Int32)) (fun r_91 σ_92 => (r_91, σ_92)) else q_let (σ_2.1 (q_rf X a 20) (5 : Int32).toNatClampNeg : Int32) (fun f_34 => q_let (F_X12_handOf X σ_2 a f_20 f_34 : Int32) (fun r_35 => q_let (F_X12_heapMany X σ_2 a : Int32) (fun r_37 => F_X12_best_L134_1 X σ_2 a r_21 r_35 v2 r_37 v1 ((2147483647 - (0 : Int32).toInt).toNat + 1) ((-1) : Int32) (0 : Int32) (0 : Int32) (0 : Int32)))) else q_bi (F_X12_refuse X σ_2 a (9 : Int32)) (fun r_31 σ_32 => (r_31, σ_32)))))))))))))

noncomputable def F_X12_sayer_E117_2 (X : XW) (σ_2 : ST) (a : Nat) : Int32 × ST :=
  q_bi (F_X12_refuse X σ_2 a (8 : Int32)) (fun r_13 σ_14 => (r_13, σ_14))

noncomputable def F_X12_sayer_J91_3 (X : XW) (σ_2 : ST) (a : Nat) (x_6 : Int32) (v1 : Int32) (B26_1 : Int32 → Int32 × ST) (x_16 : Int32) : Int32 × ST :=
  q_let (σ_2.1 (q_rf X a 20) (2 : Int32).toNatClampNeg : Int32) (fun f_17 => q_let (x_6 / f_17 : Int32) (fun z_18 => q_let (F_X12_fallsTo X σ_2 a x_16 z_18 : Int32) (fun r_19 => if r_19.toInt = v1.toInt then (x_16, σ_2) else q_let (x_6 + 1 : Int32) (fun z_22 => B26_1 z_22))))

noncomputable def F_X12_sayer_B26_1 (X : XW) (σ_2 : ST) (a : Nat) (v1 : Int32) (B26_1 : Int32 → Int32 × ST) (x_6 : Int32) : Int32 × ST :=
  q_let (σ_2.1 (q_rf X a 20) (0 : Int32).toNatClampNeg : Int32) (fun f_8 => q_let (σ_2.1 (q_rf X a 20) (2 : Int32).toNatClampNeg : Int32) (fun f_9 => q_let (f_8 * f_9 : Int32) (fun z_10 => if x_6.toInt < z_10.toInt then q_let (σ_2.1 (q_rf X a 20) (7 : Int32).toNatClampNeg : Int32) (fun f_15 => if f_15.toInt = 1 then q_let (σ_2.1 (q_rf X a 20) (6 : Int32).toNatClampNeg : Int32) (fun f_28 => q_let (f_28 + (1 : Int32) : Int32) (fun z_29 => q_let (z_29 + x_6 : Int32) (fun z_30 => q_let (σ_2.1 (q_rf X a 20) (2 : Int32).toNatClampNeg : Int32) (fun f_31 => q_let (z_30 % f_31 : Int32) (fun z_32 => F_X12_sayer_J91_3 X σ_2 a x_6 v1 B26_1 z_32))))) else q_let (σ_2.1 (q_rf X a 20) (6 : Int32).toNatClampNeg : Int32) (fun f_24 => q_let (f_24 + x_6 : Int32) (fun z_25 => q_let (σ_2.1 (q_rf X a 20) (2 : Int32).toNatClampNeg : Int32) (fun f_26 => q_let (z_25 % f_26 : Int32) (fun z_27 => F_X12_sayer_J91_3 X σ_2 a x_6 v1 B26_1 z_27))))) else F_X12_sayer_E117_2 X σ_2 a)))

noncomputable def F_X12_sayer_L26_1 (X : XW) (σ_2 : ST) (a : Nat) (v1 : Int32) : Nat → Int32 → Int32 × ST
  | 0 => fun x_6 => ((0 : Int32), σ_2)
  | k_ + 1 => F_X12_sayer_B26_1 X σ_2 a v1 (F_X12_sayer_L26_1 X σ_2 a v1 k_)

theorem F_X12_sayer_L26_1_s {X : XW} {σ_2 : ST} {a : Nat} {v1 : Int32} {k_ : Nat} {x_6 : Int32} : F_X12_sayer_L26_1 X σ_2 a v1 (k_ + 1) x_6 = F_X12_sayer_B26_1 X σ_2 a v1 (F_X12_sayer_L26_1 X σ_2 a v1 k_) x_6 := rfl

noncomputable def F_X12_sayer (X : XW) (σ : ST) (a : Nat) (v1 : Int32) : Int32 × ST :=
  q_let (q_si σ a 1 (0 : Int32) : ST) (fun σ_1 => q_let (q_si σ_1 a 0 (0 : Int32) : ST) (fun σ_2 => q_let (F_X12_isKindAt X σ_2 a v1 : Int32) (fun r_3 => if r_3.toInt = 0 then q_bi (F_X12_refuse X σ_2 a (2 : Int32)) (fun r_35 σ_36 => (r_35, σ_36)) else F_X12_sayer_L26_1 X σ_2 a v1 ((2147483647 - (0 : Int32).toInt).toNat + 1) (0 : Int32))))

noncomputable def F_X12_has_B28_1 (X : XW) (σ_2 : ST) (a : Nat) (v1 : Int32) (B28_1 : Int32 → Int32 → Int32 × ST) (x_6 : Int32) (x_7 : Int32) : Int32 × ST :=
  q_let (σ_2.1 (q_rf X a 20) (0 : Int32).toNatClampNeg : Int32) (fun f_9 => if x_7.toInt < f_9.toInt then q_let (F_X12_handOf X σ_2 a v1 x_7 : Int32) (fun r_11 => if 0 < r_11.toInt then q_let ((1 : Int32) <<< (x_7 &&& 31) : Int32) (fun z_16 => q_let (x_6 ||| z_16 : Int32) (fun z_17 => q_let (x_7 + 1 : Int32) (fun z_18 => B28_1 z_17 z_18))) else q_let (x_6 ||| (0 : Int32) : Int32) (fun z_14 => q_let (x_7 + 1 : Int32) (fun z_15 => B28_1 z_14 z_15))) else (x_6, σ_2))

noncomputable def F_X12_has_L28_1 (X : XW) (σ_2 : ST) (a : Nat) (v1 : Int32) : Nat → Int32 → Int32 → Int32 × ST
  | 0 => fun x_6 x_7 => ((0 : Int32), σ_2)
  | k_ + 1 => F_X12_has_B28_1 X σ_2 a v1 (F_X12_has_L28_1 X σ_2 a v1 k_)

theorem F_X12_has_L28_1_s {X : XW} {σ_2 : ST} {a : Nat} {v1 : Int32} {k_ : Nat} {x_6 : Int32} {x_7 : Int32} : F_X12_has_L28_1 X σ_2 a v1 (k_ + 1) x_6 x_7 = F_X12_has_B28_1 X σ_2 a v1 (F_X12_has_L28_1 X σ_2 a v1 k_) x_6 x_7 := rfl

noncomputable def F_X12_has (X : XW) (σ : ST) (a : Nat) (v1 : Int32) : Int32 × ST :=
  q_let (q_si σ a 1 (0 : Int32) : ST) (fun σ_1 => q_let (q_si σ_1 a 0 (0 : Int32) : ST) (fun σ_2 => q_let (F_X12_isPlayerAt X σ_2 a v1 : Int32) (fun r_3 => if r_3.toInt = 0 then q_bi (F_X12_refuse X σ_2 a (2 : Int32)) (fun r_21 σ_22 => (r_21, σ_22)) else F_X12_has_L28_1 X σ_2 a v1 ((2147483647 - (0 : Int32).toInt).toNat + 1) (0 : Int32) (0 : Int32))))

noncomputable def F_X12_lies (X : XW) (σ : ST) (a : Nat) (v1 : Int32) : Int32 × ST :=
  q_let (q_si σ a 1 (0 : Int32) : ST) (fun σ_1 => q_let (q_si σ_1 a 0 (0 : Int32) : ST) (fun σ_2 => q_let (F_X12_isKindAt X σ_2 a v1 : Int32) (fun r_3 => if r_3.toInt = 0 then q_bi (F_X12_refuse X σ_2 a (2 : Int32)) (fun r_7 σ_8 => (r_7, σ_8)) else q_let (F_X12_laidOf X σ_2 a ((-1) : Int32) v1 : Int32) (fun r_10 => (r_10, σ_2)))))

noncomputable def F_X12_guess (X : XW) (σ : ST) (a : Nat) (v1 : Int32) (v2 : Int32) (v3 : Int32) : Int32 × ST :=
  q_let (q_si σ a 1 (0 : Int32) : ST) (fun σ_1 => q_let (q_si σ_1 a 0 (0 : Int32) : ST) (fun σ_2 => q_let (F_X12_isPlayerAt X σ_2 a v1 : Int32) (fun r_3 => if r_3.toInt = 0 then q_bi (F_X12_no X σ_2 a (2 : Int32)) (fun r_7 σ_8 => (r_7, σ_8)) else q_let (F_X12_isKindAt X σ_2 a v2 : Int32) (fun r_9 => if r_9.toInt = 0 then q_bi (F_X12_no X σ_2 a (2 : Int32)) (fun r_38 σ_39 => (r_38, σ_39)) else q_let (v3.toInt64 : Int64) (fun y_12 => q_let (F_X12_isIn X σ_2 y_12 (0 : Int64) (4 : Int64) : Int32) (fun r_15 => if r_15.toInt = 0 then q_bi (F_X12_no X σ_2 a (5 : Int32)) (fun r_35 σ_36 => (r_35, σ_36)) else q_let (F_X12_unknownAll X σ_2 a v1 : Int32) (fun r_18 => if r_18.toInt < v3.toInt then q_bi (F_X12_no X σ_2 a (9 : Int32)) (fun r_32 σ_33 => (r_32, σ_33)) else q_let (F_X12_unknownOf X σ_2 a v1 v2 : Int32) (fun r_21 => q_let (F_X12_choose X σ_2 r_21 v3 : Int64) (fun r_23 => q_let (F_X12_unknownAll X σ_2 a v1 : Int32) (fun r_25 => q_let (F_X12_choose X σ_2 r_25 v3 : Int64) (fun r_27 => q_bi (F_X12_fraction X σ_2 a r_23 r_27) (fun r_29 σ_30 => (r_29, σ_30)))))))))))))

noncomputable def F_X12_fullest_E49_2 (X : XW) (x_3 : Int32) (σ_2 : ST) (a : Nat) : Int32 × ST :=
  if x_3.toInt < 0 then q_bi (F_X12_refuse X σ_2 a (8 : Int32)) (fun r_10 σ_11 => (r_10, σ_11)) else (x_3, σ_2)

noncomputable def F_X12_fullest_B14_1 (X : XW) (σ_2 : ST) (a : Nat) (B14_1 : Int32 → Int32 → Int32 × ST) (x_3 : Int32) (x_4 : Int32) : Int32 × ST :=
  q_let (σ_2.1 (q_rf X a 20) (2 : Int32).toNatClampNeg : Int32) (fun f_6 => if x_4.toInt < f_6.toInt then if x_3.toInt < 0 then q_let (x_4 + 1 : Int32) (fun z_13 => B14_1 x_4 z_13) else q_let (F_X12_cardsOf X σ_2 a x_4 : Int32) (fun r_14 => q_let (F_X12_cardsOf X σ_2 a x_3 : Int32) (fun r_16 => if r_16.toInt < r_14.toInt then q_let (x_4 + 1 : Int32) (fun z_20 => B14_1 x_4 z_20) else q_let (x_4 + 1 : Int32) (fun z_19 => B14_1 x_3 z_19))) else F_X12_fullest_E49_2 X x_3 σ_2 a)

noncomputable def F_X12_fullest_L14_1 (X : XW) (σ_2 : ST) (a : Nat) : Nat → Int32 → Int32 → Int32 × ST
  | 0 => fun x_3 x_4 => ((0 : Int32), σ_2)
  | k_ + 1 => F_X12_fullest_B14_1 X σ_2 a (F_X12_fullest_L14_1 X σ_2 a k_)

theorem F_X12_fullest_L14_1_s {X : XW} {σ_2 : ST} {a : Nat} {k_ : Nat} {x_3 : Int32} {x_4 : Int32} : F_X12_fullest_L14_1 X σ_2 a (k_ + 1) x_3 x_4 = F_X12_fullest_B14_1 X σ_2 a (F_X12_fullest_L14_1 X σ_2 a k_) x_3 x_4 := rfl

noncomputable def F_X12_fullest (X : XW) (σ : ST) (a : Nat) : Int32 × ST :=
  q_let (q_si σ a 1 (0 : Int32) : ST) (fun σ_1 => q_let (q_si σ_1 a 0 (0 : Int32) : ST) (fun σ_2 => F_X12_fullest_L14_1 X σ_2 a ((2147483647 - (0 : Int32).toInt).toNat + 1) ((-1) : Int32) (0 : Int32)))

noncomputable def F_X12_quartet_E67_2 (X : XW) (σ_2 : ST) (a : Nat) : Int32 × ST :=
  q_bi (F_X12_refuse X σ_2 a (8 : Int32)) (fun r_11 σ_12 => (r_11, σ_12))

noncomputable def F_X12_quartet_B26_1 (X : XW) (σ_2 : ST) (a : Nat) (v1 : Int32) (B26_1 : Int32 → Int32 × ST) (x_6 : Int32) : Int32 × ST :=
  q_let (σ_2.1 (q_rf X a 20) (0 : Int32).toNatClampNeg : Int32) (fun f_8 => if x_6.toInt < f_8.toInt then q_let (F_X12_handOf X σ_2 a v1 x_6 : Int32) (fun r_13 => if 0 < r_13.toInt then q_let (F_X12_handOf X σ_2 a v1 x_6 : Int32) (fun r_17 => q_let (F_X12_inGameOf X σ_2 a x_6 : Int32) (fun r_19 => if r_17.toInt = r_19.toInt then (x_6, σ_2) else q_let (x_6 + 1 : Int32) (fun z_22 => B26_1 z_22))) else q_let (x_6 + 1 : Int32) (fun z_16 => B26_1 z_16)) else F_X12_quartet_E67_2 X σ_2 a)

noncomputable def F_X12_quartet_L26_1 (X : XW) (σ_2 : ST) (a : Nat) (v1 : Int32) : Nat → Int32 → Int32 × ST
  | 0 => fun x_6 => ((0 : Int32), σ_2)
  | k_ + 1 => F_X12_quartet_B26_1 X σ_2 a v1 (F_X12_quartet_L26_1 X σ_2 a v1 k_)

theorem F_X12_quartet_L26_1_s {X : XW} {σ_2 : ST} {a : Nat} {v1 : Int32} {k_ : Nat} {x_6 : Int32} : F_X12_quartet_L26_1 X σ_2 a v1 (k_ + 1) x_6 = F_X12_quartet_B26_1 X σ_2 a v1 (F_X12_quartet_L26_1 X σ_2 a v1 k_) x_6 := rfl

noncomputable def F_X12_quartet (X : XW) (σ : ST) (a : Nat) (v1 : Int32) : Int32 × ST :=
  q_let (q_si σ a 1 (0 : Int32) : ST) (fun σ_1 => q_let (q_si σ_1 a 0 (0 : Int32) : ST) (fun σ_2 => q_let (F_X12_isPlayerAt X σ_2 a v1 : Int32) (fun r_3 => if r_3.toInt = 0 then q_bi (F_X12_refuse X σ_2 a (2 : Int32)) (fun r_25 σ_26 => (r_25, σ_26)) else F_X12_quartet_L26_1 X σ_2 a v1 ((2147483647 - (0 : Int32).toInt).toNat + 1) (0 : Int32))))

noncomputable def F_X12_sorts_B32_1 (X : XW) (σ_2 : ST) (a : Nat) (v1 : Int32) (B32_1 : Int32 → Int32 → Int32 × ST) (x_9 : Int32) (x_10 : Int32) : Int32 × ST :=
  q_let (σ_2.1 (q_rf X a 20) (9 : Int32).toNatClampNeg : Int32) (fun f_12 => if x_10.toInt < f_12.toInt then q_let (F_X12_sortOf X σ_2 a x_10 : Int32) (fun r_14 => if r_14.toInt = v1.toInt then q_let (x_9 + (1 : Int32) : Int32) (fun z_19 => q_let (x_10 + 1 : Int32) (fun z_20 => B32_1 z_19 z_20)) else q_let (x_9 + (0 : Int32) : Int32) (fun z_17 => q_let (x_10 + 1 : Int32) (fun z_18 => B32_1 z_17 z_18))) else (x_9, σ_2))

noncomputable def F_X12_sorts_L32_1 (X : XW) (σ_2 : ST) (a : Nat) (v1 : Int32) : Nat → Int32 → Int32 → Int32 × ST
  | 0 => fun x_9 x_10 => ((0 : Int32), σ_2)
  | k_ + 1 => F_X12_sorts_B32_1 X σ_2 a v1 (F_X12_sorts_L32_1 X σ_2 a v1 k_)

theorem F_X12_sorts_L32_1_s {X : XW} {σ_2 : ST} {a : Nat} {v1 : Int32} {k_ : Nat} {x_9 : Int32} {x_10 : Int32} : F_X12_sorts_L32_1 X σ_2 a v1 (k_ + 1) x_9 x_10 = F_X12_sorts_B32_1 X σ_2 a v1 (F_X12_sorts_L32_1 X σ_2 a v1 k_) x_9 x_10 := rfl

noncomputable def F_X12_sorts (X : XW) (σ : ST) (a : Nat) (v1 : Int32) : Int32 × ST :=
  q_let (q_si σ a 1 (0 : Int32) : ST) (fun σ_1 => q_let (q_si σ_1 a 0 (0 : Int32) : ST) (fun σ_2 => q_let (v1.toInt64 : Int64) (fun y_3 => q_let (F_X12_isIn X σ_2 y_3 (0 : Int64) (2 : Int64) : Int32) (fun r_6 => if r_6.toInt = 0 then q_bi (F_X12_refuse X σ_2 a (5 : Int32)) (fun r_23 σ_24 => (r_23, σ_24)) else F_X12_sorts_L32_1 X σ_2 a v1 ((2147483647 - (0 : Int32).toInt).toNat + 1) (0 : Int32) (0 : Int32)))))

noncomputable def F_X12_liar_E120_2 (X : XW) (x_3 : Int32) (σ_2 : ST) (a : Nat) : Int32 × ST :=
  if x_3.toInt < 0 then q_bi (F_X12_refuse X σ_2 a (8 : Int32)) (fun r_10 σ_11 => (r_10, σ_11)) else (x_3, σ_2)

noncomputable def F_X12_liar_B14_1 (X : XW) (σ_2 : ST) (a : Nat) (B14_1 : Int32 → Int32 → Int32 × ST) (x_3 : Int32) (x_4 : Int32) : Int32 × ST :=
  q_let (σ_2.1 (q_rf X a 20) (2 : Int32).toNatClampNeg : Int32) (fun f_6 => if x_4.toInt < f_6.toInt then if x_3.toInt < 0 then q_let (x_4 + 1 : Int32) (fun z_42 => B14_1 x_4 z_42) else q_let ((22 : Int32) + x_4 : Int32) (fun z_13 => q_let (σ_2.1 (q_rf X a 20) z_13.toNatClampNeg : Int32) (fun f_15 => q_let ((28 : Int32) + x_4 : Int32) (fun z_16 => q_let (σ_2.1 (q_rf X a 20) z_16.toNatClampNeg : Int32) (fun f_18 => q_let (f_15 - f_18 : Int32) (fun z_19 => q_let (z_19 + (1 : Int32) : Int32) (fun z_20 => q_let ((22 : Int32) + x_3 : Int32) (fun z_21 => q_let (σ_2.1 (q_rf X a 20) z_21.toNatClampNeg : Int32) (fun f_23 => q_let (f_23 + (2 : Int32) : Int32) (fun z_24 => q_let (z_20 * z_24 : Int32) (fun z_25 => q_let ((22 : Int32) + x_3 : Int32) (fun z_26 => q_let (σ_2.1 (q_rf X a 20) z_26.toNatClampNeg : Int32) (fun f_28 => q_let ((28 : Int32) + x_3 : Int32) (fun z_29 => q_let (σ_2.1 (q_rf X a 20) z_29.toNatClampNeg : Int32) (fun f_31 => q_let (f_28 - f_31 : Int32) (fun z_32 => q_let (z_32 + (1 : Int32) : Int32) (fun z_33 => q_let ((22 : Int32) + x_4 : Int32) (fun z_34 => q_let (σ_2.1 (q_rf X a 20) z_34.toNatClampNeg : Int32) (fun f_36 => q_let (f_36 + (2 : Int32) : Int32) (fun z_37 => q_let (z_33 * z_37 : Int32) (fun z_38 => if z_25.toInt < z_38.toInt then q_let (x_4 + 1 : Int32) (fun z_41 => B14_1 x_4 z_41) else q_let (x_4 + 1 : Int32) (fun z_40 => B14_1 x_3 z_40))))))))))))))))))))) else F_X12_liar_E120_2 X x_3 σ_2 a)

noncomputable def F_X12_liar_L14_1 (X : XW) (σ_2 : ST) (a : Nat) : Nat → Int32 → Int32 → Int32 × ST
  | 0 => fun x_3 x_4 => ((0 : Int32), σ_2)
  | k_ + 1 => F_X12_liar_B14_1 X σ_2 a (F_X12_liar_L14_1 X σ_2 a k_)

theorem F_X12_liar_L14_1_s {X : XW} {σ_2 : ST} {a : Nat} {k_ : Nat} {x_3 : Int32} {x_4 : Int32} : F_X12_liar_L14_1 X σ_2 a (k_ + 1) x_3 x_4 = F_X12_liar_B14_1 X σ_2 a (F_X12_liar_L14_1 X σ_2 a k_) x_3 x_4 := rfl

noncomputable def F_X12_liar (X : XW) (σ : ST) (a : Nat) : Int32 × ST :=
  q_let (q_si σ a 1 (0 : Int32) : ST) (fun σ_1 => q_let (q_si σ_1 a 0 (0 : Int32) : ST) (fun σ_2 => F_X12_liar_L14_1 X σ_2 a ((2147483647 - (0 : Int32).toInt).toNat + 1) ((-1) : Int32) (0 : Int32)))

noncomputable def F_X12_played (X : XW) (σ : ST) (a : Nat) (v1 : Int32) : Int32 × ST :=
  q_let (q_si σ a 1 (0 : Int32) : ST) (fun σ_1 => q_let (q_si σ_1 a 0 (0 : Int32) : ST) (fun σ_2 => q_let (v1.toInt64 : Int64) (fun y_3 => q_let (F_X12_isIn X σ_2 y_3 (0 : Int64) (4 : Int64) : Int32) (fun r_6 => if r_6.toInt = 0 then q_bi (F_X12_refuse X σ_2 a (5 : Int32)) (fun r_16 σ_17 => (r_16, σ_17)) else q_let (σ_2.1 a 37 : Int32) (fun f_9 => if f_9.toInt = 0 then q_bi (F_X12_refuse X σ_2 a (8 : Int32)) (fun r_12 σ_13 => (r_12, σ_13)) else q_let (σ_2.1 (q_rf X a 36) v1.toNatClampNeg : Int32) (fun f_14 => (f_14, σ_2)))))))

noncomputable def F_X12_draw (X : XW) (σ : ST) (a : Nat) : Int32 × ST :=
  q_let (σ.1 a 39 : Int32) (fun f_1 => q_let (f_1 * (2861 : Int32) : Int32) (fun z_2 => q_let (z_2 + (10259 : Int32) : Int32) (fun z_3 => q_let (z_3 % (65536 : Int32) : Int32) (fun z_4 => q_let (q_si σ a 39 z_4 : ST) (fun σ_5 => q_let (σ_5.1 a 39 : Int32) (fun f_6 => q_let (f_6 / (8 : Int32) : Int32) (fun z_7 => q_let (z_7 % (16 : Int32) : Int32) (fun z_8 => (z_8, σ_5)))))))))

noncomputable def F_X12_leaves (X : XW) (σ : ST) (a : Nat) : ST :=
  q_let (σ.1 (q_rf X a 20) (6 : Int32).toNatClampNeg : Int32) (fun f_1 => q_let (q_si σ (q_rf X a 20) (7 : Int32).toNatClampNeg (0 : Int32) : ST) (fun σ_2 => q_let (F_X12_cardsOf X σ_2 a f_1 : Int32) (fun r_4 => if r_4.toInt = 0 then q_let (q_si σ_2 (q_rf X a 20) (8 : Int32).toNatClampNeg f_1 : ST) (fun σ_14 => q_let (F_X12_nextKind X σ_14 a (1 : Int32) : Int32) (fun r_16 => q_let (q_si σ_14 (q_rf X a 20) (5 : Int32).toNatClampNeg r_16 : ST) (fun σ_18 => q_let (F_X12_behindOf X σ_18 a f_1 : Int32) (fun r_19 => q_let (q_si σ_18 (q_rf X a 20) (6 : Int32).toNatClampNeg r_19 : ST) (fun σ_21 => σ_21))))) else q_let (F_X12_nextKind X σ_2 a (1 : Int32) : Int32) (fun r_8 => q_let (q_si σ_2 (q_rf X a 20) (5 : Int32).toNatClampNeg r_8 : ST) (fun σ_10 => q_let (F_X12_behindOf X σ_10 a f_1 : Int32) (fun r_11 => q_let (q_si σ_10 (q_rf X a 20) (6 : Int32).toNatClampNeg r_11 : ST) (fun σ_13 => σ_13)))))))

noncomputable def F_X12_takes_E74_2 (X : XW) (σ_2 : ST) (a : Nat) : ST :=
  q_let (q_si σ_2 (q_rf X a 20) (9 : Int32).toNatClampNeg (0 : Int32) : ST) (fun σ_6 => σ_6)

noncomputable def F_X12_takes_E68_4 (X : XW) (x_1 : Int32) (B2_1 : Int32 → ST → ST) (σ_11 : ST) : ST :=
  q_let (x_1 + 1 : Int32) (fun z_16 => B2_1 z_16 σ_11)

noncomputable def F_X12_takes_B21_3 (X : XW) (r_8 : Int32) (a : Nat) (v1 : Int32) (x_1 : Int32) (B2_1 : Int32 → ST → ST) (B21_3 : Int32 → ST → ST) (x_10 : Int32) (σ_11 : ST) : ST :=
  q_let (r_8 + (2 : Int32) : Int32) (fun z_13 => q_let (σ_11.1 (q_rf X a 20) z_13.toNatClampNeg : Int32) (fun f_14 => if x_10.toInt < f_14.toInt then q_let ((10 : Int32) * v1 : Int32) (fun z_17 => q_let ((34 : Int32) + z_17 : Int32) (fun z_18 => q_let (r_8 + (3 : Int32) : Int32) (fun z_19 => q_let (z_19 + x_10 : Int32) (fun z_20 => q_let (σ_11.1 (q_rf X a 20) z_20.toNatClampNeg : Int32) (fun f_21 => q_let (z_18 + f_21 : Int32) (fun z_22 => q_let (σ_11.1 (q_rf X a 20) z_22.toNatClampNeg : Int32) (fun f_23 => q_let (f_23 + (1 : Int32) : Int32) (fun z_24 => q_let (q_si σ_11 (q_rf X a 20) z_22.toNatClampNeg z_24 : ST) (fun σ_25 => q_let (x_10 + 1 : Int32) (fun z_26 => B21_3 z_26 σ_25)))))))))) else F_X12_takes_E68_4 X x_1 B2_1 σ_11))

noncomputable def F_X12_takes_L21_3 (X : XW) (r_8 : Int32) (a : Nat) (v1 : Int32) (x_1 : Int32) (B2_1 : Int32 → ST → ST) : Nat → Int32 → ST → ST
  | 0 => fun x_10 σ_11 => σ_11
  | k_ + 1 => F_X12_takes_B21_3 X r_8 a v1 x_1 B2_1 (F_X12_takes_L21_3 X r_8 a v1 x_1 B2_1 k_)

theorem F_X12_takes_L21_3_s {X : XW} {r_8 : Int32} {a : Nat} {v1 : Int32} {x_1 : Int32} {B2_1 : Int32 → ST → ST} {k_ : Nat} {x_10 : Int32} {σ_11 : ST} : F_X12_takes_L21_3 X r_8 a v1 x_1 B2_1 (k_ + 1) x_10 σ_11 = F_X12_takes_B21_3 X r_8 a v1 x_1 B2_1 (F_X12_takes_L21_3 X r_8 a v1 x_1 B2_1 k_) x_10 σ_11 := rfl

noncomputable def F_X12_takes_B2_1 (X : XW) (a : Nat) (v1 : Int32) (B2_1 : Int32 → ST → ST) (x_1 : Int32) (σ_2 : ST) : ST :=
  q_let (σ_2.1 (q_rf X a 20) (9 : Int32).toNatClampNeg : Int32) (fun f_4 => if x_1.toInt < f_4.toInt then q_let (F_X12_laid X σ_2 x_1 : Int32) (fun r_8 => F_X12_takes_L21_3 X r_8 a v1 x_1 B2_1 ((2147483647 - (0 : Int32).toInt).toNat + 1) (0 : Int32) σ_2) else F_X12_takes_E74_2 X σ_2 a)

noncomputable def F_X12_takes_L2_1 (X : XW) (a : Nat) (v1 : Int32) : Nat → Int32 → ST → ST
  | 0 => fun x_1 σ_2 => σ_2
  | k_ + 1 => F_X12_takes_B2_1 X a v1 (F_X12_takes_L2_1 X a v1 k_)

theorem F_X12_takes_L2_1_s {X : XW} {a : Nat} {v1 : Int32} {k_ : Nat} {x_1 : Int32} {σ_2 : ST} : F_X12_takes_L2_1 X a v1 (k_ + 1) x_1 σ_2 = F_X12_takes_B2_1 X a v1 (F_X12_takes_L2_1 X a v1 k_) x_1 σ_2 := rfl

noncomputable def F_X12_takes (X : XW) (σ : ST) (a : Nat) (v1 : Int32) : ST :=
  F_X12_takes_L2_1 X a v1 ((2147483647 - (0 : Int32).toInt).toNat + 1) (0 : Int32) σ

noncomputable def F_X12_doubts_J105_3 (X : XW) (a : Nat) (x_6 : Int32) (v1 : Int32) (f_1 : Int32) (σ_20 : ST) : Int32 × ST :=
  q_let (F_X12_nextKind X σ_20 a (0 : Int32) : Int32) (fun r_22 => q_let (q_si σ_20 (q_rf X a 20) (5 : Int32).toNatClampNeg r_22 : ST) (fun σ_24 => if x_6.toInt = 0 then q_let (q_si σ_24 (q_rf X a 20) (6 : Int32).toNatClampNeg v1 : ST) (fun σ_26 => if x_6.toInt = 0 then (f_1, σ_26) else (v1, σ_26)) else q_let (q_si σ_24 (q_rf X a 20) (6 : Int32).toNatClampNeg f_1 : ST) (fun σ_28 => if x_6.toInt = 0 then (f_1, σ_28) else (v1, σ_28))))

noncomputable def F_X12_doubts_J105_4 (X : XW) (a : Nat) (x_6 : Int32) (v1 : Int32) (f_1 : Int32) (σ_32 : ST) : Int32 × ST :=
  q_let (F_X12_nextKind X σ_32 a (0 : Int32) : Int32) (fun r_34 => q_let (q_si σ_32 (q_rf X a 20) (5 : Int32).toNatClampNeg r_34 : ST) (fun σ_36 => if x_6.toInt = 0 then q_let (q_si σ_36 (q_rf X a 20) (6 : Int32).toNatClampNeg v1 : ST) (fun σ_38 => if x_6.toInt = 0 then (f_1, σ_38) else (v1, σ_38)) else q_let (q_si σ_36 (q_rf X a 20) (6 : Int32).toNatClampNeg f_1 : ST) (fun σ_40 => if x_6.toInt = 0 then (f_1, σ_40) else (v1, σ_40))))

noncomputable def F_X12_doubts_J92_2 (X : XW) (x_6 : Int32) (a : Nat) (f_1 : Int32) (v1 : Int32) (σ_18 : ST) : Int32 × ST :=
  if x_6.toInt = 0 then q_let (F_X12_takes X σ_18 a f_1 : ST) (fun σ_31 => F_X12_doubts_J105_3 X a x_6 v1 f_1 σ_31) else q_let (F_X12_takes X σ_18 a v1 : ST) (fun σ_43 => F_X12_doubts_J105_4 X a x_6 v1 f_1 σ_43)

noncomputable def F_X12_doubts_J105_6 (X : XW) (a : Nat) (x_6 : Int32) (v1 : Int32) (f_1 : Int32) (σ_53 : ST) : Int32 × ST :=
  q_let (F_X12_nextKind X σ_53 a (0 : Int32) : Int32) (fun r_55 => q_let (q_si σ_53 (q_rf X a 20) (5 : Int32).toNatClampNeg r_55 : ST) (fun σ_57 => if x_6.toInt = 0 then q_let (q_si σ_57 (q_rf X a 20) (6 : Int32).toNatClampNeg v1 : ST) (fun σ_59 => if x_6.toInt = 0 then (f_1, σ_59) else (v1, σ_59)) else q_let (q_si σ_57 (q_rf X a 20) (6 : Int32).toNatClampNeg f_1 : ST) (fun σ_61 => if x_6.toInt = 0 then (f_1, σ_61) else (v1, σ_61))))

noncomputable def F_X12_doubts_J105_7 (X : XW) (a : Nat) (x_6 : Int32) (v1 : Int32) (f_1 : Int32) (σ_65 : ST) : Int32 × ST :=
  q_let (F_X12_nextKind X σ_65 a (0 : Int32) : Int32) (fun r_67 => q_let (q_si σ_65 (q_rf X a 20) (5 : Int32).toNatClampNeg r_67 : ST) (fun σ_69 => if x_6.toInt = 0 then q_let (q_si σ_69 (q_rf X a 20) (6 : Int32).toNatClampNeg v1 : ST) (fun σ_71 => if x_6.toInt = 0 then (f_1, σ_71) else (v1, σ_71)) else q_let (q_si σ_69 (q_rf X a 20) (6 : Int32).toNatClampNeg f_1 : ST) (fun σ_73 => if x_6.toInt = 0 then (f_1, σ_73) else (v1, σ_73))))

noncomputable def F_X12_doubts_J92_5 (X : XW) (x_6 : Int32) (a : Nat) (f_1 : Int32) (v1 : Int32) (σ_51 : ST) : Int32 × ST :=
  if x_6.toInt = 0 then q_let (F_X12_takes X σ_51 a f_1 : ST) (fun σ_64 => F_X12_doubts_J105_6 X a x_6 v1 f_1 σ_64) else q_let (F_X12_takes X σ_51 a v1 : ST) (fun σ_76 => F_X12_doubts_J105_7 X a x_6 v1 f_1 σ_76)

noncomputable def F_X12_doubts_J29_1 (X : XW) (σ : ST) (a : Nat) (f_1 : Int32) (v1 : Int32) (x_6 : Int32) : Int32 × ST :=
  q_let (q_si σ (q_rf X a 20) (7 : Int32).toNatClampNeg (0 : Int32) : ST) (fun σ_7 => q_let ((22 : Int32) + f_1 : Int32) (fun z_9 => q_let (σ_7.1 (q_rf X a 20) z_9.toNatClampNeg : Int32) (fun f_10 => q_let (f_10 + (1 : Int32) : Int32) (fun z_11 => q_let (q_si σ_7 (q_rf X a 20) z_9.toNatClampNeg z_11 : ST) (fun σ_12 => q_let ((28 : Int32) + f_1 : Int32) (fun z_13 => q_let (σ_12.1 (q_rf X a 20) z_13.toNatClampNeg : Int32) (fun f_14 => if x_6.toInt = 0 then q_let (f_14 + (1 : Int32) : Int32) (fun z_16 => q_let (q_si σ_12 (q_rf X a 20) z_13.toNatClampNeg z_16 : ST) (fun σ_17 => if x_6.toInt = 0 then F_X12_doubts_J92_2 X x_6 a f_1 v1 σ_17 else q_let (F_X12_cardsOf X σ_17 a f_1 : Int32) (fun r_45 => if r_45.toInt = 0 then q_let (q_si σ_17 (q_rf X a 20) (8 : Int32).toNatClampNeg f_1 : ST) (fun σ_48 => F_X12_doubts_J92_2 X x_6 a f_1 v1 σ_48) else F_X12_doubts_J92_2 X x_6 a f_1 v1 σ_17))) else q_let (f_14 + (0 : Int32) : Int32) (fun z_49 => q_let (q_si σ_12 (q_rf X a 20) z_13.toNatClampNeg z_49 : ST) (fun σ_50 => if x_6.toInt = 0 then F_X12_doubts_J92_5 X x_6 a f_1 v1 σ_50 else q_let (F_X12_cardsOf X σ_50 a f_1 : Int32) (fun r_78 => if r_78.toInt = 0 then q_let (q_si σ_50 (q_rf X a 20) (8 : Int32).toNatClampNeg f_1 : ST) (fun σ_81 => F_X12_doubts_J92_5 X x_6 a f_1 v1 σ_81) else F_X12_doubts_J92_5 X x_6 a f_1 v1 σ_50))))))))))

noncomputable def F_X12_doubts (X : XW) (σ : ST) (a : Nat) (v1 : Int32) : Int32 × ST :=
  q_let (σ.1 (q_rf X a 20) (6 : Int32).toNatClampNeg : Int32) (fun f_1 => q_let (σ.1 (q_rf X a 20) (9 : Int32).toNatClampNeg : Int32) (fun f_2 => q_let (f_2 - (1 : Int32) : Int32) (fun z_3 => q_let (F_X12_sortOf X σ a z_3 : Int32) (fun r_4 => if r_4.toInt = 0 then F_X12_doubts_J29_1 X σ a f_1 v1 (1 : Int32) else F_X12_doubts_J29_1 X σ a f_1 v1 (0 : Int32)))))

noncomputable def F_X12_laysDown_E107_2 (X : XW) (r_2 : Int32) (σ_10 : ST) (a : Nat) (x_8 : Int32) : ST :=
  q_let (r_2 + (2 : Int32) : Int32) (fun z_13 => q_let (q_si σ_10 (q_rf X a 20) z_13.toNatClampNeg x_8 : ST) (fun σ_14 => q_let (σ_14.1 (q_rf X a 20) (9 : Int32).toNatClampNeg : Int32) (fun f_15 => q_let (f_15 + (1 : Int32) : Int32) (fun z_16 => q_let (q_si σ_14 (q_rf X a 20) (9 : Int32).toNatClampNeg z_16 : ST) (fun σ_17 => q_let (q_si σ_17 (q_rf X a 20) (7 : Int32).toNatClampNeg (1 : Int32) : ST) (fun σ_18 => σ_18))))))

noncomputable def F_X12_laysDown_E79_4 (X : XW) (v1 : Int32) (x_9 : Int32) (σ_22 : ST) (a : Nat) (r2 : Nat) (B38_1 : Int32 → Int32 → ST → ST) (x_20 : Int32) : ST :=
  q_let ((10 : Int32) * v1 : Int32) (fun z_26 => q_let ((34 : Int32) + z_26 : Int32) (fun z_27 => q_let (z_27 + x_9 : Int32) (fun z_28 => q_let (σ_22.1 (q_rf X a 20) z_28.toNatClampNeg : Int32) (fun f_29 => q_let (σ_22.1 r2 x_9.toNatClampNeg : Int32) (fun f_30 => q_let (f_29 - f_30 : Int32) (fun z_31 => q_let (q_si σ_22 (q_rf X a 20) z_28.toNatClampNeg z_31 : ST) (fun σ_32 => q_let (x_9 + 1 : Int32) (fun z_33 => B38_1 x_20 z_33 σ_32))))))))

noncomputable def F_X12_laysDown_B48_3 (X : XW) (r2 : Nat) (x_9 : Int32) (r_2 : Int32) (a : Nat) (v1 : Int32) (B38_1 : Int32 → Int32 → ST → ST) (B48_3 : Int32 → Int32 → ST → ST) (x_20 : Int32) (x_21 : Int32) (σ_22 : ST) : ST :=
  q_let (σ_22.1 r2 x_9.toNatClampNeg : Int32) (fun f_24 => if x_21.toInt < f_24.toInt then q_let (r_2 + (3 : Int32) : Int32) (fun z_34 => q_let (z_34 + x_20 : Int32) (fun z_35 => q_let (q_si σ_22 (q_rf X a 20) z_35.toNatClampNeg x_9 : ST) (fun σ_36 => q_let (x_20 + 1 : Int32) (fun z_37 => q_let (x_21 + 1 : Int32) (fun z_38 => B48_3 z_37 z_38 σ_36))))) else F_X12_laysDown_E79_4 X v1 x_9 σ_22 a r2 B38_1 x_20)

noncomputable def F_X12_laysDown_L48_3 (X : XW) (r2 : Nat) (x_9 : Int32) (r_2 : Int32) (a : Nat) (v1 : Int32) (B38_1 : Int32 → Int32 → ST → ST) : Nat → Int32 → Int32 → ST → ST
  | 0 => fun x_20 x_21 σ_22 => σ_22
  | k_ + 1 => F_X12_laysDown_B48_3 X r2 x_9 r_2 a v1 B38_1 (F_X12_laysDown_L48_3 X r2 x_9 r_2 a v1 B38_1 k_)

theorem F_X12_laysDown_L48_3_s {X : XW} {r2 : Nat} {x_9 : Int32} {r_2 : Int32} {a : Nat} {v1 : Int32} {B38_1 : Int32 → Int32 → ST → ST} {k_ : Nat} {x_20 : Int32} {x_21 : Int32} {σ_22 : ST} : F_X12_laysDown_L48_3 X r2 x_9 r_2 a v1 B38_1 (k_ + 1) x_20 x_21 σ_22 = F_X12_laysDown_B48_3 X r2 x_9 r_2 a v1 B38_1 (F_X12_laysDown_L48_3 X r2 x_9 r_2 a v1 B38_1 k_) x_20 x_21 σ_22 := rfl

noncomputable def F_X12_laysDown_B38_1 (X : XW) (r2 : Nat) (r_2 : Int32) (a : Nat) (v1 : Int32) (B38_1 : Int32 → Int32 → ST → ST) (x_8 : Int32) (x_9 : Int32) (σ_10 : ST) : ST :=
  if x_9.toInt < 10 then F_X12_laysDown_L48_3 X r2 x_9 r_2 a v1 B38_1 ((2147483647 - (0 : Int32).toInt).toNat + 1) x_8 (0 : Int32) σ_10 else F_X12_laysDown_E107_2 X r_2 σ_10 a x_8

noncomputable def F_X12_laysDown_L38_1 (X : XW) (r2 : Nat) (r_2 : Int32) (a : Nat) (v1 : Int32) : Nat → Int32 → Int32 → ST → ST
  | 0 => fun x_8 x_9 σ_10 => σ_10
  | k_ + 1 => F_X12_laysDown_B38_1 X r2 r_2 a v1 (F_X12_laysDown_L38_1 X r2 r_2 a v1 k_)

theorem F_X12_laysDown_L38_1_s {X : XW} {r2 : Nat} {r_2 : Int32} {a : Nat} {v1 : Int32} {k_ : Nat} {x_8 : Int32} {x_9 : Int32} {σ_10 : ST} : F_X12_laysDown_L38_1 X r2 r_2 a v1 (k_ + 1) x_8 x_9 σ_10 = F_X12_laysDown_B38_1 X r2 r_2 a v1 (F_X12_laysDown_L38_1 X r2 r_2 a v1 k_) x_8 x_9 σ_10 := rfl

noncomputable def F_X12_laysDown (X : XW) (σ : ST) (a : Nat) (v1 : Int32) (r2 : Nat) : ST :=
  q_let (σ.1 (q_rf X a 20) (9 : Int32).toNatClampNeg : Int32) (fun f_1 => q_let (F_X12_laid X σ f_1 : Int32) (fun r_2 => q_let (q_si σ (q_rf X a 20) r_2.toNatClampNeg v1 : ST) (fun σ_4 => q_let (r_2 + (1 : Int32) : Int32) (fun z_5 => q_let (σ_4.1 (q_rf X a 20) (5 : Int32).toNatClampNeg : Int32) (fun f_6 => q_let (q_si σ_4 (q_rf X a 20) z_5.toNatClampNeg f_6 : ST) (fun σ_7 => F_X12_laysDown_L38_1 X r2 r_2 a v1 ((2147483647 - (0 : Int32).toInt).toNat + 1) (0 : Int32) (0 : Int32) σ_7))))))

noncomputable def F_X12_bend (X : XW) (σ : ST) (a : Nat) (v1 : Int32) (v2 : Int32) (v3 : Int32) : Int32 × ST :=
  q_let (q_si σ a 1 (0 : Int32) : ST) (fun σ_1 => q_let (q_si σ_1 a 0 (0 : Int32) : ST) (fun σ_2 => q_let (F_X12_isPlayerAt X σ_2 a v1 : Int32) (fun r_3 => if r_3.toInt = 0 then q_bi (F_X12_no X σ_2 a (2 : Int32)) (fun r_29 σ_30 => (r_29, σ_30)) else q_let (v2.toInt64 : Int64) (fun y_6 => q_let (F_X12_isIn X σ_2 y_6 (0 : Int64) (16 : Int64) : Int32) (fun r_9 => if r_9.toInt = 0 then q_bi (F_X12_no X σ_2 a (5 : Int32)) (fun r_13 σ_14 => (r_13, σ_14)) else q_let (v3.toInt64 : Int64) (fun y_15 => q_let (F_X12_isIn X σ_2 y_15 (0 : Int64) (16 : Int64) : Int32) (fun r_18 => if r_18.toInt = 0 then q_bi (F_X12_no X σ_2 a (5 : Int32)) (fun r_26 σ_27 => (r_26, σ_27)) else q_let ((10 : Int32) + v1 : Int32) (fun z_21 => q_let (q_si σ_2 (q_rf X a 20) z_21.toNatClampNeg v2 : ST) (fun σ_22 => q_let ((16 : Int32) + v1 : Int32) (fun z_23 => q_let (q_si σ_22 (q_rf X a 20) z_23.toNatClampNeg v3 : ST) (fun σ_24 => ((1 : Int32), σ_24))))))))))))

noncomputable def F_X12_leave (X : XW) (σ : ST) (a : Nat) : Int32 × ST :=
  q_let (q_si σ a 1 (0 : Int32) : ST) (fun σ_1 => q_let (q_si σ_1 a 0 (0 : Int32) : ST) (fun σ_2 => q_let (σ_2.1 (q_rf X a 20) (7 : Int32).toNatClampNeg : Int32) (fun f_3 => if f_3.toInt = 0 then q_bi (F_X12_refuse X σ_2 a (8 : Int32)) (fun r_9 σ_10 => (r_9, σ_10)) else q_let (F_X12_leaves X σ_2 a : ST) (fun σ_6 => q_let (σ_6.1 (q_rf X a 20) (6 : Int32).toNatClampNeg : Int32) (fun f_7 => (f_7, σ_6))))))

noncomputable def F_X12_doubt (X : XW) (σ : ST) (a : Nat) (v1 : Int32) : Int32 × ST :=
  q_let (q_si σ a 1 (0 : Int32) : ST) (fun σ_1 => q_let (q_si σ_1 a 0 (0 : Int32) : ST) (fun σ_2 => q_let (F_X12_isPlayerAt X σ_2 a v1 : Int32) (fun r_3 => if r_3.toInt = 0 then q_bi (F_X12_refuse X σ_2 a (2 : Int32)) (fun r_19 σ_20 => (r_19, σ_20)) else q_let (σ_2.1 (q_rf X a 20) (7 : Int32).toNatClampNeg : Int32) (fun f_6 => if f_6.toInt = 0 then q_bi (F_X12_refuse X σ_2 a (8 : Int32)) (fun r_16 σ_17 => (r_16, σ_17)) else q_let (σ_2.1 (q_rf X a 20) (6 : Int32).toNatClampNeg : Int32) (fun f_8 => if f_8.toInt = v1.toInt then q_bi (F_X12_refuse X σ_2 a (5 : Int32)) (fun r_13 σ_14 => (r_13, σ_14)) else q_bi (F_X12_doubts X σ_2 a v1) (fun r_10 σ_11 => (r_10, σ_11)))))))

noncomputable def F_X12_lay_E335_6 (X : XW) (σ_15 : ST) (a : Nat) : Int32 × ST :=
  q_let (σ_15.1 (q_rf X a 20) (6 : Int32).toNatClampNeg : Int32) (fun f_40 => q_let (F_X12_laysDown X σ_15 a f_40 (q_rf X a 28) : ST) (fun σ_42 => q_let (F_X12_heapMany X σ_42 a : Int32) (fun r_43 => (r_43, σ_42))))

noncomputable def F_X12_lay_E322_7 (X : XW) (σ_15 : ST) (a : Nat) : Int32 × ST :=
  q_bi (F_X12_refuse X σ_15 a (9 : Int32)) (fun r_52 σ_53 => (r_52, σ_53))

noncomputable def F_X12_lay_B292_5 (X : XW) (σ_15 : ST) (a : Nat) (B292_5 : Int32 → Int32 × ST) (x_37 : Int32) : Int32 × ST :=
  if x_37.toInt < 10 then q_let (σ_15.1 (q_rf X a 28) x_37.toNatClampNeg : Int32) (fun f_45 => q_let (σ_15.1 (q_rf X a 20) (6 : Int32).toNatClampNeg : Int32) (fun f_46 => q_let (F_X12_handOf X σ_15 a f_46 x_37 : Int32) (fun r_47 => if r_47.toInt < f_45.toInt then F_X12_lay_E322_7 X σ_15 a else q_let (x_37 + 1 : Int32) (fun z_50 => B292_5 z_50)))) else F_X12_lay_E335_6 X σ_15 a

noncomputable def F_X12_lay_L292_5 (X : XW) (σ_15 : ST) (a : Nat) : Nat → Int32 → Int32 × ST
  | 0 => fun x_37 => ((0 : Int32), σ_15)
  | k_ + 1 => F_X12_lay_B292_5 X σ_15 a (F_X12_lay_L292_5 X σ_15 a k_)

theorem F_X12_lay_L292_5_s {X : XW} {σ_15 : ST} {a : Nat} {k_ : Nat} {x_37 : Int32} : F_X12_lay_L292_5 X σ_15 a (k_ + 1) x_37 = F_X12_lay_B292_5 X σ_15 a (F_X12_lay_L292_5 X σ_15 a k_) x_37 := rfl

noncomputable def F_X12_lay_E217_7 (X : XW) (x_11 : Int32) (σ_15 : ST) (a : Nat) (x_12 : Int32) : Int32 × ST :=
  if x_11.toInt = 0 then q_bi (F_X12_refuse X σ_15 a (5 : Int32)) (fun r_20 σ_21 => (r_20, σ_21)) else if x_12.toInt = 0 then q_let (σ_15.1 (q_rf X a 20) (4 : Int32).toNatClampNeg : Int32) (fun f_23 => if f_23.toInt < x_11.toInt then q_bi (F_X12_refuse X σ_15 a (7 : Int32)) (fun r_59 σ_60 => (r_59, σ_60)) else q_let (σ_15.1 (q_rf X a 20) (7 : Int32).toNatClampNeg : Int32) (fun f_25 => if f_25.toInt = 1 then q_bi (F_X12_refuse X σ_15 a (9 : Int32)) (fun r_28 σ_29 => (r_28, σ_29)) else q_let (σ_15.1 (q_rf X a 20) (8 : Int32).toNatClampNeg : Int32) (fun f_30 => if f_30.toInt < 0 then q_let (σ_15.1 (q_rf X a 20) (6 : Int32).toNatClampNeg : Int32) (fun f_35 => if f_35.toInt < 0 then q_bi (F_X12_refuse X σ_15 a (9 : Int32)) (fun r_56 σ_57 => (r_56, σ_57)) else F_X12_lay_L292_5 X σ_15 a ((2147483647 - (0 : Int32).toInt).toNat + 1) (0 : Int32)) else q_bi (F_X12_refuse X σ_15 a (9 : Int32)) (fun r_33 σ_34 => (r_33, σ_34))))) else q_bi (F_X12_refuse X σ_15 a (5 : Int32)) (fun r_62 σ_63 => (r_62, σ_63))

noncomputable def F_X12_lay_J161_10 (X : XW) (σ_15 : ST) (a : Nat) (x_14 : Int32) (x_11 : Int32) (B75_3 : Int32 → Int32 → Int32 → Int32 → ST → Int32 × ST) (x_65 : Int32) (x_66 : Int32) : Int32 × ST :=
  q_let (σ_15.1 (q_rf X a 29) x_14.toNatClampNeg : Int32) (fun f_67 => if f_67.toInt = (-1) then q_let (x_11 + (0 : Int32) : Int32) (fun z_78 => q_let (σ_15.1 (q_rf X a 29) x_14.toNatClampNeg : Int32) (fun f_79 => if f_79.toInt = (-1) then q_let (x_14 + 1 : Int32) (fun z_81 => B75_3 z_78 x_66 x_65 z_81 σ_15) else q_let (σ_15.1 (q_rf X a 29) x_14.toNatClampNeg : Int32) (fun f_82 => q_let (σ_15.1 (q_rf X a 28) f_82.toNatClampNeg : Int32) (fun f_83 => q_let (f_83 + (1 : Int32) : Int32) (fun z_84 => q_let (q_si σ_15 (q_rf X a 28) f_82.toNatClampNeg z_84 : ST) (fun σ_85 => q_let (x_14 + 1 : Int32) (fun z_86 => B75_3 z_78 x_66 x_65 z_86 σ_85))))))) else q_let (x_11 + (1 : Int32) : Int32) (fun z_69 => q_let (σ_15.1 (q_rf X a 29) x_14.toNatClampNeg : Int32) (fun f_70 => if f_70.toInt = (-1) then q_let (x_14 + 1 : Int32) (fun z_72 => B75_3 z_69 x_66 x_65 z_72 σ_15) else q_let (σ_15.1 (q_rf X a 29) x_14.toNatClampNeg : Int32) (fun f_73 => q_let (σ_15.1 (q_rf X a 28) f_73.toNatClampNeg : Int32) (fun f_74 => q_let (f_74 + (1 : Int32) : Int32) (fun z_75 => q_let (q_si σ_15 (q_rf X a 28) f_73.toNatClampNeg z_75 : ST) (fun σ_76 => q_let (x_14 + 1 : Int32) (fun z_77 => B75_3 z_69 x_66 x_65 z_77 σ_76))))))))

noncomputable def F_X12_lay_J133_9 (X : XW) (x_12 : Int32) (σ_15 : ST) (a : Nat) (x_14 : Int32) (x_11 : Int32) (B75_3 : Int32 → Int32 → Int32 → Int32 → ST → Int32 × ST) (x_65 : Int32) : Int32 × ST :=
  if x_12.toInt = 0 then if x_65.toInt = 0 then F_X12_lay_J161_10 X σ_15 a x_14 x_11 B75_3 x_65 (0 : Int32) else q_let (σ_15.1 (q_rf X a 29) x_14.toNatClampNeg : Int32) (fun f_89 => if f_89.toInt = (-1) then F_X12_lay_J161_10 X σ_15 a x_14 x_11 B75_3 x_65 (0 : Int32) else F_X12_lay_J161_10 X σ_15 a x_14 x_11 B75_3 x_65 (1 : Int32)) else F_X12_lay_J161_10 X σ_15 a x_14 x_11 B75_3 x_65 (1 : Int32)

noncomputable def F_X12_lay_J112_8 (X : XW) (x_13 : Int32) (σ_15 : ST) (a : Nat) (x_14 : Int32) (x_12 : Int32) (x_11 : Int32) (B75_3 : Int32 → Int32 → Int32 → Int32 → ST → Int32 × ST) : Int32 × ST :=
  if x_13.toInt = 0 then q_let (σ_15.1 (q_rf X a 29) x_14.toNatClampNeg : Int32) (fun f_92 => if f_92.toInt = (-1) then F_X12_lay_J133_9 X x_12 σ_15 a x_14 x_11 B75_3 (1 : Int32) else F_X12_lay_J133_9 X x_12 σ_15 a x_14 x_11 B75_3 (0 : Int32)) else F_X12_lay_J133_9 X x_12 σ_15 a x_14 x_11 B75_3 (1 : Int32)

noncomputable def F_X12_lay_E106_11 (X : XW) (σ_15 : ST) (a : Nat) : Int32 × ST :=
  q_bi (F_X12_refuse X σ_15 a (2 : Int32)) (fun r_100 σ_101 => (r_100, σ_101))

noncomputable def F_X12_lay_B75_3 (X : XW) (a : Nat) (B75_3 : Int32 → Int32 → Int32 → Int32 → ST → Int32 × ST) (x_11 : Int32) (x_12 : Int32) (x_13 : Int32) (x_14 : Int32) (σ_15 : ST) : Int32 × ST :=
  if x_14.toInt < 4 then q_let (σ_15.1 (q_rf X a 29) x_14.toNatClampNeg : Int32) (fun f_64 => if f_64.toInt = (-1) then F_X12_lay_J112_8 X x_13 σ_15 a x_14 x_12 x_11 B75_3 else q_let (σ_15.1 (q_rf X a 29) x_14.toNatClampNeg : Int32) (fun f_95 => q_let (F_X12_isKindAt X σ_15 a f_95 : Int32) (fun r_96 => if r_96.toInt = 0 then F_X12_lay_E106_11 X σ_15 a else F_X12_lay_J112_8 X x_13 σ_15 a x_14 x_12 x_11 B75_3))) else F_X12_lay_E217_7 X x_11 σ_15 a x_12

noncomputable def F_X12_lay_L75_3 (X : XW) (a : Nat) : Nat → Int32 → Int32 → Int32 → Int32 → ST → Int32 × ST
  | 0 => fun x_11 x_12 x_13 x_14 σ_15 => ((0 : Int32), σ_15)
  | k_ + 1 => F_X12_lay_B75_3 X a (F_X12_lay_L75_3 X a k_)

theorem F_X12_lay_L75_3_s {X : XW} {a : Nat} {k_ : Nat} {x_11 : Int32} {x_12 : Int32} {x_13 : Int32} {x_14 : Int32} {σ_15 : ST} : F_X12_lay_L75_3 X a (k_ + 1) x_11 x_12 x_13 x_14 σ_15 = F_X12_lay_B75_3 X a (F_X12_lay_L75_3 X a k_) x_11 x_12 x_13 x_14 σ_15 := rfl

noncomputable def F_X12_lay_B42_1 (X : XW) (a : Nat) (B42_1 : Int32 → ST → Int32 × ST) (x_7 : Int32) (σ_8 : ST) : Int32 × ST :=
  if x_7.toInt < 10 then q_let (q_si σ_8 (q_rf X a 28) x_7.toNatClampNeg (0 : Int32) : ST) (fun σ_103 => q_let (x_7 + 1 : Int32) (fun z_105 => B42_1 z_105 σ_103)) else F_X12_lay_L75_3 X a ((2147483647 - (0 : Int32).toInt).toNat + 1) (0 : Int32) (0 : Int32) (0 : Int32) (0 : Int32) σ_8

noncomputable def F_X12_lay_L42_1 (X : XW) (a : Nat) : Nat → Int32 → ST → Int32 × ST
  | 0 => fun x_7 σ_8 => ((0 : Int32), σ_8)
  | k_ + 1 => F_X12_lay_B42_1 X a (F_X12_lay_L42_1 X a k_)

theorem F_X12_lay_L42_1_s {X : XW} {a : Nat} {k_ : Nat} {x_7 : Int32} {σ_8 : ST} : F_X12_lay_L42_1 X a (k_ + 1) x_7 σ_8 = F_X12_lay_B42_1 X a (F_X12_lay_L42_1 X a k_) x_7 σ_8 := rfl

noncomputable def F_X12_lay (X : XW) (σ : ST) (a : Nat) (v1 : Int32) (v2 : Int32) (v3 : Int32) (v4 : Int32) : Int32 × ST :=
  q_let (q_si σ a 1 (0 : Int32) : ST) (fun σ_1 => q_let (q_si σ_1 a 0 (0 : Int32) : ST) (fun σ_2 => q_let (q_si σ_2 (q_rf X a 29) (0 : Int32).toNatClampNeg v1 : ST) (fun σ_3 => q_let (q_si σ_3 (q_rf X a 29) (1 : Int32).toNatClampNeg v2 : ST) (fun σ_4 => q_let (q_si σ_4 (q_rf X a 29) (2 : Int32).toNatClampNeg v3 : ST) (fun σ_5 => q_let (q_si σ_5 (q_rf X a 29) (3 : Int32).toNatClampNeg v4 : ST) (fun σ_6 => F_X12_lay_L42_1 X a ((2147483647 - (0 : Int32).toInt).toNat + 1) (0 : Int32) σ_6))))))

noncomputable def F_X12_turns_E271_6 (X : XW) (σ_36 : ST) (a : Nat) : Int32 × ST :=
  q_let (F_X12_leaves X σ_36 a : ST) (fun σ_40 => ((1 : Int32), σ_40))

noncomputable def F_X12_turns_E224_7 (X : XW) (σ_36 : ST) (a : Nat) (x_35 : Int32) (f_11 : Int32) : Int32 × ST :=
  q_let (σ_36.1 a 43 : Int32) (fun f_44 => q_let (f_44 + (1 : Int32) : Int32) (fun z_45 => q_let (q_si σ_36 a 43 z_45 : ST) (fun σ_46 => q_let (σ_46.1 a 44 : Int32) (fun f_47 => q_bi (F_X12_doubts X σ_46 a x_35) (fun r_48 σ_49 => if r_48.toInt = f_11.toInt then q_let (f_47 + (1 : Int32) : Int32) (fun z_53 => q_let (q_si σ_49 a 44 z_53 : ST) (fun σ_54 => ((1 : Int32), σ_54))) else q_let (f_47 + (0 : Int32) : Int32) (fun z_51 => q_let (q_si σ_49 a 44 z_51 : ST) (fun σ_52 => ((1 : Int32), σ_52))))))))

noncomputable def F_X12_turns_E224_8 (X : XW) (σ_56 : ST) (a : Nat) (x_35 : Int32) (f_11 : Int32) : Int32 × ST :=
  q_let (σ_56.1 a 43 : Int32) (fun f_60 => q_let (f_60 + (1 : Int32) : Int32) (fun z_61 => q_let (q_si σ_56 a 43 z_61 : ST) (fun σ_62 => q_let (σ_62.1 a 44 : Int32) (fun f_63 => q_bi (F_X12_doubts X σ_62 a x_35) (fun r_64 σ_65 => if r_64.toInt = f_11.toInt then q_let (f_63 + (1 : Int32) : Int32) (fun z_69 => q_let (q_si σ_65 a 44 z_69 : ST) (fun σ_70 => ((1 : Int32), σ_70))) else q_let (f_63 + (0 : Int32) : Int32) (fun z_67 => q_let (q_si σ_65 a 44 z_67 : ST) (fun σ_68 => ((1 : Int32), σ_68))))))))

noncomputable def F_X12_turns_B189_5 (X : XW) (f_11 : Int32) (a : Nat) (B189_5 : Int32 → ST → Int32 × ST) (x_35 : Int32) (σ_36 : ST) : Int32 × ST :=
  if x_35.toInt = f_11.toInt then F_X12_turns_E271_6 X σ_36 a else q_let (F_X12_isImpossible X σ_36 a x_35 : Int32) (fun r_41 => if r_41.toInt = 0 then q_bi (F_X12_draw X σ_36 a) (fun r_55 σ_56 => q_let ((16 : Int32) + x_35 : Int32) (fun z_57 => q_let (σ_56.1 (q_rf X a 20) z_57.toNatClampNeg : Int32) (fun f_58 => if r_55.toInt < f_58.toInt then F_X12_turns_E224_8 X σ_56 a x_35 f_11 else q_let (F_X12_behindOf X σ_56 a x_35 : Int32) (fun r_71 => B189_5 r_71 σ_56)))) else F_X12_turns_E224_7 X σ_36 a x_35 f_11)

noncomputable def F_X12_turns_L189_5 (X : XW) (f_11 : Int32) (a : Nat) : Nat → Int32 → ST → Int32 × ST
  | 0 => fun x_35 σ_36 => ((0 : Int32), σ_36)
  | k_ + 1 => F_X12_turns_B189_5 X f_11 a (F_X12_turns_L189_5 X f_11 a k_)

theorem F_X12_turns_L189_5_s {X : XW} {f_11 : Int32} {a : Nat} {k_ : Nat} {x_35 : Int32} {σ_36 : ST} : F_X12_turns_L189_5 X f_11 a (k_ + 1) x_35 σ_36 = F_X12_turns_B189_5 X f_11 a (F_X12_turns_L189_5 X f_11 a k_) x_35 σ_36 := rfl

noncomputable def F_X12_turns_J163_4 (X : XW) (a : Nat) (f_11 : Int32) (σ_27 : ST) : Int32 × ST :=
  q_let (F_X12_laysDown X σ_27 a f_11 (q_rf X a 28) : ST) (fun σ_29 => q_let (σ_29.1 a 42 : Int32) (fun f_30 => q_let (f_30 + (1 : Int32) : Int32) (fun z_31 => q_let (q_si σ_29 a 42 z_31 : ST) (fun σ_32 => q_let (F_X12_behindOf X σ_32 a f_11 : Int32) (fun r_33 => F_X12_turns_L189_5 X f_11 a ((f_11.toInt - r_33.toInt + 20 * min 1 (max 0 (r_33.toInt - f_11.toInt))).toNat + 1) r_33 σ_32)))))

noncomputable def F_X12_turns_E80_8 (X : XW) (σ_13 : ST) (a : Nat) (f_11 : Int32) : Int32 × ST :=
  q_let (σ_13.1 (q_rf X a 20) (4 : Int32).toNatClampNeg : Int32) (fun f_16 => q_let (σ_13.1 (q_rf X a 20) (5 : Int32).toNatClampNeg : Int32) (fun f_17 => q_let (F_X12_handOf X σ_13 a f_11 f_17 : Int32) (fun r_18 => q_let (F_J9_min_7cf53 X σ_13 f_16 r_18 : Int32) (fun r_20 => q_let (σ_13.1 (q_rf X a 20) (5 : Int32).toNatClampNeg : Int32) (fun f_22 => q_let (q_si σ_13 (q_rf X a 28) f_22.toNatClampNeg r_20 : ST) (fun σ_23 => q_let (F_X12_otherKind X σ_23 a f_11 : Int32) (fun r_24 => q_let (σ_23.1 (q_rf X a 20) (4 : Int32).toNatClampNeg : Int32) (fun f_26 => if r_20.toInt < f_26.toInt then if r_24.toInt < 0 then F_X12_turns_J163_4 X a f_11 σ_23 else if r_20.toInt = 0 then q_let (σ_23.1 (q_rf X a 28) r_24.toNatClampNeg : Int32) (fun f_76 => q_let (f_76 + (1 : Int32) : Int32) (fun z_77 => q_let (q_si σ_23 (q_rf X a 28) r_24.toNatClampNeg z_77 : ST) (fun σ_78 => F_X12_turns_J163_4 X a f_11 σ_78))) else q_bi (F_X12_draw X σ_23 a) (fun r_79 σ_80 => q_let ((10 : Int32) + f_11 : Int32) (fun z_81 => q_let (σ_80.1 (q_rf X a 20) z_81.toNatClampNeg : Int32) (fun f_82 => if r_79.toInt < f_82.toInt then q_let (σ_80.1 (q_rf X a 28) r_24.toNatClampNeg : Int32) (fun f_84 => q_let (f_84 + (1 : Int32) : Int32) (fun z_85 => q_let (q_si σ_80 (q_rf X a 28) r_24.toNatClampNeg z_85 : ST) (fun σ_86 => F_X12_turns_J163_4 X a f_11 σ_86))) else F_X12_turns_J163_4 X a f_11 σ_80))) else F_X12_turns_J163_4 X a f_11 σ_23))))))))

noncomputable def F_X12_turns_B61_2 (X : XW) (a : Nat) (f_11 : Int32) (B61_2 : Int32 → ST → Int32 × ST) (x_12 : Int32) (σ_13 : ST) : Int32 × ST :=
  if x_12.toInt < 10 then q_let (q_si σ_13 (q_rf X a 28) x_12.toNatClampNeg (0 : Int32) : ST) (fun σ_87 => q_let (x_12 + 1 : Int32) (fun z_89 => B61_2 z_89 σ_87)) else F_X12_turns_E80_8 X σ_13 a f_11

noncomputable def F_X12_turns_L61_2 (X : XW) (a : Nat) (f_11 : Int32) : Nat → Int32 → ST → Int32 × ST
  | 0 => fun x_12 σ_13 => ((0 : Int32), σ_13)
  | k_ + 1 => F_X12_turns_B61_2 X a f_11 (F_X12_turns_L61_2 X a f_11 k_)

theorem F_X12_turns_L61_2_s {X : XW} {a : Nat} {f_11 : Int32} {k_ : Nat} {x_12 : Int32} {σ_13 : ST} : F_X12_turns_L61_2 X a f_11 (k_ + 1) x_12 σ_13 = F_X12_turns_B61_2 X a f_11 (F_X12_turns_L61_2 X a f_11 k_) x_12 σ_13 := rfl

noncomputable def F_X12_turns_J15_1 (X : XW) (a : Nat) (σ_2 : ST) : Int32 × ST :=
  q_let (σ_2.1 (q_rf X a 20) (8 : Int32).toNatClampNeg : Int32) (fun f_3 => if f_3.toInt < 0 then q_let (σ_2.1 (q_rf X a 20) (2 : Int32).toNatClampNeg : Int32) (fun f_5 => if f_5.toInt < 2 then ((0 : Int32), σ_2) else q_let (σ_2.1 (q_rf X a 20) (6 : Int32).toNatClampNeg : Int32) (fun f_7 => q_let (F_X12_cardsOf X σ_2 a f_7 : Int32) (fun r_8 => if r_8.toInt = 0 then ((0 : Int32), σ_2) else q_let (σ_2.1 (q_rf X a 20) (6 : Int32).toNatClampNeg : Int32) (fun f_11 => F_X12_turns_L61_2 X a f_11 ((2147483647 - (0 : Int32).toInt).toNat + 1) (0 : Int32) σ_2)))) else ((0 : Int32), σ_2))

noncomputable def F_X12_turns (X : XW) (σ : ST) (a : Nat) : Int32 × ST :=
  q_let (σ.1 (q_rf X a 20) (7 : Int32).toNatClampNeg : Int32) (fun f_1 => if f_1.toInt = 1 then q_let (F_X12_leaves X σ a : ST) (fun σ_93 => F_X12_turns_J15_1 X a σ_93) else F_X12_turns_J15_1 X a σ)

noncomputable def F_X12_does (X : XW) (σ : ST) (a : Nat) (v1 : Int32) : Int32 × ST :=
  q_let (σ.1 (q_rf X a 20) v1.toNatClampNeg : Int32) (fun f_1 => if f_1.toInt = 0 then q_bi (F_X12_turns X σ a) (fun r_16 σ_17 => (r_16, σ_17)) else if f_1.toInt = 1 then q_let (v1 + (1 : Int32) : Int32) (fun z_10 => q_let (σ.1 (q_rf X a 20) z_10.toNatClampNeg : Int32) (fun f_11 => q_let ((10 : Int32) + f_11 : Int32) (fun z_12 => q_let (v1 + (2 : Int32) : Int32) (fun z_13 => q_let (σ.1 (q_rf X a 20) z_13.toNatClampNeg : Int32) (fun f_14 => q_let (q_si σ (q_rf X a 20) z_12.toNatClampNeg f_14 : ST) (fun σ_15 => ((1 : Int32), σ_15))))))) else q_let (v1 + (1 : Int32) : Int32) (fun z_4 => q_let (σ.1 (q_rf X a 20) z_4.toNatClampNeg : Int32) (fun f_5 => q_let ((16 : Int32) + f_5 : Int32) (fun z_6 => q_let (v1 + (2 : Int32) : Int32) (fun z_7 => q_let (σ.1 (q_rf X a 20) z_7.toNatClampNeg : Int32) (fun f_8 => q_let (q_si σ (q_rf X a 20) z_6.toNatClampNeg f_8 : ST) (fun σ_9 => ((1 : Int32), σ_9))))))))

noncomputable def F_X12_doAll_z_B2_1 (X : XW) (v2 : Int32) (B2_1 : Int32 → ST → ST) (x_1 : Int32) (σ_2 : ST) : ST :=
  if x_1.toInt < v2.toInt then σ_2 else σ_2

noncomputable def F_X12_doAll_z_L2_1 (X : XW) (v2 : Int32) : Nat → Int32 → ST → ST
  | 0 => fun x_1 σ_2 => σ_2
  | k_ + 1 => F_X12_doAll_z_B2_1 X v2 (F_X12_doAll_z_L2_1 X v2 k_)

theorem F_X12_doAll_z_L2_1_s {X : XW} {v2 : Int32} {k_ : Nat} {x_1 : Int32} {σ_2 : ST} : F_X12_doAll_z_L2_1 X v2 (k_ + 1) x_1 σ_2 = F_X12_doAll_z_B2_1 X v2 (F_X12_doAll_z_L2_1 X v2 k_) x_1 σ_2 := rfl

noncomputable def F_X12_doAll_z (X : XW) (σ : ST) (a : Nat) (v1 : Int32) (v2 : Int32) : ST :=
  F_X12_doAll_z_L2_1 X v2 ((31 - v1.toInt).toNat + 1) v1 σ

noncomputable def F_X12_doOne_s_B117_1 (X : XW) (z_7 : Int32) (a : Nat) (v1 : Int32) (FA : ST → Int32 → Int32 → ST) (B117_1 : Int32 → ST → ST) (x_14 : Int32) (σ_15 : ST) : ST :=
  q_let (z_7 + (1 : Int32) : Int32) (fun z_17 => q_let (σ_15.1 (q_rf X a 20) z_17.toNatClampNeg : Int32) (fun f_18 => if x_14.toInt < f_18.toInt then q_let (σ_15.1 a 38 : Int32) (fun f_20 => if f_20.toInt = 0 then q_let (v1 + (1 : Int32) : Int32) (fun z_22 => q_let (z_7 + (8 : Int32) : Int32) (fun z_23 => q_let (σ_15.1 (q_rf X a 20) z_23.toNatClampNeg : Int32) (fun f_24 => q_let (FA σ_15 z_22 f_24 : ST) (fun σ_26 => q_let (x_14 + 1 : Int32) (fun z_27 => B117_1 z_27 σ_26))))) else σ_15) else σ_15))

noncomputable def F_X12_doOne_s_L117_1 (X : XW) (z_7 : Int32) (a : Nat) (v1 : Int32) (FA : ST → Int32 → Int32 → ST) : Nat → Int32 → ST → ST
  | 0 => fun x_14 σ_15 => σ_15
  | k_ + 1 => F_X12_doOne_s_B117_1 X z_7 a v1 FA (F_X12_doOne_s_L117_1 X z_7 a v1 FA k_)

theorem F_X12_doOne_s_L117_1_s {X : XW} {z_7 : Int32} {a : Nat} {v1 : Int32} {FA : ST → Int32 → Int32 → ST} {k_ : Nat} {x_14 : Int32} {σ_15 : ST} : F_X12_doOne_s_L117_1 X z_7 a v1 FA (k_ + 1) x_14 σ_15 = F_X12_doOne_s_B117_1 X z_7 a v1 FA (F_X12_doOne_s_L117_1 X z_7 a v1 FA k_) x_14 σ_15 := rfl

noncomputable def F_X12_doOne_s_B117_4 (X : XW) (z_7 : Int32) (a : Nat) (v1 : Int32) (FA : ST → Int32 → Int32 → ST) (B117_4 : Int32 → ST → ST) (x_35 : Int32) (σ_36 : ST) : ST :=
  q_let (z_7 + (1 : Int32) : Int32) (fun z_38 => q_let (σ_36.1 (q_rf X a 20) z_38.toNatClampNeg : Int32) (fun f_39 => if x_35.toInt < f_39.toInt then q_let (σ_36.1 a 38 : Int32) (fun f_41 => if f_41.toInt = 0 then q_let (v1 + (1 : Int32) : Int32) (fun z_43 => q_let (z_7 + (8 : Int32) : Int32) (fun z_44 => q_let (σ_36.1 (q_rf X a 20) z_44.toNatClampNeg : Int32) (fun f_45 => q_let (FA σ_36 z_43 f_45 : ST) (fun σ_47 => q_let (x_35 + 1 : Int32) (fun z_48 => B117_4 z_48 σ_47))))) else σ_36) else σ_36))

noncomputable def F_X12_doOne_s_L117_4 (X : XW) (z_7 : Int32) (a : Nat) (v1 : Int32) (FA : ST → Int32 → Int32 → ST) : Nat → Int32 → ST → ST
  | 0 => fun x_35 σ_36 => σ_36
  | k_ + 1 => F_X12_doOne_s_B117_4 X z_7 a v1 FA (F_X12_doOne_s_L117_4 X z_7 a v1 FA k_)

theorem F_X12_doOne_s_L117_4_s {X : XW} {z_7 : Int32} {a : Nat} {v1 : Int32} {FA : ST → Int32 → Int32 → ST} {k_ : Nat} {x_35 : Int32} {σ_36 : ST} : F_X12_doOne_s_L117_4 X z_7 a v1 FA (k_ + 1) x_35 σ_36 = F_X12_doOne_s_B117_4 X z_7 a v1 FA (F_X12_doOne_s_L117_4 X z_7 a v1 FA k_) x_35 σ_36 := rfl

noncomputable def F_X12_doOne_s (X : XW) (σ : ST) (a : Nat) (v1 : Int32) (FA : ST → Int32 → Int32 → ST) : ST :=
  q_let (σ.1 a 40 : Int32) (fun f_1 => if f_1.toInt = 300 then q_let (q_si σ a 38 (1 : Int32) : ST) (fun σ_63 => q_let (q_si σ_63 a 45 (1 : Int32) : ST) (fun σ_64 => σ_64)) else q_let (σ.1 a 40 : Int32) (fun f_3 => q_let (f_3 + (1 : Int32) : Int32) (fun z_4 => q_let (q_si σ a 40 z_4 : ST) (fun σ_5 => q_let ((9 : Int32) * v1 : Int32) (fun z_6 => q_let ((656 : Int32) + z_6 : Int32) (fun z_7 => q_let (σ_5.1 (q_rf X a 20) z_7.toNatClampNeg : Int32) (fun f_8 => if f_8.toInt < 3 then q_let (σ_5.1 a 41 : Int32) (fun f_55 => q_bi (F_X12_does X σ_5 a z_7) (fun r_56 σ_57 => if r_56.toInt = 0 then q_let (f_55 + (1 : Int32) : Int32) (fun z_59 => q_let (q_si σ_57 a 41 z_59 : ST) (fun σ_60 => σ_60)) else q_let (f_55 + (0 : Int32) : Int32) (fun z_61 => q_let (q_si σ_57 a 41 z_61 : ST) (fun σ_62 => σ_62)))) else if f_8.toInt = 3 then q_let (F_X12_isSo X σ_5 a z_7 : Int32) (fun r_29 => if r_29.toInt = 0 then if f_8.toInt = 4 then F_X12_doOne_s_L117_4 X z_7 a v1 FA ((2147483647 - (0 : Int32).toInt).toNat + 1) (0 : Int32) σ_5 else if 4 < f_8.toInt then q_let (q_si σ_5 a 38 (1 : Int32) : ST) (fun σ_34 => σ_34) else σ_5 else q_let (v1 + (1 : Int32) : Int32) (fun z_50 => q_let (z_7 + (8 : Int32) : Int32) (fun z_51 => q_let (σ_5.1 (q_rf X a 20) z_51.toNatClampNeg : Int32) (fun f_52 => q_let (FA σ_5 z_50 f_52 : ST) (fun σ_54 => σ_54))))) else if f_8.toInt = 4 then F_X12_doOne_s_L117_1 X z_7 a v1 FA ((2147483647 - (0 : Int32).toInt).toNat + 1) (0 : Int32) σ_5 else if 4 < f_8.toInt then q_let (q_si σ_5 a 38 (1 : Int32) : ST) (fun σ_13 => σ_13) else σ_5)))))))

noncomputable def F_X12_doAll_s_B2_1 (X : XW) (v2 : Int32) (a : Nat) (FO : ST → Int32 → ST) (B2_1 : Int32 → ST → ST) (x_1 : Int32) (σ_2 : ST) : ST :=
  if x_1.toInt < v2.toInt then q_let (σ_2.1 a 38 : Int32) (fun f_5 => if f_5.toInt = 0 then q_let (FO σ_2 x_1 : ST) (fun σ_8 => q_let ((9 : Int32) * x_1 : Int32) (fun z_9 => q_let ((656 : Int32) + z_9 : Int32) (fun z_10 => q_let (z_10 + (8 : Int32) : Int32) (fun z_11 => q_let (σ_8.1 (q_rf X a 20) z_11.toNatClampNeg : Int32) (fun f_12 => B2_1 f_12 σ_8))))) else σ_2) else σ_2

noncomputable def F_X12_doAll_s_L2_1 (X : XW) (v2 : Int32) (a : Nat) (FO : ST → Int32 → ST) : Nat → Int32 → ST → ST
  | 0 => fun x_1 σ_2 => σ_2
  | k_ + 1 => F_X12_doAll_s_B2_1 X v2 a FO (F_X12_doAll_s_L2_1 X v2 a FO k_)

theorem F_X12_doAll_s_L2_1_s {X : XW} {v2 : Int32} {a : Nat} {FO : ST → Int32 → ST} {k_ : Nat} {x_1 : Int32} {σ_2 : ST} : F_X12_doAll_s_L2_1 X v2 a FO (k_ + 1) x_1 σ_2 = F_X12_doAll_s_B2_1 X v2 a FO (F_X12_doAll_s_L2_1 X v2 a FO k_) x_1 σ_2 := rfl

noncomputable def F_X12_doAll_s (X : XW) (σ : ST) (a : Nat) (v1 : Int32) (v2 : Int32) (FO : ST → Int32 → ST) : ST :=
  F_X12_doAll_s_L2_1 X v2 a FO ((31 - v1.toInt).toNat + 1) v1 σ

noncomputable def F_X12_doAllN (X : XW) (a : Nat) : Nat → ST → Int32 → Int32 → ST
  | 0 => fun σ v1 v2 => F_X12_doAll_z X σ a v1 v2
  | d + 1 => fun σ v1 v2 => F_X12_doAll_s X σ a v1 v2 (fun τ w => F_X12_doOne_s X τ a w (F_X12_doAllN X a d))

noncomputable def F_X12_plays (X : XW) (σ : ST) (a : Nat) (v1 : Int32) : ST :=
  q_let (q_si σ a 39 v1 : ST) (fun σ_1 => q_let (q_si σ_1 a 40 (0 : Int32) : ST) (fun σ_2 => q_let (q_si σ_2 a 41 (0 : Int32) : ST) (fun σ_3 => q_let (q_si σ_3 a 42 (0 : Int32) : ST) (fun σ_4 => q_let (q_si σ_4 a 43 (0 : Int32) : ST) (fun σ_5 => q_let (q_si σ_5 a 44 (0 : Int32) : ST) (fun σ_6 => q_let (q_si σ_6 a 45 (0 : Int32) : ST) (fun σ_7 => q_let (q_si σ_7 a 38 (0 : Int32) : ST) (fun σ_8 => q_let (σ_8.1 (q_rf X a 20) (655 : Int32).toNatClampNeg : Int32) (fun f_9 => q_let (F_X12_doAllN X a 30 σ_8 (0 : Int32) f_9 : ST) (fun σ_12 => σ_12))))))))))

noncomputable def F_X12_play (X : XW) (σ : ST) (a : Nat) (v1 : Int32) : Int32 × ST :=
  q_let (q_si σ a 1 (0 : Int32) : ST) (fun σ_1 => q_let (q_si σ_1 a 0 (0 : Int32) : ST) (fun σ_2 => q_let (v1.toInt64 : Int64) (fun y_3 => q_let (F_X12_isIn X σ_2 y_3 (0 : Int64) (9999 : Int64) : Int32) (fun r_6 => if r_6.toInt = 0 then q_bi (F_X12_refuse X σ_2 a (5 : Int32)) (fun r_29 σ_30 => (r_29, σ_30)) else q_let (σ_2.1 (q_rf X a 20) (654 : Int32).toNatClampNeg : Int32) (fun f_9 => if f_9.toInt = 0 then q_bi (F_X12_refuse X σ_2 a (8 : Int32)) (fun r_26 σ_27 => (r_26, σ_27)) else q_let (F_X12_plays X σ_2 a v1 : ST) (fun σ_12 => q_let (σ_12.1 a 41 : Int32) (fun f_13 => q_let (q_si σ_12 (q_rf X a 36) (0 : Int32).toNatClampNeg f_13 : ST) (fun σ_14 => q_let (σ_14.1 a 42 : Int32) (fun f_15 => q_let (q_si σ_14 (q_rf X a 36) (1 : Int32).toNatClampNeg f_15 : ST) (fun σ_16 => q_let (σ_16.1 a 43 : Int32) (fun f_17 => q_let (q_si σ_16 (q_rf X a 36) (2 : Int32).toNatClampNeg f_17 : ST) (fun σ_18 => q_let (σ_18.1 a 44 : Int32) (fun f_19 => q_let (q_si σ_18 (q_rf X a 36) (3 : Int32).toNatClampNeg f_19 : ST) (fun σ_20 => q_let (σ_20.1 a 45 : Int32) (fun f_21 => q_let (q_si σ_20 (q_rf X a 36) (4 : Int32).toNatClampNeg f_21 : ST) (fun σ_22 => q_let (q_si σ_22 a 37 (1 : Int32) : ST) (fun σ_23 => q_let (σ_23.1 a 40 : Int32) (fun f_24 => (f_24, σ_23)))))))))))))))))))

noncomputable def F_X12_tries_E197_4 (X : XW) (x_28 : Int32) (v3 : Int32) (σ_30 : ST) (a : Nat) : Int32 × ST :=
  q_let (x_28.toInt64 : Int64) (fun y_33 => q_let (v3.toInt64 : Int64) (fun y_34 => q_bi (F_X12_fraction X σ_30 a y_33 y_34) (fun r_35 σ_36 => (r_35, σ_36))))

noncomputable def F_X12_tries_E191_6 (X : XW) (x_29 : Int32) (B112_3 : Int32 → Int32 → ST → Int32 × ST) (z_43 : Int32) (σ_45 : ST) : Int32 × ST :=
  q_let (x_29 + 1 : Int32) (fun z_48 => B112_3 z_43 z_48 σ_45)

noncomputable def F_X12_tries_B163_5 (X : XW) (a : Nat) (x_29 : Int32) (B112_3 : Int32 → Int32 → ST → Int32 × ST) (z_43 : Int32) (B163_5 : Int32 → ST → Int32 × ST) (x_44 : Int32) (σ_45 : ST) : Int32 × ST :=
  if x_44.toInt < 654 then q_let (σ_45.1 (q_rf X a 21) x_44.toNatClampNeg : Int32) (fun f_49 => q_let (q_si σ_45 (q_rf X a 20) x_44.toNatClampNeg f_49 : ST) (fun σ_50 => q_let (x_44 + 1 : Int32) (fun z_51 => B163_5 z_51 σ_50))) else F_X12_tries_E191_6 X x_29 B112_3 z_43 σ_45

noncomputable def F_X12_tries_L163_5 (X : XW) (a : Nat) (x_29 : Int32) (B112_3 : Int32 → Int32 → ST → Int32 × ST) (z_43 : Int32) : Nat → Int32 → ST → Int32 × ST
  | 0 => fun x_44 σ_45 => ((0 : Int32), σ_45)
  | k_ + 1 => F_X12_tries_B163_5 X a x_29 B112_3 z_43 (F_X12_tries_L163_5 X a x_29 B112_3 z_43 k_)

theorem F_X12_tries_L163_5_s {X : XW} {a : Nat} {x_29 : Int32} {B112_3 : Int32 → Int32 → ST → Int32 × ST} {z_43 : Int32} {k_ : Nat} {x_44 : Int32} {σ_45 : ST} : F_X12_tries_L163_5 X a x_29 B112_3 z_43 (k_ + 1) x_44 σ_45 = F_X12_tries_B163_5 X a x_29 B112_3 z_43 (F_X12_tries_L163_5 X a x_29 B112_3 z_43 k_) x_44 σ_45 := rfl

noncomputable def F_X12_tries_E191_8 (X : XW) (x_29 : Int32) (B112_3 : Int32 → Int32 → ST → Int32 × ST) (z_55 : Int32) (σ_57 : ST) : Int32 × ST :=
  q_let (x_29 + 1 : Int32) (fun z_60 => B112_3 z_55 z_60 σ_57)

noncomputable def F_X12_tries_B163_7 (X : XW) (a : Nat) (x_29 : Int32) (B112_3 : Int32 → Int32 → ST → Int32 × ST) (z_55 : Int32) (B163_7 : Int32 → ST → Int32 × ST) (x_56 : Int32) (σ_57 : ST) : Int32 × ST :=
  if x_56.toInt < 654 then q_let (σ_57.1 (q_rf X a 21) x_56.toNatClampNeg : Int32) (fun f_61 => q_let (q_si σ_57 (q_rf X a 20) x_56.toNatClampNeg f_61 : ST) (fun σ_62 => q_let (x_56 + 1 : Int32) (fun z_63 => B163_7 z_63 σ_62))) else F_X12_tries_E191_8 X x_29 B112_3 z_55 σ_57

noncomputable def F_X12_tries_L163_7 (X : XW) (a : Nat) (x_29 : Int32) (B112_3 : Int32 → Int32 → ST → Int32 × ST) (z_55 : Int32) : Nat → Int32 → ST → Int32 × ST
  | 0 => fun x_56 σ_57 => ((0 : Int32), σ_57)
  | k_ + 1 => F_X12_tries_B163_7 X a x_29 B112_3 z_55 (F_X12_tries_L163_7 X a x_29 B112_3 z_55 k_)

theorem F_X12_tries_L163_7_s {X : XW} {a : Nat} {x_29 : Int32} {B112_3 : Int32 → Int32 → ST → Int32 × ST} {z_55 : Int32} {k_ : Nat} {x_56 : Int32} {σ_57 : ST} : F_X12_tries_L163_7 X a x_29 B112_3 z_55 (k_ + 1) x_56 σ_57 = F_X12_tries_B163_7 X a x_29 B112_3 z_55 (F_X12_tries_L163_7 X a x_29 B112_3 z_55 k_) x_56 σ_57 := rfl

noncomputable def F_X12_tries_E191_10 (X : XW) (x_29 : Int32) (B112_3 : Int32 → Int32 → ST → Int32 × ST) (z_65 : Int32) (σ_67 : ST) : Int32 × ST :=
  q_let (x_29 + 1 : Int32) (fun z_70 => B112_3 z_65 z_70 σ_67)

noncomputable def F_X12_tries_B163_9 (X : XW) (a : Nat) (x_29 : Int32) (B112_3 : Int32 → Int32 → ST → Int32 × ST) (z_65 : Int32) (B163_9 : Int32 → ST → Int32 × ST) (x_66 : Int32) (σ_67 : ST) : Int32 × ST :=
  if x_66.toInt < 654 then q_let (σ_67.1 (q_rf X a 21) x_66.toNatClampNeg : Int32) (fun f_71 => q_let (q_si σ_67 (q_rf X a 20) x_66.toNatClampNeg f_71 : ST) (fun σ_72 => q_let (x_66 + 1 : Int32) (fun z_73 => B163_9 z_73 σ_72))) else F_X12_tries_E191_10 X x_29 B112_3 z_65 σ_67

noncomputable def F_X12_tries_L163_9 (X : XW) (a : Nat) (x_29 : Int32) (B112_3 : Int32 → Int32 → ST → Int32 × ST) (z_65 : Int32) : Nat → Int32 → ST → Int32 × ST
  | 0 => fun x_66 σ_67 => ((0 : Int32), σ_67)
  | k_ + 1 => F_X12_tries_B163_9 X a x_29 B112_3 z_65 (F_X12_tries_L163_9 X a x_29 B112_3 z_65 k_)

theorem F_X12_tries_L163_9_s {X : XW} {a : Nat} {x_29 : Int32} {B112_3 : Int32 → Int32 → ST → Int32 × ST} {z_65 : Int32} {k_ : Nat} {x_66 : Int32} {σ_67 : ST} : F_X12_tries_L163_9 X a x_29 B112_3 z_65 (k_ + 1) x_66 σ_67 = F_X12_tries_B163_9 X a x_29 B112_3 z_65 (F_X12_tries_L163_9 X a x_29 B112_3 z_65 k_) x_66 σ_67 := rfl

noncomputable def F_X12_tries_B112_3 (X : XW) (v3 : Int32) (v2 : Int32) (a : Nat) (v4 : Int32) (v1 : Int32) (B112_3 : Int32 → Int32 → ST → Int32 × ST) (x_28 : Int32) (x_29 : Int32) (σ_30 : ST) : Int32 × ST :=
  if x_29.toInt < v3.toInt then q_let (v2 + x_29 : Int32) (fun z_37 => q_let (F_X12_plays X σ_30 a z_37 : ST) (fun σ_39 => if v4.toInt = 0 then q_let (F_X12_cardsOf X σ_39 a v1 : Int32) (fun r_41 => q_let (x_28 + r_41 : Int32) (fun z_43 => F_X12_tries_L163_5 X a x_29 B112_3 z_43 ((2147483647 - (0 : Int32).toInt).toNat + 1) (0 : Int32) σ_39)) else q_let (σ_39.1 (q_rf X a 20) (8 : Int32).toNatClampNeg : Int32) (fun f_53 => if f_53.toInt = v1.toInt then q_let (x_28 + (1 : Int32) : Int32) (fun z_65 => F_X12_tries_L163_9 X a x_29 B112_3 z_65 ((2147483647 - (0 : Int32).toInt).toNat + 1) (0 : Int32) σ_39) else q_let (x_28 + (0 : Int32) : Int32) (fun z_55 => F_X12_tries_L163_7 X a x_29 B112_3 z_55 ((2147483647 - (0 : Int32).toInt).toNat + 1) (0 : Int32) σ_39)))) else F_X12_tries_E197_4 X x_28 v3 σ_30 a

noncomputable def F_X12_tries_L112_3 (X : XW) (v3 : Int32) (v2 : Int32) (a : Nat) (v4 : Int32) (v1 : Int32) : Nat → Int32 → Int32 → ST → Int32 × ST
  | 0 => fun x_28 x_29 σ_30 => ((0 : Int32), σ_30)
  | k_ + 1 => F_X12_tries_B112_3 X v3 v2 a v4 v1 (F_X12_tries_L112_3 X v3 v2 a v4 v1 k_)

theorem F_X12_tries_L112_3_s {X : XW} {v3 : Int32} {v2 : Int32} {a : Nat} {v4 : Int32} {v1 : Int32} {k_ : Nat} {x_28 : Int32} {x_29 : Int32} {σ_30 : ST} : F_X12_tries_L112_3 X v3 v2 a v4 v1 (k_ + 1) x_28 x_29 σ_30 = F_X12_tries_B112_3 X v3 v2 a v4 v1 (F_X12_tries_L112_3 X v3 v2 a v4 v1 k_) x_28 x_29 σ_30 := rfl

noncomputable def F_X12_tries_B78_1 (X : XW) (a : Nat) (v3 : Int32) (v2 : Int32) (v4 : Int32) (v1 : Int32) (B78_1 : Int32 → ST → Int32 × ST) (x_24 : Int32) (σ_25 : ST) : Int32 × ST :=
  if x_24.toInt < 654 then q_let (σ_25.1 (q_rf X a 20) x_24.toNatClampNeg : Int32) (fun f_76 => q_let (q_si σ_25 (q_rf X a 21) x_24.toNatClampNeg f_76 : ST) (fun σ_77 => q_let (x_24 + 1 : Int32) (fun z_78 => B78_1 z_78 σ_77))) else F_X12_tries_L112_3 X v3 v2 a v4 v1 ((2147483647 - (0 : Int32).toInt).toNat + 1) (0 : Int32) (0 : Int32) σ_25

noncomputable def F_X12_tries_L78_1 (X : XW) (a : Nat) (v3 : Int32) (v2 : Int32) (v4 : Int32) (v1 : Int32) : Nat → Int32 → ST → Int32 × ST
  | 0 => fun x_24 σ_25 => ((0 : Int32), σ_25)
  | k_ + 1 => F_X12_tries_B78_1 X a v3 v2 v4 v1 (F_X12_tries_L78_1 X a v3 v2 v4 v1 k_)

theorem F_X12_tries_L78_1_s {X : XW} {a : Nat} {v3 : Int32} {v2 : Int32} {v4 : Int32} {v1 : Int32} {k_ : Nat} {x_24 : Int32} {σ_25 : ST} : F_X12_tries_L78_1 X a v3 v2 v4 v1 (k_ + 1) x_24 σ_25 = F_X12_tries_B78_1 X a v3 v2 v4 v1 (F_X12_tries_L78_1 X a v3 v2 v4 v1 k_) x_24 σ_25 := rfl

noncomputable def F_X12_tries (X : XW) (σ : ST) (a : Nat) (v1 : Int32) (v2 : Int32) (v3 : Int32) (v4 : Int32) : Int32 × ST :=
  q_let (q_si σ a 1 (0 : Int32) : ST) (fun σ_1 => q_let (q_si σ_1 a 0 (0 : Int32) : ST) (fun σ_2 => q_let (F_X12_isPlayerAt X σ_2 a v1 : Int32) (fun r_3 => if r_3.toInt = 0 then q_bi (F_X12_no X σ_2 a (2 : Int32)) (fun r_87 σ_88 => (r_87, σ_88)) else q_let (v3.toInt64 : Int64) (fun y_6 => q_let (F_X12_isIn X σ_2 y_6 (1 : Int64) (20 : Int64) : Int32) (fun r_9 => if r_9.toInt = 0 then q_bi (F_X12_no X σ_2 a (5 : Int32)) (fun r_13 σ_14 => (r_13, σ_14)) else q_let (v2.toInt64 : Int64) (fun y_15 => q_let ((10000 : Int32) - v3 : Int32) (fun z_16 => q_let (z_16.toInt64 : Int64) (fun y_17 => q_let (F_X12_isIn X σ_2 y_15 (0 : Int64) y_17 : Int32) (fun r_19 => if r_19.toInt = 0 then q_bi (F_X12_no X σ_2 a (5 : Int32)) (fun r_84 σ_85 => (r_84, σ_85)) else q_let (σ_2.1 (q_rf X a 20) (654 : Int32).toNatClampNeg : Int32) (fun f_22 => if f_22.toInt = 0 then q_bi (F_X12_no X σ_2 a (8 : Int32)) (fun r_81 σ_82 => (r_81, σ_82)) else F_X12_tries_L78_1 X a v3 v2 v4 v1 ((2147483647 - (0 : Int32).toInt).toNat + 1) (0 : Int32) σ_2))))))))))

noncomputable def F_X12_wins (X : XW) (σ : ST) (a : Nat) (v1 : Int32) (v2 : Int32) (v3 : Int32) : Int32 × ST :=
  q_bi (F_X12_tries X σ a v1 v2 v3 (1 : Int32)) (fun r_2 σ_3 => (r_2, σ_3))

noncomputable def F_X12_left (X : XW) (σ : ST) (a : Nat) (v1 : Int32) (v2 : Int32) (v3 : Int32) : Int32 × ST :=
  q_bi (F_X12_tries X σ a v1 v2 v3 (0 : Int32)) (fun r_2 σ_3 => (r_2, σ_3))

noncomputable def F_X12_mark (X : XW) (σ : ST) (a : Nat) : Int32 × ST :=
  q_let (q_si σ a 1 (0 : Int32) : ST) (fun σ_1 => q_let (q_si σ_1 a 0 (0 : Int32) : ST) (fun σ_2 => q_let (σ_2.1 a 24 : Int32) (fun f_3 => if f_3.toInt = 3 then q_bi (F_X12_refuse X σ_2 a (7 : Int32)) (fun r_14 σ_15 => (r_14, σ_15)) else q_let (σ_2.1 a 24 : Int32) (fun f_5 => q_let (f_5 + (1 : Int32) : Int32) (fun z_6 => q_let (q_si σ_2 a 24 z_6 : ST) (fun σ_7 => q_let (σ_7.1 a 24 : Int32) (fun f_8 => q_let (F_X12_copy X σ_7 a (0 : Int32) f_8 : ST) (fun σ_11 => q_let (σ_11.1 a 24 : Int32) (fun f_12 => (f_12, σ_11))))))))))

noncomputable def F_X12_back (X : XW) (σ : ST) (a : Nat) : Int32 × ST :=
  q_let (q_si σ a 1 (0 : Int32) : ST) (fun σ_1 => q_let (q_si σ_1 a 0 (0 : Int32) : ST) (fun σ_2 => q_let (σ_2.1 a 24 : Int32) (fun f_3 => if f_3.toInt = 0 then q_bi (F_X12_refuse X σ_2 a (8 : Int32)) (fun r_14 σ_15 => (r_14, σ_15)) else q_let (σ_2.1 a 24 : Int32) (fun f_5 => q_let (F_X12_copy X σ_2 a f_5 (0 : Int32) : ST) (fun σ_8 => q_let (σ_8.1 a 24 : Int32) (fun f_9 => q_let (f_9 - (1 : Int32) : Int32) (fun z_10 => q_let (q_si σ_8 a 24 z_10 : ST) (fun σ_11 => q_let (σ_11.1 a 24 : Int32) (fun f_12 => (f_12, σ_11))))))))))
