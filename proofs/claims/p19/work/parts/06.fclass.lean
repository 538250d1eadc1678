/-! FROM 06.fclass.lean.txt -/
section
noncomputable def F_J9_min_7cf53 (X : XW) (σ : ST) (v0 : Int32) (v1 : Int32) : Int32 :=
  if v1.toInt < v0.toInt then v1 else v0

noncomputable def F_J9_max_7cf53 (X : XW) (σ : ST) (v0 : Int32) (v1 : Int32) : Int32 :=
  if v0.toInt < v1.toInt then v1 else v0

noncomputable def F_X10_make_B21_1 (X : XW) (a : Nat) (B21_1 : Int32 → ST → ST) (x_9 : Int32) (σ_10 : ST) : ST :=
  if x_9.toInt < 60 then q_let (q_sl σ_10 (q_rf X a 2) x_9.toNatClampNeg (0 : Int64) : ST) (fun σ_13 => q_let (x_9 + 1 : Int32) (fun z_14 => B21_1 z_14 σ_13)) else σ_10

noncomputable def F_X10_make_L21_1 (X : XW) (a : Nat) : Nat → Int32 → ST → ST
  | 0 => fun x_9 σ_10 => σ_10
  | k_ + 1 => F_X10_make_B21_1 X a (F_X10_make_L21_1 X a k_)

theorem F_X10_make_L21_1_s {X : XW} {a : Nat} {k_ : Nat} {x_9 : Int32} {σ_10 : ST} : F_X10_make_L21_1 X a (k_ + 1) x_9 σ_10 = F_X10_make_B21_1 X a (F_X10_make_L21_1 X a k_) x_9 σ_10 := rfl

noncomputable def F_X10_make (X : XW) (σ : ST) (a : Nat) (v1 : Int32) (v2 : Int32) : ST :=
  q_let (q_si σ a 0 v1 : ST) (fun σ_1 => q_let (F_J9_min_7cf53 X σ_1 v2 (60 : Int32) : Int32) (fun r_3 => q_let (F_J9_max_7cf53 X σ_1 (0 : Int32) r_3 : Int32) (fun r_6 => q_let (q_si σ_1 a 1 r_6 : ST) (fun σ_8 => F_X10_make_L21_1 X a ((2147483647 - (0 : Int32).toInt).toNat + 1) (0 : Int32) σ_8))))

noncomputable def F_X10_isMissing (X : XW) (σ : ST) (a : Nat) : Int32 :=
  q_let (σ.1 a 1 : Int32) (fun f_1 => if f_1.toInt = (-1) then (1 : Int32) else (0 : Int32))

noncomputable def F_X10_hasPlaces (X : XW) (σ : ST) (a : Nat) (v1 : Int32) (v2 : Int32) : Int32 :=
  if v2.toInt < 0 then (0 : Int32) else q_let (σ.1 a 1 : Int32) (fun f_2 => if f_2.toInt < v2.toInt then (0 : Int32) else if v1.toInt < 0 then (0 : Int32) else q_let (σ.1 a 1 : Int32) (fun f_5 => q_let (f_5 - v2 : Int32) (fun z_6 => if z_6.toInt < v1.toInt then (0 : Int32) else (1 : Int32))))

noncomputable def F_X10_cut (X : XW) (σ : ST) (a : Nat) (v1 : Int64) : Int64 :=
  q_let (σ.1 a 0 : Int32) (fun f_1 => (if f_1.toInt = 0 then q_let (v1.toInt32 : Int32) (fun z_3 => q_let (z_3.toInt8.toInt32 : Int32) (fun z_4 => q_let (z_4.toInt64 : Int64) (fun y_5 => y_5))) else (if f_1.toInt = 1 then q_let (v1.toInt32 : Int32) (fun z_7 => q_let (z_7.toInt16.toInt32 : Int32) (fun z_8 => q_let (z_8.toInt64 : Int64) (fun y_9 => y_9))) else (if f_1.toInt = 2 then q_let (v1.toInt32 : Int32) (fun z_11 => q_let (z_11.toInt64 : Int64) (fun y_12 => y_12)) else v1))))

noncomputable def F_X10_put (X : XW) (σ : ST) (a : Nat) (v1 : Int32) (v2 : Int64) : ST :=
  if v1.toInt < 0 then σ else if v1.toInt < 60 then q_let (F_X10_cut X σ a v2 : Int64) (fun r_3 => q_let (q_sl σ (q_rf X a 2) v1.toNatClampNeg r_3 : ST) (fun σ_5 => σ_5)) else σ

noncomputable def F_X10_get (X : XW) (σ : ST) (a : Nat) (v1 : Int32) : Int64 :=
  if v1.toInt < 0 then (0 : Int64) else if v1.toInt < 60 then q_let (σ.2.1 (q_rf X a 2) v1.toNatClampNeg : Int64) (fun g_3 => g_3) else (0 : Int64)

noncomputable def F_X10_copyFrom (X : XW) (σ : ST) (a : Nat) (r1 : Nat) (v2 : Int32) (v3 : Int32) (v4 : Int32) : ST :=
  q_let (F_X10_hasPlaces X σ r1 v2 v4 : Int32) (fun r_1 => if r_1.toInt = 0 then σ else q_let (F_X10_hasPlaces X σ a v3 v4 : Int32) (fun r_4 => if r_4.toInt = 0 then σ else q_let (q_cpyl σ (q_rf X a 2) (q_rf X r1 2) v2 v3 v4 : ST) (fun σ_7 => σ_7)))

noncomputable def F_X5_clear_B2_1 (X : XW) (a : Nat) (B2_1 : Int32 → ST → ST) (x_1 : Int32) (σ_2 : ST) : ST :=
  q_let (q_len X (q_rf X a 0) : Int32) (fun n_4 => if x_1.toInt < n_4.toInt then q_let (q_si σ_2 (q_rf X a 0) x_1.toNatClampNeg (0 : Int32) : ST) (fun σ_6 => q_let (x_1 + 1 : Int32) (fun z_7 => B2_1 z_7 σ_6)) else σ_2)

noncomputable def F_X5_clear_L2_1 (X : XW) (a : Nat) : Nat → Int32 → ST → ST
  | 0 => fun x_1 σ_2 => σ_2
  | k_ + 1 => F_X5_clear_B2_1 X a (F_X5_clear_L2_1 X a k_)

theorem F_X5_clear_L2_1_s {X : XW} {a : Nat} {k_ : Nat} {x_1 : Int32} {σ_2 : ST} : F_X5_clear_L2_1 X a (k_ + 1) x_1 σ_2 = F_X5_clear_B2_1 X a (F_X5_clear_L2_1 X a k_) x_1 σ_2 := rfl

noncomputable def F_X5_clear (X : XW) (σ : ST) (a : Nat) : ST :=
  F_X5_clear_L2_1 X a ((2147483647 - (0 : Int32).toInt).toNat + 1) (0 : Int32) σ

noncomputable def F_J0_coder_7d493 (X : XW) (σ : ST) (a : Nat) : Int32 :=
  if (1 : Int) = 0 then (0 : Int32) else (0 : Int32)

noncomputable def F_J0_length_8abf5 (X : XW) (σ : ST) (a : Nat) : Int32 :=
  q_let (Int32.ofNat (q_slen.getD a 0) : Int32) (fun n_1 => q_let (F_J0_coder_7d493 X σ a : Int32) (fun r_2 => q_let (n_1 >>> (r_2 &&& 31) : Int32) (fun z_4 => z_4)))

noncomputable def F_J0_isLatin1_aae02 (X : XW) (σ : ST) (a : Nat) : Int32 :=
  if (1 : Int) = 0 then (0 : Int32) else if (0 : Int) = 0 then (1 : Int32) else (0 : Int32)

noncomputable def F_J1_charAt_3b067 (X : XW) (σ : ST) (r0 : Nat) (v1 : Int32) : Int32 :=
  q_let (Int32.ofNat (q_slen.getD r0 0) : Int32) (fun n_1 => q_let ((q_sbyt.getD r0 []).getD v1.toNatClampNeg 0 : Int32) (fun f_4 => q_let (f_4 &&& (255 : Int32) : Int32) (fun z_5 => q_let ((z_5.toUInt32 % 65536).toInt32 : Int32) (fun z_6 => z_6))))

noncomputable def F_J0_charAt_5068e (X : XW) (σ : ST) (a : Nat) (v1 : Int32) : Int32 :=
  q_let (F_J0_isLatin1_aae02 X σ a : Int32) (fun r_1 => if r_1.toInt = 0 then (0 : Int32) else q_let (F_J1_charAt_3b067 X σ a v1 : Int32) (fun r_4 => r_4))

noncomputable def F_X5_get (X : XW) (σ : ST) (a : Nat) (v1 : Int32) : Int32 :=
  if v1.toInt < 0 then (0 : Int32) else q_let (q_len X (q_rf X a 0) : Int32) (fun n_2 => if v1.toInt < n_2.toInt then q_let (σ.1 (q_rf X a 0) v1.toNatClampNeg : Int32) (fun f_4 => f_4) else (0 : Int32))

noncomputable def F_X5_set (X : XW) (σ : ST) (a : Nat) (v1 : Int32) (v2 : Int32) : ST :=
  if v1.toInt < 0 then σ else q_let (q_len X (q_rf X a 0) : Int32) (fun n_2 => if v1.toInt < n_2.toInt then q_let (q_si σ (q_rf X a 0) v1.toNatClampNeg v2 : ST) (fun σ_4 => σ_4) else σ)

noncomputable def F_X5_add (X : XW) (σ : ST) (a : Nat) (v1 : Int32) (v2 : Int32) : ST :=
  if v1.toInt < 0 then σ else q_let (q_len X (q_rf X a 0) : Int32) (fun n_2 => if v1.toInt < n_2.toInt then q_let (σ.1 (q_rf X a 0) v1.toNatClampNeg : Int32) (fun f_4 => q_let (f_4 + v2 : Int32) (fun z_5 => q_let (q_si σ (q_rf X a 0) v1.toNatClampNeg z_5 : ST) (fun σ_6 => σ_6))) else σ)

noncomputable def F_X5_copyFrom_B2_1 (X : XW) (a : Nat) (r1 : Nat) (B2_1 : Int32 → ST → ST) (x_1 : Int32) (σ_2 : ST) : ST :=
  q_let (q_len X (q_rf X a 0) : Int32) (fun n_4 => if x_1.toInt < n_4.toInt then q_let (q_len X (q_rf X r1 0) : Int32) (fun n_6 => if x_1.toInt < n_6.toInt then q_let (σ_2.1 (q_rf X r1 0) x_1.toNatClampNeg : Int32) (fun f_8 => q_let (q_si σ_2 (q_rf X a 0) x_1.toNatClampNeg f_8 : ST) (fun σ_9 => q_let (x_1 + 1 : Int32) (fun z_10 => B2_1 z_10 σ_9))) else σ_2) else σ_2)

noncomputable def F_X5_copyFrom_L2_1 (X : XW) (a : Nat) (r1 : Nat) : Nat → Int32 → ST → ST
  | 0 => fun x_1 σ_2 => σ_2
  | k_ + 1 => F_X5_copyFrom_B2_1 X a r1 (F_X5_copyFrom_L2_1 X a r1 k_)

theorem F_X5_copyFrom_L2_1_s {X : XW} {a : Nat} {r1 : Nat} {k_ : Nat} {x_1 : Int32} {σ_2 : ST} : F_X5_copyFrom_L2_1 X a r1 (k_ + 1) x_1 σ_2 = F_X5_copyFrom_B2_1 X a r1 (F_X5_copyFrom_L2_1 X a r1 k_) x_1 σ_2 := rfl

noncomputable def F_X5_copyFrom (X : XW) (σ : ST) (a : Nat) (r1 : Nat) : ST :=
  F_X5_copyFrom_L2_1 X a r1 ((2147483647 - (0 : Int32).toInt).toNat + 1) (0 : Int32) σ

noncomputable def F_X5_sum_B5_1 (X : XW) (v1 : Int32) (v2 : Int32) (σ : ST) (a : Nat) (B5_1 : Int32 → Int32 → Int32) (x_1 : Int32) (x_2 : Int32) : Int32 :=
  q_let (v1 + v2 : Int32) (fun z_4 => if x_2.toInt < z_4.toInt then q_let (F_X5_get X σ a x_2 : Int32) (fun r_6 => q_let (x_1 + r_6 : Int32) (fun z_8 => q_let (x_2 + 1 : Int32) (fun z_9 => B5_1 z_8 z_9))) else x_1)

noncomputable def F_X5_sum_L5_1 (X : XW) (v1 : Int32) (v2 : Int32) (σ : ST) (a : Nat) : Nat → Int32 → Int32 → Int32
  | 0 => fun x_1 x_2 => (0 : Int32)
  | k_ + 1 => F_X5_sum_B5_1 X v1 v2 σ a (F_X5_sum_L5_1 X v1 v2 σ a k_)

theorem F_X5_sum_L5_1_s {X : XW} {v1 : Int32} {v2 : Int32} {σ : ST} {a : Nat} {k_ : Nat} {x_1 : Int32} {x_2 : Int32} : F_X5_sum_L5_1 X v1 v2 σ a (k_ + 1) x_1 x_2 = F_X5_sum_B5_1 X v1 v2 σ a (F_X5_sum_L5_1 X v1 v2 σ a k_) x_1 x_2 := rfl

noncomputable def F_X5_sum (X : XW) (σ : ST) (a : Nat) (v1 : Int32) (v2 : Int32) : Int32 :=
  F_X5_sum_L5_1 X v1 v2 σ a ((2147483647 - v1.toInt).toNat + 1) (0 : Int32) v1

noncomputable def F_J9_floorMod_7cf53 (X : XW) (σ : ST) (v0 : Int32) (v1 : Int32) : Int32 :=
  q_let (v0 % v1 : Int32) (fun z_1 => q_let (v0 ^^^ v1 : Int32) (fun z_2 => if z_2.toInt < 0 then if z_1.toInt = 0 then z_1 else q_let (z_1 + v1 : Int32) (fun z_5 => z_5) else z_1))

noncomputable def F_J9_abs_067f4 (X : XW) (σ : ST) (v0 : Int64) : Int64 :=
  q_let (lg_cmp v0 (0 : Int64) : Int32) (fun z_1 => if z_1.toInt < 0 then q_let (-v0 : Int64) (fun y_4 => y_4) else v0)

noncomputable def F_X1_reset (X : XW) (σ : ST) (a : Nat) : ST :=
  q_let (F_X5_clear X σ (q_rf X a 0) : ST) (fun σ_2 => q_let (F_X5_clear X σ_2 (q_rf X a 1) : ST) (fun σ_4 => q_let (F_X5_clear X σ_4 (q_rf X a 2) : ST) (fun σ_6 => q_let (F_X5_clear X σ_6 (q_rf X a 3) : ST) (fun σ_8 => q_let (F_X5_clear X σ_8 (q_rf X a 4) : ST) (fun σ_10 => q_let (F_X5_clear X σ_10 (q_rf X a 5) : ST) (fun σ_12 => q_let (F_X5_clear X σ_12 (q_rf X a 6) : ST) (fun σ_14 => σ_14)))))))

noncomputable def F_X2_clear (X : XW) (σ : ST) (a : Nat) : ST :=
  q_let (q_si σ a 0 (0 : Int32) : ST) (fun σ_1 => q_let (q_si σ_1 a 1 (0 : Int32) : ST) (fun σ_2 => σ_2))

noncomputable def F_X8_clear (X : XW) (σ : ST) (a : Nat) : ST :=
  q_let (q_si σ a 0 (0 : Int32) : ST) (fun σ_1 => q_let (q_si σ_1 a 1 (0 : Int32) : ST) (fun σ_2 => q_let (q_si σ_2 a 2 (0 : Int32) : ST) (fun σ_3 => σ_3)))

noncomputable def F_X1_deal (X : XW) (σ : ST) (a : Nat) (v1 : Int32) (v2 : Int32) (v3 : Int32) : ST :=
  q_let (v1 * (10 : Int32) : Int32) (fun z_1 => q_let (z_1 + v2 : Int32) (fun z_2 => q_let (F_X5_add X σ (q_rf X a 0) z_2 v3 : ST) (fun σ_4 => q_let (F_X5_add X σ_4 (q_rf X a 2) v1 v3 : ST) (fun σ_6 => σ_6))))

noncomputable def F_X1_copyFrom (X : XW) (σ : ST) (a : Nat) (r1 : Nat) : ST :=
  q_let (F_X5_copyFrom X σ (q_rf X a 0) (q_rf X r1 0) : ST) (fun σ_2 => q_let (F_X5_copyFrom X σ_2 (q_rf X a 1) (q_rf X r1 1) : ST) (fun σ_4 => q_let (F_X5_copyFrom X σ_4 (q_rf X a 2) (q_rf X r1 2) : ST) (fun σ_6 => q_let (F_X5_copyFrom X σ_6 (q_rf X a 3) (q_rf X r1 3) : ST) (fun σ_8 => q_let (F_X5_copyFrom X σ_8 (q_rf X a 4) (q_rf X r1 4) : ST) (fun σ_10 => q_let (F_X5_copyFrom X σ_10 (q_rf X a 5) (q_rf X r1 5) : ST) (fun σ_12 => q_let (F_X5_copyFrom X σ_12 (q_rf X a 6) (q_rf X r1 6) : ST) (fun σ_14 => σ_14)))))))

noncomputable def F_X2_copyFrom (X : XW) (σ : ST) (a : Nat) (r1 : Nat) : ST :=
  q_let (σ.1 r1 0 : Int32) (fun f_1 => q_let (q_si σ a 0 f_1 : ST) (fun σ_2 => q_let (σ_2.1 r1 1 : Int32) (fun f_3 => q_let (q_si σ_2 a 1 f_3 : ST) (fun σ_4 => q_let (F_X5_copyFrom X σ_4 (q_rf X a 2) (q_rf X r1 2) : ST) (fun σ_6 => q_let (F_X5_copyFrom X σ_6 (q_rf X a 3) (q_rf X r1 3) : ST) (fun σ_8 => q_let (F_X5_copyFrom X σ_8 (q_rf X a 4) (q_rf X r1 4) : ST) (fun σ_10 => q_let (F_X5_copyFrom X σ_10 (q_rf X a 5) (q_rf X r1 5) : ST) (fun σ_12 => σ_12))))))))

noncomputable def F_X8_copyFrom (X : XW) (σ : ST) (a : Nat) (r1 : Nat) : ST :=
  q_let (σ.1 r1 0 : Int32) (fun f_1 => q_let (q_si σ a 0 f_1 : ST) (fun σ_2 => q_let (σ_2.1 r1 1 : Int32) (fun f_3 => q_let (q_si σ_2 a 1 f_3 : ST) (fun σ_4 => q_let (σ_4.1 r1 2 : Int32) (fun f_5 => q_let (q_si σ_4 a 2 f_5 : ST) (fun σ_6 => q_let (F_X5_copyFrom X σ_6 (q_rf X a 3) (q_rf X r1 3) : ST) (fun σ_8 => q_let (F_X5_copyFrom X σ_8 (q_rf X a 4) (q_rf X r1 4) : ST) (fun σ_10 => q_let (F_X5_copyFrom X σ_10 (q_rf X a 5) (q_rf X r1 5) : ST) (fun σ_12 => q_let (F_X5_copyFrom X σ_12 (q_rf X a 6) (q_rf X r1 6) : ST) (fun σ_14 => q_let (F_X5_copyFrom X σ_14 (q_rf X a 7) (q_rf X r1 7) : ST) (fun σ_16 => σ_16)))))))))))

noncomputable def F_X8_add (X : XW) (σ : ST) (a : Nat) (v1 : Int32) : Int32 × ST :=
  q_let (σ.1 a 2 : Int32) (fun f_1 => q_let (F_X5_set X σ (q_rf X a 3) f_1 v1 : ST) (fun σ_3 => q_let (σ_3.1 a 2 : Int32) (fun f_4 => q_let (f_4 + (1 : Int32) : Int32) (fun z_5 => q_let (q_si σ_3 a 2 z_5 : ST) (fun σ_6 => q_let (σ_6.1 a 2 : Int32) (fun f_7 => q_let (f_7 - (1 : Int32) : Int32) (fun z_8 => (z_8, σ_6))))))))

noncomputable def F_X8_isWhen (X : XW) (σ : ST) (v0 : Int32) : Int32 :=
  if v0.toInt < 5 then (0 : Int32) else if 8 < v0.toInt then (0 : Int32) else (1 : Int32)

noncomputable def F_X8_hasName (X : XW) (σ : ST) (v0 : Int32) : Int32 :=
  if v0.toInt = 1 then (1 : Int32) else if v0.toInt = 2 then (1 : Int32) else if v0.toInt = 5 then (1 : Int32) else if v0.toInt = 7 then (1 : Int32) else (0 : Int32)

noncomputable def F_X8_hasComparison (X : XW) (σ : ST) (v0 : Int32) : Int32 :=
  q_let (F_X8_isWhen X σ v0 : Int32) (fun r_1 => if r_1.toInt = 0 then (0 : Int32) else if v0.toInt = 8 then (0 : Int32) else (1 : Int32))

noncomputable def F_X8_highest (X : XW) (σ : ST) (v0 : Int32) : Int32 :=
  (if v0.toInt = 1 then (16 : Int32) else (if v0.toInt = 2 then (16 : Int32) else (if v0.toInt = 3 then ((-1) : Int32) else (if v0.toInt = 4 then (99 : Int32) else (if v0.toInt = 5 then (80 : Int32) else (if v0.toInt = 6 then (80 : Int32) else (if v0.toInt = 7 then (999 : Int32) else ((-1) : Int32))))))))

noncomputable def F_X1_allLaidBy (X : XW) (σ : ST) (a : Nat) (v1 : Int32) : Int32 :=
  q_let (v1 * (10 : Int32) : Int32) (fun z_1 => q_let (F_X5_sum X σ (q_rf X a 1) z_1 (10 : Int32) : Int32) (fun r_3 => r_3))

noncomputable def F_X1_heldBy (X : XW) (σ : ST) (a : Nat) (v1 : Int32) (v2 : Int32) : Int32 :=
  q_let (v1 * (10 : Int32) : Int32) (fun z_1 => q_let (z_1 + v2 : Int32) (fun z_2 => q_let (F_X5_get X σ (q_rf X a 0) z_2 : Int32) (fun r_3 => r_3)))

noncomputable def F_X2_truth_E48_2 (X : XW) (σ : ST) (a : Nat) (v1 : Int32) (x_1 : Int32) : Int32 :=
  q_let (F_X5_get X σ (q_rf X a 4) v1 : Int32) (fun r_7 => if x_1.toInt = r_7.toInt then (0 : Int32) else if x_1.toInt = 0 then (2 : Int32) else (1 : Int32))

noncomputable def F_X2_truth_B4_1 (X : XW) (σ : ST) (a : Nat) (v1 : Int32) (B4_1 : Int32 → Int32 → Int32) (x_1 : Int32) (x_2 : Int32) : Int32 :=
  q_let (F_X5_get X σ (q_rf X a 4) v1 : Int32) (fun r_4 => if x_2.toInt < r_4.toInt then q_let (v1 * (4 : Int32) : Int32) (fun z_11 => q_let (z_11 + x_2 : Int32) (fun z_12 => q_let (F_X5_get X σ (q_rf X a 5) z_12 : Int32) (fun r_13 => q_let (F_X5_get X σ (q_rf X a 3) v1 : Int32) (fun r_15 => if r_13.toInt = r_15.toInt then q_let (x_1 + 1 : Int32) (fun z_19 => q_let (x_2 + 1 : Int32) (fun z_20 => B4_1 z_19 z_20)) else q_let (x_2 + 1 : Int32) (fun z_18 => B4_1 x_1 z_18))))) else F_X2_truth_E48_2 X σ a v1 x_1)

noncomputable def F_X2_truth_L4_1 (X : XW) (σ : ST) (a : Nat) (v1 : Int32) : Nat → Int32 → Int32 → Int32
  | 0 => fun x_1 x_2 => (0 : Int32)
  | k_ + 1 => F_X2_truth_B4_1 X σ a v1 (F_X2_truth_L4_1 X σ a v1 k_)

theorem F_X2_truth_L4_1_s {X : XW} {σ : ST} {a : Nat} {v1 : Int32} {k_ : Nat} {x_1 : Int32} {x_2 : Int32} : F_X2_truth_L4_1 X σ a v1 (k_ + 1) x_1 x_2 = F_X2_truth_B4_1 X σ a v1 (F_X2_truth_L4_1 X σ a v1 k_) x_1 x_2 := rfl

noncomputable def F_X2_truth (X : XW) (σ : ST) (a : Nat) (v1 : Int32) : Int32 :=
  F_X2_truth_L4_1 X σ a v1 ((2147483647 - (0 : Int32).toInt).toNat + 1) (0 : Int32) (0 : Int32)

noncomputable def F_X2_kindOf (X : XW) (σ : ST) (a : Nat) (v1 : Int32) (v2 : Int32) : Int32 :=
  q_let (v1 * (4 : Int32) : Int32) (fun z_1 => q_let (z_1 + v2 : Int32) (fun z_2 => q_let (F_X5_get X σ (q_rf X a 5) z_2 : Int32) (fun r_3 => r_3)))

noncomputable def F_X2_begin (X : XW) (σ : ST) (a : Nat) (v1 : Int32) (v2 : Int32) : ST :=
  q_let (σ.1 a 0 : Int32) (fun f_1 => q_let (F_X5_set X σ (q_rf X a 2) f_1 v1 : ST) (fun σ_3 => q_let (σ_3.1 a 0 : Int32) (fun f_4 => q_let (F_X5_set X σ_3 (q_rf X a 3) f_4 v2 : ST) (fun σ_6 => q_let (σ_6.1 a 0 : Int32) (fun f_7 => q_let (F_X5_set X σ_6 (q_rf X a 4) f_7 (0 : Int32) : ST) (fun σ_10 => q_let (σ_10.1 a 0 : Int32) (fun f_11 => q_let (f_11 + (1 : Int32) : Int32) (fun z_12 => q_let (q_si σ_10 a 0 z_12 : ST) (fun σ_13 => σ_13)))))))))

noncomputable def F_X1_moveToHeap (X : XW) (σ : ST) (a : Nat) (v1 : Int32) (v2 : Int32) (v3 : Int32) : ST :=
  q_let (-v3 : Int32) (fun z_1 => q_let (F_X1_deal X σ a v1 v2 z_1 : ST) (fun σ_3 => q_let (v1 * (10 : Int32) : Int32) (fun z_4 => q_let (z_4 + v2 : Int32) (fun z_5 => q_let (F_X5_add X σ_3 (q_rf X a 1) z_5 v3 : ST) (fun σ_7 => σ_7)))))

noncomputable def F_X2_add_B10_1 (X : XW) (v2 : Int32) (z_2 : Int32) (a : Nat) (v1 : Int32) (B10_1 : Int32 → ST → ST) (x_3 : Int32) (σ_4 : ST) : ST :=
  if x_3.toInt < v2.toInt then q_let (z_2 * (4 : Int32) : Int32) (fun z_7 => q_let (F_X5_get X σ_4 (q_rf X a 4) z_2 : Int32) (fun r_8 => q_let (z_7 + r_8 : Int32) (fun z_10 => q_let (F_X5_set X σ_4 (q_rf X a 5) z_10 v1 : ST) (fun σ_12 => q_let (F_X5_add X σ_12 (q_rf X a 4) z_2 (1 : Int32) : ST) (fun σ_15 => q_let (σ_15.1 a 1 : Int32) (fun f_16 => q_let (f_16 + (1 : Int32) : Int32) (fun z_17 => q_let (q_si σ_15 a 1 z_17 : ST) (fun σ_18 => q_let (x_3 + 1 : Int32) (fun z_19 => B10_1 z_19 σ_18))))))))) else σ_4

noncomputable def F_X2_add_L10_1 (X : XW) (v2 : Int32) (z_2 : Int32) (a : Nat) (v1 : Int32) : Nat → Int32 → ST → ST
  | 0 => fun x_3 σ_4 => σ_4
  | k_ + 1 => F_X2_add_B10_1 X v2 z_2 a v1 (F_X2_add_L10_1 X v2 z_2 a v1 k_)

theorem F_X2_add_L10_1_s {X : XW} {v2 : Int32} {z_2 : Int32} {a : Nat} {v1 : Int32} {k_ : Nat} {x_3 : Int32} {σ_4 : ST} : F_X2_add_L10_1 X v2 z_2 a v1 (k_ + 1) x_3 σ_4 = F_X2_add_B10_1 X v2 z_2 a v1 (F_X2_add_L10_1 X v2 z_2 a v1 k_) x_3 σ_4 := rfl

noncomputable def F_X2_add (X : XW) (σ : ST) (a : Nat) (v1 : Int32) (v2 : Int32) : ST :=
  q_let (σ.1 a 0 : Int32) (fun f_1 => q_let (f_1 - (1 : Int32) : Int32) (fun z_2 => F_X2_add_L10_1 X v2 z_2 a v1 ((2147483647 - (0 : Int32).toInt).toNat + 1) (0 : Int32) σ))

noncomputable def F_X2_topTruth (X : XW) (σ : ST) (a : Nat) : Int32 :=
  q_let (σ.1 a 0 : Int32) (fun f_1 => q_let (f_1 - (1 : Int32) : Int32) (fun z_2 => q_let (F_X2_truth X σ a z_2 : Int32) (fun r_3 => r_3)))

noncomputable def F_X1_laidBy (X : XW) (σ : ST) (a : Nat) (v1 : Int32) (v2 : Int32) : Int32 :=
  q_let (v1 * (10 : Int32) : Int32) (fun z_1 => q_let (z_1 + v2 : Int32) (fun z_2 => q_let (F_X5_get X σ (q_rf X a 1) z_2 : Int32) (fun r_3 => r_3)))

noncomputable def F_X1_takeHeap_E40_2 (X : XW) (σ_2 : ST) (a : Nat) : ST :=
  q_let (F_X5_clear X σ_2 (q_rf X a 1) : ST) (fun σ_6 => σ_6)

noncomputable def F_X1_takeHeap_E34_4 (X : XW) (x_1 : Int32) (B2_1 : Int32 → ST → ST) (σ_8 : ST) : ST :=
  q_let (x_1 + 1 : Int32) (fun z_11 => B2_1 z_11 σ_8)

noncomputable def F_X1_takeHeap_B10_3 (X : XW) (a : Nat) (x_1 : Int32) (v1 : Int32) (B2_1 : Int32 → ST → ST) (B10_3 : Int32 → ST → ST) (x_7 : Int32) (σ_8 : ST) : ST :=
  if x_7.toInt < 10 then q_let (F_X1_laidBy X σ_8 a x_1 x_7 : Int32) (fun r_12 => q_let (F_X1_deal X σ_8 a v1 x_7 r_12 : ST) (fun σ_15 => q_let (x_7 + 1 : Int32) (fun z_16 => B10_3 z_16 σ_15))) else F_X1_takeHeap_E34_4 X x_1 B2_1 σ_8

noncomputable def F_X1_takeHeap_L10_3 (X : XW) (a : Nat) (x_1 : Int32) (v1 : Int32) (B2_1 : Int32 → ST → ST) : Nat → Int32 → ST → ST
  | 0 => fun x_7 σ_8 => σ_8
  | k_ + 1 => F_X1_takeHeap_B10_3 X a x_1 v1 B2_1 (F_X1_takeHeap_L10_3 X a x_1 v1 B2_1 k_)

theorem F_X1_takeHeap_L10_3_s {X : XW} {a : Nat} {x_1 : Int32} {v1 : Int32} {B2_1 : Int32 → ST → ST} {k_ : Nat} {x_7 : Int32} {σ_8 : ST} : F_X1_takeHeap_L10_3 X a x_1 v1 B2_1 (k_ + 1) x_7 σ_8 = F_X1_takeHeap_B10_3 X a x_1 v1 B2_1 (F_X1_takeHeap_L10_3 X a x_1 v1 B2_1 k_) x_7 σ_8 := rfl

noncomputable def F_X1_takeHeap_B2_1 (X : XW) (a : Nat) (v1 : Int32) (B2_1 : Int32 → ST → ST) (x_1 : Int32) (σ_2 : ST) : ST :=
  if x_1.toInt < 6 then F_X1_takeHeap_L10_3 X a x_1 v1 B2_1 ((2147483647 - (0 : Int32).toInt).toNat + 1) (0 : Int32) σ_2 else F_X1_takeHeap_E40_2 X σ_2 a

noncomputable def F_X1_takeHeap_L2_1 (X : XW) (a : Nat) (v1 : Int32) : Nat → Int32 → ST → ST
  | 0 => fun x_1 σ_2 => σ_2
  | k_ + 1 => F_X1_takeHeap_B2_1 X a v1 (F_X1_takeHeap_L2_1 X a v1 k_)

theorem F_X1_takeHeap_L2_1_s {X : XW} {a : Nat} {v1 : Int32} {k_ : Nat} {x_1 : Int32} {σ_2 : ST} : F_X1_takeHeap_L2_1 X a v1 (k_ + 1) x_1 σ_2 = F_X1_takeHeap_B2_1 X a v1 (F_X1_takeHeap_L2_1 X a v1 k_) x_1 σ_2 := rfl

noncomputable def F_X1_takeHeap (X : XW) (σ : ST) (a : Nat) (v1 : Int32) : ST :=
  F_X1_takeHeap_L2_1 X a v1 ((2147483647 - (0 : Int32).toInt).toNat + 1) (0 : Int32) σ

noncomputable def F_X1_knownTo (X : XW) (σ : ST) (a : Nat) (v1 : Int32) (v2 : Int32) : Int32 :=
  q_let (v1 * (10 : Int32) : Int32) (fun z_1 => q_let (z_1 + v2 : Int32) (fun z_2 => q_let (F_X5_get X σ (q_rf X a 0) z_2 : Int32) (fun r_3 => q_let (F_X5_get X σ (q_rf X a 1) z_2 : Int32) (fun r_5 => q_let (r_3 + r_5 : Int32) (fun z_7 => z_7)))))

noncomputable def F_X2_topSize (X : XW) (σ : ST) (a : Nat) : Int32 :=
  q_let (σ.1 a 0 : Int32) (fun f_1 => q_let (f_1 - (1 : Int32) : Int32) (fun z_2 => q_let (F_X5_get X σ (q_rf X a 4) z_2 : Int32) (fun r_3 => r_3)))

noncomputable def F_X1_honestTop (X : XW) (σ : ST) (a : Nat) (v1 : Int32) : Int64 :=
  q_let (F_X5_get X σ (q_rf X a 5) v1 : Int32) (fun r_1 => q_let (F_X5_get X σ (q_rf X a 6) v1 : Int32) (fun r_3 => q_let (r_1 - r_3 : Int32) (fun z_5 => q_let (z_5.toInt64 : Int64) (fun y_6 => q_let (y_6 + (1 : Int64) : Int64) (fun y_7 => y_7)))))

noncomputable def F_X1_honestBottom (X : XW) (σ : ST) (a : Nat) (v1 : Int32) : Int64 :=
  q_let (F_X5_get X σ (q_rf X a 5) v1 : Int32) (fun r_1 => q_let (r_1.toInt64 : Int64) (fun y_3 => q_let (y_3 + (2 : Int64) : Int64) (fun y_4 => y_4)))

noncomputable def F_X2_timesSaid_B5_1 (X : XW) (σ : ST) (a : Nat) (v1 : Int32) (v2 : Int32) (B5_1 : Int32 → Int32 → Int32) (x_1 : Int32) (x_2 : Int32) : Int32 :=
  q_let (σ.1 a 0 : Int32) (fun f_4 => if x_2.toInt < f_4.toInt then q_let (F_X5_get X σ (q_rf X a 2) x_2 : Int32) (fun r_6 => if r_6.toInt = v1.toInt then q_let (F_X5_get X σ (q_rf X a 3) x_2 : Int32) (fun r_10 => if r_10.toInt = v2.toInt then q_let (x_1 + 1 : Int32) (fun z_14 => q_let (x_2 + 1 : Int32) (fun z_15 => B5_1 z_14 z_15)) else q_let (x_2 + 1 : Int32) (fun z_13 => B5_1 x_1 z_13)) else q_let (x_2 + 1 : Int32) (fun z_9 => B5_1 x_1 z_9)) else x_1)

noncomputable def F_X2_timesSaid_L5_1 (X : XW) (σ : ST) (a : Nat) (v1 : Int32) (v2 : Int32) : Nat → Int32 → Int32 → Int32
  | 0 => fun x_1 x_2 => (0 : Int32)
  | k_ + 1 => F_X2_timesSaid_B5_1 X σ a v1 v2 (F_X2_timesSaid_L5_1 X σ a v1 v2 k_)

theorem F_X2_timesSaid_L5_1_s {X : XW} {σ : ST} {a : Nat} {v1 : Int32} {v2 : Int32} {k_ : Nat} {x_1 : Int32} {x_2 : Int32} : F_X2_timesSaid_L5_1 X σ a v1 v2 (k_ + 1) x_1 x_2 = F_X2_timesSaid_B5_1 X σ a v1 v2 (F_X2_timesSaid_L5_1 X σ a v1 v2 k_) x_1 x_2 := rfl

noncomputable def F_X2_timesSaid (X : XW) (σ : ST) (a : Nat) (v1 : Int32) (v2 : Int32) : Int32 :=
  F_X2_timesSaid_L5_1 X σ a v1 v2 ((2147483647 - (0 : Int32).toInt).toNat + 1) (0 : Int32) (0 : Int32)

noncomputable def F_X8_meets (X : XW) (σ : ST) (a : Nat) (v1 : Int32) (v2 : Int32) : Int32 :=
  q_let (F_X5_get X σ (q_rf X a 7) v1 : Int32) (fun r_1 => q_let (F_X5_get X σ (q_rf X a 6) v1 : Int32) (fun r_3 => if r_3.toInt = 60 then if v2.toInt < r_1.toInt then (1 : Int32) else (0 : Int32) else if r_3.toInt = 62 then if r_1.toInt < v2.toInt then (1 : Int32) else (0 : Int32) else if v2.toInt = r_1.toInt then (1 : Int32) else (0 : Int32)))

noncomputable def F_X6_reset (X : XW) (σ : ST) (a : Nat) : ST :=
  q_let (q_si σ a 0 (2 : Int32) : ST) (fun σ_1 => q_let (q_si σ_1 a 1 (1 : Int32) : ST) (fun σ_2 => q_let (q_si σ_2 a 2 (0 : Int32) : ST) (fun σ_3 => q_let (q_si σ_3 a 3 (4 : Int32) : ST) (fun σ_4 => q_let (q_si σ_4 a 4 (0 : Int32) : ST) (fun σ_5 => q_let (F_X5_clear X σ_5 (q_rf X a 5) : ST) (fun σ_7 => σ_7))))))

noncomputable def F_X3_signAt (X : XW) (σ : ST) (a : Nat) (v1 : Int32) : Int32 :=
  q_let (σ.1 a 2 : Int32) (fun f_1 => q_let (f_1 + v1 : Int32) (fun z_2 => if z_2.toInt < 0 then (0 : Int32) else q_let (σ.1 a 1 : Int32) (fun f_4 => if z_2.toInt < f_4.toInt then q_let (q_len X (σ.2.2 a) : Int32) (fun n_6 => if z_2.toInt < n_6.toInt then q_let (σ.1 (σ.2.2 a) z_2.toNatClampNeg : Int32) (fun f_8 => f_8) else (0 : Int32)) else (0 : Int32))))

noncomputable def F_X3_endOfRun_B5_1 (X : XW) (σ : ST) (a : Nat) (v1 : Int32) (v2 : Int32) (B5_1 : Int32 → Int32) (x_2 : Int32) : Int32 :=
  q_let (σ.1 a 1 : Int32) (fun f_4 => if x_2.toInt < f_4.toInt then q_let (q_len X (σ.2.2 a) : Int32) (fun n_6 => if x_2.toInt < n_6.toInt then q_let (σ.1 (σ.2.2 a) x_2.toNatClampNeg : Int32) (fun f_8 => if f_8.toInt < v1.toInt then x_2 else q_let (σ.1 (σ.2.2 a) x_2.toNatClampNeg : Int32) (fun f_10 => if v2.toInt < f_10.toInt then x_2 else q_let (x_2 + 1 : Int32) (fun z_12 => B5_1 z_12))) else x_2) else x_2)

noncomputable def F_X3_endOfRun_L5_1 (X : XW) (σ : ST) (a : Nat) (v1 : Int32) (v2 : Int32) : Nat → Int32 → Int32
  | 0 => fun x_2 => (0 : Int32)
  | k_ + 1 => F_X3_endOfRun_B5_1 X σ a v1 v2 (F_X3_endOfRun_L5_1 X σ a v1 v2 k_)

theorem F_X3_endOfRun_L5_1_s {X : XW} {σ : ST} {a : Nat} {v1 : Int32} {v2 : Int32} {k_ : Nat} {x_2 : Int32} : F_X3_endOfRun_L5_1 X σ a v1 v2 (k_ + 1) x_2 = F_X3_endOfRun_B5_1 X σ a v1 v2 (F_X3_endOfRun_L5_1 X σ a v1 v2 k_) x_2 := rfl

noncomputable def F_X3_endOfRun (X : XW) (σ : ST) (a : Nat) (v1 : Int32) (v2 : Int32) : Int32 :=
  q_let (σ.1 a 2 : Int32) (fun f_1 => F_X3_endOfRun_L5_1 X σ a v1 v2 ((2147483647 - f_1.toInt).toNat + 1) f_1)

noncomputable def F_X3_size (X : XW) (σ : ST) (a : Nat) : Int32 :=
  q_let (σ.1 a 3 : Int32) (fun f_1 => q_let (σ.1 a 2 : Int32) (fun f_2 => q_let (f_1 - f_2 : Int32) (fun z_3 => z_3)))

noncomputable def F_X3_advance_B165_4 (X : XW) (a : Nat) (B165_4 : Int32 → ST → ST) (x_75 : Int32) (σ_76 : ST) : ST :=
  if x_75.toInt < 4 then q_let (F_X3_size X σ_76 a : Int32) (fun r_79 => if x_75.toInt < r_79.toInt then q_let (σ_76.1 a 5 : Int32) (fun f_82 => q_let (f_82 * (10 : Int32) : Int32) (fun z_83 => q_let (F_X3_signAt X σ_76 a x_75 : Int32) (fun r_84 => q_let (z_83 + r_84 : Int32) (fun z_86 => q_let (z_86 - (48 : Int32) : Int32) (fun z_87 => q_let (q_si σ_76 a 5 z_87 : ST) (fun σ_88 => q_let (x_75 + 1 : Int32) (fun z_89 => B165_4 z_89 σ_88))))))) else σ_76) else σ_76

noncomputable def F_X3_advance_L165_4 (X : XW) (a : Nat) : Nat → Int32 → ST → ST
  | 0 => fun x_75 σ_76 => σ_76
  | k_ + 1 => F_X3_advance_B165_4 X a (F_X3_advance_L165_4 X a k_)

theorem F_X3_advance_L165_4_s {X : XW} {a : Nat} {k_ : Nat} {x_75 : Int32} {σ_76 : ST} : F_X3_advance_L165_4 X a (k_ + 1) x_75 σ_76 = F_X3_advance_B165_4 X a (F_X3_advance_L165_4 X a k_) x_75 σ_76 := rfl

noncomputable def F_X3_advance_B165_7 (X : XW) (a : Nat) (B165_7 : Int32 → ST → ST) (x_92 : Int32) (σ_93 : ST) : ST :=
  if x_92.toInt < 4 then q_let (F_X3_size X σ_93 a : Int32) (fun r_96 => if x_92.toInt < r_96.toInt then q_let (σ_93.1 a 5 : Int32) (fun f_99 => q_let (f_99 * (10 : Int32) : Int32) (fun z_100 => q_let (F_X3_signAt X σ_93 a x_92 : Int32) (fun r_101 => q_let (z_100 + r_101 : Int32) (fun z_103 => q_let (z_103 - (48 : Int32) : Int32) (fun z_104 => q_let (q_si σ_93 a 5 z_104 : ST) (fun σ_105 => q_let (x_92 + 1 : Int32) (fun z_106 => B165_7 z_106 σ_105))))))) else σ_93) else σ_93

noncomputable def F_X3_advance_L165_7 (X : XW) (a : Nat) : Nat → Int32 → ST → ST
  | 0 => fun x_92 σ_93 => σ_93
  | k_ + 1 => F_X3_advance_B165_7 X a (F_X3_advance_L165_7 X a k_)

theorem F_X3_advance_L165_7_s {X : XW} {a : Nat} {k_ : Nat} {x_92 : Int32} {σ_93 : ST} : F_X3_advance_L165_7 X a (k_ + 1) x_92 σ_93 = F_X3_advance_B165_7 X a (F_X3_advance_L165_7 X a k_) x_92 σ_93 := rfl

noncomputable def F_X3_advance_J117_3 (X : XW) (r_10 : Int32) (σ_8 : ST) (a : Nat) : ST :=
  if r_10.toInt < 48 then if r_10.toInt = 59 then q_let (q_si σ_8 a 4 (3 : Int32) : ST) (fun σ_17 => q_let (σ_17.1 a 2 : Int32) (fun f_18 => q_let (f_18 + (1 : Int32) : Int32) (fun z_19 => q_let (q_si σ_17 a 3 z_19 : ST) (fun σ_20 => σ_20)))) else if r_10.toInt = 60 then q_let (q_si σ_8 a 4 (3 : Int32) : ST) (fun σ_22 => q_let (σ_22.1 a 2 : Int32) (fun f_23 => q_let (f_23 + (1 : Int32) : Int32) (fun z_24 => q_let (q_si σ_22 a 3 z_24 : ST) (fun σ_25 => σ_25)))) else if r_10.toInt = 62 then q_let (q_si σ_8 a 4 (3 : Int32) : ST) (fun σ_27 => q_let (σ_27.1 a 2 : Int32) (fun f_28 => q_let (f_28 + (1 : Int32) : Int32) (fun z_29 => q_let (q_si σ_27 a 3 z_29 : ST) (fun σ_30 => σ_30)))) else if r_10.toInt = 61 then q_let (q_si σ_8 a 4 (3 : Int32) : ST) (fun σ_36 => q_let (σ_36.1 a 2 : Int32) (fun f_37 => q_let (f_37 + (1 : Int32) : Int32) (fun z_38 => q_let (q_si σ_36 a 3 z_38 : ST) (fun σ_39 => σ_39)))) else q_let (q_si σ_8 a 4 (4 : Int32) : ST) (fun σ_32 => q_let (σ_32.1 a 2 : Int32) (fun f_33 => q_let (f_33 + (1 : Int32) : Int32) (fun z_34 => q_let (q_si σ_32 a 3 z_34 : ST) (fun σ_35 => σ_35)))) else if 57 < r_10.toInt then if r_10.toInt = 59 then q_let (q_si σ_8 a 4 (3 : Int32) : ST) (fun σ_42 => q_let (σ_42.1 a 2 : Int32) (fun f_43 => q_let (f_43 + (1 : Int32) : Int32) (fun z_44 => q_let (q_si σ_42 a 3 z_44 : ST) (fun σ_45 => σ_45)))) else if r_10.toInt = 60 then q_let (q_si σ_8 a 4 (3 : Int32) : ST) (fun σ_47 => q_let (σ_47.1 a 2 : Int32) (fun f_48 => q_let (f_48 + (1 : Int32) : Int32) (fun z_49 => q_let (q_si σ_47 a 3 z_49 : ST) (fun σ_50 => σ_50)))) else if r_10.toInt = 62 then q_let (q_si σ_8 a 4 (3 : Int32) : ST) (fun σ_52 => q_let (σ_52.1 a 2 : Int32) (fun f_53 => q_let (f_53 + (1 : Int32) : Int32) (fun z_54 => q_let (q_si σ_52 a 3 z_54 : ST) (fun σ_55 => σ_55)))) else if r_10.toInt = 61 then q_let (q_si σ_8 a 4 (3 : Int32) : ST) (fun σ_61 => q_let (σ_61.1 a 2 : Int32) (fun f_62 => q_let (f_62 + (1 : Int32) : Int32) (fun z_63 => q_let (q_si σ_61 a 3 z_63 : ST) (fun σ_64 => σ_64)))) else q_let (q_si σ_8 a 4 (4 : Int32) : ST) (fun σ_57 => q_let (σ_57.1 a 2 : Int32) (fun f_58 => q_let (f_58 + (1 : Int32) : Int32) (fun z_59 => q_let (q_si σ_57 a 3 z_59 : ST) (fun σ_60 => σ_60)))) else q_let (F_X3_endOfRun X σ_8 a (48 : Int32) (57 : Int32) : Int32) (fun r_67 => q_let (q_si σ_8 a 3 r_67 : ST) (fun σ_69 => q_let (F_X3_size X σ_69 a : Int32) (fun r_70 => if 4 < r_70.toInt then q_let (q_si σ_69 a 4 (4 : Int32) : ST) (fun σ_90 => q_let (q_si σ_90 a 5 (0 : Int32) : ST) (fun σ_91 => F_X3_advance_L165_7 X a ((2147483647 - (0 : Int32).toInt).toNat + 1) (0 : Int32) σ_91)) else q_let (q_si σ_69 a 4 (2 : Int32) : ST) (fun σ_73 => q_let (q_si σ_73 a 5 (0 : Int32) : ST) (fun σ_74 => F_X3_advance_L165_4 X a ((2147483647 - (0 : Int32).toInt).toNat + 1) (0 : Int32) σ_74)))))

noncomputable def F_X3_advance_J52_2 (X : XW) (σ_3 : ST) (a : Nat) : ST :=
  q_let (σ_3.1 a 2 : Int32) (fun f_7 => q_let (q_si σ_3 a 3 f_7 : ST) (fun σ_8 => q_let (F_X3_signAt X σ_8 a (0 : Int32) : Int32) (fun r_10 => q_let (σ_8.1 a 2 : Int32) (fun f_12 => q_let (σ_8.1 a 1 : Int32) (fun f_13 => if f_12.toInt < f_13.toInt then if r_10.toInt < 97 then F_X3_advance_J117_3 X r_10 σ_8 a else if 122 < r_10.toInt then F_X3_advance_J117_3 X r_10 σ_8 a else q_let (q_si σ_8 a 4 (1 : Int32) : ST) (fun σ_109 => q_let (F_X3_endOfRun X σ_109 a (97 : Int32) (122 : Int32) : Int32) (fun r_112 => q_let (q_si σ_109 a 3 r_112 : ST) (fun σ_114 => σ_114))) else q_let (q_si σ_8 a 4 (0 : Int32) : ST) (fun σ_115 => σ_115))))))

noncomputable def F_X3_advance_B8_1 (X : XW) (a : Nat) (B8_1 : ST → ST) (σ_3 : ST) : ST :=
  q_let (σ_3.1 a 2 : Int32) (fun f_5 => q_let (σ_3.1 a 1 : Int32) (fun f_6 => if f_5.toInt < f_6.toInt then q_let (F_X3_signAt X σ_3 a (0 : Int32) : Int32) (fun r_118 => if r_118.toInt = 10 then q_let (σ_3.1 a 2 : Int32) (fun f_121 => q_let (f_121 + (1 : Int32) : Int32) (fun z_122 => q_let (q_si σ_3 a 2 z_122 : ST) (fun σ_123 => B8_1 σ_123))) else q_let (F_X3_signAt X σ_3 a (0 : Int32) : Int32) (fun r_125 => if r_125.toInt = 32 then q_let (σ_3.1 a 2 : Int32) (fun f_128 => q_let (f_128 + (1 : Int32) : Int32) (fun z_129 => q_let (q_si σ_3 a 2 z_129 : ST) (fun σ_130 => B8_1 σ_130))) else F_X3_advance_J52_2 X σ_3 a)) else F_X3_advance_J52_2 X σ_3 a))

noncomputable def F_X3_advance_L8_1 (X : XW) (a : Nat) : Nat → ST → ST
  | 0 => fun σ_3 => σ_3
  | k_ + 1 => F_X3_advance_B8_1 X a (F_X3_advance_L8_1 X a k_)

theorem F_X3_advance_L8_1_s {X : XW} {a : Nat} {k_ : Nat} {σ_3 : ST} : F_X3_advance_L8_1 X a (k_ + 1) σ_3 = F_X3_advance_B8_1 X a (F_X3_advance_L8_1 X a k_) σ_3 := rfl

noncomputable def F_X3_advance (X : XW) (σ : ST) (a : Nat) : ST :=
  q_let (σ.1 a 3 : Int32) (fun f_1 => q_let (q_si σ a 2 f_1 : ST) (fun σ_2 => F_X3_advance_L8_1 X a ((2147483647 - (σ_2.1 a 2).toInt).toNat + 1) σ_2))

noncomputable def F_X3_start (X : XW) (σ : ST) (a : Nat) (r1 : Nat) (v2 : Int32) : ST :=
  q_let (q_st σ a r1 : ST) (fun σ_1 => q_let (q_len X r1 : Int32) (fun n_2 => q_let (F_J9_min_7cf53 X σ_1 v2 n_2 : Int32) (fun r_3 => q_let (F_J9_max_7cf53 X σ_1 (0 : Int32) r_3 : Int32) (fun r_6 => q_let (q_si σ_1 a 1 r_6 : ST) (fun σ_8 => q_let (q_si σ_8 a 3 (0 : Int32) : ST) (fun σ_9 => q_let (q_si σ_9 a 6 (0 : Int32) : ST) (fun σ_10 => q_let (q_si σ_10 a 7 ((-1) : Int32) : ST) (fun σ_11 => q_let (F_X3_advance X σ_11 a : ST) (fun σ_13 => σ_13)))))))))

noncomputable def F_X3_isWord_B23_1 (X : XW) (σ : ST) (r1 : Nat) (a : Nat) (B23_1 : Int32 → Int32) (x_8 : Int32) : Int32 :=
  q_let (F_J0_length_8abf5 X σ r1 : Int32) (fun r_10 => if x_8.toInt < r_10.toInt then q_let (F_J0_charAt_5068e X σ r1 x_8 : Int32) (fun r_13 => q_let (F_X3_signAt X σ a x_8 : Int32) (fun r_15 => if r_13.toInt = r_15.toInt then q_let (x_8 + 1 : Int32) (fun z_18 => B23_1 z_18) else (0 : Int32))) else (1 : Int32))

noncomputable def F_X3_isWord_L23_1 (X : XW) (σ : ST) (r1 : Nat) (a : Nat) : Nat → Int32 → Int32
  | 0 => fun x_8 => (0 : Int32)
  | k_ + 1 => F_X3_isWord_B23_1 X σ r1 a (F_X3_isWord_L23_1 X σ r1 a k_)

theorem F_X3_isWord_L23_1_s {X : XW} {σ : ST} {r1 : Nat} {a : Nat} {k_ : Nat} {x_8 : Int32} : F_X3_isWord_L23_1 X σ r1 a (k_ + 1) x_8 = F_X3_isWord_B23_1 X σ r1 a (F_X3_isWord_L23_1 X σ r1 a k_) x_8 := rfl

noncomputable def F_X3_isWord (X : XW) (σ : ST) (a : Nat) (r1 : Nat) : Int32 :=
  q_let (σ.1 a 4 : Int32) (fun f_1 => if f_1.toInt = 1 then q_let (F_X3_size X σ a : Int32) (fun r_3 => q_let (F_J0_length_8abf5 X σ r1 : Int32) (fun r_5 => if r_3.toInt = r_5.toInt then F_X3_isWord_L23_1 X σ r1 a ((2147483647 - (0 : Int32).toInt).toNat + 1) (0 : Int32) else (0 : Int32))) else (0 : Int32))

noncomputable def F_X3_fails (X : XW) (σ : ST) (a : Nat) (v1 : Int32) : Int32 × ST :=
  q_let (σ.1 a 4 : Int32) (fun f_1 => if f_1.toInt = 4 then q_let (q_si σ a 6 (1 : Int32) : ST) (fun σ_6 => q_let (σ_6.1 a 2 : Int32) (fun f_7 => q_let (q_si σ_6 a 7 f_7 : ST) (fun σ_8 => ((0 : Int32), σ_8)))) else q_let (q_si σ a 6 v1 : ST) (fun σ_3 => q_let (σ_3.1 a 2 : Int32) (fun f_4 => q_let (q_si σ_3 a 7 f_4 : ST) (fun σ_5 => ((0 : Int32), σ_5)))))

noncomputable def F_X3_passWord (X : XW) (σ : ST) (a : Nat) (r1 : Nat) : Int32 × ST :=
  q_let (F_X3_isWord X σ a r1 : Int32) (fun r_1 => if r_1.toInt = 0 then q_bi (F_X3_fails X σ a (2 : Int32)) (fun r_7 σ_8 => (r_7, σ_8)) else q_let (F_X3_advance X σ a : ST) (fun σ_5 => ((1 : Int32), σ_5)))

noncomputable def F_X3_mustBeNumber (X : XW) (σ : ST) (a : Nat) (v1 : Int32) (v2 : Int32) : Int32 × ST :=
  q_let (σ.1 a 4 : Int32) (fun f_1 => if f_1.toInt = 2 then q_let (σ.1 a 5 : Int32) (fun f_3 => if f_3.toInt < v1.toInt then q_bi (F_X3_fails X σ a (4 : Int32)) (fun r_6 σ_7 => if r_6.toInt = 0 then ((0 : Int32), σ_7) else ((1 : Int32), σ_7)) else q_let (σ.1 a 5 : Int32) (fun f_9 => if v2.toInt < f_9.toInt then q_bi (F_X3_fails X σ a (4 : Int32)) (fun r_12 σ_13 => if r_12.toInt = 0 then ((0 : Int32), σ_13) else ((1 : Int32), σ_13)) else ((1 : Int32), σ))) else q_bi (F_X3_fails X σ a (2 : Int32)) (fun r_16 σ_17 => (r_16, σ_17)))

noncomputable def F_X3_passNumber (X : XW) (σ : ST) (a : Nat) (v1 : Int32) (v2 : Int32) : Int32 × ST :=
  q_bi (F_X3_mustBeNumber X σ a v1 v2) (fun r_1 σ_2 => if r_1.toInt = 0 then (((-1) : Int32), σ_2) else q_let (σ_2.1 a 5 : Int32) (fun f_4 => q_let (F_X3_advance X σ_2 a : ST) (fun σ_6 => (f_4, σ_6))))

noncomputable def F_X3_passSemicolon (X : XW) (σ : ST) (a : Nat) : Int32 × ST :=
  q_let (σ.1 a 4 : Int32) (fun f_1 => if f_1.toInt = 3 then q_let (F_X3_signAt X σ a (0 : Int32) : Int32) (fun r_7 => if r_7.toInt = 59 then q_let (F_X3_advance X σ a : ST) (fun σ_11 => ((1 : Int32), σ_11)) else q_bi (F_X3_fails X σ a (2 : Int32)) (fun r_13 σ_14 => (r_13, σ_14))) else q_bi (F_X3_fails X σ a (2 : Int32)) (fun r_4 σ_5 => (r_4, σ_5)))

noncomputable def F_X3_isReserved_B4_1 (X : XW) (σ : ST) (a : Nat) (B4_1 : Int32 → Int32 → Int32) (x_1 : Int32) (x_2 : Int32) : Int32 :=
  q_let (F_J0_length_8abf5 X σ 8 : Int32) (fun r_4 => if x_2.toInt < r_4.toInt then q_let (F_J0_charAt_5068e X σ 8 x_2 : Int32) (fun r_7 => if r_7.toInt = 32 then q_let (F_X3_size X σ a : Int32) (fun r_18 => if x_1.toInt = r_18.toInt then (1 : Int32) else q_let (x_2 + 1 : Int32) (fun z_21 => B4_1 (0 : Int32) z_21)) else if x_1.toInt < 0 then q_let (x_2 + 1 : Int32) (fun z_11 => B4_1 x_1 z_11) else q_let (F_X3_signAt X σ a x_1 : Int32) (fun r_12 => if r_7.toInt = r_12.toInt then q_let (x_1 + (1 : Int32) : Int32) (fun z_16 => q_let (x_2 + 1 : Int32) (fun z_17 => B4_1 z_16 z_17)) else q_let (x_2 + 1 : Int32) (fun z_15 => B4_1 ((-1) : Int32) z_15))) else (0 : Int32))

noncomputable def F_X3_isReserved_L4_1 (X : XW) (σ : ST) (a : Nat) : Nat → Int32 → Int32 → Int32
  | 0 => fun x_1 x_2 => (0 : Int32)
  | k_ + 1 => F_X3_isReserved_B4_1 X σ a (F_X3_isReserved_L4_1 X σ a k_)

theorem F_X3_isReserved_L4_1_s {X : XW} {σ : ST} {a : Nat} {k_ : Nat} {x_1 : Int32} {x_2 : Int32} : F_X3_isReserved_L4_1 X σ a (k_ + 1) x_1 x_2 = F_X3_isReserved_B4_1 X σ a (F_X3_isReserved_L4_1 X σ a k_) x_1 x_2 := rfl

noncomputable def F_X3_isReserved (X : XW) (σ : ST) (a : Nat) : Int32 :=
  F_X3_isReserved_L4_1 X σ a ((2147483647 - (0 : Int32).toInt).toNat + 1) (0 : Int32) (0 : Int32)

noncomputable def F_X3_mustBeName (X : XW) (σ : ST) (a : Nat) : Int32 × ST :=
  q_let (σ.1 a 4 : Int32) (fun f_1 => if f_1.toInt = 1 then q_let (F_X3_size X σ a : Int32) (fun r_7 => if 8 < r_7.toInt then q_bi (F_X3_fails X σ a (2 : Int32)) (fun r_11 σ_12 => if r_11.toInt = 0 then ((0 : Int32), σ_12) else ((1 : Int32), σ_12)) else q_let (F_X3_isReserved X σ a : Int32) (fun r_14 => if r_14.toInt = 0 then ((1 : Int32), σ) else q_bi (F_X3_fails X σ a (2 : Int32)) (fun r_18 σ_19 => if r_18.toInt = 0 then ((0 : Int32), σ_19) else ((1 : Int32), σ_19)))) else q_bi (F_X3_fails X σ a (2 : Int32)) (fun r_4 σ_5 => if r_4.toInt = 0 then ((0 : Int32), σ_5) else ((1 : Int32), σ_5)))

noncomputable def F_X6_isNamed_B22_1 (X : XW) (r_1 : Int32) (v1 : Int32) (σ : ST) (a : Nat) (r2 : Nat) (B22_1 : Int32 → Int32) (x_6 : Int32) : Int32 :=
  if x_6.toInt < r_1.toInt then q_let (v1 * (8 : Int32) : Int32) (fun z_9 => q_let (z_9 + x_6 : Int32) (fun z_10 => q_let (F_X5_get X σ (q_rf X a 6) z_10 : Int32) (fun r_11 => q_let (F_X3_signAt X σ r2 x_6 : Int32) (fun r_13 => if r_11.toInt = r_13.toInt then q_let (x_6 + 1 : Int32) (fun z_16 => B22_1 z_16) else (0 : Int32))))) else (1 : Int32)

noncomputable def F_X6_isNamed_L22_1 (X : XW) (r_1 : Int32) (v1 : Int32) (σ : ST) (a : Nat) (r2 : Nat) : Nat → Int32 → Int32
  | 0 => fun x_6 => (0 : Int32)
  | k_ + 1 => F_X6_isNamed_B22_1 X r_1 v1 σ a r2 (F_X6_isNamed_L22_1 X r_1 v1 σ a r2 k_)

theorem F_X6_isNamed_L22_1_s {X : XW} {r_1 : Int32} {v1 : Int32} {σ : ST} {a : Nat} {r2 : Nat} {k_ : Nat} {x_6 : Int32} : F_X6_isNamed_L22_1 X r_1 v1 σ a r2 (k_ + 1) x_6 = F_X6_isNamed_B22_1 X r_1 v1 σ a r2 (F_X6_isNamed_L22_1 X r_1 v1 σ a r2 k_) x_6 := rfl

noncomputable def F_X6_isNamed (X : XW) (σ : ST) (a : Nat) (v1 : Int32) (r2 : Nat) : Int32 :=
  q_let (F_X5_get X σ (q_rf X a 7) v1 : Int32) (fun r_1 => q_let (F_X3_size X σ r2 : Int32) (fun r_3 => if r_1.toInt = r_3.toInt then F_X6_isNamed_L22_1 X r_1 v1 σ a r2 ((2147483647 - (0 : Int32).toInt).toNat + 1) (0 : Int32) else (0 : Int32)))

noncomputable def F_X6_playerNamed_B2_1 (X : XW) (σ : ST) (a : Nat) (r1 : Nat) (B2_1 : Int32 → Int32) (x_1 : Int32) : Int32 :=
  q_let (σ.1 a 4 : Int32) (fun f_3 => if x_1.toInt < f_3.toInt then q_let (F_X6_isNamed X σ a x_1 r1 : Int32) (fun r_5 => if r_5.toInt = 0 then q_let (x_1 + 1 : Int32) (fun z_8 => B2_1 z_8) else x_1) else ((-1) : Int32))

noncomputable def F_X6_playerNamed_L2_1 (X : XW) (σ : ST) (a : Nat) (r1 : Nat) : Nat → Int32 → Int32
  | 0 => fun x_1 => (0 : Int32)
  | k_ + 1 => F_X6_playerNamed_B2_1 X σ a r1 (F_X6_playerNamed_L2_1 X σ a r1 k_)

theorem F_X6_playerNamed_L2_1_s {X : XW} {σ : ST} {a : Nat} {r1 : Nat} {k_ : Nat} {x_1 : Int32} : F_X6_playerNamed_L2_1 X σ a r1 (k_ + 1) x_1 = F_X6_playerNamed_B2_1 X σ a r1 (F_X6_playerNamed_L2_1 X σ a r1 k_) x_1 := rfl

noncomputable def F_X6_playerNamed (X : XW) (σ : ST) (a : Nat) (r1 : Nat) : Int32 :=
  F_X6_playerNamed_L2_1 X σ a r1 ((2147483647 - (0 : Int32).toInt).toNat + 1) (0 : Int32)

noncomputable def F_X6_addPlayer_E56_2 (X : XW) (σ_7 : ST) (a : Nat) (r1 : Nat) : ST :=
  q_let (σ_7.1 a 4 : Int32) (fun f_12 => q_let (F_X3_size X σ_7 r1 : Int32) (fun r_13 => q_let (F_X5_set X σ_7 (q_rf X a 7) f_12 r_13 : ST) (fun σ_16 => q_let (σ_16.1 a 4 : Int32) (fun f_17 => q_let (f_17 + (1 : Int32) : Int32) (fun z_18 => q_let (q_si σ_16 a 4 z_18 : ST) (fun σ_19 => σ_19))))))

noncomputable def F_X6_addPlayer_B21_1 (X : XW) (r1 : Nat) (a : Nat) (B21_1 : Int32 → ST → ST) (x_6 : Int32) (σ_7 : ST) : ST :=
  q_let (F_X3_size X σ_7 r1 : Int32) (fun r_9 => if x_6.toInt < r_9.toInt then q_let (σ_7.1 a 4 : Int32) (fun f_20 => q_let (f_20 * (8 : Int32) : Int32) (fun z_21 => q_let (z_21 + x_6 : Int32) (fun z_22 => q_let (F_X3_signAt X σ_7 r1 x_6 : Int32) (fun r_23 => q_let (F_X5_set X σ_7 (q_rf X a 6) z_22 r_23 : ST) (fun σ_26 => q_let (x_6 + 1 : Int32) (fun z_27 => B21_1 z_27 σ_26)))))) else F_X6_addPlayer_E56_2 X σ_7 a r1)

noncomputable def F_X6_addPlayer_L21_1 (X : XW) (r1 : Nat) (a : Nat) : Nat → Int32 → ST → ST
  | 0 => fun x_6 σ_7 => σ_7
  | k_ + 1 => F_X6_addPlayer_B21_1 X r1 a (F_X6_addPlayer_L21_1 X r1 a k_)

theorem F_X6_addPlayer_L21_1_s {X : XW} {r1 : Nat} {a : Nat} {k_ : Nat} {x_6 : Int32} {σ_7 : ST} : F_X6_addPlayer_L21_1 X r1 a (k_ + 1) x_6 σ_7 = F_X6_addPlayer_B21_1 X r1 a (F_X6_addPlayer_L21_1 X r1 a k_) x_6 σ_7 := rfl

noncomputable def F_X6_addPlayer (X : XW) (σ : ST) (a : Nat) (r1 : Nat) : ST :=
  q_let (σ.1 a 4 : Int32) (fun f_1 => if f_1.toInt < 6 then q_let (F_X3_size X σ r1 : Int32) (fun r_3 => if 8 < r_3.toInt then σ else F_X6_addPlayer_L21_1 X r1 a ((2147483647 - (0 : Int32).toInt).toNat + 1) (0 : Int32) σ) else σ)

noncomputable def F_X3_passPlayer (X : XW) (σ : ST) (a : Nat) (r1 : Nat) : Int32 × ST :=
  q_bi (F_X3_mustBeName X σ a) (fun r_1 σ_2 => if r_1.toInt = 0 then (((-1) : Int32), σ_2) else q_let (F_X6_playerNamed X σ_2 r1 a : Int32) (fun r_4 => if r_4.toInt = (-1) then q_bi (F_X3_fails X σ_2 a (3 : Int32)) (fun r_10 σ_11 => (((-1) : Int32), σ_11)) else q_let (F_X3_advance X σ_2 a : ST) (fun σ_8 => (r_4, σ_8))))

noncomputable def F_X6_copyFrom (X : XW) (σ : ST) (a : Nat) (r1 : Nat) : ST :=
  q_let (σ.1 r1 0 : Int32) (fun f_1 => q_let (q_si σ a 0 f_1 : ST) (fun σ_2 => q_let (σ_2.1 r1 1 : Int32) (fun f_3 => q_let (q_si σ_2 a 1 f_3 : ST) (fun σ_4 => q_let (σ_4.1 r1 2 : Int32) (fun f_5 => q_let (q_si σ_4 a 2 f_5 : ST) (fun σ_6 => q_let (σ_6.1 r1 3 : Int32) (fun f_7 => q_let (q_si σ_6 a 3 f_7 : ST) (fun σ_8 => q_let (σ_8.1 r1 4 : Int32) (fun f_9 => q_let (q_si σ_8 a 4 f_9 : ST) (fun σ_10 => q_let (F_X5_copyFrom X σ_10 (q_rf X a 5) (q_rf X r1 5) : ST) (fun σ_12 => q_let (F_X5_copyFrom X σ_12 (q_rf X a 6) (q_rf X r1 6) : ST) (fun σ_14 => q_let (F_X5_copyFrom X σ_14 (q_rf X a 7) (q_rf X r1 7) : ST) (fun σ_16 => σ_16)))))))))))))

noncomputable def F_X6_kindAfter (X : XW) (σ : ST) (a : Nat) (v1 : Int32) (v2 : Int32) : Int32 :=
  q_let (σ.1 a 2 : Int32) (fun f_1 => if f_1.toInt = 2 then v1 else q_let (σ.1 a 0 : Int32) (fun f_3 => if 0 < f_3.toInt then q_let (σ.1 a 2 : Int32) (fun f_5 => if f_5.toInt = 0 then q_let (v1 + v2 : Int32) (fun z_11 => q_let (σ.1 a 0 : Int32) (fun f_12 => q_let (F_J9_floorMod_7cf53 X σ z_11 f_12 : Int32) (fun r_13 => r_13))) else q_let (v1 - v2 : Int32) (fun z_7 => q_let (σ.1 a 0 : Int32) (fun f_8 => q_let (F_J9_floorMod_7cf53 X σ z_7 f_8 : Int32) (fun r_9 => r_9)))) else v1))

noncomputable def F_X6_playerAfter (X : XW) (σ : ST) (a : Nat) (v1 : Int32) (v2 : Int32) : Int32 :=
  q_let (σ.1 a 4 : Int32) (fun f_1 => if 0 < f_1.toInt then q_let (v1 + v2 : Int32) (fun z_3 => q_let (σ.1 a 4 : Int32) (fun f_4 => q_let (F_J9_floorMod_7cf53 X σ z_3 f_4 : Int32) (fun r_5 => r_5))) else (0 : Int32))

noncomputable def F_X6_kindAfterDoubt (X : XW) (σ : ST) (a : Nat) (v1 : Int32) : Int32 :=
  q_let (σ.1 a 0 : Int32) (fun f_1 => if 0 < f_1.toInt then q_let (σ.1 a 2 : Int32) (fun f_3 => if f_3.toInt = 1 then q_let (v1 - (1 : Int32) : Int32) (fun z_9 => q_let (σ.1 a 0 : Int32) (fun f_10 => q_let (F_J9_floorMod_7cf53 X σ z_9 f_10 : Int32) (fun r_11 => r_11))) else q_let (v1 + (1 : Int32) : Int32) (fun z_5 => q_let (σ.1 a 0 : Int32) (fun f_6 => q_let (F_J9_floorMod_7cf53 X σ z_5 f_6 : Int32) (fun r_7 => r_7)))) else v1)

noncomputable def F_X0_reset (X : XW) (σ : ST) (a : Nat) : ST :=
  q_let (F_X6_reset X σ (q_rf X a 0) : ST) (fun σ_2 => q_let (F_X1_reset X σ_2 (q_rf X a 1) : ST) (fun σ_4 => q_let (F_X2_clear X σ_4 (q_rf X a 2) : ST) (fun σ_6 => q_let (F_X8_clear X σ_6 (q_rf X a 3) : ST) (fun σ_8 => q_let (q_si σ_8 a 4 (0 : Int32) : ST) (fun σ_9 => q_let (q_si σ_9 a 5 (0 : Int32) : ST) (fun σ_10 => q_let (q_si σ_10 a 6 ((-1) : Int32) : ST) (fun σ_11 => q_let (q_si σ_11 a 7 (0 : Int32) : ST) (fun σ_12 => σ_12))))))))

noncomputable def F_X0_copyFrom (X : XW) (σ : ST) (a : Nat) (r1 : Nat) : ST :=
  q_let (F_X6_copyFrom X σ (q_rf X a 0) (q_rf X r1 0) : ST) (fun σ_2 => q_let (F_X1_copyFrom X σ_2 (q_rf X a 1) (q_rf X r1 1) : ST) (fun σ_4 => q_let (F_X2_copyFrom X σ_4 (q_rf X a 2) (q_rf X r1 2) : ST) (fun σ_6 => q_let (F_X8_copyFrom X σ_6 (q_rf X a 3) (q_rf X r1 3) : ST) (fun σ_8 => q_let (σ_8.1 r1 4 : Int32) (fun f_9 => q_let (q_si σ_8 a 4 f_9 : ST) (fun σ_10 => q_let (σ_10.1 r1 5 : Int32) (fun f_11 => q_let (q_si σ_10 a 5 f_11 : ST) (fun σ_12 => q_let (σ_12.1 r1 6 : Int32) (fun f_13 => q_let (q_si σ_12 a 6 f_13 : ST) (fun σ_14 => q_let (σ_14.1 r1 7 : Int32) (fun f_15 => q_let (q_si σ_14 a 7 f_15 : ST) (fun σ_16 => σ_16))))))))))))

noncomputable def F_X0_clearWanted (X : XW) (σ : ST) (a : Nat) : ST :=
  q_let (F_X5_clear X σ (q_rf X a 8) : ST) (fun σ_2 => q_let (q_si σ_2 a 9 (0 : Int32) : ST) (fun σ_3 => σ_3))

noncomputable def F_X0_want (X : XW) (σ : ST) (a : Nat) (v1 : Int32) (v2 : Int32) : ST :=
  if v1.toInt = (-1) then σ else q_let (F_X5_add X σ (q_rf X a 8) v1 v2 : ST) (fun σ_3 => q_let (σ_3.1 a 9 : Int32) (fun f_4 => q_let (f_4 + v2 : Int32) (fun z_5 => q_let (q_si σ_3 a 9 z_5 : ST) (fun σ_6 => σ_6))))

noncomputable def F_X0_holdsWanted_B2_1 (X : XW) (σ : ST) (a : Nat) (B2_1 : Int32 → Int32) (x_1 : Int32) : Int32 :=
  q_let (σ.1 (q_rf X a 0) 0 : Int32) (fun f_3 => if x_1.toInt < f_3.toInt then q_let (σ.1 a 5 : Int32) (fun f_5 => q_let (F_X1_heldBy X σ (q_rf X a 1) f_5 x_1 : Int32) (fun r_6 => q_let (F_X5_get X σ (q_rf X a 8) x_1 : Int32) (fun r_8 => if r_6.toInt < r_8.toInt then (0 : Int32) else q_let (x_1 + 1 : Int32) (fun z_11 => B2_1 z_11)))) else (1 : Int32))

noncomputable def F_X0_holdsWanted_L2_1 (X : XW) (σ : ST) (a : Nat) : Nat → Int32 → Int32
  | 0 => fun x_1 => (0 : Int32)
  | k_ + 1 => F_X0_holdsWanted_B2_1 X σ a (F_X0_holdsWanted_L2_1 X σ a k_)

theorem F_X0_holdsWanted_L2_1_s {X : XW} {σ : ST} {a : Nat} {k_ : Nat} {x_1 : Int32} : F_X0_holdsWanted_L2_1 X σ a (k_ + 1) x_1 = F_X0_holdsWanted_B2_1 X σ a (F_X0_holdsWanted_L2_1 X σ a k_) x_1 := rfl

noncomputable def F_X0_holdsWanted (X : XW) (σ : ST) (a : Nat) : Int32 :=
  F_X0_holdsWanted_L2_1 X σ a ((2147483647 - (0 : Int32).toInt).toNat + 1) (0 : Int32)

noncomputable def F_X0_layWanted_E70_2 (X : XW) (σ_6 : ST) (a : Nat) : ST :=
  q_let (q_si σ_6 a 7 (1 : Int32) : ST) (fun σ_10 => σ_10)

noncomputable def F_X0_layWanted_B17_1 (X : XW) (a : Nat) (B17_1 : Int32 → ST → ST) (x_5 : Int32) (σ_6 : ST) : ST :=
  q_let (σ_6.1 (q_rf X a 0) 0 : Int32) (fun f_8 => if x_5.toInt < f_8.toInt then q_let (σ_6.1 a 5 : Int32) (fun f_11 => q_let (F_X5_get X σ_6 (q_rf X a 8) x_5 : Int32) (fun r_12 => q_let (F_X1_moveToHeap X σ_6 (q_rf X a 1) f_11 x_5 r_12 : ST) (fun σ_15 => q_let (F_X5_get X σ_15 (q_rf X a 8) x_5 : Int32) (fun r_16 => q_let (F_X2_add X σ_15 (q_rf X a 2) x_5 r_16 : ST) (fun σ_19 => q_let (x_5 + 1 : Int32) (fun z_20 => B17_1 z_20 σ_19)))))) else F_X0_layWanted_E70_2 X σ_6 a)

noncomputable def F_X0_layWanted_L17_1 (X : XW) (a : Nat) : Nat → Int32 → ST → ST
  | 0 => fun x_5 σ_6 => σ_6
  | k_ + 1 => F_X0_layWanted_B17_1 X a (F_X0_layWanted_L17_1 X a k_)

theorem F_X0_layWanted_L17_1_s {X : XW} {a : Nat} {k_ : Nat} {x_5 : Int32} {σ_6 : ST} : F_X0_layWanted_L17_1 X a (k_ + 1) x_5 σ_6 = F_X0_layWanted_B17_1 X a (F_X0_layWanted_L17_1 X a k_) x_5 σ_6 := rfl

noncomputable def F_X0_layWanted (X : XW) (σ : ST) (a : Nat) : ST :=
  q_let (σ.1 a 5 : Int32) (fun f_1 => q_let (σ.1 a 4 : Int32) (fun f_2 => q_let (F_X2_begin X σ (q_rf X a 2) f_1 f_2 : ST) (fun σ_4 => F_X0_layWanted_L17_1 X a ((2147483647 - (0 : Int32).toInt).toNat + 1) (0 : Int32) σ_4)))

noncomputable def F_X0_winIfRid (X : XW) (σ : ST) (a : Nat) : ST :=
  q_let (σ.1 a 5 : Int32) (fun f_1 => q_let (F_X5_get X σ (q_rf X (q_rf X a 1) 2) f_1 : Int32) (fun r_2 => if r_2.toInt = 0 then q_let (σ.1 a 5 : Int32) (fun f_5 => q_let (q_si σ a 6 f_5 : ST) (fun σ_6 => σ_6)) else σ))

noncomputable def F_X0_letLie (X : XW) (σ : ST) (a : Nat) : ST :=
  q_let (q_si σ a 7 (0 : Int32) : ST) (fun σ_1 => q_let (F_X0_winIfRid X σ_1 a : ST) (fun σ_3 => q_let (σ_3.1 a 4 : Int32) (fun f_4 => q_let (F_X6_kindAfter X σ_3 (q_rf X a 0) f_4 (1 : Int32) : Int32) (fun r_6 => q_let (q_si σ_3 a 4 r_6 : ST) (fun σ_8 => q_let (σ_8.1 a 5 : Int32) (fun f_9 => q_let (F_X6_playerAfter X σ_8 (q_rf X a 0) f_9 (1 : Int32) : Int32) (fun r_11 => q_let (q_si σ_8 a 5 r_11 : ST) (fun σ_13 => σ_13))))))))

noncomputable def F_X0_challenge_J41_3 (X : XW) (σ : ST) (a : Nat) (x_3 : Int32) (x_4 : Int32) (x_5 : Int32) : Int32 × ST :=
  q_let (σ.1 a 5 : Int32) (fun f_6 => q_let (F_X5_add X σ (q_rf X (q_rf X a 1) 5) f_6 (1 : Int32) : ST) (fun σ_9 => if x_3.toInt = 0 then q_let (σ_9.1 a 5 : Int32) (fun f_11 => q_let (F_X5_add X σ_9 (q_rf X (q_rf X a 1) 6) f_11 (1 : Int32) : ST) (fun σ_14 => q_let (F_X1_takeHeap X σ_14 (q_rf X a 1) x_4 : ST) (fun σ_16 => q_let (F_X2_clear X σ_16 (q_rf X a 2) : ST) (fun σ_18 => q_let (q_si σ_18 a 7 (0 : Int32) : ST) (fun σ_19 => q_let (σ_19.1 a 4 : Int32) (fun f_20 => q_let (F_X6_kindAfterDoubt X σ_19 (q_rf X a 0) f_20 : Int32) (fun r_21 => q_let (q_si σ_19 a 4 r_21 : ST) (fun σ_23 => q_let (q_si σ_23 a 5 x_5 : ST) (fun σ_24 => (x_4, σ_24)))))))))) else q_let (F_X0_winIfRid X σ_9 a : ST) (fun σ_26 => q_let (F_X1_takeHeap X σ_26 (q_rf X a 1) x_4 : ST) (fun σ_28 => q_let (F_X2_clear X σ_28 (q_rf X a 2) : ST) (fun σ_30 => q_let (q_si σ_30 a 7 (0 : Int32) : ST) (fun σ_31 => q_let (σ_31.1 a 4 : Int32) (fun f_32 => q_let (F_X6_kindAfterDoubt X σ_31 (q_rf X a 0) f_32 : Int32) (fun r_33 => q_let (q_si σ_31 a 4 r_33 : ST) (fun σ_35 => q_let (q_si σ_35 a 5 x_5 : ST) (fun σ_36 => (x_4, σ_36)))))))))))

noncomputable def F_X0_challenge_J28_2 (X : XW) (x_3 : Int32) (σ : ST) (a : Nat) (v1 : Int32) (x_4 : Int32) : Int32 × ST :=
  if x_3.toInt = 0 then F_X0_challenge_J41_3 X σ a x_3 x_4 v1 else q_let (σ.1 a 5 : Int32) (fun f_38 => F_X0_challenge_J41_3 X σ a x_3 x_4 f_38)

noncomputable def F_X0_challenge_J15_1 (X : XW) (σ : ST) (a : Nat) (v1 : Int32) (x_3 : Int32) : Int32 × ST :=
  if x_3.toInt = 0 then q_let (σ.1 a 5 : Int32) (fun f_40 => F_X0_challenge_J28_2 X x_3 σ a v1 f_40) else F_X0_challenge_J28_2 X x_3 σ a v1 v1

noncomputable def F_X0_challenge (X : XW) (σ : ST) (a : Nat) (v1 : Int32) : Int32 × ST :=
  q_let (F_X2_topTruth X σ (q_rf X a 2) : Int32) (fun r_1 => if r_1.toInt = 0 then F_X0_challenge_J15_1 X σ a v1 (1 : Int32) else F_X0_challenge_J15_1 X σ a v1 (0 : Int32))

noncomputable def F_X0_unknownTo (X : XW) (σ : ST) (a : Nat) (v1 : Int32) (v2 : Int32) : Int32 :=
  q_let (F_X5_get X σ (q_rf X (q_rf X a 0) 5) v2 : Int32) (fun r_1 => q_let (F_X1_knownTo X σ (q_rf X a 1) v1 v2 : Int32) (fun r_3 => q_let (r_1 - r_3 : Int32) (fun z_5 => z_5)))

noncomputable def F_X0_allUnknownTo_B4_1 (X : XW) (σ : ST) (a : Nat) (v1 : Int32) (B4_1 : Int32 → Int32 → Int32) (x_1 : Int32) (x_2 : Int32) : Int32 :=
  q_let (σ.1 (q_rf X a 0) 0 : Int32) (fun f_4 => if x_2.toInt < f_4.toInt then q_let (F_X0_unknownTo X σ a v1 x_2 : Int32) (fun r_6 => q_let (x_1 + r_6 : Int32) (fun z_8 => q_let (x_2 + 1 : Int32) (fun z_9 => B4_1 z_8 z_9))) else x_1)

noncomputable def F_X0_allUnknownTo_L4_1 (X : XW) (σ : ST) (a : Nat) (v1 : Int32) : Nat → Int32 → Int32 → Int32
  | 0 => fun x_1 x_2 => (0 : Int32)
  | k_ + 1 => F_X0_allUnknownTo_B4_1 X σ a v1 (F_X0_allUnknownTo_L4_1 X σ a v1 k_)

theorem F_X0_allUnknownTo_L4_1_s {X : XW} {σ : ST} {a : Nat} {v1 : Int32} {k_ : Nat} {x_1 : Int32} {x_2 : Int32} : F_X0_allUnknownTo_L4_1 X σ a v1 (k_ + 1) x_1 x_2 = F_X0_allUnknownTo_B4_1 X σ a v1 (F_X0_allUnknownTo_L4_1 X σ a v1 k_) x_1 x_2 := rfl

noncomputable def F_X0_allUnknownTo (X : XW) (σ : ST) (a : Nat) (v1 : Int32) : Int32 :=
  F_X0_allUnknownTo_L4_1 X σ a v1 ((2147483647 - (0 : Int32).toInt).toNat + 1) (0 : Int32) (0 : Int32)

noncomputable def F_X0_isImpossibleFor (X : XW) (σ : ST) (a : Nat) (v1 : Int32) : Int32 :=
  q_let (σ.1 a 4 : Int32) (fun f_1 => q_let (F_X5_get X σ (q_rf X (q_rf X a 0) 5) f_1 : Int32) (fun r_2 => q_let (σ.1 a 4 : Int32) (fun f_4 => q_let (F_X1_knownTo X σ (q_rf X a 1) v1 f_4 : Int32) (fun r_5 => q_let (r_2 - r_5 : Int32) (fun z_7 => q_let (F_X2_topSize X σ (q_rf X a 2) : Int32) (fun r_8 => if z_7.toInt < r_8.toInt then (1 : Int32) else (0 : Int32)))))))

noncomputable def F_X11_waysToTake_B12_1 (X : XW) (v1 : Int32) (v0 : Int32) (B12_1 : Int64 → Int32 → Int64) (w_2 : Int64) (x_3 : Int32) : Int64 :=
  if x_3.toInt < v1.toInt then q_let (v0 - x_3 : Int32) (fun z_6 => q_let (z_6.toInt64 : Int64) (fun y_7 => q_let (w_2 * y_7 : Int64) (fun y_8 => q_let (x_3 + (1 : Int32) : Int32) (fun z_9 => q_let (z_9.toInt64 : Int64) (fun y_11 => q_let (y_8 / y_11 : Int64) (fun y_12 => q_let (x_3 + 1 : Int32) (fun z_13 => B12_1 y_12 z_13))))))) else w_2

noncomputable def F_X11_waysToTake_L12_1 (X : XW) (v1 : Int32) (v0 : Int32) : Nat → Int64 → Int32 → Int64
  | 0 => fun w_2 x_3 => (0 : Int64)
  | k_ + 1 => F_X11_waysToTake_B12_1 X v1 v0 (F_X11_waysToTake_L12_1 X v1 v0 k_)

theorem F_X11_waysToTake_L12_1_s {X : XW} {v1 : Int32} {v0 : Int32} {k_ : Nat} {w_2 : Int64} {x_3 : Int32} : F_X11_waysToTake_L12_1 X v1 v0 (k_ + 1) w_2 x_3 = F_X11_waysToTake_B12_1 X v1 v0 (F_X11_waysToTake_L12_1 X v1 v0 k_) w_2 x_3 := rfl

noncomputable def F_X11_waysToTake (X : XW) (σ : ST) (v0 : Int32) (v1 : Int32) : Int64 :=
  if v0.toInt < v1.toInt then (0 : Int64) else F_X11_waysToTake_L12_1 X v1 v0 ((2147483647 - (0 : Int32).toInt).toNat + 1) (1 : Int64) (0 : Int32)

noncomputable def F_X0_trueWays (X : XW) (σ : ST) (a : Nat) (v1 : Int32) : Int64 :=
  q_let (σ.1 a 4 : Int32) (fun f_1 => q_let (F_X0_unknownTo X σ a v1 f_1 : Int32) (fun r_2 => q_let (F_X2_topSize X σ (q_rf X a 2) : Int32) (fun r_4 => q_let (F_X11_waysToTake X σ r_2 r_4 : Int64) (fun r_6 => r_6))))

noncomputable def F_X0_allWays (X : XW) (σ : ST) (a : Nat) (v1 : Int32) : Int64 :=
  q_let (F_X0_allUnknownTo X σ a v1 : Int32) (fun r_1 => q_let (F_X2_topSize X σ (q_rf X a 2) : Int32) (fun r_3 => q_let (F_X11_waysToTake X σ r_1 r_3 : Int64) (fun r_5 => r_5)))

noncomputable def F_X0_worthTop (X : XW) (σ : ST) (a : Nat) (v1 : Int32) : Int64 :=
  q_let (σ.1 (q_rf X a 2) 1 : Int32) (fun f_1 => q_let (f_1.toInt64 : Int64) (fun y_2 => q_let (F_X0_allWays X σ a v1 : Int64) (fun r_3 => q_let (F_X0_trueWays X σ a v1 : Int64) (fun r_5 => q_let ((2 : Int64) * r_5 : Int64) (fun y_7 => q_let (r_3 - y_7 : Int64) (fun y_8 => q_let (y_2 * y_8 : Int64) (fun y_9 => y_9)))))))

noncomputable def F_X0_turnsAhead (X : XW) (σ : ST) (a : Nat) (v1 : Int32) : Int32 :=
  q_let (σ.1 a 5 : Int32) (fun f_1 => q_let (v1 - f_1 : Int32) (fun z_2 => q_let (F_X6_playerAfter X σ (q_rf X a 0) z_2 (0 : Int32) : Int32) (fun r_4 => if r_4.toInt = 0 then q_let (σ.1 a 7 : Int32) (fun f_7 => if f_7.toInt = 0 then r_4 else q_let (σ.1 (q_rf X a 0) 4 : Int32) (fun f_9 => f_9)) else r_4)))

noncomputable def F_X0_fallingKind (X : XW) (σ : ST) (a : Nat) (v1 : Int32) (v2 : Int32) : Int32 :=
  q_let (σ.1 a 4 : Int32) (fun f_1 => q_let (F_X0_turnsAhead X σ a v1 : Int32) (fun r_2 => q_let (σ.1 (q_rf X a 0) 4 : Int32) (fun f_4 => q_let (v2 * f_4 : Int32) (fun z_5 => q_let (r_2 + z_5 : Int32) (fun z_6 => q_let (F_X6_kindAfter X σ (q_rf X a 0) f_1 z_6 : Int32) (fun r_7 => r_7))))))

noncomputable def F_X0_foresee_B83_4 (X : XW) (v2 : Int32) (a : Nat) (v1 : Int32) (r_1 : Int32) (B83_4 : Int32 → ST → ST) (x_13 : Int32) (σ_14 : ST) : ST :=
  if x_13.toInt < v2.toInt then q_let (σ_14.1 a 12 : Int32) (fun f_17 => if f_17.toInt = (-1) then q_let (F_X0_fallingKind X σ_14 a v1 x_13 : Int32) (fun r_19 => q_let (F_X5_get X σ_14 (q_rf X a 10) r_19 : Int32) (fun r_21 => q_let (σ_14.1 (q_rf X a 0) 3 : Int32) (fun f_23 => q_let (F_J9_min_7cf53 X σ_14 r_21 f_23 : Int32) (fun r_24 => q_let (-r_24 : Int32) (fun z_26 => q_let (F_X5_add X σ_14 (q_rf X a 10) r_19 z_26 : ST) (fun σ_28 => q_let (σ_28.1 a 11 : Int32) (fun f_29 => q_let (f_29 + r_24 : Int32) (fun z_30 => q_let (q_si σ_28 a 11 z_30 : ST) (fun σ_31 => if 0 < r_24.toInt then q_let (q_si σ_31 a 13 r_19 : ST) (fun σ_48 => q_let (σ_48.1 a 11 : Int32) (fun f_49 => if f_49.toInt = r_1.toInt then q_let (x_13 + (1 : Int32) : Int32) (fun z_52 => q_let (q_si σ_48 a 12 z_52 : ST) (fun σ_53 => q_let (x_13 + 1 : Int32) (fun z_54 => B83_4 z_54 σ_53))) else q_let (x_13 + 1 : Int32) (fun z_51 => B83_4 z_51 σ_48))) else q_let (σ_31.1 a 14 : Int32) (fun f_33 => if f_33.toInt = (-1) then q_let (q_si σ_31 a 14 x_13 : ST) (fun σ_41 => q_let (σ_41.1 a 11 : Int32) (fun f_42 => if f_42.toInt = r_1.toInt then q_let (x_13 + (1 : Int32) : Int32) (fun z_45 => q_let (q_si σ_41 a 12 z_45 : ST) (fun σ_46 => q_let (x_13 + 1 : Int32) (fun z_47 => B83_4 z_47 σ_46))) else q_let (x_13 + 1 : Int32) (fun z_44 => B83_4 z_44 σ_41))) else q_let (σ_31.1 a 11 : Int32) (fun f_35 => if f_35.toInt = r_1.toInt then q_let (x_13 + (1 : Int32) : Int32) (fun z_38 => q_let (q_si σ_31 a 12 z_38 : ST) (fun σ_39 => q_let (x_13 + 1 : Int32) (fun z_40 => B83_4 z_40 σ_39))) else q_let (x_13 + 1 : Int32) (fun z_37 => B83_4 z_37 σ_31)))))))))))) else σ_14) else σ_14

noncomputable def F_X0_foresee_L83_4 (X : XW) (v2 : Int32) (a : Nat) (v1 : Int32) (r_1 : Int32) : Nat → Int32 → ST → ST
  | 0 => fun x_13 σ_14 => σ_14
  | k_ + 1 => F_X0_foresee_B83_4 X v2 a v1 r_1 (F_X0_foresee_L83_4 X v2 a v1 r_1 k_)

theorem F_X0_foresee_L83_4_s {X : XW} {v2 : Int32} {a : Nat} {v1 : Int32} {r_1 : Int32} {k_ : Nat} {x_13 : Int32} {σ_14 : ST} : F_X0_foresee_L83_4 X v2 a v1 r_1 (k_ + 1) x_13 σ_14 = F_X0_foresee_B83_4 X v2 a v1 r_1 (F_X0_foresee_L83_4 X v2 a v1 r_1 k_) x_13 σ_14 := rfl

noncomputable def F_X0_foresee_J67_3 (X : XW) (σ_8 : ST) (a : Nat) (v2 : Int32) (v1 : Int32) (r_1 : Int32) (x_9 : Int32) : ST :=
  q_let (q_si σ_8 a 12 x_9 : ST) (fun σ_10 => q_let (q_si σ_10 a 13 ((-1) : Int32) : ST) (fun σ_11 => q_let (q_si σ_11 a 14 ((-1) : Int32) : ST) (fun σ_12 => F_X0_foresee_L83_4 X v2 a v1 r_1 ((2147483647 - (0 : Int32).toInt).toNat + 1) (0 : Int32) σ_12)))

noncomputable def F_X0_foresee_E52_6 (X : XW) (σ_4 : ST) (a : Nat) (r_1 : Int32) (v2 : Int32) (v1 : Int32) : ST :=
  q_let (q_si σ_4 a 11 (0 : Int32) : ST) (fun σ_8 => if r_1.toInt = 0 then F_X0_foresee_J67_3 X σ_8 a v2 v1 r_1 (0 : Int32) else F_X0_foresee_J67_3 X σ_8 a v2 v1 r_1 ((-1) : Int32))

noncomputable def F_X0_foresee_B15_1 (X : XW) (a : Nat) (v1 : Int32) (r_1 : Int32) (v2 : Int32) (B15_1 : Int32 → ST → ST) (x_3 : Int32) (σ_4 : ST) : ST :=
  q_let (σ_4.1 (q_rf X a 0) 0 : Int32) (fun f_6 => if x_3.toInt < f_6.toInt then q_let (F_X1_heldBy X σ_4 (q_rf X a 1) v1 x_3 : Int32) (fun r_56 => q_let (F_X5_set X σ_4 (q_rf X a 10) x_3 r_56 : ST) (fun σ_59 => q_let (x_3 + 1 : Int32) (fun z_60 => B15_1 z_60 σ_59))) else F_X0_foresee_E52_6 X σ_4 a r_1 v2 v1)

noncomputable def F_X0_foresee_L15_1 (X : XW) (a : Nat) (v1 : Int32) (r_1 : Int32) (v2 : Int32) : Nat → Int32 → ST → ST
  | 0 => fun x_3 σ_4 => σ_4
  | k_ + 1 => F_X0_foresee_B15_1 X a v1 r_1 v2 (F_X0_foresee_L15_1 X a v1 r_1 v2 k_)

theorem F_X0_foresee_L15_1_s {X : XW} {a : Nat} {v1 : Int32} {r_1 : Int32} {v2 : Int32} {k_ : Nat} {x_3 : Int32} {σ_4 : ST} : F_X0_foresee_L15_1 X a v1 r_1 v2 (k_ + 1) x_3 σ_4 = F_X0_foresee_B15_1 X a v1 r_1 v2 (F_X0_foresee_L15_1 X a v1 r_1 v2 k_) x_3 σ_4 := rfl

noncomputable def F_X0_foresee (X : XW) (σ : ST) (a : Nat) (v1 : Int32) (v2 : Int32) : ST :=
  q_let (F_X5_get X σ (q_rf X (q_rf X a 1) 2) v1 : Int32) (fun r_1 => F_X0_foresee_L15_1 X a v1 r_1 v2 ((2147483647 - (0 : Int32).toInt).toNat + 1) (0 : Int32) σ)

noncomputable def F_X0_sixteenthsLeft (X : XW) (σ : ST) (a : Nat) (v1 : Int32) (v2 : Int32) (v3 : Int32) : Int32 :=
  q_let (σ.1 a 5 : Int32) (fun f_1 => q_let (F_X5_get X σ (q_rf X (q_rf X a 1) 2) f_1 : Int32) (fun r_2 => q_let (r_2 - v1 : Int32) (fun z_4 => q_let (z_4 - v2 : Int32) (fun z_5 => q_let ((16 : Int32) * z_5 : Int32) (fun z_6 => if 0 < v2.toInt then q_let (σ.1 (q_rf X a 2) 1 : Int32) (fun f_9 => q_let (f_9 + v1 : Int32) (fun z_10 => q_let (z_10 + v2 : Int32) (fun z_11 => q_let (v3 * z_11 : Int32) (fun z_12 => q_let (z_6 + z_12 : Int32) (fun z_13 => z_13))))) else q_let (z_6 + (0 : Int32) : Int32) (fun z_8 => z_8))))))

noncomputable def F_X0_lyingOf_B4_1 (X : XW) (σ : ST) (a : Nat) (v1 : Int32) (B4_1 : Int32 → Int32 → Int32) (x_1 : Int32) (x_2 : Int32) : Int32 :=
  q_let (σ.1 (q_rf X a 0) 4 : Int32) (fun f_4 => if x_2.toInt < f_4.toInt then q_let (F_X1_laidBy X σ (q_rf X a 1) x_2 v1 : Int32) (fun r_6 => q_let (x_1 + r_6 : Int32) (fun z_8 => q_let (x_2 + 1 : Int32) (fun z_9 => B4_1 z_8 z_9))) else x_1)

noncomputable def F_X0_lyingOf_L4_1 (X : XW) (σ : ST) (a : Nat) (v1 : Int32) : Nat → Int32 → Int32 → Int32
  | 0 => fun x_1 x_2 => (0 : Int32)
  | k_ + 1 => F_X0_lyingOf_B4_1 X σ a v1 (F_X0_lyingOf_L4_1 X σ a v1 k_)

theorem F_X0_lyingOf_L4_1_s {X : XW} {σ : ST} {a : Nat} {v1 : Int32} {k_ : Nat} {x_1 : Int32} {x_2 : Int32} : F_X0_lyingOf_L4_1 X σ a v1 (k_ + 1) x_1 x_2 = F_X0_lyingOf_B4_1 X σ a v1 (F_X0_lyingOf_L4_1 X σ a v1 k_) x_1 x_2 := rfl

noncomputable def F_X0_lyingOf (X : XW) (σ : ST) (a : Nat) (v1 : Int32) : Int32 :=
  F_X0_lyingOf_L4_1 X σ a v1 ((2147483647 - (0 : Int32).toInt).toNat + 1) (0 : Int32) (0 : Int32)

noncomputable def F_X9_readHead (X : XW) (σ : ST) (a : Nat) : Int32 × ST :=
  q_bi (F_X3_passWord X σ a 0) (fun r_1 σ_2 => if r_1.toInt = 0 then ((0 : Int32), σ_2) else q_bi (F_X3_passNumber X σ_2 a (2 : Int32) (10 : Int32)) (fun r_6 σ_7 => if r_6.toInt = (-1) then ((0 : Int32), σ_7) else q_bi (F_X3_passWord X σ_7 a 1) (fun r_9 σ_10 => if r_9.toInt = 0 then ((0 : Int32), σ_10) else q_bi (F_X3_passNumber X σ_10 a (1 : Int32) (8 : Int32)) (fun r_14 σ_15 => if r_14.toInt = (-1) then ((0 : Int32), σ_15) else q_let (q_si σ_15 (q_rf X (q_rf X a 8) 0) 0 r_6 : ST) (fun σ_17 => q_let (q_si σ_17 (q_rf X (q_rf X a 8) 0) 1 r_14 : ST) (fun σ_18 => q_bi (F_X3_passSemicolon X σ_18 a) (fun r_19 σ_20 => (r_19, σ_20))))))))

noncomputable def F_X9_readLaw (X : XW) (σ : ST) (a : Nat) : Int32 × ST :=
  q_let (σ.1 a 9 : Int32) (fun f_1 => if f_1.toInt = 0 then q_let (q_si σ a 9 (1 : Int32) : ST) (fun σ_3 => q_let (F_X3_advance X σ_3 a : ST) (fun σ_5 => q_let (F_X3_isWord X σ_5 a 3 : Int32) (fun r_6 => if r_6.toInt = 0 then q_let (F_X3_isWord X σ_5 a 4 : Int32) (fun r_9 => if r_9.toInt = 0 then q_let (F_X3_isWord X σ_5 a 5 : Int32) (fun r_12 => if r_12.toInt = 0 then q_bi (F_X3_fails X σ_5 a (2 : Int32)) (fun r_16 σ_17 => (r_16, σ_17)) else q_let (q_si σ_5 (q_rf X (q_rf X a 8) 0) 2 (2 : Int32) : ST) (fun σ_18 => q_let (F_X3_advance X σ_18 a : ST) (fun σ_20 => q_bi (F_X3_passSemicolon X σ_20 a) (fun r_21 σ_22 => (r_21, σ_22))))) else q_let (q_si σ_5 (q_rf X (q_rf X a 8) 0) 2 (1 : Int32) : ST) (fun σ_23 => q_let (F_X3_advance X σ_23 a : ST) (fun σ_25 => q_bi (F_X3_passSemicolon X σ_25 a) (fun r_26 σ_27 => (r_26, σ_27))))) else q_let (q_si σ_5 (q_rf X (q_rf X a 8) 0) 2 (0 : Int32) : ST) (fun σ_28 => q_let (F_X3_advance X σ_28 a : ST) (fun σ_30 => q_bi (F_X3_passSemicolon X σ_30 a) (fun r_31 σ_32 => (r_31, σ_32))))))) else q_bi (F_X3_fails X σ a (5 : Int32)) (fun r_34 σ_35 => (r_34, σ_35)))

noncomputable def F_X9_readMost (X : XW) (σ : ST) (a : Nat) : Int32 × ST :=
  q_let (σ.1 a 10 : Int32) (fun f_1 => if f_1.toInt = 0 then q_let (q_si σ a 10 (1 : Int32) : ST) (fun σ_3 => q_let (F_X3_advance X σ_3 a : ST) (fun σ_5 => q_bi (F_X3_passNumber X σ_5 a (1 : Int32) (4 : Int32)) (fun r_8 σ_9 => if r_8.toInt = (-1) then ((0 : Int32), σ_9) else q_let (q_si σ_9 (q_rf X (q_rf X a 8) 0) 3 r_8 : ST) (fun σ_11 => q_bi (F_X3_passSemicolon X σ_11 a) (fun r_12 σ_13 => (r_12, σ_13)))))) else q_bi (F_X3_fails X σ a (5 : Int32)) (fun r_15 σ_16 => (r_15, σ_16)))

noncomputable def F_X9_readSixteenths (X : XW) (σ : ST) (a : Nat) (r1 : Nat) (r2 : Nat) (v3 : Int32) : Int32 × ST :=
  q_let (F_X3_isWord X σ a r1 : Int32) (fun r_1 => if r_1.toInt = 0 then ((1 : Int32), σ) else q_let (F_X3_advance X σ a : ST) (fun σ_5 => q_bi (F_X3_passNumber X σ_5 a (0 : Int32) (16 : Int32)) (fun r_8 σ_9 => q_let (F_X5_set X σ_9 r2 v3 r_8 : ST) (fun σ_11 => if r_8.toInt = (-1) then ((0 : Int32), σ_11) else ((1 : Int32), σ_11)))))

noncomputable def F_X9_readPlayer (X : XW) (σ : ST) (a : Nat) : Int32 × ST :=
  q_let (σ.1 (q_rf X (q_rf X a 8) 0) 4 : Int32) (fun f_1 => if f_1.toInt < 6 then q_let (F_X3_advance X σ a : ST) (fun σ_4 => q_bi (F_X3_mustBeName X σ_4 a) (fun r_5 σ_6 => if r_5.toInt = 0 then ((0 : Int32), σ_6) else q_let (F_X6_playerNamed X σ_6 (q_rf X (q_rf X a 8) 0) a : Int32) (fun r_8 => if r_8.toInt = (-1) then q_let (F_X6_addPlayer X σ_6 (q_rf X (q_rf X a 8) 0) a : ST) (fun σ_12 => q_let (F_X3_advance X σ_12 a : ST) (fun σ_14 => q_bi (F_X9_readSixteenths X σ_14 a 9 (q_rf X (q_rf X (q_rf X a 8) 1) 3) f_1) (fun r_15 σ_16 => if r_15.toInt = 0 then ((0 : Int32), σ_16) else q_bi (F_X9_readSixteenths X σ_16 a 10 (q_rf X (q_rf X (q_rf X a 8) 1) 4) f_1) (fun r_18 σ_19 => if r_18.toInt = 0 then ((0 : Int32), σ_19) else q_bi (F_X3_passSemicolon X σ_19 a) (fun r_21 σ_22 => if r_21.toInt = 0 then ((0 : Int32), σ_22) else ((1 : Int32), σ_22)))))) else q_bi (F_X3_fails X σ_6 a (3 : Int32)) (fun r_25 σ_26 => (r_25, σ_26))))) else q_bi (F_X3_fails X σ a (6 : Int32)) (fun r_28 σ_29 => (r_28, σ_29)))

noncomputable def F_X9_readHand_J92_1 (X : XW) (σ_18 : ST) (a : Nat) (f_20 : Int32) (r_8 : Int32) (r_3 : Int32) (x_25 : Int32) : Int32 × ST :=
  if x_25.toInt = 0 then q_let (F_X5_get X σ_18 (q_rf X (q_rf X (q_rf X a 8) 0) 5) f_20 : Int32) (fun r_30 => q_let (r_30 + r_8 : Int32) (fun z_32 => q_let (σ_18.1 (q_rf X (q_rf X a 8) 0) 1 : Int32) (fun f_33 => if f_33.toInt < z_32.toInt then q_bi (F_X3_fails X σ_18 a (5 : Int32)) (fun r_47 σ_48 => (r_47, σ_48)) else q_let ((1 : Int32) <<< (f_20 &&& 31) : Int32) (fun z_35 => q_let (F_X5_add X σ_18 (q_rf X a 11) r_3 z_35 : ST) (fun σ_37 => q_let (F_X5_add X σ_37 (q_rf X (q_rf X (q_rf X a 8) 0) 5) f_20 r_8 : ST) (fun σ_39 => q_let (F_X1_deal X σ_39 (q_rf X (q_rf X a 8) 1) r_3 f_20 r_8 : ST) (fun σ_41 => q_let (F_X3_advance X σ_41 a : ST) (fun σ_43 => q_bi (F_X3_passSemicolon X σ_43 a) (fun r_44 σ_45 => (r_44, σ_45)))))))))) else q_bi (F_X3_fails X σ_18 a (5 : Int32)) (fun r_28 σ_29 => (r_28, σ_29))

noncomputable def F_X9_readHand (X : XW) (σ : ST) (a : Nat) : Int32 × ST :=
  q_let (F_X3_advance X σ a : ST) (fun σ_2 => q_bi (F_X3_passPlayer X σ_2 a (q_rf X (q_rf X a 8) 0)) (fun r_3 σ_4 => if r_3.toInt = (-1) then ((0 : Int32), σ_4) else q_bi (F_X3_passNumber X σ_4 a (0 : Int32) (8 : Int32)) (fun r_8 σ_9 => if r_8.toInt = (-1) then ((0 : Int32), σ_9) else q_bi (F_X3_passWord X σ_9 a 12) (fun r_11 σ_12 => if r_11.toInt = 0 then ((0 : Int32), σ_12) else q_let (σ_12.1 (q_rf X (q_rf X a 8) 0) 0 : Int32) (fun f_14 => q_let (f_14 - (1 : Int32) : Int32) (fun z_15 => q_bi (F_X3_mustBeNumber X σ_12 a (0 : Int32) z_15) (fun r_17 σ_18 => if r_17.toInt = 0 then ((0 : Int32), σ_18) else q_let (σ_18.1 a 5 : Int32) (fun f_20 => q_let (F_X5_get X σ_18 (q_rf X a 11) r_3 : Int32) (fun r_21 => q_let (r_21 >>> (f_20 &&& 31) : Int32) (fun z_23 => q_let (z_23 &&& (1 : Int32) : Int32) (fun z_24 => if z_24.toInt = 0 then F_X9_readHand_J92_1 X σ_18 a f_20 r_8 r_3 (0 : Int32) else F_X9_readHand_J92_1 X σ_18 a f_20 r_8 r_3 (1 : Int32))))))))))))

noncomputable def F_X9_readPart (X : XW) (σ : ST) (a : Nat) : Int32 × ST :=
  q_let (F_X3_isWord X σ a 2 : Int32) (fun r_1 => if r_1.toInt = 0 then q_let (F_X3_isWord X σ a 6 : Int32) (fun r_4 => if r_4.toInt = 0 then q_let (F_X3_isWord X σ a 7 : Int32) (fun r_7 => if r_7.toInt = 0 then q_let (F_X3_isWord X σ a 11 : Int32) (fun r_10 => if r_10.toInt = 0 then q_bi (F_X3_fails X σ a (2 : Int32)) (fun r_14 σ_15 => (r_14, σ_15)) else q_bi (F_X9_readHand X σ a) (fun r_16 σ_17 => (r_16, σ_17))) else q_bi (F_X9_readPlayer X σ a) (fun r_18 σ_19 => (r_18, σ_19))) else q_bi (F_X9_readMost X σ a) (fun r_20 σ_21 => (r_20, σ_21))) else q_bi (F_X9_readLaw X σ a) (fun r_22 σ_23 => (r_22, σ_23)))

noncomputable def F_X9_takes_B41_1 (X : XW) (a : Nat) (B41_1 : Int32 → ST → Int32 × ST) (x_12 : Int32) (σ_13 : ST) : Int32 × ST :=
  if x_12.toInt < 900 then q_let (σ_13.1 a 4 : Int32) (fun f_16 => if f_16.toInt = 0 then ((1 : Int32), σ_13) else q_bi (F_X9_readPart X σ_13 a) (fun r_18 σ_19 => if r_18.toInt = 0 then ((0 : Int32), σ_19) else q_let (x_12 + 1 : Int32) (fun z_21 => B41_1 z_21 σ_19))) else ((1 : Int32), σ_13)

noncomputable def F_X9_takes_L41_1 (X : XW) (a : Nat) : Nat → Int32 → ST → Int32 × ST
  | 0 => fun x_12 σ_13 => ((0 : Int32), σ_13)
  | k_ + 1 => F_X9_takes_B41_1 X a (F_X9_takes_L41_1 X a k_)

theorem F_X9_takes_L41_1_s {X : XW} {a : Nat} {k_ : Nat} {x_12 : Int32} {σ_13 : ST} : F_X9_takes_L41_1 X a (k_ + 1) x_12 σ_13 = F_X9_takes_B41_1 X a (F_X9_takes_L41_1 X a k_) x_12 σ_13 := rfl

noncomputable def F_X9_takes (X : XW) (σ : ST) (a : Nat) (r1 : Nat) (v2 : Int32) : Int32 × ST :=
  q_let (F_X0_reset X σ (q_rf X a 8) : ST) (fun σ_2 => q_let (q_si σ_2 a 9 (0 : Int32) : ST) (fun σ_3 => q_let (q_si σ_3 a 10 (0 : Int32) : ST) (fun σ_4 => q_let (F_X5_clear X σ_4 (q_rf X a 11) : ST) (fun σ_6 => q_let (F_X3_start X σ_6 a r1 v2 : ST) (fun σ_8 => q_bi (F_X9_readHead X σ_8 a) (fun r_9 σ_10 => if r_9.toInt = 0 then ((0 : Int32), σ_10) else F_X9_takes_L41_1 X a ((2147483647 - (0 : Int32).toInt).toNat + 1) (0 : Int32) σ_10))))))

noncomputable def F_X4_readEnd (X : XW) (σ : ST) (a : Nat) : Int32 × ST :=
  q_let (σ.1 a 10 : Int32) (fun f_1 => if f_1.toInt = 0 then q_bi (F_X3_fails X σ a (2 : Int32)) (fun r_21 σ_22 => (r_21, σ_22)) else q_let (σ.1 a 10 : Int32) (fun f_3 => q_let (f_3 - (1 : Int32) : Int32) (fun z_4 => q_let (q_si σ a 10 z_4 : ST) (fun σ_5 => q_let (σ_5.1 a 10 : Int32) (fun f_6 => q_let (F_X5_get X σ_5 (q_rf X a 9) f_6 : Int32) (fun r_7 => q_bi (F_X8_add X σ_5 (q_rf X a 8) (9 : Int32)) (fun r_10 σ_11 => q_let (F_X5_set X σ_11 (q_rf X (q_rf X a 8) 4) r_10 r_7 : ST) (fun σ_13 => q_let (F_X5_set X σ_13 (q_rf X (q_rf X a 8) 4) r_7 r_10 : ST) (fun σ_15 => q_let (F_X3_advance X σ_15 a : ST) (fun σ_17 => q_bi (F_X3_passSemicolon X σ_17 a) (fun r_18 σ_19 => (r_18, σ_19))))))))))))

noncomputable def F_X4_actionHere (X : XW) (σ : ST) (a : Nat) : Int32 :=
  q_let (F_X3_isWord X σ a 14 : Int32) (fun r_1 => if r_1.toInt = 0 then q_let (F_X3_isWord X σ a 9 : Int32) (fun r_4 => if r_4.toInt = 0 then q_let (F_X3_isWord X σ a 10 : Int32) (fun r_7 => if r_7.toInt = 0 then q_let (F_X3_isWord X σ a 15 : Int32) (fun r_10 => if r_10.toInt = 0 then q_let (F_X3_isWord X σ a 16 : Int32) (fun r_13 => if r_13.toInt = 0 then q_let (F_X3_isWord X σ a 17 : Int32) (fun r_16 => if r_16.toInt = 0 then ((-1) : Int32) else (8 : Int32)) else (4 : Int32)) else (3 : Int32)) else (2 : Int32)) else (1 : Int32)) else (0 : Int32))

noncomputable def F_X4_readTest (X : XW) (σ : ST) (a : Nat) (v1 : Int32) : Int32 × ST :=
  q_let (F_X3_isWord X σ a 18 : Int32) (fun r_1 => if r_1.toInt = 0 then q_let (F_X3_isWord X σ a 19 : Int32) (fun r_4 => if r_4.toInt = 0 then q_let (F_X3_isWord X σ a 20 : Int32) (fun r_7 => if r_7.toInt = 0 then q_let (F_X3_isWord X σ a 21 : Int32) (fun r_10 => if r_10.toInt = 0 then q_bi (F_X3_fails X σ a (2 : Int32)) (fun r_16 σ_17 => (r_16, σ_17)) else q_let (F_X3_advance X σ a : ST) (fun σ_14 => ((1 : Int32), σ_14))) else q_let (F_X5_set X σ (q_rf X (q_rf X a 8) 3) v1 (7 : Int32) : ST) (fun σ_20 => q_let (F_X3_advance X σ_20 a : ST) (fun σ_22 => ((1 : Int32), σ_22)))) else q_let (F_X5_set X σ (q_rf X (q_rf X a 8) 3) v1 (6 : Int32) : ST) (fun σ_25 => q_let (F_X3_advance X σ_25 a : ST) (fun σ_27 => ((1 : Int32), σ_27)))) else q_let (F_X5_set X σ (q_rf X (q_rf X a 8) 3) v1 (5 : Int32) : ST) (fun σ_30 => q_let (F_X3_advance X σ_30 a : ST) (fun σ_32 => ((1 : Int32), σ_32))))

noncomputable def F_X4_readOperands_J47_1 (X : XW) (r_1 : Int32) (a : Nat) (v1 : Int32) (σ_5 : ST) : Int32 × ST :=
  q_let (F_X8_hasComparison X σ_5 r_1 : Int32) (fun r_6 => if r_6.toInt = 0 then q_let (F_X8_highest X σ_5 r_1 : Int32) (fun r_9 => if r_9.toInt = (-1) then ((1 : Int32), σ_5) else if r_1.toInt = 4 then q_bi (F_X3_passNumber X σ_5 a (1 : Int32) r_9) (fun r_20 σ_21 => q_let (F_X5_set X σ_21 (q_rf X (q_rf X a 8) 7) v1 r_20 : ST) (fun σ_23 => if r_20.toInt = (-1) then ((0 : Int32), σ_23) else ((1 : Int32), σ_23))) else q_bi (F_X3_passNumber X σ_5 a (0 : Int32) r_9) (fun r_14 σ_15 => q_let (F_X5_set X σ_15 (q_rf X (q_rf X a 8) 7) v1 r_14 : ST) (fun σ_17 => if r_14.toInt = (-1) then ((0 : Int32), σ_17) else ((1 : Int32), σ_17)))) else q_let (F_X3_signAt X σ_5 a (0 : Int32) : Int32) (fun r_26 => q_let (σ_5.1 a 4 : Int32) (fun f_28 => if f_28.toInt = 3 then if r_26.toInt = 59 then q_bi (F_X3_fails X σ_5 a (2 : Int32)) (fun r_55 σ_56 => (r_55, σ_56)) else q_let (F_X5_set X σ_5 (q_rf X (q_rf X a 8) 6) v1 r_26 : ST) (fun σ_35 => q_let (F_X3_advance X σ_35 a : ST) (fun σ_37 => q_let (F_X8_highest X σ_37 r_1 : Int32) (fun r_38 => if r_38.toInt = (-1) then ((1 : Int32), σ_37) else if r_1.toInt = 4 then q_bi (F_X3_passNumber X σ_37 a (1 : Int32) r_38) (fun r_49 σ_50 => q_let (F_X5_set X σ_50 (q_rf X (q_rf X a 8) 7) v1 r_49 : ST) (fun σ_52 => if r_49.toInt = (-1) then ((0 : Int32), σ_52) else ((1 : Int32), σ_52))) else q_bi (F_X3_passNumber X σ_37 a (0 : Int32) r_38) (fun r_43 σ_44 => q_let (F_X5_set X σ_44 (q_rf X (q_rf X a 8) 7) v1 r_43 : ST) (fun σ_46 => if r_43.toInt = (-1) then ((0 : Int32), σ_46) else ((1 : Int32), σ_46)))))) else q_bi (F_X3_fails X σ_5 a (2 : Int32)) (fun r_31 σ_32 => (r_31, σ_32)))))

noncomputable def F_X4_readOperands (X : XW) (σ : ST) (a : Nat) (v1 : Int32) (r2 : Nat) : Int32 × ST :=
  q_let (F_X5_get X σ (q_rf X (q_rf X a 8) 3) v1 : Int32) (fun r_1 => q_let (F_X8_hasName X σ r_1 : Int32) (fun r_3 => if r_3.toInt = 0 then F_X4_readOperands_J47_1 X r_1 a v1 σ else q_bi (F_X3_passPlayer X σ a r2) (fun r_58 σ_59 => if r_58.toInt = (-1) then ((0 : Int32), σ_59) else q_let (F_X5_set X σ_59 (q_rf X (q_rf X a 8) 5) v1 r_58 : ST) (fun σ_62 => F_X4_readOperands_J47_1 X r_1 a v1 σ_62))))

noncomputable def F_X4_readStep_J72_2 (X : XW) (σ : ST) (a : Nat) (r_1 : Int32) (r1 : Nat) : Int32 × ST :=
  q_bi (F_X8_add X σ (q_rf X a 8) r_1) (fun r_6 σ_7 => q_let (σ_7.1 (q_rf X a 8) 1 : Int32) (fun f_8 => q_let (f_8 + (1 : Int32) : Int32) (fun z_9 => q_let (q_si σ_7 (q_rf X a 8) 1 z_9 : ST) (fun σ_10 => if (1 : Int) = 0 then q_let (F_X3_advance X σ_10 a : ST) (fun σ_13 => q_let (F_X8_isWhen X σ_13 r_1 : Int32) (fun r_14 => if r_14.toInt = 0 then q_bi (F_X4_readOperands X σ_13 a r_6 r1) (fun r_17 σ_18 => if r_17.toInt = 0 then ((0 : Int32), σ_18) else q_bi (F_X3_passSemicolon X σ_18 a) (fun r_20 σ_21 => if r_20.toInt = 0 then ((0 : Int32), σ_21) else ((1 : Int32), σ_21))) else q_bi (F_X4_readTest X σ_13 a r_6) (fun r_23 σ_24 => if r_23.toInt = 0 then ((0 : Int32), σ_24) else q_bi (F_X4_readOperands X σ_24 a r_6 r1) (fun r_26 σ_27 => if r_26.toInt = 0 then ((0 : Int32), σ_27) else q_bi (F_X3_passSemicolon X σ_27 a) (fun r_29 σ_30 => if r_29.toInt = 0 then ((0 : Int32), σ_30) else ((1 : Int32), σ_30)))))) else q_let (σ_10.1 a 10 : Int32) (fun f_32 => q_let (F_X5_set X σ_10 (q_rf X a 9) f_32 r_6 : ST) (fun σ_34 => q_let (σ_34.1 a 10 : Int32) (fun f_35 => q_let (f_35 + (1 : Int32) : Int32) (fun z_36 => q_let (q_si σ_34 a 10 z_36 : ST) (fun σ_37 => q_let (F_X3_advance X σ_37 a : ST) (fun σ_39 => q_let (F_X8_isWhen X σ_39 r_1 : Int32) (fun r_40 => if r_40.toInt = 0 then q_bi (F_X4_readOperands X σ_39 a r_6 r1) (fun r_43 σ_44 => if r_43.toInt = 0 then ((0 : Int32), σ_44) else q_bi (F_X3_passSemicolon X σ_44 a) (fun r_46 σ_47 => if r_46.toInt = 0 then ((0 : Int32), σ_47) else ((1 : Int32), σ_47))) else q_bi (F_X4_readTest X σ_39 a r_6) (fun r_49 σ_50 => if r_49.toInt = 0 then ((0 : Int32), σ_50) else q_bi (F_X4_readOperands X σ_50 a r_6 r1) (fun r_52 σ_53 => if r_52.toInt = 0 then ((0 : Int32), σ_53) else q_bi (F_X3_passSemicolon X σ_53 a) (fun r_55 σ_56 => if r_55.toInt = 0 then ((0 : Int32), σ_56) else ((1 : Int32), σ_56)))))))))))))))

noncomputable def F_X4_readStep_J47_1 (X : XW) (σ : ST) (a : Nat) (r_1 : Int32) (r1 : Nat) : Int32 × ST :=
  if (1 : Int) = 0 then F_X4_readStep_J72_2 X σ a r_1 r1 else q_let (σ.1 a 10 : Int32) (fun f_59 => if f_59.toInt < 3 then F_X4_readStep_J72_2 X σ a r_1 r1 else q_bi (F_X3_fails X σ a (7 : Int32)) (fun r_62 σ_63 => (r_62, σ_63)))

noncomputable def F_X4_readStep_J72_4 (X : XW) (σ : ST) (a : Nat) (r_1 : Int32) (x_64 : Int32) (r1 : Nat) : Int32 × ST :=
  q_bi (F_X8_add X σ (q_rf X a 8) r_1) (fun r_65 σ_66 => q_let (σ_66.1 (q_rf X a 8) 1 : Int32) (fun f_67 => q_let (f_67 + (1 : Int32) : Int32) (fun z_68 => q_let (q_si σ_66 (q_rf X a 8) 1 z_68 : ST) (fun σ_69 => if x_64.toInt = 0 then q_let (F_X3_advance X σ_69 a : ST) (fun σ_72 => q_let (F_X8_isWhen X σ_72 r_1 : Int32) (fun r_73 => if r_73.toInt = 0 then q_bi (F_X4_readOperands X σ_72 a r_65 r1) (fun r_76 σ_77 => if r_76.toInt = 0 then ((0 : Int32), σ_77) else q_bi (F_X3_passSemicolon X σ_77 a) (fun r_79 σ_80 => if r_79.toInt = 0 then ((0 : Int32), σ_80) else ((1 : Int32), σ_80))) else q_bi (F_X4_readTest X σ_72 a r_65) (fun r_82 σ_83 => if r_82.toInt = 0 then ((0 : Int32), σ_83) else q_bi (F_X4_readOperands X σ_83 a r_65 r1) (fun r_85 σ_86 => if r_85.toInt = 0 then ((0 : Int32), σ_86) else q_bi (F_X3_passSemicolon X σ_86 a) (fun r_88 σ_89 => if r_88.toInt = 0 then ((0 : Int32), σ_89) else ((1 : Int32), σ_89)))))) else q_let (σ_69.1 a 10 : Int32) (fun f_91 => q_let (F_X5_set X σ_69 (q_rf X a 9) f_91 r_65 : ST) (fun σ_93 => q_let (σ_93.1 a 10 : Int32) (fun f_94 => q_let (f_94 + (1 : Int32) : Int32) (fun z_95 => q_let (q_si σ_93 a 10 z_95 : ST) (fun σ_96 => q_let (F_X3_advance X σ_96 a : ST) (fun σ_98 => q_let (F_X8_isWhen X σ_98 r_1 : Int32) (fun r_99 => if r_99.toInt = 0 then q_bi (F_X4_readOperands X σ_98 a r_65 r1) (fun r_102 σ_103 => if r_102.toInt = 0 then ((0 : Int32), σ_103) else q_bi (F_X3_passSemicolon X σ_103 a) (fun r_105 σ_106 => if r_105.toInt = 0 then ((0 : Int32), σ_106) else ((1 : Int32), σ_106))) else q_bi (F_X4_readTest X σ_98 a r_65) (fun r_108 σ_109 => if r_108.toInt = 0 then ((0 : Int32), σ_109) else q_bi (F_X4_readOperands X σ_109 a r_65 r1) (fun r_111 σ_112 => if r_111.toInt = 0 then ((0 : Int32), σ_112) else q_bi (F_X3_passSemicolon X σ_112 a) (fun r_114 σ_115 => if r_114.toInt = 0 then ((0 : Int32), σ_115) else ((1 : Int32), σ_115)))))))))))))))

noncomputable def F_X4_readStep_J52_3 (X : XW) (σ : ST) (a : Nat) (r_1 : Int32) (r1 : Nat) (x_64 : Int32) : Int32 × ST :=
  if x_64.toInt = 0 then F_X4_readStep_J72_4 X σ a r_1 x_64 r1 else q_let (σ.1 a 10 : Int32) (fun f_118 => if f_118.toInt < 3 then F_X4_readStep_J72_4 X σ a r_1 x_64 r1 else q_bi (F_X3_fails X σ a (7 : Int32)) (fun r_121 σ_122 => (r_121, σ_122)))

noncomputable def F_X4_readStep (X : XW) (σ : ST) (a : Nat) (r1 : Nat) : Int32 × ST :=
  q_let (F_X4_actionHere X σ a : Int32) (fun r_1 => if r_1.toInt = (-1) then q_bi (F_X3_fails X σ a (2 : Int32)) (fun r_131 σ_132 => (r_131, σ_132)) else q_let (σ.1 (q_rf X a 8) 1 : Int32) (fun f_4 => if f_4.toInt < 30 then if r_1.toInt = 4 then F_X4_readStep_J47_1 X σ a r_1 r1 else q_let (F_X8_isWhen X σ r_1 : Int32) (fun r_124 => if r_124.toInt = 0 then F_X4_readStep_J52_3 X σ a r_1 r1 (0 : Int32) else F_X4_readStep_J47_1 X σ a r_1 r1) else q_bi (F_X3_fails X σ a (6 : Int32)) (fun r_128 σ_129 => (r_128, σ_129))))

noncomputable def F_X4_takes_E72_2 (X : XW) (σ_7 : ST) (a : Nat) : Int32 × ST :=
  q_let (q_si σ_7 (q_rf X a 8) 0 (1 : Int32) : ST) (fun σ_10 => q_let (σ_10.1 a 10 : Int32) (fun f_11 => if f_11.toInt = 0 then ((1 : Int32), σ_10) else q_bi (F_X3_fails X σ_10 a (2 : Int32)) (fun r_14 σ_15 => if r_14.toInt = 0 then ((0 : Int32), σ_15) else ((1 : Int32), σ_15))))

noncomputable def F_X4_takes_E72_3 (X : XW) (σ_7 : ST) (a : Nat) : Int32 × ST :=
  q_let (q_si σ_7 (q_rf X a 8) 0 (1 : Int32) : ST) (fun σ_19 => q_let (σ_19.1 a 10 : Int32) (fun f_20 => if f_20.toInt = 0 then ((1 : Int32), σ_19) else q_bi (F_X3_fails X σ_19 a (2 : Int32)) (fun r_23 σ_24 => if r_23.toInt = 0 then ((0 : Int32), σ_24) else ((1 : Int32), σ_24))))

noncomputable def F_X4_takes_B21_1 (X : XW) (a : Nat) (r3 : Nat) (B21_1 : Int32 → ST → Int32 × ST) (x_6 : Int32) (σ_7 : ST) : Int32 × ST :=
  if x_6.toInt < 300 then q_let (σ_7.1 a 4 : Int32) (fun f_17 => if f_17.toInt = 0 then F_X4_takes_E72_3 X σ_7 a else q_let (F_X3_isWord X σ_7 a 13 : Int32) (fun r_26 => if r_26.toInt = 0 then q_bi (F_X4_readStep X σ_7 a r3) (fun r_29 σ_30 => if r_29.toInt = 0 then ((0 : Int32), σ_30) else q_let (x_6 + 1 : Int32) (fun z_32 => B21_1 z_32 σ_30)) else q_bi (F_X4_readEnd X σ_7 a) (fun r_33 σ_34 => if r_33.toInt = 0 then ((0 : Int32), σ_34) else q_let (x_6 + 1 : Int32) (fun z_36 => B21_1 z_36 σ_34)))) else F_X4_takes_E72_2 X σ_7 a

noncomputable def F_X4_takes_L21_1 (X : XW) (a : Nat) (r3 : Nat) : Nat → Int32 → ST → Int32 × ST
  | 0 => fun x_6 σ_7 => ((0 : Int32), σ_7)
  | k_ + 1 => F_X4_takes_B21_1 X a r3 (F_X4_takes_L21_1 X a r3 k_)

theorem F_X4_takes_L21_1_s {X : XW} {a : Nat} {r3 : Nat} {k_ : Nat} {x_6 : Int32} {σ_7 : ST} : F_X4_takes_L21_1 X a r3 (k_ + 1) x_6 σ_7 = F_X4_takes_B21_1 X a r3 (F_X4_takes_L21_1 X a r3 k_) x_6 σ_7 := rfl

noncomputable def F_X4_takes (X : XW) (σ : ST) (a : Nat) (r1 : Nat) (v2 : Int32) (r3 : Nat) : Int32 × ST :=
  q_let (F_X8_clear X σ (q_rf X a 8) : ST) (fun σ_2 => q_let (q_si σ_2 a 10 (0 : Int32) : ST) (fun σ_3 => q_let (F_X3_start X σ_3 a r1 v2 : ST) (fun σ_5 => F_X4_takes_L21_1 X a r3 ((2147483647 - (0 : Int32).toInt).toNat + 1) (0 : Int32) σ_5)))

noncomputable def F_X7_behindEnd (X : XW) (σ : ST) (a : Nat) (r1 : Nat) (v2 : Int32) : Int32 × ST :=
  q_let (F_X5_get X σ (q_rf X r1 4) v2 : Int32) (fun r_1 => q_let (F_X5_get X σ (q_rf X r1 3) r_1 : Int32) (fun r_3 => if r_3.toInt = 4 then q_let (F_X5_add X σ (q_rf X a 7) r_1 ((-1) : Int32) : ST) (fun σ_9 => q_let (F_X5_get X σ_9 (q_rf X a 7) r_1 : Int32) (fun r_10 => if 0 < r_10.toInt then q_let (r_1 + (1 : Int32) : Int32) (fun z_14 => (z_14, σ_9)) else q_let (v2 + (1 : Int32) : Int32) (fun z_13 => (z_13, σ_9)))) else q_let (v2 + (1 : Int32) : Int32) (fun z_6 => (z_6, σ))))

noncomputable def F_X7_draw (X : XW) (σ : ST) (a : Nat) : Int32 × ST :=
  q_let (σ.1 a 6 : Int32) (fun f_1 => q_let (f_1 * (2861 : Int32) : Int32) (fun z_2 => q_let (z_2 + (10259 : Int32) : Int32) (fun z_3 => q_let (z_3 % (65536 : Int32) : Int32) (fun z_4 => q_let (q_si σ a 6 z_4 : ST) (fun σ_5 => q_let (σ_5.1 a 6 : Int32) (fun f_6 => q_let (f_6 / (8 : Int32) : Int32) (fun z_7 => q_let (z_7 % (16 : Int32) : Int32) (fun z_8 => (z_8, σ_5)))))))))

noncomputable def F_X7_fullestOther_B6_1 (X : XW) (σ : ST) (r0 : Nat) (B6_1 : Int32 → Int32 → Int32 → Int32) (x_1 : Int32) (x_2 : Int32) (x_3 : Int32) : Int32 :=
  q_let (σ.1 (q_rf X r0 0) 0 : Int32) (fun f_5 => if x_3.toInt < f_5.toInt then q_let (σ.1 r0 5 : Int32) (fun f_7 => q_let (F_X1_heldBy X σ (q_rf X r0 1) f_7 x_3 : Int32) (fun r_8 => q_let (σ.1 r0 4 : Int32) (fun f_10 => if x_3.toInt = f_10.toInt then q_let (x_3 + 1 : Int32) (fun z_12 => B6_1 x_1 x_2 z_12) else if x_2.toInt < r_8.toInt then q_let (x_3 + 1 : Int32) (fun z_15 => B6_1 x_3 r_8 z_15) else q_let (x_3 + 1 : Int32) (fun z_14 => B6_1 x_1 x_2 z_14)))) else x_1)

noncomputable def F_X7_fullestOther_L6_1 (X : XW) (σ : ST) (r0 : Nat) : Nat → Int32 → Int32 → Int32 → Int32
  | 0 => fun x_1 x_2 x_3 => (0 : Int32)
  | k_ + 1 => F_X7_fullestOther_B6_1 X σ r0 (F_X7_fullestOther_L6_1 X σ r0 k_)

theorem F_X7_fullestOther_L6_1_s {X : XW} {σ : ST} {r0 : Nat} {k_ : Nat} {x_1 : Int32} {x_2 : Int32} {x_3 : Int32} : F_X7_fullestOther_L6_1 X σ r0 (k_ + 1) x_1 x_2 x_3 = F_X7_fullestOther_B6_1 X σ r0 (F_X7_fullestOther_L6_1 X σ r0 k_) x_1 x_2 x_3 := rfl

noncomputable def F_X7_fullestOther (X : XW) (σ : ST) (r0 : Nat) : Int32 :=
  F_X7_fullestOther_L6_1 X σ r0 ((2147483647 - (0 : Int32).toInt).toNat + 1) ((-1) : Int32) (0 : Int32) (0 : Int32)

noncomputable def F_X7_choose (X : XW) (σ : ST) (a : Nat) (r1 : Nat) : ST :=
  q_let (σ.1 r1 5 : Int32) (fun f_1 => q_let (σ.1 r1 4 : Int32) (fun f_2 => q_let (F_X1_heldBy X σ (q_rf X r1 1) f_1 f_2 : Int32) (fun r_3 => q_let (σ.1 (q_rf X r1 0) 3 : Int32) (fun f_5 => q_let (F_J9_min_7cf53 X σ r_3 f_5 : Int32) (fun r_6 => q_let (F_X0_clearWanted X σ r1 : ST) (fun σ_9 => q_let (σ_9.1 r1 4 : Int32) (fun f_10 => q_let (F_X0_want X σ_9 r1 f_10 r_6 : ST) (fun σ_12 => q_let (σ_12.1 (q_rf X r1 0) 3 : Int32) (fun f_13 => if r_6.toInt < f_13.toInt then q_let (σ_12.1 r1 5 : Int32) (fun f_33 => q_let (F_X5_get X σ_12 (q_rf X (q_rf X r1 1) 2) f_33 : Int32) (fun r_34 => if r_3.toInt < r_34.toInt then if (1 : Int) = 0 then σ_12 else if r_3.toInt = 0 then q_let (F_X7_fullestOther X σ_12 r1 : Int32) (fun r_57 => q_let (F_X0_want X σ_12 r1 r_57 (1 : Int32) : ST) (fun σ_61 => σ_61)) else q_bi (F_X7_draw X σ_12 a) (fun r_62 σ_63 => q_let (σ_63.1 r1 5 : Int32) (fun f_64 => q_let (F_X5_get X σ_63 (q_rf X (q_rf X r1 1) 3) f_64 : Int32) (fun r_65 => if r_62.toInt < r_65.toInt then q_let (F_X7_fullestOther X σ_63 r1 : Int32) (fun r_68 => q_let (F_X0_want X σ_63 r1 r_68 (1 : Int32) : ST) (fun σ_72 => σ_72)) else σ_63))) else if (0 : Int) = 0 then σ_12 else if r_3.toInt = 0 then q_let (F_X7_fullestOther X σ_12 r1 : Int32) (fun r_39 => q_let (F_X0_want X σ_12 r1 r_39 (1 : Int32) : ST) (fun σ_43 => σ_43)) else q_bi (F_X7_draw X σ_12 a) (fun r_44 σ_45 => q_let (σ_45.1 r1 5 : Int32) (fun f_46 => q_let (F_X5_get X σ_45 (q_rf X (q_rf X r1 1) 3) f_46 : Int32) (fun r_47 => if r_44.toInt < r_47.toInt then q_let (F_X7_fullestOther X σ_45 r1 : Int32) (fun r_50 => q_let (F_X0_want X σ_45 r1 r_50 (1 : Int32) : ST) (fun σ_54 => σ_54)) else σ_45))))) else if (0 : Int) = 0 then σ_12 else if r_3.toInt = 0 then q_let (F_X7_fullestOther X σ_12 r1 : Int32) (fun r_17 => q_let (F_X0_want X σ_12 r1 r_17 (1 : Int32) : ST) (fun σ_21 => σ_21)) else q_bi (F_X7_draw X σ_12 a) (fun r_22 σ_23 => q_let (σ_23.1 r1 5 : Int32) (fun f_24 => q_let (F_X5_get X σ_23 (q_rf X (q_rf X r1 1) 3) f_24 : Int32) (fun r_25 => if r_22.toInt < r_25.toInt then q_let (F_X7_fullestOther X σ_23 r1 : Int32) (fun r_28 => q_let (F_X0_want X σ_23 r1 r_28 (1 : Int32) : ST) (fun σ_32 => σ_32)) else σ_23))))))))))))

noncomputable def F_X7_firstDoubter_B2_1 (X : XW) (r1 : Nat) (a : Nat) (B2_1 : Int32 → ST → Int32 × ST) (x_1 : Int32) (σ_2 : ST) : Int32 × ST :=
  q_let (σ_2.1 (q_rf X r1 0) 4 : Int32) (fun f_4 => if x_1.toInt < f_4.toInt then q_let (σ_2.1 r1 5 : Int32) (fun f_6 => q_let (F_X6_playerAfter X σ_2 (q_rf X r1 0) f_6 x_1 : Int32) (fun r_7 => q_let (F_X0_isImpossibleFor X σ_2 r1 r_7 : Int32) (fun r_9 => if r_9.toInt = 0 then q_bi (F_X7_draw X σ_2 a) (fun r_12 σ_13 => q_let (F_X5_get X σ_13 (q_rf X (q_rf X r1 1) 4) r_7 : Int32) (fun r_14 => if r_12.toInt < r_14.toInt then (r_7, σ_13) else q_let (x_1 + 1 : Int32) (fun z_17 => B2_1 z_17 σ_13))) else (r_7, σ_2)))) else (((-1) : Int32), σ_2))

noncomputable def F_X7_firstDoubter_L2_1 (X : XW) (r1 : Nat) (a : Nat) : Nat → Int32 → ST → Int32 × ST
  | 0 => fun x_1 σ_2 => ((0 : Int32), σ_2)
  | k_ + 1 => F_X7_firstDoubter_B2_1 X r1 a (F_X7_firstDoubter_L2_1 X r1 a k_)

theorem F_X7_firstDoubter_L2_1_s {X : XW} {r1 : Nat} {a : Nat} {k_ : Nat} {x_1 : Int32} {σ_2 : ST} : F_X7_firstDoubter_L2_1 X r1 a (k_ + 1) x_1 σ_2 = F_X7_firstDoubter_B2_1 X r1 a (F_X7_firstDoubter_L2_1 X r1 a k_) x_1 σ_2 := rfl

noncomputable def F_X7_firstDoubter (X : XW) (σ : ST) (a : Nat) (r1 : Nat) : Int32 × ST :=
  F_X7_firstDoubter_L2_1 X r1 a ((2147483647 - (1 : Int32).toInt).toNat + 1) (1 : Int32) σ

noncomputable def F_X7_takeTurn_J11_1 (X : XW) (r1 : Nat) (a : Nat) (σ_2 : ST) : ST :=
  q_let (σ_2.1 r1 6 : Int32) (fun f_3 => if f_3.toInt = (-1) then q_let (σ_2.1 (q_rf X r1 0) 4 : Int32) (fun f_8 => if f_8.toInt < 2 then q_let (σ_2.1 a 1 : Int32) (fun f_10 => q_let (f_10 + (1 : Int32) : Int32) (fun z_11 => q_let (q_si σ_2 a 1 z_11 : ST) (fun σ_12 => σ_12))) else q_let (σ_2.1 r1 5 : Int32) (fun f_13 => q_let (F_X5_get X σ_2 (q_rf X (q_rf X r1 1) 2) f_13 : Int32) (fun r_14 => if r_14.toInt = 0 then q_let (σ_2.1 a 1 : Int32) (fun f_42 => q_let (f_42 + (1 : Int32) : Int32) (fun z_43 => q_let (q_si σ_2 a 1 z_43 : ST) (fun σ_44 => σ_44))) else q_let (F_X7_choose X σ_2 a r1 : ST) (fun σ_18 => q_let (F_X0_layWanted X σ_18 r1 : ST) (fun σ_20 => q_let (σ_20.1 a 2 : Int32) (fun f_21 => q_let (f_21 + (1 : Int32) : Int32) (fun z_22 => q_let (q_si σ_20 a 2 z_22 : ST) (fun σ_23 => q_bi (F_X7_firstDoubter X σ_23 a r1) (fun r_24 σ_25 => if r_24.toInt = (-1) then q_let (F_X0_letLie X σ_25 r1 : ST) (fun σ_41 => σ_41) else q_let (σ_25.1 a 3 : Int32) (fun f_27 => q_let (f_27 + (1 : Int32) : Int32) (fun z_28 => q_let (q_si σ_25 a 3 z_28 : ST) (fun σ_29 => q_let (F_X2_topTruth X σ_29 (q_rf X r1 2) : Int32) (fun r_30 => if r_30.toInt = 0 then q_bi (F_X0_challenge X σ_29 r1 r_24) (fun r_33 σ_34 => σ_34) else q_let (σ_29.1 a 4 : Int32) (fun f_35 => q_let (f_35 + (1 : Int32) : Int32) (fun z_36 => q_let (q_si σ_29 a 4 z_36 : ST) (fun σ_37 => q_bi (F_X0_challenge X σ_37 r1 r_24) (fun r_38 σ_39 => σ_39))))))))))))))))) else q_let (σ_2.1 a 1 : Int32) (fun f_5 => q_let (f_5 + (1 : Int32) : Int32) (fun z_6 => q_let (q_si σ_2 a 1 z_6 : ST) (fun σ_7 => σ_7))))

noncomputable def F_X7_takeTurn (X : XW) (σ : ST) (a : Nat) (r1 : Nat) : ST :=
  q_let (σ.1 r1 7 : Int32) (fun f_1 => if f_1.toInt = 0 then F_X7_takeTurn_J11_1 X r1 a σ else q_let (F_X0_letLie X σ r1 : ST) (fun σ_47 => F_X7_takeTurn_J11_1 X r1 a σ_47))

noncomputable def F_X7_behindStep (X : XW) (σ : ST) (a : Nat) (r1 : Nat) (v2 : Int32) : Int32 × ST :=
  q_let (F_X5_get X σ (q_rf X (q_rf X r1 3) 5) v2 : Int32) (fun r_1 => q_let (F_X5_get X σ (q_rf X (q_rf X r1 3) 7) v2 : Int32) (fun r_3 => q_let (F_X5_get X σ (q_rf X (q_rf X r1 3) 4) v2 : Int32) (fun r_5 => q_let (r_5 + (1 : Int32) : Int32) (fun z_7 => q_let (F_X5_get X σ (q_rf X (q_rf X r1 3) 3) v2 : Int32) (fun r_8 => (if r_8.toInt = 0 then q_let (F_X7_takeTurn X σ a r1 : ST) (fun σ_12 => q_let (v2 + (1 : Int32) : Int32) (fun z_13 => (z_13, σ_12))) else (if r_8.toInt = 1 then q_let (F_X5_set X σ (q_rf X (q_rf X r1 1) 3) r_1 r_3 : ST) (fun σ_16 => q_let (v2 + (1 : Int32) : Int32) (fun z_17 => (z_17, σ_16))) else (if r_8.toInt = 2 then q_let (F_X5_set X σ (q_rf X (q_rf X r1 1) 4) r_1 r_3 : ST) (fun σ_20 => q_let (v2 + (1 : Int32) : Int32) (fun z_21 => (z_21, σ_20))) else (if r_8.toInt = 3 then q_let (σ.1 (q_rf X r1 3) 2 : Int32) (fun f_23 => (f_23, σ)) else (if r_8.toInt = 4 then q_let (F_X5_set X σ (q_rf X a 7) v2 r_3 : ST) (fun σ_26 => q_let (v2 + (1 : Int32) : Int32) (fun z_27 => (z_27, σ_26))) else (if r_8.toInt = 5 then q_let (F_X5_get X σ (q_rf X (q_rf X r1 1) 2) r_1 : Int32) (fun r_29 => q_let (F_X8_meets X σ (q_rf X r1 3) v2 r_29 : Int32) (fun r_31 => if r_31.toInt = 0 then (z_7, σ) else q_let (v2 + (1 : Int32) : Int32) (fun z_34 => (z_34, σ)))) else (if r_8.toInt = 6 then q_let (σ.1 (q_rf X r1 2) 1 : Int32) (fun f_36 => q_let (F_X8_meets X σ (q_rf X r1 3) v2 f_36 : Int32) (fun r_37 => if r_37.toInt = 0 then (z_7, σ) else q_let (v2 + (1 : Int32) : Int32) (fun z_40 => (z_40, σ)))) else (if r_8.toInt = 7 then q_let (F_X5_get X σ (q_rf X (q_rf X r1 1) 5) r_1 : Int32) (fun r_42 => q_let (F_X8_meets X σ (q_rf X r1 3) v2 r_42 : Int32) (fun r_44 => if r_44.toInt = 0 then (z_7, σ) else q_let (v2 + (1 : Int32) : Int32) (fun z_47 => (z_47, σ)))) else (if r_8.toInt = 8 then q_let (σ.1 r1 6 : Int32) (fun f_49 => if f_49.toInt = (-1) then (z_7, σ) else q_let (v2 + (1 : Int32) : Int32) (fun z_51 => (z_51, σ))) else q_let (σ.1 (q_rf X r1 3) 2 : Int32) (fun f_52 => (f_52, σ))))))))))))))))

noncomputable def F_X7_go_B46_1 (X : XW) (r1 : Nat) (a : Nat) (B46_1 : Int32 → Int32 → ST → ST) (x_8 : Int32) (x_9 : Int32) (σ_10 : ST) : ST :=
  if x_9.toInt < 1000000 then q_let (σ_10.1 (q_rf X r1 3) 2 : Int32) (fun f_13 => if x_8.toInt < f_13.toInt then q_let (σ_10.1 a 5 : Int32) (fun f_15 => if f_15.toInt = 0 then q_let (F_X5_get X σ_10 (q_rf X (q_rf X r1 3) 3) x_8 : Int32) (fun r_17 => if r_17.toInt = 9 then q_bi (F_X7_behindEnd X σ_10 a (q_rf X r1 3) x_8) (fun r_30 σ_31 => q_let (x_9 + 1 : Int32) (fun z_32 => B46_1 r_30 z_32 σ_31)) else q_let (σ_10.1 a 0 : Int32) (fun f_20 => if f_20.toInt = 300 then q_let (q_si σ_10 a 5 (1 : Int32) : ST) (fun σ_28 => q_let (x_9 + 1 : Int32) (fun z_29 => B46_1 x_8 z_29 σ_28)) else q_let (σ_10.1 a 0 : Int32) (fun f_22 => q_let (f_22 + (1 : Int32) : Int32) (fun z_23 => q_let (q_si σ_10 a 0 z_23 : ST) (fun σ_24 => q_bi (F_X7_behindStep X σ_24 a r1 x_8) (fun r_25 σ_26 => q_let (x_9 + 1 : Int32) (fun z_27 => B46_1 r_25 z_27 σ_26))))))) else σ_10) else σ_10) else σ_10

noncomputable def F_X7_go_L46_1 (X : XW) (r1 : Nat) (a : Nat) : Nat → Int32 → Int32 → ST → ST
  | 0 => fun x_8 x_9 σ_10 => σ_10
  | k_ + 1 => F_X7_go_B46_1 X r1 a (F_X7_go_L46_1 X r1 a k_)

theorem F_X7_go_L46_1_s {X : XW} {r1 : Nat} {a : Nat} {k_ : Nat} {x_8 : Int32} {x_9 : Int32} {σ_10 : ST} : F_X7_go_L46_1 X r1 a (k_ + 1) x_8 x_9 σ_10 = F_X7_go_B46_1 X r1 a (F_X7_go_L46_1 X r1 a k_) x_8 x_9 σ_10 := rfl

noncomputable def F_X7_go (X : XW) (σ : ST) (a : Nat) (r1 : Nat) (v2 : Int32) : ST :=
  q_let (q_si σ a 0 (0 : Int32) : ST) (fun σ_1 => q_let (q_si σ_1 a 1 (0 : Int32) : ST) (fun σ_2 => q_let (q_si σ_2 a 2 (0 : Int32) : ST) (fun σ_3 => q_let (q_si σ_3 a 3 (0 : Int32) : ST) (fun σ_4 => q_let (q_si σ_4 a 4 (0 : Int32) : ST) (fun σ_5 => q_let (q_si σ_5 a 5 (0 : Int32) : ST) (fun σ_6 => q_let (q_si σ_6 a 6 v2 : ST) (fun σ_7 => F_X7_go_L46_1 X r1 a ((2147483647 - (0 : Int32).toInt).toNat + 1) (0 : Int32) (0 : Int32) σ_7)))))))

noncomputable def F_X11_status (X : XW) (σ : ST) (a : Nat) : Int32 :=
  q_let (σ.1 a 0 : Int32) (fun f_1 => f_1)

noncomputable def F_X11_top (X : XW) (σ : ST) (a : Nat) : Int64 :=
  q_let (σ.2.1 a 1 : Int64) (fun g_1 => g_1)

noncomputable def F_X11_bottom (X : XW) (σ : ST) (a : Nat) : Int64 :=
  q_let (σ.2.1 a 2 : Int64) (fun g_1 => g_1)

noncomputable def F_X11_trayAt (X : XW) (σ : ST) (a : Nat) (v1 : Int32) : Option Nat :=
  if v1.toInt < 0 then (none : Option Nat) else if v1.toInt < 4 then (some (q_rf X (q_rf X a 3) (v1 : Int32).toNatClampNeg)) else (none : Option Nat)

noncomputable def F_X11_no (X : XW) (σ : ST) (a : Nat) (v1 : Int32) : Int32 × ST :=
  q_let (q_si σ a 0 v1 : ST) (fun σ_1 => ((0 : Int32), σ_1))

noncomputable def F_X11_yes (X : XW) (σ : ST) (a : Nat) : Int32 × ST :=
  q_let (q_si σ a 0 (0 : Int32) : ST) (fun σ_1 => ((1 : Int32), σ_1))

noncomputable def F_X11_tray (X : XW) (σ : ST) (a : Nat) (v1 : Int32) (v2 : Int32) (v3 : Int32) : Int32 × ST :=
  q_let (F_X11_trayAt X σ a v1 : Option Nat) (fun r_1 => q_on r_1 (q_bi (F_X11_no X σ a (1 : Int32)) (fun r_4 σ_5 => (r_4, σ_5))) (fun r_1 => if v2.toInt < 0 then q_bi (F_X11_no X σ a (1 : Int32)) (fun r_8 σ_9 => (r_8, σ_9)) else if 3 < v2.toInt then q_bi (F_X11_no X σ a (1 : Int32)) (fun r_24 σ_25 => (r_24, σ_25)) else if 60 < v3.toInt then q_bi (F_X11_no X σ a (5 : Int32)) (fun r_21 σ_22 => (r_21, σ_22)) else if v3.toInt < 0 then q_bi (F_X11_no X σ a (6 : Int32)) (fun r_18 σ_19 => (r_18, σ_19)) else q_let (F_X10_make X σ r_1 v2 v3 : ST) (fun σ_14 => q_bi (F_X11_yes X σ_14 a) (fun r_15 σ_16 => (r_15, σ_16)))))

noncomputable def F_X11_placeStatus (X : XW) (σ : ST) (r0 : Nat) (v1 : Int32) : Int32 :=
  q_let (F_X10_isMissing X σ r0 : Int32) (fun r_1 => if r_1.toInt = 0 then q_let (F_X10_hasPlaces X σ r0 v1 (1 : Int32) : Int32) (fun r_5 => if r_5.toInt = 0 then (4 : Int32) else (0 : Int32)) else (3 : Int32))

noncomputable def F_X11_placeStatus_n (X : XW) (σ : ST) (v1 : Int32) : Int32 :=
  (1 : Int32)

noncomputable def F_X11_write (X : XW) (σ : ST) (a : Nat) (v1 : Int32) (v2 : Int32) (v3 : Int64) : Int32 × ST :=
  q_let (F_X11_trayAt X σ a v1 : Option Nat) (fun r_1 => q_on r_1 (q_let (F_X11_placeStatus_n X σ v2 : Int32) (fun r_3 => q_bi (F_X11_no X σ a r_3) (fun r_5 σ_6 => (r_5, σ_6)))) (fun r_1 => q_let (F_X11_placeStatus X σ r_1 v2 : Int32) (fun r_7 => if r_7.toInt = 0 then q_let (F_X10_put X σ r_1 v2 v3 : ST) (fun σ_11 => q_bi (F_X11_yes X σ_11 a) (fun r_12 σ_13 => (r_12, σ_13))) else q_bi (F_X11_no X σ a r_7) (fun r_14 σ_15 => (r_14, σ_15)))))

noncomputable def F_X11_none (X : XW) (σ : ST) (a : Nat) (v1 : Int32) : Int32 × ST :=
  q_let (q_si σ a 0 v1 : ST) (fun σ_1 => (((-1) : Int32), σ_1))

noncomputable def F_X11_read (X : XW) (σ : ST) (a : Nat) (v1 : Int32) (v2 : Int32) : Int64 × ST :=
  q_let (F_X11_trayAt X σ a v1 : Option Nat) (fun r_1 => q_on r_1 (q_let (F_X11_placeStatus_n X σ v2 : Int32) (fun r_3 => q_bi (F_X11_none X σ a r_3) (fun r_5 σ_6 => q_let (r_5.toInt64 : Int64) (fun y_7 => (y_7, σ_6))))) (fun r_1 => q_let (F_X11_placeStatus X σ r_1 v2 : Int32) (fun r_8 => if r_8.toInt = 0 then q_let (q_si σ a 0 (0 : Int32) : ST) (fun σ_11 => q_let (F_X10_get X σ_11 r_1 v2 : Int64) (fun r_12 => (r_12, σ_11))) else q_bi (F_X11_none X σ a r_8) (fun r_14 σ_15 => q_let (r_14.toInt64 : Int64) (fun y_16 => (y_16, σ_15))))))

noncomputable def F_X11_pour (X : XW) (σ : ST) (a : Nat) (v1 : Int32) (v2 : Int32) (v3 : Int32) (v4 : Int32) (v5 : Int32) : Int32 × ST :=
  q_let (F_X11_trayAt X σ a v1 : Option Nat) (fun r_1 => q_on r_1 (q_let (F_X11_trayAt X σ a v3 : Option Nat) (fun r_3 => q_on r_3 (q_bi (F_X11_no X σ a (1 : Int32)) (fun r_6 σ_7 => (r_6, σ_7))) (fun r_3 => q_bi (F_X11_no X σ a (1 : Int32)) (fun r_9 σ_10 => (r_9, σ_10))))) (fun r_1 => q_let (F_X11_trayAt X σ a v3 : Option Nat) (fun r_11 => q_on r_11 (q_bi (F_X11_no X σ a (1 : Int32)) (fun r_14 σ_15 => (r_14, σ_15))) (fun r_11 => q_let (F_X10_isMissing X σ r_1 : Int32) (fun r_16 => if r_16.toInt = 0 then q_let (F_X10_isMissing X σ r_11 : Int32) (fun r_22 => if r_22.toInt = 0 then q_let (σ.1 r_1 0 : Int32) (fun f_25 => q_let (σ.1 r_11 0 : Int32) (fun f_26 => if f_25.toInt = f_26.toInt then if v5.toInt < 0 then q_bi (F_X11_no X σ a (6 : Int32)) (fun r_46 σ_47 => (r_46, σ_47)) else q_let (F_X10_hasPlaces X σ r_1 v2 v5 : Int32) (fun r_29 => if r_29.toInt = 0 then q_bi (F_X11_no X σ a (4 : Int32)) (fun r_33 σ_34 => (r_33, σ_34)) else q_let (F_X10_hasPlaces X σ r_11 v4 v5 : Int32) (fun r_35 => if r_35.toInt = 0 then q_bi (F_X11_no X σ a (4 : Int32)) (fun r_43 σ_44 => (r_43, σ_44)) else q_let (F_X10_copyFrom X σ r_11 r_1 v2 v4 v5 : ST) (fun σ_39 => q_bi (F_X11_yes X σ_39 a) (fun r_40 σ_41 => (r_40, σ_41))))) else q_bi (F_X11_no X σ a (11 : Int32)) (fun r_49 σ_50 => (r_49, σ_50)))) else q_bi (F_X11_no X σ a (3 : Int32)) (fun r_52 σ_53 => (r_52, σ_53))) else q_bi (F_X11_no X σ a (3 : Int32)) (fun r_20 σ_21 => (r_20, σ_21)))))))

noncomputable def F_X11_tapeInt_B3_1 (X : XW) (a : Nat) (v1 : Int32) (B3_1 : Int32 → ST → ST) (x_1 : Int32) (σ_2 : ST) : ST :=
  if x_1.toInt < 0 then σ_2 else q_let (σ_2.1 a 5 : Int32) (fun f_5 => if f_5.toInt < 0 then σ_2 else q_let (σ_2.1 a 5 : Int32) (fun f_7 => if f_7.toInt < 900 then q_let (σ_2.1 a 5 : Int32) (fun f_9 => q_let (v1 >>> (x_1 &&& 31) : Int32) (fun z_10 => q_let (z_10.toInt8.toInt32 : Int32) (fun z_11 => q_let (q_si σ_2 (q_rf X a 4) f_9.toNatClampNeg z_11.toInt8.toInt32 : ST) (fun σ_12 => q_let (σ_12.1 a 5 : Int32) (fun f_13 => q_let (f_13 + (1 : Int32) : Int32) (fun z_14 => q_let (q_si σ_12 a 5 z_14 : ST) (fun σ_15 => q_let (x_1 + (-8) : Int32) (fun z_16 => B3_1 z_16 σ_15)))))))) else σ_2))

noncomputable def F_X11_tapeInt_L3_1 (X : XW) (a : Nat) (v1 : Int32) : Nat → Int32 → ST → ST
  | 0 => fun x_1 σ_2 => σ_2
  | k_ + 1 => F_X11_tapeInt_B3_1 X a v1 (F_X11_tapeInt_L3_1 X a v1 k_)

theorem F_X11_tapeInt_L3_1_s {X : XW} {a : Nat} {v1 : Int32} {k_ : Nat} {x_1 : Int32} {σ_2 : ST} : F_X11_tapeInt_L3_1 X a v1 (k_ + 1) x_1 σ_2 = F_X11_tapeInt_B3_1 X a v1 (F_X11_tapeInt_L3_1 X a v1 k_) x_1 σ_2 := rfl

noncomputable def F_X11_tapeInt (X : XW) (σ : ST) (a : Nat) (v1 : Int32) : ST :=
  F_X11_tapeInt_L3_1 X a v1 (((24 : Int32).toInt + 2147483656).toNat + 1) (24 : Int32) σ

noncomputable def F_X11_feed (X : XW) (σ : ST) (a : Nat) (v1 : Int32) (v2 : Int32) (v3 : Int32) (v4 : Int32) (v5 : Int32) : Int32 × ST :=
  q_let (σ.1 a 5 : Int32) (fun f_1 => q_let (f_1 + (20 : Int32) : Int32) (fun z_2 => if 900 < z_2.toInt then (((-1) : Int32), σ) else q_let (F_X11_tapeInt X σ a v1 : ST) (fun σ_6 => q_let (F_X11_tapeInt X σ_6 a v2 : ST) (fun σ_8 => q_let (F_X11_tapeInt X σ_8 a v3 : ST) (fun σ_10 => q_let (F_X11_tapeInt X σ_10 a v4 : ST) (fun σ_12 => q_let (F_X11_tapeInt X σ_12 a v5 : ST) (fun σ_14 => q_let (σ_14.1 a 5 : Int32) (fun f_15 => (f_15, σ_14)))))))))

noncomputable def F_X11_endReading (X : XW) (σ : ST) (a : Nat) (r1 : Nat) : ST :=
  q_let (q_si σ a 5 (0 : Int32) : ST) (fun σ_1 => q_let (σ_1.1 r1 6 : Int32) (fun f_2 => q_let (q_si σ_1 a 6 f_2 : ST) (fun σ_3 => q_let (σ_3.1 r1 7 : Int32) (fun f_4 => q_let (q_si σ_3 a 7 f_4 : ST) (fun σ_5 => σ_5)))))

noncomputable def F_X11_good (X : XW) (σ : ST) (a : Nat) (v1 : Int32) : Int32 × ST :=
  q_let (q_si σ a 0 (0 : Int32) : ST) (fun σ_1 => (v1, σ_1))

noncomputable def F_X11_table (X : XW) (σ : ST) (a : Nat) (v1 : Int32) : Int32 × ST :=
  if v1.toInt < 0 then q_bi (F_X11_none X σ a (5 : Int32)) (fun r_3 σ_4 => (r_3, σ_4)) else q_let (σ.1 a 5 : Int32) (fun f_5 => if f_5.toInt < v1.toInt then q_bi (F_X11_none X σ a (5 : Int32)) (fun r_21 σ_22 => (r_21, σ_22)) else q_bi (F_X9_takes X σ (q_rf X a 12) (q_rf X a 4) v1) (fun r_7 σ_8 => q_let (F_X11_endReading X σ_8 a (q_rf X a 12) : ST) (fun σ_10 => if r_7.toInt = 0 then q_bi (F_X11_none X σ_10 a (10 : Int32)) (fun r_18 σ_19 => (r_18, σ_19)) else q_let (F_X0_copyFrom X σ_10 (q_rf X a 8) (q_rf X (q_rf X a 12) 8) : ST) (fun σ_13 => q_let (σ_13.1 (q_rf X (q_rf X a 8) 0) 4 : Int32) (fun f_14 => q_bi (F_X11_good X σ_13 a f_14) (fun r_15 σ_16 => (r_15, σ_16)))))))

noncomputable def F_X11_round (X : XW) (σ : ST) (a : Nat) (v1 : Int32) : Int32 × ST :=
  if v1.toInt < 0 then q_bi (F_X11_none X σ a (5 : Int32)) (fun r_3 σ_4 => (r_3, σ_4)) else q_let (σ.1 a 5 : Int32) (fun f_5 => if f_5.toInt < v1.toInt then q_bi (F_X11_none X σ a (5 : Int32)) (fun r_8 σ_9 => (r_8, σ_9)) else if 300 < v1.toInt then q_bi (F_X11_none X σ a (5 : Int32)) (fun r_25 σ_26 => (r_25, σ_26)) else q_bi (F_X4_takes X σ (q_rf X a 13) (q_rf X a 4) v1 (q_rf X (q_rf X a 8) 0)) (fun r_11 σ_12 => q_let (F_X11_endReading X σ_12 a (q_rf X a 13) : ST) (fun σ_14 => if r_11.toInt = 0 then q_bi (F_X11_none X σ_14 a (10 : Int32)) (fun r_22 σ_23 => (r_22, σ_23)) else q_let (F_X8_copyFrom X σ_14 (q_rf X (q_rf X a 8) 3) (q_rf X (q_rf X a 13) 8) : ST) (fun σ_17 => q_let (σ_17.1 (q_rf X (q_rf X a 8) 3) 1 : Int32) (fun f_18 => q_bi (F_X11_good X σ_17 a f_18) (fun r_19 σ_20 => (r_19, σ_20)))))))

noncomputable def F_X11_fault (X : XW) (σ : ST) (a : Nat) (v1 : Int32) : Int32 :=
  if v1.toInt = 0 then q_let (σ.1 a 6 : Int32) (fun f_4 => f_4) else if v1.toInt = 1 then q_let (σ.1 a 7 : Int32) (fun f_3 => f_3) else ((-1) : Int32)

noncomputable def F_X11_many (X : XW) (σ : ST) (a : Nat) (v1 : Int32) : Int32 × ST :=
  (if v1.toInt = 0 then q_let (σ.1 (q_rf X (q_rf X a 8) 0) 0 : Int32) (fun f_2 => q_bi (F_X11_good X σ a f_2) (fun r_3 σ_4 => (r_3, σ_4))) else (if v1.toInt = 1 then q_let (σ.1 (q_rf X (q_rf X a 8) 0) 1 : Int32) (fun f_6 => q_bi (F_X11_good X σ a f_6) (fun r_7 σ_8 => (r_7, σ_8))) else (if v1.toInt = 2 then q_let (σ.1 (q_rf X (q_rf X a 8) 0) 4 : Int32) (fun f_10 => q_bi (F_X11_good X σ a f_10) (fun r_11 σ_12 => (r_11, σ_12))) else (if v1.toInt = 3 then q_let (σ.1 (q_rf X (q_rf X a 8) 0) 2 : Int32) (fun f_14 => q_bi (F_X11_good X σ a f_14) (fun r_15 σ_16 => (r_15, σ_16))) else (if v1.toInt = 4 then q_let (σ.1 (q_rf X (q_rf X a 8) 0) 3 : Int32) (fun f_18 => q_bi (F_X11_good X σ a f_18) (fun r_19 σ_20 => (r_19, σ_20))) else (if v1.toInt = 5 then q_let (σ.1 (q_rf X a 8) 4 : Int32) (fun f_22 => q_bi (F_X11_good X σ a f_22) (fun r_23 σ_24 => (r_23, σ_24))) else (if v1.toInt = 6 then q_let (σ.1 (q_rf X (q_rf X a 8) 0) 4 : Int32) (fun f_26 => if f_26.toInt = 0 then q_bi (F_X11_none X σ a (8 : Int32)) (fun r_32 σ_33 => (r_32, σ_33)) else q_let (σ.1 (q_rf X a 8) 5 : Int32) (fun f_28 => q_bi (F_X11_good X σ a f_28) (fun r_29 σ_30 => (r_29, σ_30)))) else (if v1.toInt = 7 then q_let (σ.1 (q_rf X (q_rf X a 8) 2) 1 : Int32) (fun f_35 => q_bi (F_X11_good X σ a f_35) (fun r_36 σ_37 => (r_36, σ_37))) else (if v1.toInt = 8 then q_let (σ.1 (q_rf X a 8) 7 : Int32) (fun f_39 => if f_39.toInt = 0 then q_bi (F_X11_good X σ a (0 : Int32)) (fun r_42 σ_43 => (r_42, σ_43)) else q_bi (F_X11_good X σ a (1 : Int32)) (fun r_45 σ_46 => (r_45, σ_46))) else (if v1.toInt = 9 then q_let (σ.1 (q_rf X a 8) 6 : Int32) (fun f_48 => if f_48.toInt = (-1) then q_bi (F_X11_none X σ a (8 : Int32)) (fun r_54 σ_55 => (r_54, σ_55)) else q_let (σ.1 (q_rf X a 8) 6 : Int32) (fun f_50 => q_bi (F_X11_good X σ a f_50) (fun r_51 σ_52 => (r_51, σ_52)))) else (if v1.toInt = 10 then q_let (σ.1 (q_rf X (q_rf X a 8) 2) 0 : Int32) (fun f_57 => q_bi (F_X11_good X σ a f_57) (fun r_58 σ_59 => (r_58, σ_59))) else q_bi (F_X11_none X σ a (5 : Int32)) (fun r_61 σ_62 => (r_61, σ_62)))))))))))))

noncomputable def F_X11_isPlayer (X : XW) (σ : ST) (a : Nat) (v1 : Int32) : Int32 :=
  if v1.toInt < 0 then (0 : Int32) else q_let (σ.1 (q_rf X (q_rf X a 8) 0) 4 : Int32) (fun f_2 => if v1.toInt < f_2.toInt then (1 : Int32) else (0 : Int32))

noncomputable def F_X11_player (X : XW) (σ : ST) (a : Nat) (v1 : Int32) (v2 : Int32) : Int32 × ST :=
  q_let (F_X11_isPlayer X σ a v1 : Int32) (fun r_1 => if r_1.toInt = 0 then q_bi (F_X11_none X σ a (2 : Int32)) (fun r_38 σ_39 => (r_38, σ_39)) else (if v2.toInt = 0 then q_let (F_X5_get X σ (q_rf X (q_rf X (q_rf X a 8) 1) 3) v1 : Int32) (fun r_5 => q_bi (F_X11_good X σ a r_5) (fun r_7 σ_8 => (r_7, σ_8))) else (if v2.toInt = 1 then q_let (F_X5_get X σ (q_rf X (q_rf X (q_rf X a 8) 1) 4) v1 : Int32) (fun r_10 => q_bi (F_X11_good X σ a r_10) (fun r_12 σ_13 => (r_12, σ_13))) else (if v2.toInt = 2 then q_let (F_X5_get X σ (q_rf X (q_rf X (q_rf X a 8) 1) 2) v1 : Int32) (fun r_15 => q_bi (F_X11_good X σ a r_15) (fun r_17 σ_18 => (r_17, σ_18))) else (if v2.toInt = 3 then q_let (F_X5_get X σ (q_rf X (q_rf X (q_rf X a 8) 1) 5) v1 : Int32) (fun r_20 => q_bi (F_X11_good X σ a r_20) (fun r_22 σ_23 => (r_22, σ_23))) else (if v2.toInt = 4 then q_let (F_X5_get X σ (q_rf X (q_rf X (q_rf X a 8) 1) 6) v1 : Int32) (fun r_25 => q_bi (F_X11_good X σ a r_25) (fun r_27 σ_28 => (r_27, σ_28))) else (if v2.toInt = 5 then q_let (F_X1_allLaidBy X σ (q_rf X (q_rf X a 8) 1) v1 : Int32) (fun r_30 => q_bi (F_X11_good X σ a r_30) (fun r_32 σ_33 => (r_32, σ_33))) else q_bi (F_X11_none X σ a (5 : Int32)) (fun r_35 σ_36 => (r_35, σ_36)))))))))

noncomputable def F_X11_isKind (X : XW) (σ : ST) (a : Nat) (v1 : Int32) : Int32 :=
  if v1.toInt < 0 then (0 : Int32) else q_let (σ.1 (q_rf X (q_rf X a 8) 0) 0 : Int32) (fun f_2 => if v1.toInt < f_2.toInt then (1 : Int32) else (0 : Int32))

noncomputable def F_X11_hand (X : XW) (σ : ST) (a : Nat) (v1 : Int32) (v2 : Int32) : Int32 × ST :=
  q_let (F_X11_isPlayer X σ a v1 : Int32) (fun r_1 => if r_1.toInt = 0 then q_bi (F_X11_none X σ a (2 : Int32)) (fun r_5 σ_6 => (r_5, σ_6)) else q_let (F_X11_isKind X σ a v2 : Int32) (fun r_7 => if r_7.toInt = 0 then q_bi (F_X11_none X σ a (2 : Int32)) (fun r_15 σ_16 => (r_15, σ_16)) else q_let (F_X1_heldBy X σ (q_rf X (q_rf X a 8) 1) v1 v2 : Int32) (fun r_10 => q_bi (F_X11_good X σ a r_10) (fun r_12 σ_13 => (r_12, σ_13)))))

noncomputable def F_X11_inGame (X : XW) (σ : ST) (a : Nat) (v1 : Int32) : Int32 × ST :=
  q_let (F_X11_isKind X σ a v1 : Int32) (fun r_1 => if r_1.toInt = 0 then q_bi (F_X11_none X σ a (2 : Int32)) (fun r_5 σ_6 => (r_5, σ_6)) else q_let (F_X5_get X σ (q_rf X (q_rf X (q_rf X a 8) 0) 5) v1 : Int32) (fun r_7 => q_bi (F_X11_good X σ a r_7) (fun r_9 σ_10 => (r_9, σ_10))))

noncomputable def F_X11_laying (X : XW) (σ : ST) (a : Nat) (v1 : Int32) (v2 : Int32) : Int32 × ST :=
  if v2.toInt < 0 then q_bi (F_X11_none X σ a (5 : Int32)) (fun r_3 σ_4 => (r_3, σ_4)) else if 3 < v2.toInt then q_bi (F_X11_none X σ a (5 : Int32)) (fun r_35 σ_36 => (r_35, σ_36)) else if v1.toInt < 0 then q_bi (F_X11_none X σ a (8 : Int32)) (fun r_8 σ_9 => (r_8, σ_9)) else q_let (σ.1 (q_rf X (q_rf X a 8) 2) 0 : Int32) (fun f_10 => if v1.toInt < f_10.toInt then (if v2.toInt = 0 then q_let (F_X5_get X σ (q_rf X (q_rf X (q_rf X a 8) 2) 2) v1 : Int32) (fun r_13 => q_bi (F_X11_good X σ a r_13) (fun r_15 σ_16 => (r_15, σ_16))) else (if v2.toInt = 1 then q_let (F_X5_get X σ (q_rf X (q_rf X (q_rf X a 8) 2) 3) v1 : Int32) (fun r_18 => q_bi (F_X11_good X σ a r_18) (fun r_20 σ_21 => (r_20, σ_21))) else (if v2.toInt = 2 then q_let (F_X5_get X σ (q_rf X (q_rf X (q_rf X a 8) 2) 4) v1 : Int32) (fun r_23 => q_bi (F_X11_good X σ a r_23) (fun r_25 σ_26 => (r_25, σ_26))) else q_let (F_X2_truth X σ (q_rf X (q_rf X a 8) 2) v1 : Int32) (fun r_27 => q_bi (F_X11_good X σ a r_27) (fun r_29 σ_30 => (r_29, σ_30)))))) else q_bi (F_X11_none X σ a (8 : Int32)) (fun r_32 σ_33 => (r_32, σ_33)))

noncomputable def F_X11_cardOf (X : XW) (σ : ST) (a : Nat) (v1 : Int32) (v2 : Int32) : Int32 × ST :=
  if v1.toInt < 0 then q_bi (F_X11_none X σ a (8 : Int32)) (fun r_3 σ_4 => (r_3, σ_4)) else q_let (σ.1 (q_rf X (q_rf X a 8) 2) 0 : Int32) (fun f_5 => if v1.toInt < f_5.toInt then if v2.toInt < 0 then q_bi (F_X11_none X σ a (8 : Int32)) (fun r_12 σ_13 => (r_12, σ_13)) else q_let (F_X5_get X σ (q_rf X (q_rf X (q_rf X a 8) 2) 4) v1 : Int32) (fun r_14 => if v2.toInt < r_14.toInt then q_let (F_X2_kindOf X σ (q_rf X (q_rf X a 8) 2) v1 v2 : Int32) (fun r_17 => q_bi (F_X11_good X σ a r_17) (fun r_19 σ_20 => (r_19, σ_20))) else q_bi (F_X11_none X σ a (8 : Int32)) (fun r_22 σ_23 => (r_22, σ_23))) else q_bi (F_X11_none X σ a (8 : Int32)) (fun r_8 σ_9 => (r_8, σ_9)))

noncomputable def F_X11_copyHand_E107_2 (X : XW) (σ_18 : ST) (a : Nat) (f_12 : Int32) : Int32 × ST :=
  q_bi (F_X11_good X σ_18 a f_12) (fun r_21 σ_22 => (r_21, σ_22))

noncomputable def F_X11_copyHand_B74_1 (X : XW) (f_12 : Int32) (a : Nat) (v1 : Int32) (r_1 : Nat) (B74_1 : Int32 → ST → Int32 × ST) (x_17 : Int32) (σ_18 : ST) : Int32 × ST :=
  if x_17.toInt < f_12.toInt then q_let (F_X1_heldBy X σ_18 (q_rf X (q_rf X a 8) 1) v1 x_17 : Int32) (fun r_23 => q_let (r_23.toInt64 : Int64) (fun y_25 => q_let (F_X10_put X σ_18 r_1 x_17 y_25 : ST) (fun σ_27 => q_let (x_17 + 1 : Int32) (fun z_28 => B74_1 z_28 σ_27)))) else F_X11_copyHand_E107_2 X σ_18 a f_12

noncomputable def F_X11_copyHand_L74_1 (X : XW) (f_12 : Int32) (a : Nat) (v1 : Int32) (r_1 : Nat) : Nat → Int32 → ST → Int32 × ST
  | 0 => fun x_17 σ_18 => ((0 : Int32), σ_18)
  | k_ + 1 => F_X11_copyHand_B74_1 X f_12 a v1 r_1 (F_X11_copyHand_L74_1 X f_12 a v1 r_1 k_)

theorem F_X11_copyHand_L74_1_s {X : XW} {f_12 : Int32} {a : Nat} {v1 : Int32} {r_1 : Nat} {k_ : Nat} {x_17 : Int32} {σ_18 : ST} : F_X11_copyHand_L74_1 X f_12 a v1 r_1 (k_ + 1) x_17 σ_18 = F_X11_copyHand_B74_1 X f_12 a v1 r_1 (F_X11_copyHand_L74_1 X f_12 a v1 r_1 k_) x_17 σ_18 := rfl

noncomputable def F_X11_copyHand (X : XW) (σ : ST) (a : Nat) (v1 : Int32) (v2 : Int32) : Int32 × ST :=
  q_let (F_X11_trayAt X σ a v2 : Option Nat) (fun r_1 => q_on r_1 (q_bi (F_X11_none X σ a (1 : Int32)) (fun r_4 σ_5 => (r_4, σ_5))) (fun r_1 => q_let (F_X10_isMissing X σ r_1 : Int32) (fun r_6 => if r_6.toInt = 0 then q_let (F_X11_isPlayer X σ a v1 : Int32) (fun r_9 => if r_9.toInt = 0 then q_bi (F_X11_none X σ a (2 : Int32)) (fun r_33 σ_34 => (r_33, σ_34)) else q_let (σ.1 (q_rf X (q_rf X a 8) 0) 0 : Int32) (fun f_12 => q_let (F_X10_hasPlaces X σ r_1 (0 : Int32) f_12 : Int32) (fun r_14 => if r_14.toInt = 0 then q_bi (F_X11_none X σ a (4 : Int32)) (fun r_30 σ_31 => (r_30, σ_31)) else F_X11_copyHand_L74_1 X f_12 a v1 r_1 ((2147483647 - (0 : Int32).toInt).toNat + 1) (0 : Int32) σ))) else q_bi (F_X11_none X σ a (3 : Int32)) (fun r_36 σ_37 => (r_36, σ_37)))))

noncomputable def F_X11_isKindOrNone (X : XW) (σ : ST) (a : Nat) (v1 : Int32) : Int32 :=
  if v1.toInt = (-1) then (1 : Int32) else q_let (F_X11_isKind X σ a v1 : Int32) (fun r_2 => if r_2.toInt = 0 then (0 : Int32) else (1 : Int32))

noncomputable def F_X11_lay_J71_2 (X : XW) (σ : ST) (a : Nat) (v1 : Int32) (v2 : Int32) (v3 : Int32) (v4 : Int32) : Int32 × ST :=
  q_let (F_X0_clearWanted X σ (q_rf X a 8) : ST) (fun σ_27 => q_let (F_X0_want X σ_27 (q_rf X a 8) v1 (1 : Int32) : ST) (fun σ_30 => q_let (F_X0_want X σ_30 (q_rf X a 8) v2 (1 : Int32) : ST) (fun σ_33 => q_let (F_X0_want X σ_33 (q_rf X a 8) v3 (1 : Int32) : ST) (fun σ_36 => q_let (F_X0_want X σ_36 (q_rf X a 8) v4 (1 : Int32) : ST) (fun σ_39 => q_let (σ_39.1 (q_rf X a 8) 9 : Int32) (fun f_40 => q_let (σ_39.1 (q_rf X (q_rf X a 8) 0) 3 : Int32) (fun f_41 => if f_41.toInt < f_40.toInt then q_bi (F_X11_none X σ_39 a (7 : Int32)) (fun r_70 σ_71 => (r_70, σ_71)) else q_let (σ_39.1 (q_rf X a 8) 7 : Int32) (fun f_43 => if f_43.toInt = 0 then q_let (σ_39.1 (q_rf X a 8) 6 : Int32) (fun f_48 => if f_48.toInt = (-1) then q_let (σ_39.1 (q_rf X (q_rf X a 8) 0) 4 : Int32) (fun f_53 => if f_53.toInt = 0 then q_bi (F_X11_none X σ_39 a (9 : Int32)) (fun r_56 σ_57 => (r_56, σ_57)) else q_let (F_X0_holdsWanted X σ_39 (q_rf X a 8) : Int32) (fun r_58 => if r_58.toInt = 0 then q_bi (F_X11_none X σ_39 a (9 : Int32)) (fun r_67 σ_68 => (r_67, σ_68)) else q_let (F_X0_layWanted X σ_39 (q_rf X a 8) : ST) (fun σ_62 => q_let (σ_62.1 (q_rf X (q_rf X a 8) 2) 1 : Int32) (fun f_63 => q_bi (F_X11_good X σ_62 a f_63) (fun r_64 σ_65 => (r_64, σ_65)))))) else q_bi (F_X11_none X σ_39 a (9 : Int32)) (fun r_51 σ_52 => (r_51, σ_52))) else q_bi (F_X11_none X σ_39 a (9 : Int32)) (fun r_46 σ_47 => (r_46, σ_47))))))))))

noncomputable def F_X11_lay_J54_1 (X : XW) (v3 : Int32) (v4 : Int32) (σ : ST) (a : Nat) (v1 : Int32) (v2 : Int32) : Int32 × ST :=
  if v3.toInt = (-1) then if v4.toInt = (-1) then F_X11_lay_J71_2 X σ a v1 v2 v3 v4 else q_bi (F_X11_none X σ a (5 : Int32)) (fun r_75 σ_76 => (r_75, σ_76)) else F_X11_lay_J71_2 X σ a v1 v2 v3 v4

noncomputable def F_X11_lay (X : XW) (σ : ST) (a : Nat) (v1 : Int32) (v2 : Int32) (v3 : Int32) (v4 : Int32) : Int32 × ST :=
  q_let (F_X11_isKindOrNone X σ a v1 : Int32) (fun r_1 => if r_1.toInt = 0 then q_bi (F_X11_none X σ a (2 : Int32)) (fun r_5 σ_6 => (r_5, σ_6)) else q_let (F_X11_isKindOrNone X σ a v2 : Int32) (fun r_7 => if r_7.toInt = 0 then q_bi (F_X11_none X σ a (2 : Int32)) (fun r_11 σ_12 => (r_11, σ_12)) else q_let (F_X11_isKindOrNone X σ a v3 : Int32) (fun r_13 => if r_13.toInt = 0 then q_bi (F_X11_none X σ a (2 : Int32)) (fun r_17 σ_18 => (r_17, σ_18)) else q_let (F_X11_isKindOrNone X σ a v4 : Int32) (fun r_19 => if r_19.toInt = 0 then q_bi (F_X11_none X σ a (2 : Int32)) (fun r_83 σ_84 => (r_83, σ_84)) else if v1.toInt = (-1) then q_bi (F_X11_none X σ a (5 : Int32)) (fun r_24 σ_25 => (r_24, σ_25)) else if v2.toInt = (-1) then if v3.toInt = (-1) then F_X11_lay_J54_1 X v3 v4 σ a v1 v2 else q_bi (F_X11_none X σ a (5 : Int32)) (fun r_80 σ_81 => (r_80, σ_81)) else F_X11_lay_J54_1 X v3 v4 σ a v1 v2))))

noncomputable def F_X11_leave (X : XW) (σ : ST) (a : Nat) : Int32 × ST :=
  q_let (σ.1 (q_rf X a 8) 7 : Int32) (fun f_1 => if f_1.toInt = 0 then q_bi (F_X11_none X σ a (8 : Int32)) (fun r_9 σ_10 => (r_9, σ_10)) else q_let (F_X0_letLie X σ (q_rf X a 8) : ST) (fun σ_4 => q_let (σ_4.1 (q_rf X a 8) 5 : Int32) (fun f_5 => q_bi (F_X11_good X σ_4 a f_5) (fun r_6 σ_7 => (r_6, σ_7)))))

noncomputable def F_X11_doubterStatus (X : XW) (σ : ST) (a : Nat) (v1 : Int32) : Int32 :=
  q_let (F_X11_isPlayer X σ a v1 : Int32) (fun r_1 => if r_1.toInt = 0 then (2 : Int32) else q_let (σ.1 (q_rf X a 8) 7 : Int32) (fun f_4 => if f_4.toInt = 0 then (8 : Int32) else q_let (σ.1 (q_rf X a 8) 5 : Int32) (fun f_6 => if v1.toInt = f_6.toInt then (5 : Int32) else (0 : Int32))))

noncomputable def F_X11_doubt (X : XW) (σ : ST) (a : Nat) (v1 : Int32) : Int32 × ST :=
  q_let (F_X11_doubterStatus X σ a v1 : Int32) (fun r_1 => if r_1.toInt = 0 then q_bi (F_X0_challenge X σ (q_rf X a 8) v1) (fun r_6 σ_7 => q_bi (F_X11_good X σ_7 a r_6) (fun r_8 σ_9 => (r_8, σ_9))) else q_bi (F_X11_none X σ a r_1) (fun r_4 σ_5 => (r_4, σ_5)))

noncomputable def F_X11_isSixteenths (X : XW) (σ : ST) (v0 : Int32) : Int32 :=
  if v0.toInt < 0 then (0 : Int32) else if 16 < v0.toInt then (0 : Int32) else (1 : Int32)

noncomputable def F_X11_bend (X : XW) (σ : ST) (a : Nat) (v1 : Int32) (v2 : Int32) (v3 : Int32) : Int32 × ST :=
  q_let (F_X11_isPlayer X σ a v1 : Int32) (fun r_1 => if r_1.toInt = 0 then q_bi (F_X11_no X σ a (2 : Int32)) (fun r_23 σ_24 => (r_23, σ_24)) else q_let (F_X11_isSixteenths X σ v2 : Int32) (fun r_4 => if r_4.toInt = 0 then q_bi (F_X11_no X σ a (5 : Int32)) (fun r_8 σ_9 => (r_8, σ_9)) else q_let (F_X11_isSixteenths X σ v3 : Int32) (fun r_10 => if r_10.toInt = 0 then q_bi (F_X11_no X σ a (5 : Int32)) (fun r_20 σ_21 => (r_20, σ_21)) else q_let (F_X5_set X σ (q_rf X (q_rf X (q_rf X a 8) 1) 3) v1 v2 : ST) (fun σ_14 => q_let (F_X5_set X σ_14 (q_rf X (q_rf X (q_rf X a 8) 1) 4) v1 v3 : ST) (fun σ_16 => q_bi (F_X11_yes X σ_16 a) (fun r_17 σ_18 => (r_17, σ_18)))))))

noncomputable def F_X11_known (X : XW) (σ : ST) (a : Nat) (v1 : Int32) (v2 : Int32) : Int32 × ST :=
  q_let (F_X11_isPlayer X σ a v1 : Int32) (fun r_1 => if r_1.toInt = 0 then q_bi (F_X11_none X σ a (2 : Int32)) (fun r_5 σ_6 => (r_5, σ_6)) else q_let (F_X11_isKind X σ a v2 : Int32) (fun r_7 => if r_7.toInt = 0 then q_bi (F_X11_none X σ a (2 : Int32)) (fun r_15 σ_16 => (r_15, σ_16)) else q_let (F_X1_knownTo X σ (q_rf X (q_rf X a 8) 1) v1 v2 : Int32) (fun r_10 => q_bi (F_X11_good X σ a r_10) (fun r_12 σ_13 => (r_12, σ_13)))))

noncomputable def F_X11_unknown (X : XW) (σ : ST) (a : Nat) (v1 : Int32) (v2 : Int32) : Int32 × ST :=
  q_let (F_X11_isPlayer X σ a v1 : Int32) (fun r_1 => if r_1.toInt = 0 then q_bi (F_X11_none X σ a (2 : Int32)) (fun r_5 σ_6 => (r_5, σ_6)) else q_let (F_X11_isKindOrNone X σ a v2 : Int32) (fun r_7 => if r_7.toInt = 0 then q_bi (F_X11_none X σ a (2 : Int32)) (fun r_20 σ_21 => (r_20, σ_21)) else if v2.toInt = (-1) then q_let (F_X0_allUnknownTo X σ (q_rf X a 8) v1 : Int32) (fun r_15 => q_bi (F_X11_good X σ a r_15) (fun r_17 σ_18 => (r_17, σ_18))) else q_let (F_X0_unknownTo X σ (q_rf X a 8) v1 v2 : Int32) (fun r_11 => q_bi (F_X11_good X σ a r_11) (fun r_13 σ_14 => (r_13, σ_14)))))

noncomputable def F_X11_impossible (X : XW) (σ : ST) (a : Nat) (v1 : Int32) : Int32 × ST :=
  q_let (F_X11_doubterStatus X σ a v1 : Int32) (fun r_1 => if r_1.toInt = 0 then q_let (F_X0_isImpossibleFor X σ (q_rf X a 8) v1 : Int32) (fun r_4 => if r_4.toInt = 0 then q_bi (F_X11_good X σ a (0 : Int32)) (fun r_8 σ_9 => (r_8, σ_9)) else q_bi (F_X11_good X σ a (1 : Int32)) (fun r_11 σ_12 => (r_11, σ_12))) else q_bi (F_X11_none X σ a r_1) (fun r_13 σ_14 => (r_13, σ_14)))

noncomputable def F_X11_commonDivisor_B3_1 (X : XW) (B3_1 : Int64 → Int64 → Int32 → Int64) (w_1 : Int64) (w_2 : Int64) (x_3 : Int32) : Int64 :=
  if x_3.toInt < 200 then q_let (lg_cmp w_2 (0 : Int64) : Int32) (fun z_6 => if z_6.toInt = 0 then w_1 else q_let (w_1 % w_2 : Int64) (fun y_9 => q_let (x_3 + 1 : Int32) (fun z_10 => B3_1 w_2 y_9 z_10))) else w_1

noncomputable def F_X11_commonDivisor_L3_1 (X : XW) : Nat → Int64 → Int64 → Int32 → Int64
  | 0 => fun w_1 w_2 x_3 => (0 : Int64)
  | k_ + 1 => F_X11_commonDivisor_B3_1 X (F_X11_commonDivisor_L3_1 X k_)

theorem F_X11_commonDivisor_L3_1_s {X : XW} {k_ : Nat} {w_1 : Int64} {w_2 : Int64} {x_3 : Int32} : F_X11_commonDivisor_L3_1 X (k_ + 1) w_1 w_2 x_3 = F_X11_commonDivisor_B3_1 X (F_X11_commonDivisor_L3_1 X k_) w_1 w_2 x_3 := rfl

noncomputable def F_X11_commonDivisor (X : XW) (σ : ST) (v0 : Int64) (v1 : Int64) : Int64 :=
  F_X11_commonDivisor_L3_1 X ((2147483647 - (0 : Int32).toInt).toNat + 1) v0 v1 (0 : Int32)

noncomputable def F_X11_tell (X : XW) (σ : ST) (a : Nat) (v1 : Int64) (v2 : Int64) : Int32 × ST :=
  q_let (F_J9_abs_067f4 X σ v1 : Int64) (fun r_1 => q_let (F_X11_commonDivisor X σ r_1 v2 : Int64) (fun r_3 => q_let (lg_cmp v1 (0 : Int64) : Int32) (fun z_5 => if z_5.toInt = 0 then q_let (q_sl σ a 1 (0 : Int64) : ST) (fun σ_8 => q_let (q_sl σ_8 a 2 (1 : Int64) : ST) (fun σ_9 => q_bi (F_X11_yes X σ_9 a) (fun r_10 σ_11 => (r_10, σ_11)))) else q_let (lg_cmp v2 (0 : Int64) : Int32) (fun z_12 => if 0 < z_12.toInt then q_let (lg_cmp r_3 (0 : Int64) : Int32) (fun z_19 => if 0 < z_19.toInt then q_let (v1 / r_3 : Int64) (fun y_22 => q_let (q_sl σ a 1 y_22 : ST) (fun σ_23 => q_let (v2 / r_3 : Int64) (fun y_24 => q_let (q_sl σ_23 a 2 y_24 : ST) (fun σ_25 => q_bi (F_X11_yes X σ_25 a) (fun r_26 σ_27 => (r_26, σ_27)))))) else q_let (q_sl σ a 1 (0 : Int64) : ST) (fun σ_28 => q_let (q_sl σ_28 a 2 (1 : Int64) : ST) (fun σ_29 => q_bi (F_X11_yes X σ_29 a) (fun r_30 σ_31 => (r_30, σ_31))))) else q_let (q_sl σ a 1 (0 : Int64) : ST) (fun σ_15 => q_let (q_sl σ_15 a 2 (1 : Int64) : ST) (fun σ_16 => q_bi (F_X11_yes X σ_16 a) (fun r_17 σ_18 => (r_17, σ_18))))))))

noncomputable def F_X11_blind (X : XW) (σ : ST) (a : Nat) (v1 : Int32) : Int32 × ST :=
  q_let (F_X11_doubterStatus X σ a v1 : Int32) (fun r_1 => if r_1.toInt = 0 then q_let (F_X0_trueWays X σ (q_rf X a 8) v1 : Int64) (fun r_4 => q_let (F_X0_allWays X σ (q_rf X a 8) v1 : Int64) (fun r_6 => q_bi (F_X11_tell X σ a r_4 r_6) (fun r_8 σ_9 => (r_8, σ_9)))) else q_bi (F_X11_no X σ a r_1) (fun r_10 σ_11 => (r_10, σ_11)))

noncomputable def F_X11_honest (X : XW) (σ : ST) (a : Nat) (v1 : Int32) : Int32 × ST :=
  q_let (F_X11_isPlayer X σ a v1 : Int32) (fun r_1 => if r_1.toInt = 0 then q_bi (F_X11_no X σ a (2 : Int32)) (fun r_11 σ_12 => (r_11, σ_12)) else q_let (F_X1_honestTop X σ (q_rf X (q_rf X a 8) 1) v1 : Int64) (fun r_4 => q_let (F_X1_honestBottom X σ (q_rf X (q_rf X a 8) 1) v1 : Int64) (fun r_6 => q_bi (F_X11_tell X σ a r_4 r_6) (fun r_8 σ_9 => (r_8, σ_9)))))

noncomputable def F_X11_belief (X : XW) (σ : ST) (a : Nat) (v1 : Int32) : Int32 × ST :=
  q_let (F_X11_doubterStatus X σ a v1 : Int32) (fun r_1 => if r_1.toInt = 0 then q_let (F_X0_trueWays X σ (q_rf X a 8) v1 : Int64) (fun r_4 => q_let (F_X0_allWays X σ (q_rf X a 8) v1 : Int64) (fun r_6 => q_let (r_6 - r_4 : Int64) (fun y_8 => q_let (σ.1 (q_rf X a 8) 5 : Int32) (fun f_9 => q_let (F_X1_honestTop X σ (q_rf X (q_rf X a 8) 1) f_9 : Int64) (fun r_10 => q_let (σ.1 (q_rf X a 8) 5 : Int32) (fun f_12 => q_let (F_X1_honestBottom X σ (q_rf X (q_rf X a 8) 1) f_12 : Int64) (fun r_13 => q_let (r_13 - r_10 : Int64) (fun y_15 => q_let (r_4 * r_10 : Int64) (fun y_16 => q_let (r_4 * r_10 : Int64) (fun y_17 => q_let (y_8 * y_15 : Int64) (fun y_18 => q_let (y_17 + y_18 : Int64) (fun y_19 => q_bi (F_X11_tell X σ a y_16 y_19) (fun r_20 σ_21 => (r_20, σ_21)))))))))))))) else q_bi (F_X11_no X σ a r_1) (fun r_22 σ_23 => (r_22, σ_23)))

noncomputable def F_X11_worth (X : XW) (σ : ST) (a : Nat) (v1 : Int32) : Int32 × ST :=
  q_let (F_X11_doubterStatus X σ a v1 : Int32) (fun r_1 => if r_1.toInt = 0 then q_let (F_X0_worthTop X σ (q_rf X a 8) v1 : Int64) (fun r_4 => q_let (F_X0_allWays X σ (q_rf X a 8) v1 : Int64) (fun r_6 => q_bi (F_X11_tell X σ a r_4 r_6) (fun r_8 σ_9 => (r_8, σ_9)))) else q_bi (F_X11_no X σ a r_1) (fun r_10 σ_11 => (r_10, σ_11)))

noncomputable def F_X11_ready_E128_2 (X : XW) (σ : ST) (a : Nat) (x_12 : Int32) : Int32 × ST :=
  q_bi (F_X11_good X σ a x_12) (fun r_16 σ_17 => (r_16, σ_17))

noncomputable def F_X11_ready_B54_1 (X : XW) (f_1 : Int32) (σ : ST) (a : Nat) (B54_1 : Int32 → Int32 → Int32 × ST) (x_12 : Int32) (x_13 : Int32) : Int32 × ST :=
  if x_13.toInt < f_1.toInt then q_let (σ.1 (q_rf X a 8) 5 : Int32) (fun f_18 => q_let (F_X6_playerAfter X σ (q_rf X (q_rf X a 8) 0) f_18 x_13 : Int32) (fun r_19 => q_let (F_X0_worthTop X σ (q_rf X a 8) r_19 : Int64) (fun r_21 => q_let (F_X0_allWays X σ (q_rf X a 8) x_12 : Int64) (fun r_23 => q_let (r_21 * r_23 : Int64) (fun y_25 => q_let (F_X0_worthTop X σ (q_rf X a 8) x_12 : Int64) (fun r_26 => q_let (F_X0_allWays X σ (q_rf X a 8) r_19 : Int64) (fun r_28 => q_let (r_26 * r_28 : Int64) (fun y_30 => q_let (lg_cmp y_25 y_30 : Int32) (fun z_31 => if 0 < z_31.toInt then q_let (x_13 + 1 : Int32) (fun z_34 => B54_1 r_19 z_34) else q_let (x_13 + 1 : Int32) (fun z_33 => B54_1 x_12 z_33)))))))))) else F_X11_ready_E128_2 X σ a x_12

noncomputable def F_X11_ready_L54_1 (X : XW) (f_1 : Int32) (σ : ST) (a : Nat) : Nat → Int32 → Int32 → Int32 × ST
  | 0 => fun x_12 x_13 => ((0 : Int32), σ)
  | k_ + 1 => F_X11_ready_B54_1 X f_1 σ a (F_X11_ready_L54_1 X f_1 σ a k_)

theorem F_X11_ready_L54_1_s {X : XW} {f_1 : Int32} {σ : ST} {a : Nat} {k_ : Nat} {x_12 : Int32} {x_13 : Int32} : F_X11_ready_L54_1 X f_1 σ a (k_ + 1) x_12 x_13 = F_X11_ready_B54_1 X f_1 σ a (F_X11_ready_L54_1 X f_1 σ a k_) x_12 x_13 := rfl

noncomputable def F_X11_ready (X : XW) (σ : ST) (a : Nat) : Int32 × ST :=
  q_let (σ.1 (q_rf X (q_rf X a 8) 0) 4 : Int32) (fun f_1 => q_let (σ.1 (q_rf X a 8) 7 : Int32) (fun f_2 => if f_2.toInt = 0 then q_bi (F_X11_none X σ a (8 : Int32)) (fun r_5 σ_6 => (r_5, σ_6)) else if f_1.toInt < 2 then q_bi (F_X11_none X σ a (8 : Int32)) (fun r_36 σ_37 => (r_36, σ_37)) else q_let (σ.1 (q_rf X a 8) 5 : Int32) (fun f_8 => q_let (F_X6_playerAfter X σ (q_rf X (q_rf X a 8) 0) f_8 (1 : Int32) : Int32) (fun r_10 => F_X11_ready_L54_1 X f_1 σ a ((2147483647 - (2 : Int32).toInt).toNat + 1) r_10 (2 : Int32)))))

noncomputable def F_X11_heap (X : XW) (σ : ST) (a : Nat) (v1 : Int32) (v2 : Int32) : Int32 × ST :=
  q_let (F_X11_isPlayer X σ a v1 : Int32) (fun r_1 => if r_1.toInt = 0 then q_bi (F_X11_no X σ a (2 : Int32)) (fun r_5 σ_6 => (r_5, σ_6)) else q_let (F_X11_isKind X σ a v2 : Int32) (fun r_7 => if r_7.toInt = 0 then q_bi (F_X11_no X σ a (2 : Int32)) (fun r_35 σ_36 => (r_35, σ_36)) else q_let (F_X1_laidBy X σ (q_rf X (q_rf X a 8) 1) v1 v2 : Int32) (fun r_10 => q_let (r_10.toInt64 : Int64) (fun y_12 => q_let (σ.1 (q_rf X (q_rf X a 8) 2) 1 : Int32) (fun f_13 => q_let (F_X1_allLaidBy X σ (q_rf X (q_rf X a 8) 1) v1 : Int32) (fun r_14 => q_let (f_13 - r_14 : Int32) (fun z_16 => q_let (z_16.toInt64 : Int64) (fun y_17 => q_let (F_X0_allUnknownTo X σ (q_rf X a 8) v1 : Int32) (fun r_18 => q_let (r_18.toInt64 : Int64) (fun y_20 => q_let (lg_cmp y_20 (0 : Int64) : Int32) (fun z_21 => if z_21.toInt = 0 then q_bi (F_X11_tell X σ a y_12 (1 : Int64)) (fun r_32 σ_33 => (r_32, σ_33)) else q_let (y_12 * y_20 : Int64) (fun y_24 => q_let (F_X0_unknownTo X σ (q_rf X a 8) v1 v2 : Int32) (fun r_25 => q_let (r_25.toInt64 : Int64) (fun y_27 => q_let (y_17 * y_27 : Int64) (fun y_28 => q_let (y_24 + y_28 : Int64) (fun y_29 => q_bi (F_X11_tell X σ a y_29 y_20) (fun r_30 σ_31 => (r_30, σ_31))))))))))))))))))

noncomputable def F_X11_said (X : XW) (σ : ST) (a : Nat) (v1 : Int32) (v2 : Int32) : Int32 × ST :=
  q_let (F_X11_isPlayer X σ a v1 : Int32) (fun r_1 => if r_1.toInt = 0 then q_bi (F_X11_none X σ a (2 : Int32)) (fun r_5 σ_6 => (r_5, σ_6)) else q_let (F_X11_isKind X σ a v2 : Int32) (fun r_7 => if r_7.toInt = 0 then q_bi (F_X11_none X σ a (2 : Int32)) (fun r_15 σ_16 => (r_15, σ_16)) else q_let (F_X2_timesSaid X σ (q_rf X (q_rf X a 8) 2) v1 v2 : Int32) (fun r_10 => q_bi (F_X11_good X σ a r_10) (fun r_12 σ_13 => (r_12, σ_13)))))

noncomputable def F_X11_waits (X : XW) (σ : ST) (a : Nat) (v1 : Int32) : Int32 × ST :=
  q_let (F_X11_isPlayer X σ a v1 : Int32) (fun r_1 => if r_1.toInt = 0 then q_bi (F_X11_none X σ a (2 : Int32)) (fun r_5 σ_6 => (r_5, σ_6)) else q_let (F_X0_turnsAhead X σ (q_rf X a 8) v1 : Int32) (fun r_7 => q_bi (F_X11_good X σ a r_7) (fun r_9 σ_10 => (r_9, σ_10))))

noncomputable def F_X11_forecastStatus (X : XW) (σ : ST) (a : Nat) (v1 : Int32) (v2 : Int32) : Int32 :=
  q_let (F_X11_isPlayer X σ a v1 : Int32) (fun r_1 => if r_1.toInt = 0 then (2 : Int32) else if v2.toInt < 0 then (5 : Int32) else if 60 < v2.toInt then (5 : Int32) else (0 : Int32))

noncomputable def F_X11_falls (X : XW) (σ : ST) (a : Nat) (v1 : Int32) (v2 : Int32) : Int32 × ST :=
  q_let (F_X11_forecastStatus X σ a v1 v2 : Int32) (fun r_1 => if r_1.toInt = 0 then q_let (F_X0_fallingKind X σ (q_rf X a 8) v1 v2 : Int32) (fun r_6 => q_bi (F_X11_good X σ a r_6) (fun r_8 σ_9 => (r_8, σ_9))) else q_bi (F_X11_none X σ a r_1) (fun r_4 σ_5 => (r_4, σ_5)))

noncomputable def F_X11_honestly (X : XW) (σ : ST) (a : Nat) (v1 : Int32) (v2 : Int32) : Int32 × ST :=
  q_let (F_X11_forecastStatus X σ a v1 v2 : Int32) (fun r_1 => if r_1.toInt = 0 then q_let (F_X0_foresee X σ (q_rf X a 8) v1 v2 : ST) (fun σ_5 => q_let (σ_5.1 (q_rf X a 8) 11 : Int32) (fun f_6 => q_bi (F_X11_good X σ_5 a f_6) (fun r_7 σ_8 => (r_7, σ_8)))) else q_bi (F_X11_none X σ a r_1) (fun r_9 σ_10 => (r_9, σ_10)))

noncomputable def F_X11_goodOrNotThere (X : XW) (σ : ST) (a : Nat) (v1 : Int32) : Int32 × ST :=
  if v1.toInt = (-1) then q_bi (F_X11_none X σ a (8 : Int32)) (fun r_5 σ_6 => (r_5, σ_6)) else q_bi (F_X11_good X σ a v1) (fun r_2 σ_3 => (r_2, σ_3))

noncomputable def F_X11_rid (X : XW) (σ : ST) (a : Nat) (v1 : Int32) : Int32 × ST :=
  q_let (F_X11_isPlayer X σ a v1 : Int32) (fun r_1 => if r_1.toInt = 0 then q_bi (F_X11_none X σ a (2 : Int32)) (fun r_11 σ_12 => (r_11, σ_12)) else q_let (F_X0_foresee X σ (q_rf X a 8) v1 (60 : Int32) : ST) (fun σ_6 => q_let (σ_6.1 (q_rf X a 8) 12 : Int32) (fun f_7 => q_bi (F_X11_goodOrNotThere X σ_6 a f_7) (fun r_8 σ_9 => (r_8, σ_9)))))

noncomputable def F_X11_lastKind (X : XW) (σ : ST) (a : Nat) (v1 : Int32) : Int32 × ST :=
  q_let (F_X11_isPlayer X σ a v1 : Int32) (fun r_1 => if r_1.toInt = 0 then q_bi (F_X11_none X σ a (2 : Int32)) (fun r_16 σ_17 => (r_16, σ_17)) else q_let (F_X0_foresee X σ (q_rf X a 8) v1 (60 : Int32) : ST) (fun σ_6 => q_let (σ_6.1 (q_rf X a 8) 12 : Int32) (fun f_7 => if f_7.toInt = (-1) then q_bi (F_X11_goodOrNotThere X σ_6 a ((-1) : Int32)) (fun r_13 σ_14 => (r_13, σ_14)) else q_let (σ_6.1 (q_rf X a 8) 13 : Int32) (fun f_9 => q_bi (F_X11_goodOrNotThere X σ_6 a f_9) (fun r_10 σ_11 => (r_10, σ_11))))))

noncomputable def F_X11_mustLie (X : XW) (σ : ST) (a : Nat) (v1 : Int32) : Int32 × ST :=
  q_let (F_X11_isPlayer X σ a v1 : Int32) (fun r_1 => if r_1.toInt = 0 then q_bi (F_X11_none X σ a (2 : Int32)) (fun r_11 σ_12 => (r_11, σ_12)) else q_let (F_X0_foresee X σ (q_rf X a 8) v1 (60 : Int32) : ST) (fun σ_6 => q_let (σ_6.1 (q_rf X a 8) 14 : Int32) (fun f_7 => q_bi (F_X11_goodOrNotThere X σ_6 a f_7) (fun r_8 σ_9 => (r_8, σ_9)))))

noncomputable def F_X11_soonest_E69_2 (X : XW) (σ_4 : ST) (a : Nat) (x_1 : Int32) : Int32 × ST :=
  q_bi (F_X11_goodOrNotThere X σ_4 a x_1) (fun r_8 σ_9 => (r_8, σ_9))

noncomputable def F_X11_soonest_B7_1 (X : XW) (a : Nat) (B7_1 : Int32 → Int32 → Int32 → ST → Int32 × ST) (x_1 : Int32) (x_2 : Int32) (x_3 : Int32) (σ_4 : ST) : Int32 × ST :=
  q_let (σ_4.1 (q_rf X (q_rf X a 8) 0) 4 : Int32) (fun f_6 => if x_3.toInt < f_6.toInt then q_let (F_X0_foresee X σ_4 (q_rf X a 8) x_3 (60 : Int32) : ST) (fun σ_12 => q_let (σ_12.1 (q_rf X a 8) 12 : Int32) (fun f_13 => if f_13.toInt = (-1) then q_let (x_3 + 1 : Int32) (fun z_15 => B7_1 x_1 x_2 z_15 σ_12) else q_let (σ_12.1 (q_rf X a 8) 12 : Int32) (fun f_16 => if f_16.toInt < x_2.toInt then q_let (σ_12.1 (q_rf X a 8) 12 : Int32) (fun f_19 => q_let (x_3 + 1 : Int32) (fun z_20 => B7_1 x_3 f_19 z_20 σ_12)) else q_let (x_3 + 1 : Int32) (fun z_18 => B7_1 x_1 x_2 z_18 σ_12)))) else F_X11_soonest_E69_2 X σ_4 a x_1)

noncomputable def F_X11_soonest_L7_1 (X : XW) (a : Nat) : Nat → Int32 → Int32 → Int32 → ST → Int32 × ST
  | 0 => fun x_1 x_2 x_3 σ_4 => ((0 : Int32), σ_4)
  | k_ + 1 => F_X11_soonest_B7_1 X a (F_X11_soonest_L7_1 X a k_)

theorem F_X11_soonest_L7_1_s {X : XW} {a : Nat} {k_ : Nat} {x_1 : Int32} {x_2 : Int32} {x_3 : Int32} {σ_4 : ST} : F_X11_soonest_L7_1 X a (k_ + 1) x_1 x_2 x_3 σ_4 = F_X11_soonest_B7_1 X a (F_X11_soonest_L7_1 X a k_) x_1 x_2 x_3 σ_4 := rfl

noncomputable def F_X11_soonest (X : XW) (σ : ST) (a : Nat) : Int32 × ST :=
  F_X11_soonest_L7_1 X a ((2147483647 - (0 : Int32).toInt).toNat + 1) ((-1) : Int32) (61 : Int32) (0 : Int32) σ

noncomputable def F_X11_best_E239_2 (X : XW) (x_34 : Int32) (σ : ST) (a : Nat) (v2 : Int32) (x_32 : Int32) (x_33 : Int32) : Int32 × ST :=
  q_let (x_34.toInt64 : Int64) (fun y_42 => q_bi (F_X11_tell X σ a y_42 (16 : Int64)) (fun r_43 σ_44 => if v2.toInt = 0 then (x_32, σ_44) else (x_33, σ_44)))

noncomputable def F_X11_best_E233_4 (X : XW) (x_35 : Int32) (B133_1 : Int32 → Int32 → Int32 → Int32 → Int32 × ST) (x_50 : Int32) (x_51 : Int32) (x_52 : Int32) : Int32 × ST :=
  q_let (x_35 + 1 : Int32) (fun z_56 => B133_1 x_50 x_51 x_52 z_56)

noncomputable def F_X11_best_B175_3 (X : XW) (x_35 : Int32) (B133_1 : Int32 → Int32 → Int32 → Int32 → Int32 × ST) (σ : ST) (a : Nat) (v1 : Int32) (B175_3 : Int32 → Int32 → Int32 → Int32 → Int32 × ST) (x_50 : Int32) (x_51 : Int32) (x_52 : Int32) (x_53 : Int32) : Int32 × ST :=
  if x_53.toInt < 0 then F_X11_best_E233_4 X x_35 B133_1 x_50 x_51 x_52 else q_let (F_X0_sixteenthsLeft X σ (q_rf X a 8) x_53 x_35 v1 : Int32) (fun r_57 => q_let (x_53 + x_35 : Int32) (fun z_59 => if 0 < z_59.toInt then if x_52.toInt = (-1) then q_let (x_53 + (-1) : Int32) (fun z_63 => B175_3 x_53 x_35 r_57 z_63) else if r_57.toInt < x_52.toInt then q_let (x_53 + (-1) : Int32) (fun z_66 => B175_3 x_53 x_35 r_57 z_66) else q_let (x_53 + (-1) : Int32) (fun z_65 => B175_3 x_50 x_51 x_52 z_65) else q_let (x_53 + (-1) : Int32) (fun z_61 => B175_3 x_50 x_51 x_52 z_61)))

noncomputable def F_X11_best_L175_3 (X : XW) (x_35 : Int32) (B133_1 : Int32 → Int32 → Int32 → Int32 → Int32 × ST) (σ : ST) (a : Nat) (v1 : Int32) : Nat → Int32 → Int32 → Int32 → Int32 → Int32 × ST
  | 0 => fun x_50 x_51 x_52 x_53 => ((0 : Int32), σ)
  | k_ + 1 => F_X11_best_B175_3 X x_35 B133_1 σ a v1 (F_X11_best_L175_3 X x_35 B133_1 σ a v1 k_)

theorem F_X11_best_L175_3_s {X : XW} {x_35 : Int32} {B133_1 : Int32 → Int32 → Int32 → Int32 → Int32 × ST} {σ : ST} {a : Nat} {v1 : Int32} {k_ : Nat} {x_50 : Int32} {x_51 : Int32} {x_52 : Int32} {x_53 : Int32} : F_X11_best_L175_3 X x_35 B133_1 σ a v1 (k_ + 1) x_50 x_51 x_52 x_53 = F_X11_best_B175_3 X x_35 B133_1 σ a v1 (F_X11_best_L175_3 X x_35 B133_1 σ a v1 k_) x_50 x_51 x_52 x_53 := rfl

noncomputable def F_X11_best_B133_1 (X : XW) (σ : ST) (a : Nat) (r_15 : Int32) (r_30 : Int32) (v2 : Int32) (v1 : Int32) (B133_1 : Int32 → Int32 → Int32 → Int32 → Int32 × ST) (x_32 : Int32) (x_33 : Int32) (x_34 : Int32) (x_35 : Int32) : Int32 × ST :=
  q_let (σ.1 (q_rf X (q_rf X a 8) 0) 3 : Int32) (fun f_37 => q_let (r_15 - r_30 : Int32) (fun z_38 => q_let (F_J9_min_7cf53 X σ f_37 z_38 : Int32) (fun r_39 => if r_39.toInt < x_35.toInt then F_X11_best_E239_2 X x_34 σ a v2 x_32 x_33 else q_let (σ.1 (q_rf X (q_rf X a 8) 0) 3 : Int32) (fun f_46 => q_let (f_46 - x_35 : Int32) (fun z_47 => q_let (F_J9_min_7cf53 X σ z_47 r_30 : Int32) (fun r_48 => F_X11_best_L175_3 X x_35 B133_1 σ a v1 ((r_48.toInt + 2147483649).toNat + 1) x_32 x_33 x_34 r_48))))))

noncomputable def F_X11_best_L133_1 (X : XW) (σ : ST) (a : Nat) (r_15 : Int32) (r_30 : Int32) (v2 : Int32) (v1 : Int32) : Nat → Int32 → Int32 → Int32 → Int32 → Int32 × ST
  | 0 => fun x_32 x_33 x_34 x_35 => ((0 : Int32), σ)
  | k_ + 1 => F_X11_best_B133_1 X σ a r_15 r_30 v2 v1 (F_X11_best_L133_1 X σ a r_15 r_30 v2 v1 k_)

theorem F_X11_best_L133_1_s {X : XW} {σ : ST} {a : Nat} {r_15 : Int32} {r_30 : Int32} {v2 : Int32} {v1 : Int32} {k_ : Nat} {x_32 : Int32} {x_33 : Int32} {x_34 : Int32} {x_35 : Int32} : F_X11_best_L133_1 X σ a r_15 r_30 v2 v1 (k_ + 1) x_32 x_33 x_34 x_35 = F_X11_best_B133_1 X σ a r_15 r_30 v2 v1 (F_X11_best_L133_1 X σ a r_15 r_30 v2 v1 k_) x_32 x_33 x_34 x_35 := rfl

noncomputable def F_X11_best (X : XW) (σ : ST) (a : Nat) (v1 : Int32) (v2 : Int32) : Int32 × ST :=
  q_let (F_X11_isSixteenths X σ v1 : Int32) (fun r_1 => if r_1.toInt = 0 then q_bi (F_X11_none X σ a (5 : Int32)) (fun r_5 σ_6 => (r_5, σ_6)) else if v2.toInt < 0 then q_bi (F_X11_none X σ a (5 : Int32)) (fun r_9 σ_10 => (r_9, σ_10)) else if 1 < v2.toInt then q_bi (F_X11_none X σ a (5 : Int32)) (fun r_74 σ_75 => (r_74, σ_75)) else q_let (σ.1 (q_rf X (q_rf X a 8) 0) 4 : Int32) (fun f_12 => if f_12.toInt = 0 then q_bi (F_X11_none X σ a (8 : Int32)) (fun r_71 σ_72 => (r_71, σ_72)) else q_let (σ.1 (q_rf X a 8) 5 : Int32) (fun f_14 => q_let (F_X5_get X σ (q_rf X (q_rf X (q_rf X a 8) 1) 2) f_14 : Int32) (fun r_15 => q_let (σ.1 (q_rf X a 8) 7 : Int32) (fun f_17 => if f_17.toInt = 0 then q_let (σ.1 (q_rf X a 8) 6 : Int32) (fun f_22 => if f_22.toInt = (-1) then if r_15.toInt = 0 then q_bi (F_X11_none X σ a (9 : Int32)) (fun r_68 σ_69 => (r_68, σ_69)) else q_let (σ.1 (q_rf X a 8) 5 : Int32) (fun f_28 => q_let (σ.1 (q_rf X a 8) 4 : Int32) (fun f_29 => q_let (F_X1_heldBy X σ (q_rf X (q_rf X a 8) 1) f_28 f_29 : Int32) (fun r_30 => F_X11_best_L133_1 X σ a r_15 r_30 v2 v1 ((2147483647 - (0 : Int32).toInt).toNat + 1) ((-1) : Int32) ((-1) : Int32) ((-1) : Int32) (0 : Int32)))) else q_bi (F_X11_none X σ a (9 : Int32)) (fun r_25 σ_26 => (r_25, σ_26))) else q_bi (F_X11_none X σ a (9 : Int32)) (fun r_20 σ_21 => (r_20, σ_21)))))))

noncomputable def F_X11_sayer_E117_2 (X : XW) (σ : ST) (a : Nat) : Int32 × ST :=
  q_bi (F_X11_none X σ a (8 : Int32)) (fun r_13 σ_14 => (r_13, σ_14))

noncomputable def F_X11_sayer_E88_3 (X : XW) (σ : ST) (a : Nat) (x_8 : Int32) : Int32 × ST :=
  q_let (σ.1 (q_rf X a 8) 5 : Int32) (fun f_20 => q_let (F_X6_playerAfter X σ (q_rf X (q_rf X a 8) 0) f_20 x_8 : Int32) (fun r_21 => q_bi (F_X11_good X σ a r_21) (fun r_23 σ_24 => (r_23, σ_24))))

noncomputable def F_X11_sayer_B52_1 (X : XW) (σ : ST) (a : Nat) (v1 : Int32) (B52_1 : Int32 → Int32 × ST) (x_8 : Int32) : Int32 × ST :=
  q_let (σ.1 (q_rf X (q_rf X a 8) 0) 0 : Int32) (fun f_10 => if f_10.toInt < x_8.toInt then F_X11_sayer_E117_2 X σ a else q_let (σ.1 (q_rf X a 8) 4 : Int32) (fun f_15 => q_let (F_X6_kindAfter X σ (q_rf X (q_rf X a 8) 0) f_15 x_8 : Int32) (fun r_16 => if r_16.toInt = v1.toInt then F_X11_sayer_E88_3 X σ a x_8 else q_let (x_8 + 1 : Int32) (fun z_19 => B52_1 z_19))))

noncomputable def F_X11_sayer_L52_1 (X : XW) (σ : ST) (a : Nat) (v1 : Int32) : Nat → Int32 → Int32 × ST
  | 0 => fun x_8 => ((0 : Int32), σ)
  | k_ + 1 => F_X11_sayer_B52_1 X σ a v1 (F_X11_sayer_L52_1 X σ a v1 k_)

theorem F_X11_sayer_L52_1_s {X : XW} {σ : ST} {a : Nat} {v1 : Int32} {k_ : Nat} {x_8 : Int32} : F_X11_sayer_L52_1 X σ a v1 (k_ + 1) x_8 = F_X11_sayer_B52_1 X σ a v1 (F_X11_sayer_L52_1 X σ a v1 k_) x_8 := rfl

noncomputable def F_X11_sayer_E117_5 (X : XW) (σ : ST) (a : Nat) : Int32 × ST :=
  q_bi (F_X11_none X σ a (8 : Int32)) (fun r_30 σ_31 => (r_30, σ_31))

noncomputable def F_X11_sayer_E88_6 (X : XW) (σ : ST) (a : Nat) (x_25 : Int32) : Int32 × ST :=
  q_let (σ.1 (q_rf X a 8) 5 : Int32) (fun f_37 => q_let (F_X6_playerAfter X σ (q_rf X (q_rf X a 8) 0) f_37 x_25 : Int32) (fun r_38 => q_bi (F_X11_good X σ a r_38) (fun r_40 σ_41 => (r_40, σ_41))))

noncomputable def F_X11_sayer_B52_4 (X : XW) (σ : ST) (a : Nat) (v1 : Int32) (B52_4 : Int32 → Int32 × ST) (x_25 : Int32) : Int32 × ST :=
  q_let (σ.1 (q_rf X (q_rf X a 8) 0) 0 : Int32) (fun f_27 => if f_27.toInt < x_25.toInt then F_X11_sayer_E117_5 X σ a else q_let (σ.1 (q_rf X a 8) 4 : Int32) (fun f_32 => q_let (F_X6_kindAfter X σ (q_rf X (q_rf X a 8) 0) f_32 x_25 : Int32) (fun r_33 => if r_33.toInt = v1.toInt then F_X11_sayer_E88_6 X σ a x_25 else q_let (x_25 + 1 : Int32) (fun z_36 => B52_4 z_36))))

noncomputable def F_X11_sayer_L52_4 (X : XW) (σ : ST) (a : Nat) (v1 : Int32) : Nat → Int32 → Int32 × ST
  | 0 => fun x_25 => ((0 : Int32), σ)
  | k_ + 1 => F_X11_sayer_B52_4 X σ a v1 (F_X11_sayer_L52_4 X σ a v1 k_)

theorem F_X11_sayer_L52_4_s {X : XW} {σ : ST} {a : Nat} {v1 : Int32} {k_ : Nat} {x_25 : Int32} : F_X11_sayer_L52_4 X σ a v1 (k_ + 1) x_25 = F_X11_sayer_B52_4 X σ a v1 (F_X11_sayer_L52_4 X σ a v1 k_) x_25 := rfl

noncomputable def F_X11_sayer (X : XW) (σ : ST) (a : Nat) (v1 : Int32) : Int32 × ST :=
  q_let (F_X11_isKind X σ a v1 : Int32) (fun r_1 => if r_1.toInt = 0 then q_bi (F_X11_none X σ a (2 : Int32)) (fun r_46 σ_47 => (r_46, σ_47)) else q_let (σ.1 (q_rf X (q_rf X a 8) 0) 4 : Int32) (fun f_4 => if f_4.toInt = 0 then q_bi (F_X11_none X σ a (8 : Int32)) (fun r_43 σ_44 => (r_43, σ_44)) else q_let (σ.1 (q_rf X a 8) 7 : Int32) (fun f_6 => if f_6.toInt = 0 then F_X11_sayer_L52_1 X σ a v1 ((2147483647 - (0 : Int32).toInt).toNat + 1) (0 : Int32) else F_X11_sayer_L52_4 X σ a v1 ((2147483647 - (1 : Int32).toInt).toNat + 1) (1 : Int32))))

noncomputable def F_X11_has_E59_2 (X : XW) (σ : ST) (a : Nat) (x_4 : Int32) : Int32 × ST :=
  q_bi (F_X11_good X σ a x_4) (fun r_9 σ_10 => (r_9, σ_10))

noncomputable def F_X11_has_B18_1 (X : XW) (σ : ST) (a : Nat) (v1 : Int32) (B18_1 : Int32 → Int32 → Int32 × ST) (x_4 : Int32) (x_5 : Int32) : Int32 × ST :=
  q_let (σ.1 (q_rf X (q_rf X a 8) 0) 0 : Int32) (fun f_7 => if x_5.toInt < f_7.toInt then q_let (F_X1_heldBy X σ (q_rf X (q_rf X a 8) 1) v1 x_5 : Int32) (fun r_11 => if 0 < r_11.toInt then q_let ((1 : Int32) <<< (x_5 &&& 31) : Int32) (fun z_15 => q_let (x_4 ||| z_15 : Int32) (fun z_16 => q_let (x_5 + 1 : Int32) (fun z_17 => B18_1 z_16 z_17))) else q_let (x_5 + 1 : Int32) (fun z_14 => B18_1 x_4 z_14)) else F_X11_has_E59_2 X σ a x_4)

noncomputable def F_X11_has_L18_1 (X : XW) (σ : ST) (a : Nat) (v1 : Int32) : Nat → Int32 → Int32 → Int32 × ST
  | 0 => fun x_4 x_5 => ((0 : Int32), σ)
  | k_ + 1 => F_X11_has_B18_1 X σ a v1 (F_X11_has_L18_1 X σ a v1 k_)

theorem F_X11_has_L18_1_s {X : XW} {σ : ST} {a : Nat} {v1 : Int32} {k_ : Nat} {x_4 : Int32} {x_5 : Int32} : F_X11_has_L18_1 X σ a v1 (k_ + 1) x_4 x_5 = F_X11_has_B18_1 X σ a v1 (F_X11_has_L18_1 X σ a v1 k_) x_4 x_5 := rfl

noncomputable def F_X11_has (X : XW) (σ : ST) (a : Nat) (v1 : Int32) : Int32 × ST :=
  q_let (F_X11_isPlayer X σ a v1 : Int32) (fun r_1 => if r_1.toInt = 0 then q_bi (F_X11_none X σ a (2 : Int32)) (fun r_19 σ_20 => (r_19, σ_20)) else F_X11_has_L18_1 X σ a v1 ((2147483647 - (0 : Int32).toInt).toNat + 1) (0 : Int32) (0 : Int32))

noncomputable def F_X11_lies (X : XW) (σ : ST) (a : Nat) (v1 : Int32) : Int32 × ST :=
  q_let (F_X11_isKind X σ a v1 : Int32) (fun r_1 => if r_1.toInt = 0 then q_bi (F_X11_none X σ a (2 : Int32)) (fun r_5 σ_6 => (r_5, σ_6)) else q_let (F_X0_lyingOf X σ (q_rf X a 8) v1 : Int32) (fun r_7 => q_bi (F_X11_good X σ a r_7) (fun r_9 σ_10 => (r_9, σ_10))))

noncomputable def F_X11_guess (X : XW) (σ : ST) (a : Nat) (v1 : Int32) (v2 : Int32) (v3 : Int32) : Int32 × ST :=
  q_let (F_X11_isPlayer X σ a v1 : Int32) (fun r_1 => if r_1.toInt = 0 then q_bi (F_X11_no X σ a (2 : Int32)) (fun r_5 σ_6 => (r_5, σ_6)) else q_let (F_X11_isKind X σ a v2 : Int32) (fun r_7 => if r_7.toInt = 0 then q_bi (F_X11_no X σ a (2 : Int32)) (fun r_33 σ_34 => (r_33, σ_34)) else if v3.toInt < 0 then q_bi (F_X11_no X σ a (5 : Int32)) (fun r_12 σ_13 => (r_12, σ_13)) else if 4 < v3.toInt then q_bi (F_X11_no X σ a (5 : Int32)) (fun r_30 σ_31 => (r_30, σ_31)) else q_let (F_X0_allUnknownTo X σ (q_rf X a 8) v1 : Int32) (fun r_15 => if r_15.toInt < v3.toInt then q_bi (F_X11_no X σ a (9 : Int32)) (fun r_27 σ_28 => (r_27, σ_28)) else q_let (F_X0_unknownTo X σ (q_rf X a 8) v1 v2 : Int32) (fun r_18 => q_let (F_X11_waysToTake X σ r_18 v3 : Int64) (fun r_20 => q_let (F_X11_waysToTake X σ r_15 v3 : Int64) (fun r_22 => q_bi (F_X11_tell X σ a r_20 r_22) (fun r_24 σ_25 => (r_24, σ_25))))))))

noncomputable def F_X11_fullest_E61_2 (X : XW) (σ : ST) (a : Nat) (x_1 : Int32) : Int32 × ST :=
  q_bi (F_X11_goodOrNotThere X σ a x_1) (fun r_7 σ_8 => (r_7, σ_8))

noncomputable def F_X11_fullest_B6_1 (X : XW) (σ : ST) (a : Nat) (B6_1 : Int32 → Int32 → Int32 → Int32 × ST) (x_1 : Int32) (x_2 : Int32) (x_3 : Int32) : Int32 × ST :=
  q_let (σ.1 (q_rf X (q_rf X a 8) 0) 4 : Int32) (fun f_5 => if x_3.toInt < f_5.toInt then q_let (F_X5_get X σ (q_rf X (q_rf X (q_rf X a 8) 1) 2) x_3 : Int32) (fun r_9 => if x_2.toInt < r_9.toInt then q_let (F_X5_get X σ (q_rf X (q_rf X (q_rf X a 8) 1) 2) x_3 : Int32) (fun r_13 => q_let (x_3 + 1 : Int32) (fun z_15 => B6_1 x_3 r_13 z_15)) else q_let (x_3 + 1 : Int32) (fun z_12 => B6_1 x_1 x_2 z_12)) else F_X11_fullest_E61_2 X σ a x_1)

noncomputable def F_X11_fullest_L6_1 (X : XW) (σ : ST) (a : Nat) : Nat → Int32 → Int32 → Int32 → Int32 × ST
  | 0 => fun x_1 x_2 x_3 => ((0 : Int32), σ)
  | k_ + 1 => F_X11_fullest_B6_1 X σ a (F_X11_fullest_L6_1 X σ a k_)

theorem F_X11_fullest_L6_1_s {X : XW} {σ : ST} {a : Nat} {k_ : Nat} {x_1 : Int32} {x_2 : Int32} {x_3 : Int32} : F_X11_fullest_L6_1 X σ a (k_ + 1) x_1 x_2 x_3 = F_X11_fullest_B6_1 X σ a (F_X11_fullest_L6_1 X σ a k_) x_1 x_2 x_3 := rfl

noncomputable def F_X11_fullest (X : XW) (σ : ST) (a : Nat) : Int32 × ST :=
  F_X11_fullest_L6_1 X σ a ((2147483647 - (0 : Int32).toInt).toNat + 1) ((-1) : Int32) ((-1) : Int32) (0 : Int32)

noncomputable def F_X11_quartet_E77_2 (X : XW) (σ : ST) (a : Nat) : Int32 × ST :=
  q_bi (F_X11_none X σ a (8 : Int32)) (fun r_9 σ_10 => (r_9, σ_10))

noncomputable def F_X11_quartet_E65_3 (X : XW) (σ : ST) (a : Nat) (x_4 : Int32) : Int32 × ST :=
  q_bi (F_X11_good X σ a x_4) (fun r_19 σ_20 => (r_19, σ_20))

noncomputable def F_X11_quartet_B16_1 (X : XW) (σ : ST) (a : Nat) (v1 : Int32) (B16_1 : Int32 → Int32 × ST) (x_4 : Int32) : Int32 × ST :=
  q_let (σ.1 (q_rf X (q_rf X a 8) 0) 0 : Int32) (fun f_6 => if x_4.toInt < f_6.toInt then q_let (F_X5_get X σ (q_rf X (q_rf X (q_rf X a 8) 0) 5) x_4 : Int32) (fun r_11 => if 0 < r_11.toInt then q_let (F_X1_heldBy X σ (q_rf X (q_rf X a 8) 1) v1 x_4 : Int32) (fun r_15 => if r_15.toInt = r_11.toInt then F_X11_quartet_E65_3 X σ a x_4 else q_let (x_4 + 1 : Int32) (fun z_18 => B16_1 z_18)) else q_let (x_4 + 1 : Int32) (fun z_14 => B16_1 z_14)) else F_X11_quartet_E77_2 X σ a)

noncomputable def F_X11_quartet_L16_1 (X : XW) (σ : ST) (a : Nat) (v1 : Int32) : Nat → Int32 → Int32 × ST
  | 0 => fun x_4 => ((0 : Int32), σ)
  | k_ + 1 => F_X11_quartet_B16_1 X σ a v1 (F_X11_quartet_L16_1 X σ a v1 k_)

theorem F_X11_quartet_L16_1_s {X : XW} {σ : ST} {a : Nat} {v1 : Int32} {k_ : Nat} {x_4 : Int32} : F_X11_quartet_L16_1 X σ a v1 (k_ + 1) x_4 = F_X11_quartet_B16_1 X σ a v1 (F_X11_quartet_L16_1 X σ a v1 k_) x_4 := rfl

noncomputable def F_X11_quartet (X : XW) (σ : ST) (a : Nat) (v1 : Int32) : Int32 × ST :=
  q_let (F_X11_isPlayer X σ a v1 : Int32) (fun r_1 => if r_1.toInt = 0 then q_bi (F_X11_none X σ a (2 : Int32)) (fun r_22 σ_23 => (r_22, σ_23)) else F_X11_quartet_L16_1 X σ a v1 ((2147483647 - (0 : Int32).toInt).toNat + 1) (0 : Int32))

noncomputable def F_X11_sorts_E57_2 (X : XW) (σ : ST) (a : Nat) (x_6 : Int32) : Int32 × ST :=
  q_bi (F_X11_good X σ a x_6) (fun r_11 σ_12 => (r_11, σ_12))

noncomputable def F_X11_sorts_B19_1 (X : XW) (σ : ST) (a : Nat) (v1 : Int32) (B19_1 : Int32 → Int32 → Int32 × ST) (x_6 : Int32) (x_7 : Int32) : Int32 × ST :=
  q_let (σ.1 (q_rf X (q_rf X a 8) 2) 0 : Int32) (fun f_9 => if x_7.toInt < f_9.toInt then q_let (F_X2_truth X σ (q_rf X (q_rf X a 8) 2) x_7 : Int32) (fun r_13 => if r_13.toInt = v1.toInt then q_let (x_6 + 1 : Int32) (fun z_17 => q_let (x_7 + 1 : Int32) (fun z_18 => B19_1 z_17 z_18)) else q_let (x_7 + 1 : Int32) (fun z_16 => B19_1 x_6 z_16)) else F_X11_sorts_E57_2 X σ a x_6)

noncomputable def F_X11_sorts_L19_1 (X : XW) (σ : ST) (a : Nat) (v1 : Int32) : Nat → Int32 → Int32 → Int32 × ST
  | 0 => fun x_6 x_7 => ((0 : Int32), σ)
  | k_ + 1 => F_X11_sorts_B19_1 X σ a v1 (F_X11_sorts_L19_1 X σ a v1 k_)

theorem F_X11_sorts_L19_1_s {X : XW} {σ : ST} {a : Nat} {v1 : Int32} {k_ : Nat} {x_6 : Int32} {x_7 : Int32} : F_X11_sorts_L19_1 X σ a v1 (k_ + 1) x_6 x_7 = F_X11_sorts_B19_1 X σ a v1 (F_X11_sorts_L19_1 X σ a v1 k_) x_6 x_7 := rfl

noncomputable def F_X11_sorts (X : XW) (σ : ST) (a : Nat) (v1 : Int32) : Int32 × ST :=
  if v1.toInt < 0 then q_bi (F_X11_none X σ a (5 : Int32)) (fun r_3 σ_4 => (r_3, σ_4)) else if 2 < v1.toInt then q_bi (F_X11_none X σ a (5 : Int32)) (fun r_20 σ_21 => (r_20, σ_21)) else F_X11_sorts_L19_1 X σ a v1 ((2147483647 - (0 : Int32).toInt).toNat + 1) (0 : Int32) (0 : Int32)

noncomputable def F_X11_liar_E77_2 (X : XW) (σ : ST) (a : Nat) (x_3 : Int32) : Int32 × ST :=
  q_bi (F_X11_goodOrNotThere X σ a x_3) (fun r_8 σ_9 => (r_8, σ_9))

noncomputable def F_X11_liar_B29_1 (X : XW) (σ : ST) (a : Nat) (B29_1 : Int32 → Int32 → Int32 × ST) (x_3 : Int32) (x_4 : Int32) : Int32 × ST :=
  q_let (σ.1 (q_rf X (q_rf X a 8) 0) 4 : Int32) (fun f_6 => if x_4.toInt < f_6.toInt then q_let (F_X1_honestTop X σ (q_rf X (q_rf X a 8) 1) x_4 : Int64) (fun r_10 => q_let (F_X1_honestBottom X σ (q_rf X (q_rf X a 8) 1) x_3 : Int64) (fun r_12 => q_let (r_10 * r_12 : Int64) (fun y_14 => q_let (F_X1_honestTop X σ (q_rf X (q_rf X a 8) 1) x_3 : Int64) (fun r_15 => q_let (F_X1_honestBottom X σ (q_rf X (q_rf X a 8) 1) x_4 : Int64) (fun r_17 => q_let (r_15 * r_17 : Int64) (fun y_19 => q_let (lg_cmp y_14 y_19 : Int32) (fun z_20 => if z_20.toInt < 0 then q_let (x_4 + 1 : Int32) (fun z_23 => B29_1 x_4 z_23) else q_let (x_4 + 1 : Int32) (fun z_22 => B29_1 x_3 z_22)))))))) else F_X11_liar_E77_2 X σ a x_3)

noncomputable def F_X11_liar_L29_1 (X : XW) (σ : ST) (a : Nat) : Nat → Int32 → Int32 → Int32 × ST
  | 0 => fun x_3 x_4 => ((0 : Int32), σ)
  | k_ + 1 => F_X11_liar_B29_1 X σ a (F_X11_liar_L29_1 X σ a k_)

theorem F_X11_liar_L29_1_s {X : XW} {σ : ST} {a : Nat} {k_ : Nat} {x_3 : Int32} {x_4 : Int32} : F_X11_liar_L29_1 X σ a (k_ + 1) x_3 x_4 = F_X11_liar_B29_1 X σ a (F_X11_liar_L29_1 X σ a k_) x_3 x_4 := rfl

noncomputable def F_X11_liar_E77_4 (X : XW) (σ : ST) (a : Nat) (x_24 : Int32) : Int32 × ST :=
  q_bi (F_X11_goodOrNotThere X σ a x_24) (fun r_29 σ_30 => (r_29, σ_30))

noncomputable def F_X11_liar_B29_3 (X : XW) (σ : ST) (a : Nat) (B29_3 : Int32 → Int32 → Int32 × ST) (x_24 : Int32) (x_25 : Int32) : Int32 × ST :=
  q_let (σ.1 (q_rf X (q_rf X a 8) 0) 4 : Int32) (fun f_27 => if x_25.toInt < f_27.toInt then q_let (F_X1_honestTop X σ (q_rf X (q_rf X a 8) 1) x_25 : Int64) (fun r_31 => q_let (F_X1_honestBottom X σ (q_rf X (q_rf X a 8) 1) x_24 : Int64) (fun r_33 => q_let (r_31 * r_33 : Int64) (fun y_35 => q_let (F_X1_honestTop X σ (q_rf X (q_rf X a 8) 1) x_24 : Int64) (fun r_36 => q_let (F_X1_honestBottom X σ (q_rf X (q_rf X a 8) 1) x_25 : Int64) (fun r_38 => q_let (r_36 * r_38 : Int64) (fun y_40 => q_let (lg_cmp y_35 y_40 : Int32) (fun z_41 => if z_41.toInt < 0 then q_let (x_25 + 1 : Int32) (fun z_44 => B29_3 x_25 z_44) else q_let (x_25 + 1 : Int32) (fun z_43 => B29_3 x_24 z_43)))))))) else F_X11_liar_E77_4 X σ a x_24)

noncomputable def F_X11_liar_L29_3 (X : XW) (σ : ST) (a : Nat) : Nat → Int32 → Int32 → Int32 × ST
  | 0 => fun x_24 x_25 => ((0 : Int32), σ)
  | k_ + 1 => F_X11_liar_B29_3 X σ a (F_X11_liar_L29_3 X σ a k_)

theorem F_X11_liar_L29_3_s {X : XW} {σ : ST} {a : Nat} {k_ : Nat} {x_24 : Int32} {x_25 : Int32} : F_X11_liar_L29_3 X σ a (k_ + 1) x_24 x_25 = F_X11_liar_B29_3 X σ a (F_X11_liar_L29_3 X σ a k_) x_24 x_25 := rfl

noncomputable def F_X11_liar (X : XW) (σ : ST) (a : Nat) : Int32 × ST :=
  q_let (σ.1 (q_rf X (q_rf X a 8) 0) 4 : Int32) (fun f_1 => if f_1.toInt = 0 then F_X11_liar_L29_3 X σ a ((2147483647 - (1 : Int32).toInt).toNat + 1) ((-1) : Int32) (1 : Int32) else F_X11_liar_L29_1 X σ a ((2147483647 - (1 : Int32).toInt).toNat + 1) (0 : Int32) (1 : Int32))

noncomputable def F_X11_play (X : XW) (σ : ST) (a : Nat) (v1 : Int32) : Int32 × ST :=
  if v1.toInt < 0 then q_bi (F_X11_none X σ a (5 : Int32)) (fun r_3 σ_4 => (r_3, σ_4)) else if 9999 < v1.toInt then q_bi (F_X11_none X σ a (5 : Int32)) (fun r_18 σ_19 => (r_18, σ_19)) else q_let (σ.1 (q_rf X (q_rf X a 8) 3) 0 : Int32) (fun f_6 => if f_6.toInt = 0 then q_bi (F_X11_none X σ a (8 : Int32)) (fun r_15 σ_16 => (r_15, σ_16)) else q_let (F_X7_go X σ (q_rf X a 14) (q_rf X a 8) v1 : ST) (fun σ_9 => q_let (q_si σ_9 a 16 (1 : Int32) : ST) (fun σ_10 => q_let (σ_10.1 (q_rf X a 14) 0 : Int32) (fun f_11 => q_bi (F_X11_good X σ_10 a f_11) (fun r_12 σ_13 => (r_12, σ_13))))))

noncomputable def F_X11_played (X : XW) (σ : ST) (a : Nat) (v1 : Int32) : Int32 × ST :=
  if v1.toInt < 0 then q_bi (F_X11_none X σ a (5 : Int32)) (fun r_3 σ_4 => (r_3, σ_4)) else if 4 < v1.toInt then q_bi (F_X11_none X σ a (5 : Int32)) (fun r_36 σ_37 => (r_36, σ_37)) else q_let (σ.1 a 16 : Int32) (fun f_6 => if f_6.toInt = 0 then q_bi (F_X11_none X σ a (8 : Int32)) (fun r_33 σ_34 => (r_33, σ_34)) else (if v1.toInt = 0 then q_let (σ.1 (q_rf X a 14) 1 : Int32) (fun f_9 => q_bi (F_X11_good X σ a f_9) (fun r_10 σ_11 => (r_10, σ_11))) else (if v1.toInt = 1 then q_let (σ.1 (q_rf X a 14) 2 : Int32) (fun f_13 => q_bi (F_X11_good X σ a f_13) (fun r_14 σ_15 => (r_14, σ_15))) else (if v1.toInt = 2 then q_let (σ.1 (q_rf X a 14) 3 : Int32) (fun f_17 => q_bi (F_X11_good X σ a f_17) (fun r_18 σ_19 => (r_18, σ_19))) else (if v1.toInt = 3 then q_let (σ.1 (q_rf X a 14) 4 : Int32) (fun f_21 => q_bi (F_X11_good X σ a f_21) (fun r_22 σ_23 => (r_22, σ_23))) else q_let (σ.1 (q_rf X a 14) 5 : Int32) (fun f_24 => if f_24.toInt = 0 then q_bi (F_X11_good X σ a (0 : Int32)) (fun r_27 σ_28 => (r_27, σ_28)) else q_bi (F_X11_good X σ a (1 : Int32)) (fun r_30 σ_31 => (r_30, σ_31))))))))

noncomputable def F_X11_seedsStatus (X : XW) (σ : ST) (a : Nat) (v1 : Int32) (v2 : Int32) (v3 : Int32) : Int32 :=
  q_let (F_X11_isPlayer X σ a v1 : Int32) (fun r_1 => if r_1.toInt = 0 then (2 : Int32) else if v2.toInt < 0 then (5 : Int32) else if v3.toInt < 1 then (5 : Int32) else if 20 < v3.toInt then (5 : Int32) else q_let ((9999 : Int32) - v3 : Int32) (fun z_7 => q_let (z_7 + (1 : Int32) : Int32) (fun z_8 => if z_8.toInt < v2.toInt then (5 : Int32) else q_let (σ.1 (q_rf X (q_rf X a 8) 3) 0 : Int32) (fun f_10 => if f_10.toInt = 0 then (8 : Int32) else (0 : Int32)))))

noncomputable def F_X11_wins_E79_2 (X : XW) (x_4 : Int32) (v3 : Int32) (σ_6 : ST) (a : Nat) : Int32 × ST :=
  q_let (x_4.toInt64 : Int64) (fun y_9 => q_let (v3.toInt64 : Int64) (fun y_10 => q_bi (F_X11_tell X σ_6 a y_9 y_10) (fun r_11 σ_12 => (r_11, σ_12))))

noncomputable def F_X11_wins_B27_1 (X : XW) (v3 : Int32) (a : Nat) (v2 : Int32) (v1 : Int32) (B27_1 : Int32 → Int32 → ST → Int32 × ST) (x_4 : Int32) (x_5 : Int32) (σ_6 : ST) : Int32 × ST :=
  if x_5.toInt < v3.toInt then q_let (F_X0_copyFrom X σ_6 (q_rf X a 9) (q_rf X a 8) : ST) (fun σ_14 => q_let (v2 + x_5 : Int32) (fun z_15 => q_let (F_X7_go X σ_14 (q_rf X a 15) (q_rf X a 9) z_15 : ST) (fun σ_17 => q_let (σ_17.1 (q_rf X a 9) 6 : Int32) (fun f_18 => if f_18.toInt = v1.toInt then q_let (x_4 + 1 : Int32) (fun z_21 => q_let (x_5 + 1 : Int32) (fun z_22 => B27_1 z_21 z_22 σ_17)) else q_let (x_5 + 1 : Int32) (fun z_20 => B27_1 x_4 z_20 σ_17))))) else F_X11_wins_E79_2 X x_4 v3 σ_6 a

noncomputable def F_X11_wins_L27_1 (X : XW) (v3 : Int32) (a : Nat) (v2 : Int32) (v1 : Int32) : Nat → Int32 → Int32 → ST → Int32 × ST
  | 0 => fun x_4 x_5 σ_6 => ((0 : Int32), σ_6)
  | k_ + 1 => F_X11_wins_B27_1 X v3 a v2 v1 (F_X11_wins_L27_1 X v3 a v2 v1 k_)

theorem F_X11_wins_L27_1_s {X : XW} {v3 : Int32} {a : Nat} {v2 : Int32} {v1 : Int32} {k_ : Nat} {x_4 : Int32} {x_5 : Int32} {σ_6 : ST} : F_X11_wins_L27_1 X v3 a v2 v1 (k_ + 1) x_4 x_5 σ_6 = F_X11_wins_B27_1 X v3 a v2 v1 (F_X11_wins_L27_1 X v3 a v2 v1 k_) x_4 x_5 σ_6 := rfl

noncomputable def F_X11_wins (X : XW) (σ : ST) (a : Nat) (v1 : Int32) (v2 : Int32) (v3 : Int32) : Int32 × ST :=
  q_let (F_X11_seedsStatus X σ a v1 v2 v3 : Int32) (fun r_1 => if r_1.toInt = 0 then F_X11_wins_L27_1 X v3 a v2 v1 ((2147483647 - (0 : Int32).toInt).toNat + 1) (0 : Int32) (0 : Int32) σ else q_bi (F_X11_no X σ a r_1) (fun r_23 σ_24 => (r_23, σ_24)))

noncomputable def F_X11_left_E84_2 (X : XW) (x_4 : Int32) (v3 : Int32) (σ_6 : ST) (a : Nat) : Int32 × ST :=
  q_let (x_4.toInt64 : Int64) (fun y_9 => q_let (v3.toInt64 : Int64) (fun y_10 => q_bi (F_X11_tell X σ_6 a y_9 y_10) (fun r_11 σ_12 => (r_11, σ_12))))

noncomputable def F_X11_left_B27_1 (X : XW) (v3 : Int32) (a : Nat) (v2 : Int32) (v1 : Int32) (B27_1 : Int32 → Int32 → ST → Int32 × ST) (x_4 : Int32) (x_5 : Int32) (σ_6 : ST) : Int32 × ST :=
  if x_5.toInt < v3.toInt then q_let (F_X0_copyFrom X σ_6 (q_rf X a 9) (q_rf X a 8) : ST) (fun σ_14 => q_let (v2 + x_5 : Int32) (fun z_15 => q_let (F_X7_go X σ_14 (q_rf X a 15) (q_rf X a 9) z_15 : ST) (fun σ_17 => q_let (F_X5_get X σ_17 (q_rf X (q_rf X (q_rf X a 9) 1) 2) v1 : Int32) (fun r_18 => q_let (x_4 + r_18 : Int32) (fun z_20 => q_let (x_5 + 1 : Int32) (fun z_21 => B27_1 z_20 z_21 σ_17)))))) else F_X11_left_E84_2 X x_4 v3 σ_6 a

noncomputable def F_X11_left_L27_1 (X : XW) (v3 : Int32) (a : Nat) (v2 : Int32) (v1 : Int32) : Nat → Int32 → Int32 → ST → Int32 × ST
  | 0 => fun x_4 x_5 σ_6 => ((0 : Int32), σ_6)
  | k_ + 1 => F_X11_left_B27_1 X v3 a v2 v1 (F_X11_left_L27_1 X v3 a v2 v1 k_)

theorem F_X11_left_L27_1_s {X : XW} {v3 : Int32} {a : Nat} {v2 : Int32} {v1 : Int32} {k_ : Nat} {x_4 : Int32} {x_5 : Int32} {σ_6 : ST} : F_X11_left_L27_1 X v3 a v2 v1 (k_ + 1) x_4 x_5 σ_6 = F_X11_left_B27_1 X v3 a v2 v1 (F_X11_left_L27_1 X v3 a v2 v1 k_) x_4 x_5 σ_6 := rfl

noncomputable def F_X11_left (X : XW) (σ : ST) (a : Nat) (v1 : Int32) (v2 : Int32) (v3 : Int32) : Int32 × ST :=
  q_let (F_X11_seedsStatus X σ a v1 v2 v3 : Int32) (fun r_1 => if r_1.toInt = 0 then F_X11_left_L27_1 X v3 a v2 v1 ((2147483647 - (0 : Int32).toInt).toNat + 1) (0 : Int32) (0 : Int32) σ else q_bi (F_X11_no X σ a r_1) (fun r_22 σ_23 => (r_22, σ_23)))

noncomputable def F_X11_markAt (X : XW) (σ : ST) (a : Nat) (v1 : Int32) : Option Nat :=
  if v1.toInt < 0 then (none : Option Nat) else if v1.toInt < 3 then (some (q_rf X (q_rf X a 10) (v1 : Int32).toNatClampNeg)) else (none : Option Nat)

noncomputable def F_X11_mark (X : XW) (σ : ST) (a : Nat) : Int32 × ST :=
  q_let (σ.1 a 11 : Int32) (fun f_1 => q_let (F_X11_markAt X σ a f_1 : Option Nat) (fun r_2 => q_on r_2 (q_bi (F_X11_none X σ a (7 : Int32)) (fun r_5 σ_6 => (r_5, σ_6))) (fun r_2 => q_let (F_X0_copyFrom X σ r_2 (q_rf X a 8) : ST) (fun σ_8 => q_let (σ_8.1 a 11 : Int32) (fun f_9 => q_let (f_9 + (1 : Int32) : Int32) (fun z_10 => q_let (q_si σ_8 a 11 z_10 : ST) (fun σ_12 => q_let (σ_12.1 a 11 : Int32) (fun f_13 => q_bi (F_X11_good X σ_12 a f_13) (fun r_14 σ_15 => (r_14, σ_15))))))))))

noncomputable def F_X11_back (X : XW) (σ : ST) (a : Nat) : Int32 × ST :=
  q_let (σ.1 a 11 : Int32) (fun f_1 => q_let (f_1 - (1 : Int32) : Int32) (fun z_2 => q_let (F_X11_markAt X σ a z_2 : Option Nat) (fun r_4 => q_on r_4 (q_bi (F_X11_none X σ a (8 : Int32)) (fun r_7 σ_8 => (r_7, σ_8))) (fun r_4 => q_let (F_X0_copyFrom X σ (q_rf X a 8) r_4 : ST) (fun σ_10 => q_let (σ_10.1 a 11 : Int32) (fun f_11 => q_let (f_11 - (1 : Int32) : Int32) (fun z_12 => q_let (q_si σ_10 a 11 z_12 : ST) (fun σ_14 => q_let (σ_14.1 a 11 : Int32) (fun f_15 => q_bi (F_X11_good X σ_14 a f_15) (fun r_16 σ_17 => (r_16, σ_17)))))))))))
end
/-! FROM 10.small.a.lean.txt -/
section
def q_j9L : List (String × String) := [("min", "(II)I"), ("max", "(II)I"), ("floorMod", "(II)I"), ("abs", "(J)J")]
theorem q_j9a : Jvm.natives.all (fun r => !(r.cls == "java/lang/Math" && q_j9L.contains (r.name, r.desc))) = true := by decide +kernel
theorem q_j9 {n d : String} (h : q_j9L.contains (n, d) = true) : plainFor ⟨"java/lang/Math", n, d⟩ = true := by
  have k : (NativeRow.find? Jvm.natives "java/lang/Math" n d).isNone = true := by
    unfold NativeRow.find?
    rw [List.find?_eq_none.mpr]
    · rfl
    · intro r hr hq
      have a := List.all_eq_true.mp q_j9a r hr
      simp only [Bool.and_eq_true, beq_iff_eq] at hq
      rw [hq.1.2, hq.1.1, hq.2, h] at a
      exact absurd a (by decide)
  unfold plainFor
  rw [k, Bool.or_true]
section QS
variable {p : Program} {l : Launch} {e : Env} {R : Room} {s : State} {m : MethodId} {args : Array Value} {below : List Frame} {meth : Method} {c : Code} {H : Heap} {locs : List Loc} {cells slots : Nat} {Q : State → Prop} {cc : ByteArray} {X : XW} {n : Nat} {σ0 σ : ST} {H0 : Heap} {pc : Nat} {ls : Array Slot} {rest : List Value} {a : Nat}
theorem ps_X10_9_10 (E : q_E p c cc s m args RX10 X) (hI : q_I X n σ0 H0 locs σ H) (ha : q_kd X a = 10) {v : Int32} (hcl : n < 1) (h1 : 0 ≤ v.toInt) (h2 : v.toInt ≤ 3) (hdg : decode cc pc = .ok (.putfield 9, 3)) (kk : ∀ (H1 : Heap) (locs1 : List Loc) (σ1 : ST), σ1 = q_si σ a 0 v → q_I X n σ0 H0 locs1 σ1 H1 → W p l e R s m args below meth c H1 locs1 cells slots Q (F0 m (pc + 3) ls rest)) : W p l e R s m args below meth c H locs cells slots Q (F0 m pc ls (.int v :: .ref a :: rest)) :=
  q_puti (ref := "CheatHeap$Tray") E hI ha ⟨rfl, by decide⟩ (show vwCl[9]? = some (RX10, TX10, 3) from rfl) q_inX10 tyX10_ok nmX10 (f := 0) (by decide) (q_in_t2 (i := 190) (by first | rfl | decide +kernel) rfl) (Or.inl rfl) rfl rfl hcl hdg (q_inB rfl h1 h2) (Or.inl rfl) (fun H1 l1 h => kk H1 l1 _ rfl h)
theorem ks_X10_22 : q_okS RX10 22 yJ9_min_7cf53 cJ9_min_7cf53 2 (some .int) 2 := ⟨(q_in_t3 (i := 42) (by first | rfl | decide +kernel) rfl), (q_in_t3 (i := 43) (by first | rfl | decide +kernel) rfl), (q_in_t1 (i := 5) (by first | rfl | decide +kernel) rfl), (q_in_t3 (i := 44) (by first | rfl | decide +kernel) rfl), ⟨by decide, by decide, rfl⟩⟩
theorem ks_X10_28 : q_okS RX10 28 yJ9_max_7cf53 cJ9_max_7cf53 2 (some .int) 2 := ⟨(q_in_t3 (i := 45) (by first | rfl | decide +kernel) rfl), (q_in_t1 (i := 49) (by first | rfl | decide +kernel) rfl), (q_in_t1 (i := 5) (by first | rfl | decide +kernel) rfl), (q_in_t1 (i := 50) (by first | rfl | decide +kernel) rfl), ⟨by decide, by decide, rfl⟩⟩
theorem ps_X10_15_10 (E : q_E p c cc s m args RX10 X) (hI : q_I X n σ0 H0 locs σ H) (ha : q_kd X a = 10) {v : Int32} (hcl : n < 1) (h1 : -1 ≤ v.toInt) (h2 : v.toInt ≤ 60) (hdg : decode cc pc = .ok (.putfield 15, 3)) (kk : ∀ (H1 : Heap) (locs1 : List Loc) (σ1 : ST), σ1 = q_si σ a 1 v → q_I X n σ0 H0 locs1 σ1 H1 → W p l e R s m args below meth c H1 locs1 cells slots Q (F0 m (pc + 3) ls rest)) : W p l e R s m args below meth c H locs cells slots Q (F0 m pc ls (.int v :: .ref a :: rest)) :=
  q_puti (ref := "CheatHeap$Tray") E hI ha ⟨rfl, by decide⟩ (show vwCl[9]? = some (RX10, TX10, 3) from rfl) q_inX10 tyX10_ok nmX10 (f := 1) (by decide) (q_in_t2 (i := 192) (by first | rfl | decide +kernel) rfl) (Or.inl rfl) rfl rfl hcl hdg (q_inB rfl h1 h2) (Or.inl rfl) (fun H1 l1 h => kk H1 l1 _ rfl h)
theorem gs_X10_18_10 (E : q_E p c cc s m args RX10 X) (hI : q_I X n σ0 H0 locs σ H) (ha : q_kd X a = 10) (hdg : decode cc pc = .ok (.getfield 18, 3)) (kk : W p l e R s m args below meth c H locs cells slots Q (F0 m (pc + 3) ls (.ref (q_rf X a 2) :: rest))) : W p l e R s m args below meth c H locs cells slots Q (F0 m pc ls (.ref a :: rest)) :=
  q_getf (ref := "CheatHeap$Tray") E hI ha ⟨rfl, by decide⟩ (show vwCl[9]? = some (RX10, TX10, 3) from rfl) q_inX10 (f := 2) (by decide) (q_in_t2 (i := 193) (by first | rfl | decide +kernel) rfl) (Or.inl rfl) rfl hdg kk
theorem gs_X10_15_10 (E : q_E p c cc s m args RX10 X) (hI : q_I X n σ0 H0 locs σ H) (ha : q_kd X a = 10) (hdg : decode cc pc = .ok (.getfield 15, 3)) (kk : W p l e R s m args below meth c H locs cells slots Q (F0 m (pc + 3) ls (.int (σ.1 a 1) :: rest))) : W p l e R s m args below meth c H locs cells slots Q (F0 m pc ls (.ref a :: rest)) :=
  q_getf (ref := "CheatHeap$Tray") E hI ha ⟨rfl, by decide⟩ (show vwCl[9]? = some (RX10, TX10, 3) from rfl) q_inX10 (f := 1) (by decide) (q_in_t2 (i := 192) (by first | rfl | decide +kernel) rfl) (Or.inl rfl) rfl hdg kk
theorem gs_X10_9_10 (E : q_E p c cc s m args RX10 X) (hI : q_I X n σ0 H0 locs σ H) (ha : q_kd X a = 10) (hdg : decode cc pc = .ok (.getfield 9, 3)) (kk : W p l e R s m args below meth c H locs cells slots Q (F0 m (pc + 3) ls (.int (σ.1 a 0) :: rest))) : W p l e R s m args below meth c H locs cells slots Q (F0 m pc ls (.ref a :: rest)) :=
  q_getf (ref := "CheatHeap$Tray") E hI ha ⟨rfl, by decide⟩ (show vwCl[9]? = some (RX10, TX10, 3) from rfl) q_inX10 (f := 0) (by decide) (q_in_t2 (i := 190) (by first | rfl | decide +kernel) rfl) (Or.inl rfl) rfl hdg kk
theorem kv_X10_31 : q_okV RX10 31 RX10 yX10_cut cX10_cut 3 (some .long) 1 := ⟨(q_in_t3 (i := 69) (by first | rfl | decide +kernel) rfl), (q_in_t3 (i := 71) (by first | rfl | decide +kernel) rfl), (q_in_p (i := 3) (by decide +kernel) rfl), (q_in_t1 (i := 13) (by first | rfl | decide +kernel) rfl), (q_in_t3 (i := 72) (by first | rfl | decide +kernel) rfl), ⟨rfl, by decide, by decide, rfl⟩⟩
theorem kv_X10_35 : q_okV RX10 35 RX10 yX10_hasPlaces cX10_hasPlaces 3 (some .boolean) 2 := ⟨(q_in_t3 (i := 93) (by first | rfl | decide +kernel) rfl), (q_in_t3 (i := 62) (by first | rfl | decide +kernel) rfl), (q_in_t3 (i := 63) (by first | rfl | decide +kernel) rfl), (q_in_t1 (i := 13) (by first | rfl | decide +kernel) rfl), (q_in_t3 (i := 64) (by first | rfl | decide +kernel) rfl), ⟨rfl, by decide, by decide, rfl⟩⟩
theorem gs_X5_13_5 (E : q_E p c cc s m args RX5 X) (hI : q_I X n σ0 H0 locs σ H) (ha : q_kd X a = 5) (hdg : decode cc pc = .ok (.getfield 13, 3)) (kk : W p l e R s m args below meth c H locs cells slots Q (F0 m (pc + 3) ls (.ref (q_rf X a 0) :: rest))) : W p l e R s m args below meth c H locs cells slots Q (F0 m pc ls (.ref a :: rest)) :=
  q_getf (ref := "CheatHeap$Row") E hI ha ⟨rfl, by decide⟩ (show vwCl[4]? = some (RX5, TX5, 1) from rfl) q_inX5 (f := 0) (by decide) (q_in_t1 (i := 51) (by first | rfl | decide +kernel) rfl) (Or.inl rfl) rfl hdg kk
theorem kt_J0_335 : q_okV RJ0 335 "java/lang/String" yJ0_coder_7d493 cJ0_coder_7d493 1 (some .byte) 0 := ⟨(q_in_t3 (i := 190) (by first | rfl | decide +kernel) rfl), (q_in_t3 (i := 191) (by first | rfl | decide +kernel) rfl), (q_in_t3 (i := 192) (by first | rfl | decide +kernel) rfl), (q_in_t1 (i := 16) (by first | rfl | decide +kernel) rfl), (q_in_t3 (i := 193) (by first | rfl | decide +kernel) rfl), ⟨rfl, by decide, by decide, rfl⟩⟩
theorem ks_J0_1059 : q_okS RJ0 1059 yJ3_checkIndex_8e157 cJ3_checkIndex_8e157 3 (some .int) 3 := ⟨(q_in_t3 (i := 212) (by first | rfl | decide +kernel) rfl), (q_in_t3 (i := 213) (by first | rfl | decide +kernel) rfl), (q_in_t1 (i := 18) (by first | rfl | decide +kernel) rfl), (q_in_t3 (i := 214) (by first | rfl | decide +kernel) rfl), ⟨by decide, by decide, rfl⟩⟩
theorem ks_J1_9 : q_okS RJ1 9 yJ0_checkIndex_df160 cJ0_checkIndex_df160 2 none 2 := ⟨(q_in_t3 (i := 207) (by first | rfl | decide +kernel) rfl), (q_in_t3 (i := 208) (by first | rfl | decide +kernel) rfl), (q_in_t1 (i := 16) (by first | rfl | decide +kernel) rfl), (q_in_t3 (i := 209) (by first | rfl | decide +kernel) rfl), ⟨by decide, by decide, rfl⟩⟩
theorem kt_J0_492 : q_okV RJ0 492 "java/lang/String" yJ0_isLatin1_aae02 cJ0_isLatin1_aae02 1 (some .boolean) 0 := ⟨(q_in_t3 (i := 200) (by first | rfl | decide +kernel) rfl), (q_in_t3 (i := 201) (by first | rfl | decide +kernel) rfl), (q_in_t3 (i := 202) (by first | rfl | decide +kernel) rfl), (q_in_t1 (i := 16) (by first | rfl | decide +kernel) rfl), (q_in_t3 (i := 203) (by first | rfl | decide +kernel) rfl), ⟨rfl, by decide, by decide, rfl⟩⟩
theorem ks_J0_495 : q_okS RJ0 495 yJ1_charAt_3b067 cJ1_charAt_3b067 2 (some .char) 2 := ⟨(q_in_t3 (i := 204) (by first | rfl | decide +kernel) rfl), (q_in_t3 (i := 205) (by first | rfl | decide +kernel) rfl), (q_in_t1 (i := 17) (by first | rfl | decide +kernel) rfl), (q_in_t3 (i := 206) (by first | rfl | decide +kernel) rfl), ⟨by decide, by decide, rfl⟩⟩
theorem kv_X5_19 : q_okV RX5 19 RX5 yX5_get cX5_get 2 (some .int) 1 := ⟨(q_in_t5 (i := 27) (by first | rfl | decide +kernel) rfl), (q_in_t4 (i := 73) (by first | rfl | decide +kernel) rfl), (q_in_t4 (i := 74) (by first | rfl | decide +kernel) rfl), (q_in_t1 (i := 4) (by first | rfl | decide +kernel) rfl), (q_in_t4 (i := 75) (by first | rfl | decide +kernel) rfl), ⟨rfl, by decide, by decide, rfl⟩⟩
end QS
end
