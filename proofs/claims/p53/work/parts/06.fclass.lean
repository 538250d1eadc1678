/-! FROM 06.fclass.lean.txt -/
section
noncomputable def F_J9_min_7cf53 (X : XW) (σ : ST) (v0 : Int32) (v1 : Int32) : Int32 :=
  if v1.toInt < v0.toInt then v1 else v0

noncomputable def F_J9_max_7cf53 (X : XW) (σ : ST) (v0 : Int32) (v1 : Int32) : Int32 :=
  if v0.toInt < v1.toInt then v1 else v0

noncomputable def F_X10_make_B21_1 (X : XW) (a : Nat) (B21_1 : Int32 → ST → ST) (x_9 : Int32) (σ_10 : ST) : ST :=
  if x_9.toInt < 60 then q_let (q_sl σ_10 (q_rf X a 2) x_9.toNatClampNeg (0 : Int64) : ST) (fun σ_13 => q_let (x_9 + 1 : Int32) (fun z_14 => B21_1 z_14 σ_13)) else σ_10

noncomputable def F_X10_make_L21_1 (X : XW) (a : Nat) : Nat → Int32 → ST → ST
  | 0 => fun x_9 σ_10 => σ_10
  | k_ + 1 => F_X10_make_B21_1 X a (F_X10_make_L21_1 X a k_)

theorem F_X10_make_L21_1_s {X : XW} {a : Nat} {k_ : Nat} {x_9 : Int32} {σ_10 : ST} : F_X10_make_L21_1 X a (k_ + 1) x_9 σ_10 = F_X10_make_B21_1 X a (F_X10_make_L21_1 X a k_) x_9 σ_10 := rfl

noncomputable def F_X10_make (X : XW) (σ : ST) (a : Nat) (v1 : Int32) (v2 : Int32) : ST :=
  q_let (q_si σ a 0 v1 : ST) (fun σ_1 => q_let (F_J9_min_7cf53 X σ_1 v2 (60 : Int32) : Int32) (fun r_3 => q_let (F_J9_max_7cf53 X σ_1 (0 : Int32) r_3 : Int32) (fun r_6 => q_let (q_si σ_1 a 1 r_6 : ST) (fun σ_8 => F_X10_make_L21_1 X a ((2147483647 - (0 : Int32).toInt).toNat + 1) (0 : Int32) σ_8))))

noncomputable def F_X10_isMissing (X : XW) (σ : ST) (a : Nat) : Int32 :=
  q_let (σ.1 a 1 : Int32) (fun f_1 => if f_1.toInt = (-1) then (1 : Int32) else (0 : Int32))

noncomputable def F_X10_hasPlaces (X : XW) (σ : ST) (a : Nat) (v1 : Int32) (v2 : Int32) : Int32 :=
  if v2.toInt < 0 then (0 : Int32) else q_let (σ.1 a 1 : Int32) (fun f_2 => if f_2.toInt < v2.toInt then (0 : Int32) else if v1.toInt < 0 then (0 : Int32) else q_let (σ.1 a 1 : Int32) (fun f_5 => q_let (f_5 - v2 : Int32) (fun z_6 => if z_6.toInt < v1.toInt then (0 : Int32) else (1 : Int32))))

noncomputable def F_X10_cut (X : XW) (σ : ST) (a : Nat) (v1 : Int64) : Int64 :=
  q_let (σ.1 a 0 : Int32) (fun f_1 => (if f_1.toInt = 0 then q_let (v1.toInt32 : Int32) (fun z_3 => q_let (z_3.toInt8.toInt32 : Int32) (fun z_4 => q_let (z_4.toInt64 : Int64) (fun y_5 => y_5))) else (if f_1.toInt = 1 then q_let (v1.toInt32 : Int32) (fun z_7 => q_let (z_7.toInt16.toInt32 : Int32) (fun z_8 => q_let (z_8.toInt64 : Int64) (fun y_9 => y_9))) else (if f_1.toInt = 2 then q_let (v1.toInt32 : Int32) (fun z_11 => q_let (z_11.toInt64 : Int64) (fun y_12 => y_12)) else v1))))

noncomputable def F_X10_put (X : XW) (σ : ST) (a : Nat) (v1 : Int32) (v2 : Int64) : ST :=
  if v1.toInt < 0 then σ else if v1.toInt < 60 then q_let (F_X10_cut X σ a v2 : Int64) (fun r_3 => q_let (q_sl σ (q_rf X a 2) v1.toNatClampNeg r_3 : ST) (fun σ_5 => σ_5)) else σ

noncomputable def F_X10_get (X : XW) (σ : ST) (a : Nat) (v1 : Int32) : Int64 :=
  if v1.toInt < 0 then (0 : Int64) else if v1.toInt < 60 then q_let (σ.2.1 (q_rf X a 2) v1.toNatClampNeg : Int64) (fun g_3 => g_3) else (0 : Int64)

noncomputable def F_X10_copyFrom (X : XW) (σ : ST) (a : Nat) (r1 : Nat) (v2 : Int32) (v3 : Int32) (v4 : Int32) : ST :=
  q_let (F_X10_hasPlaces X σ r1 v2 v4 : Int32) (fun r_1 => if r_1.toInt = 0 then σ else q_let (F_X10_hasPlaces X σ a v3 v4 : Int32) (fun r_4 => if r_4.toInt = 0 then σ else q_let (q_cpyl σ (q_rf X a 2) (q_rf X r1 2) v2 v3 v4 : ST) (fun σ_7 => σ_7)))

noncomputable def F_X5_clear_B2_1 (X : XW) (a : Nat) (B2_1 : Int32 → ST → ST) (x_1 : Int32) (σ_2 : ST) : ST :=
  q_let (q_len X (q_rf X a 0) : Int32) (fun n_4 => if x_1.toInt < n_4.toInt then q_let (q_si σ_2 (q_rf X a 0) x_1.toNatClampNeg (0 : Int32) : ST) (fun σ_6 => q_let (x_1 + 1 : Int32) (fun z_7 => B2_1 z_7 σ_6)) else σ_2)

noncomputable def F_X5_clear_L2_1 (X : XW) (a : Nat) : Nat → Int32 → ST → ST
  | 0 => fun x_1 σ_2 => σ_2
  | k_ + 1 => F_X5_clear_B2_1 X a (F_X5_clear_L2_1 X a k_)

theorem F_X5_clear_L2_1_s {X : XW} {a : Nat} {k_ : Nat} {x_1 : Int32} {σ_2 : ST} : F_X5_clear_L2_1 X a (k_ + 1) x_1 σ_2 = F_X5_clear_B2_1 X a (F_X5_clear_L2_1 X a k_) x_1 σ_2 := rfl

noncomputable def F_X5_clear (X : XW) (σ : ST) (a : Nat) : ST :=
  F_X5_clear_L2_1 X a ((2147483647 - (0 : Int32).toInt).toNat + 1) (0 : Int32) σ

noncomputable def F_J0_coder_7d493 (X : XW) (σ : ST) (a : Nat) : Int32 :=
  if (1 : Int) = 0 then (0 : Int32) else (0 : Int32)

noncomputable def F_J0_length_8abf5 (X : XW) (σ : ST) (a : Nat) : Int32 :=
  q_let (Int32.ofNat (q_slen.getD a 0) : Int32) (fun n_1 => q_let (F_J0_coder_7d493 X σ a : Int32) (fun r_2 => q_let (n_1 >>> (r_2 &&& 31) : Int32) (fun z_4 => z_4)))

noncomputable def F_J0_isLatin1_aae02 (X : XW) (σ : ST) (a : Nat) : Int32 :=
  if (1 : Int) = 0 then (0 : Int32) else if (0 : Int) = 0 then (1 : Int32) else (0 : Int32)

noncomputable def F_J1_charAt_3b067 (X : XW) (σ : ST) (r0 : Nat) (v1 : Int32) : Int32 :=
  q_let (Int32.ofNat (q_slen.getD r0 0) : Int32) (fun n_1 => q_let ((q_sbyt.getD r0 []).getD v1.toNatClampNeg 0 : Int32) (fun f_4 => q_let (f_4 &&& (255 : Int32) : Int32) (fun z_5 => q_let ((z_5.toUInt32 % 65536).toInt32 : Int32) (fun z_6 => z_6))))

noncomputable def F_J0_charAt_5068e (X : XW) (σ : ST) (a : Nat) (v1 : Int32) : Int32 :=
  q_let (F_J0_isLatin1_aae02 X σ a : Int32) (fun r_1 => if r_1.toInt = 0 then (0 : Int32) else q_let (F_J1_charAt_3b067 X σ a v1 : Int32) (fun r_4 => r_4))

noncomputable def F_X5_get (X : XW) (σ : ST) (a : Nat) (v1 : Int32) : Int32 :=
  if v1.toInt < 0 then (0 : Int32) else q_let (q_len X (q_rf X a 0) : Int32) (fun n_2 => if v1.toInt < n_2.toInt then q_let (σ.1 (q_rf X a 0) v1.toNatClampNeg : Int32) (fun f_4 => f_4) else (0 : Int32))

noncomputable def F_X5_set (X : XW) (σ : ST) (a : Nat) (v1 : Int32) (v2 : Int32) : ST :=
  if v1.toInt < 0 then σ else q_let (q_len X (q_rf X a 0) : Int32) (fun n_2 => if v1.toInt < n_2.toInt then q_let (q_si σ (q_rf X a 0) v1.toNatClampNeg v2 : ST) (fun σ_4 => σ_4) else σ)

noncomputable def F_X5_add (X : XW) (σ : ST) (a : Nat) (v1 : Int32) (v2 : Int32) : ST :=
  if v1.toInt < 0 then σ else q_let (q_len X (q_rf X a 0) : Int32) (fun n_2 => if v1.toInt < n_2.toInt then q_let (σ.1 (q_rf X a 0) v1.toNatClampNeg : Int32) (fun f_4 => q_let (f_4 + v2 : Int32) (fun z_5 => q_let (q_si σ (q_rf X a 0) v1.toNatClampNeg z_5 : ST) (fun σ_6 => σ_6))) else σ)

noncomputable def F_X5_copyFrom_B2_1 (X : XW) (a : Nat) (r1 : Nat) (B2_1 : Int32 → ST → ST) (x_1 : Int32) (σ_2 : ST) : ST :=
  q_let (q_len X (q_rf X a 0) : Int32) (fun n_4 => if x_1.toInt < n_4.toInt then q_let (q_len X (q_rf X r1 0) : Int32) (fun n_6 => if x_1.toInt < n_6.toInt then q_let (σ_2.1 (q_rf X r1 0) x_1.toNatClampNeg : Int32) (fun f_8 => q_let (q_si σ_2 (q_rf X a 0) x_1.toNatClampNeg f_8 : ST) (fun σ_9 => q_let (x_1 + 1 : Int32) (fun z_10 => B2_1 z_10 σ_9))) else σ_2) else σ_2)

noncomputable def F_X5_copyFrom_L2_1 (X : XW) (a : Nat) (r1 : Nat) : Nat → Int32 → ST → ST
  | 0 => fun x_1 σ_2 => σ_2
  | k_ + 1 => F_X5_copyFrom_B2_1 X a r1 (F_X5_copyFrom_L2_1 X a r1 k_)

theorem F_X5_copyFrom_L2_1_s {X : XW} {a : Nat} {r1 : Nat} {k_ : Nat} {x_1 : Int32} {σ_2 : ST} : F_X5_copyFrom_L2_1 X a r1 (k_ + 1) x_1 σ_2 = F_X5_copyFrom_B2_1 X a r1 (F_X5_copyFrom_L2_1 X a r1 k_) x_1 σ_2 := rfl

noncomputable def F_X5_copyFrom (X : XW) (σ : ST) (a : Nat) (r1 : Nat) : ST :=
  F_X5_copyFrom_L2_1 X a r1 ((2147483647 - (0 : Int32).toInt).toNat + 1) (0 : Int32) σ

noncomputable def F_X5_sum_B5_1 (X : XW) (v1 : Int32) (v2 : Int32) (σ : ST) (a : Nat) (B5_1 : Int32 → Int32 → Int32) (x_1 : Int32) (x_2 : Int32) : Int32 :=
  q_let (v1 + v2 : Int32) (fun z_4 => if x_2.toInt < z_4.toInt then q_let (F_X5_get X σ a x_2 : Int32) (fun r_6 => q_let (x_1 + r_6 : Int32) (fun z_8 => q_let (x_2 + 1 : Int32) (fun z_9 => B5_1 z_8 z_9))) else x_1)

noncomputable def F_X5_sum_L5_1 (X : XW) (v1 : Int32) (v2 : Int32) (σ : ST) (a : Nat) : Nat → Int32 → Int32 → Int32
  | 0 => fun x_1 x_2 => (0 : Int32)
  | k_ + 1 => F_X5_sum_B5_1 X v1 v2 σ a (F_X5_sum_L5_1 X v1 v2 σ a k_)

theorem F_X5_sum_L5_1_s {X : XW} {v1 : Int32} {v2 : Int32} {σ : ST} {a : Nat} {k_ : Nat} {x_1 : Int32} {x_2 : Int32} : F_X5_sum_L5_1 X v1 v2 σ a (k_ + 1) x_1 x_2 = F_X5_sum_B5_1 X v1 v2 σ a (F_X5_sum_L5_1 X v1 v2 σ a k_) x_1 x_2 := rfl

noncomputable def F_X5_sum (X : XW) (σ : ST) (a : Nat) (v1 : Int32) (v2 : Int32) : Int32 :=
  F_X5_sum_L5_1 X v1 v2 σ a ((2147483647 - v1.toInt).toNat + 1) (0 : Int32) v1

noncomputable def F_J9_floorMod_7cf53 (X : XW) (σ : ST) (v0 : Int32) (v1 : Int32) : Int32 :=
  q_let (v0 % v1 : Int32) (fun z_1 => q_let (v0 ^^^ v1 : Int32) (fun z_2 => if z_2.toInt < 0 then if z_1.toInt = 0 then z_1 else q_let (z_1 + v1 : Int32) (fun z_5 => z_5) else z_1))

noncomputable def F_J9_abs_067f4 (X : XW) (σ : ST) (v0 : Int64) : Int64 :=
  q_let (lg_cmp v0 (0 : Int64) : Int32) (fun z_1 => if z_1.toInt < 0 then q_let (-v0 : Int64) (fun y_4 => y_4) else v0)

noncomputable def F_X1_reset (X : XW) (σ : ST) (a : Nat) : ST :=
  q_let (F_X5_clear X σ (q_rf X a 0) : ST) (fun σ_2 => q_let (F_X5_clear X σ_2 (q_rf X a 1) : ST) (fun σ_4 => q_let (F_X5_clear X σ_4 (q_rf X a 2) : ST) (fun σ_6 => q_let (F_X5_clear X σ_6 (q_rf X a 3) : ST) (fun σ_8 => q_let (F_X5_clear X σ_8 (q_rf X a 4) : ST) (fun σ_10 => q_let (F_X5_clear X σ_10 (q_rf X a 5) : ST) (fun σ_12 => q_let (F_X5_clear X σ_12 (q_rf X a 6) : ST) (fun σ_14 => σ_14)))))))

noncomputable def F_X2_clear (X : XW) (σ : ST) (a : Nat) : ST :=
  q_let (q_si σ a 0 (0 : Int32) : ST) (fun σ_1 => q_let (q_si σ_1 a 1 (0 : Int32) : ST) (fun σ_2 => σ_2))

noncomputable def F_X8_clear (X : XW) (σ : ST) (a : Nat) : ST :=
  q_let (q_si σ a 0 (0 : Int32) : ST) (fun σ_1 => q_let (q_si σ_1 a 1 (0 : Int32) : ST) (fun σ_2 => q_let (q_si σ_2 a 2 (0 : Int32) : ST) (fun σ_3 => σ_3)))

noncomputable def F_X1_deal (X : XW) (σ : ST) (a : Nat) (v1 : Int32) (v2 : Int32) (v3 : Int32) : ST :=
  q_let (v1 * (10 : Int32) : Int32) (fun z_1 => q_let (z_1 + v2 : Int32) (fun z_2 => q_let (F_X5_add X σ (q_rf X a 0) z_2 v3 : ST) (fun σ_4 => q_let (F_X5_add X σ_4 (q_rf X a 2) v1 v3 : ST) (fun σ_6 => σ_6))))

noncomputable def F_X1_copyFrom (X : XW) (σ : ST) (a : Nat) (r1 : Nat) : ST :=
  q_let (F_X5_copyFrom X σ (q_rf X a 0) (q_rf X r1 0) : ST) (fun σ_2 => q_let (F_X5_copyFrom X σ_2 (q_rf X a 1) (q_rf X r1 1) : ST) (fun σ_4 => q_let (F_X5_copyFrom X σ_4 (q_rf X a 2) (q_rf X r1 2) : ST) (fun σ_6 => q_let (F_X5_copyFrom X σ_6 (q_rf X a 3) (q_rf X r1 3) : ST) (fun σ_8 => q_let (F_X5_copyFrom X σ_8 (q_rf X a 4) (q_rf X r1 4) : ST) (fun σ_10 => q_let (F_X5_copyFrom X σ_10 (q_rf X a 5) (q_rf X r1 5) : ST) (fun σ_12 => q_let (F_X5_copyFrom X σ_12 (q_rf X a 6) (q_rf X r1 6) : ST) (fun σ_14 => σ_14)))))))

noncomputable def F_X2_copyFrom (X : XW) (σ : ST) (a : Nat) (r1 : Nat) : ST :=
  q_let (σ.1 r1 0 : Int32) (fun f_1 => q_let (q_si σ a 0 f_1 : ST) (fun σ_2 => q_let (σ_2.1 r1 1 : Int32) (fun f_3 => q_let (q_si σ_2 a 1 f_3 : ST) (fun σ_4 => q_let (F_X5_copyFrom X σ_4 (q_rf X a 2) (q_rf X r1 2) : ST) (fun σ_6 => q_let (F_X5_copyFrom X σ_6 (q_rf X a 3) (q_rf X r1 3) : ST) (fun σ_8 => q_let (F_X5_copyFrom X σ_8 (q_rf X a 4) (q_rf X r1 4) : ST) (fun σ_10 => q_let (F_X5_copyFrom X σ_10 (q_rf X a 5) (q_rf X r1 5) : ST) (fun σ_12 => σ_12))))))))

noncomputable def F_X8_copyFrom (X : XW) (σ : ST) (a : Nat) (r1 : Nat) : ST :=
  q_let (σ.1 r1 0 : Int32) (fun f_1 => q_let (q_si σ a 0 f_1 : ST) (fun σ_2 => q_let (σ_2.1 r1 1 : Int32) (fun f_3 => q_let (q_si σ_2 a 1 f_3 : ST) (fun σ_4 => q_let (σ_4.1 r1 2 : Int32) (fun f_5 => q_let (q_si σ_4 a 2 f_5 : ST) (fun σ_6 => q_let (F_X5_copyFrom X σ_6 (q_rf X a 3) (q_rf X r1 3) : ST) (fun σ_8 => q_let (F_X5_copyFrom X σ_8 (q_rf X a 4) (q_rf X r1 4) : ST) (fun σ_10 => q_let (F_X5_copyFrom X σ_10 (q_rf X a 5) (q_rf X r1 5) : ST) (fun σ_12 => q_let (F_X5_copyFrom X σ_12 (q_rf X a 6) (q_rf X r1 6) : ST) (fun σ_14 => q_let (F_X5_copyFrom X σ_14 (q_rf X a 7) (q_rf X r1 7) : ST) (fun σ_16 => σ_16)))))))))))

noncomputable def F_X8_add (X : XW) (σ : ST) (a : Nat) (v1 : Int32) : Int32 × ST :=
  q_let (σ.1 a 2 : Int32) (fun f_1 => q_let (F_X5_set X σ (q_rf X a 3) f_1 v1 : ST) (fun σ_3 => q_let (σ_3.1 a 2 : Int32) (fun f_4 => q_let (f_4 + (1 : Int32) : Int32) (fun z_5 => q_let (q_si σ_3 a 2 z_5 : ST) (fun σ_6 => q_let (σ_6.1 a 2 : Int32) (fun f_7 => q_let (f_7 - (1 : Int32) : Int32) (fun z_8 => (z_8, σ_6))))))))

noncomputable def F_X8_isWhen (X : XW) (σ : ST) (v0 : Int32) : Int32 :=
  if v0.toInt < 5 then (0 : Int32) else if 8 < v0.toInt then (0 : Int32) else (1 : Int32)

noncomputable def F_X8_hasName (X : XW) (σ : ST) (v0 : Int32) : Int32 :=
  if v0.toInt = 1 then (1 : Int32) else if v0.toInt = 2 then (1 : Int32) else if v0.toInt = 5 then (1 : Int32) else if v0.toInt = 7 then (1 : Int32) else (0 : Int32)

noncomputable def F_X8_hasComparison (X : XW) (σ : ST) (v0 : Int32) : Int32 :=
  q_let (F_X8_isWhen X σ v0 : Int32) (fun r_1 => if r_1.toInt = 0 then (0 : Int32) else if v0.toInt = 8 then (0 : Int32) else (1 : Int32))

noncomputable def F_X8_highest (X : XW) (σ : ST) (v0 : Int32) : Int32 :=
  (if v0.toInt = 1 then (16 : Int32) else (if v0.toInt = 2 then (16 : Int32) else (if v0.toInt = 3 then ((-1) : Int32) else (if v0.toInt = 4 then (99 : Int32) else (if v0.toInt = 5 then (80 : Int32) else (if v0.toInt = 6 then (80 : Int32) else (if v0.toInt = 7 then (999 : Int32) else ((-1) : Int32))))))))

noncomputable def F_X1_allLaidBy (X : XW) (σ : ST) (a : Nat) (v1 : Int32) : Int32 :=
  q_let (v1 * (10 : Int32) : Int32) (fun z_1 => q_let (F_X5_sum X σ (q_rf X a 1) z_1 (10 : Int32) : Int32) (fun r_3 => r_3))

noncomputable def F_X1_heldBy (X : XW) (σ : ST) (a : Nat) (v1 : Int32) (v2 : Int32) : Int32 :=
  q_let (v1 * (10 : Int32) : Int32) (fun z_1 => q_let (z_1 + v2 : Int32) (fun z_2 => q_let (F_X5_get X σ (q_rf X a 0) z_2 : Int32) (fun r_3 => r_3)))

noncomputable def F_X2_truth_E48_2 (X : XW) (σ : ST) (a : Nat) (v1 : Int32) (x_1 : Int32) : Int32 :=
  q_let (F_X5_get X σ (q_rf X a 4) v1 : Int32) (fun r_7 => if x_1.toInt = r_7.toInt then (0 : Int32) else if x_1.toInt = 0 then (2 : Int32) else (1 : Int32))

noncomputable def F_X2_truth_B4_1 (X : XW) (σ : ST) (a : Nat) (v1 : Int32) (B4_1 : Int32 → Int32 → Int32) (x_1 : Int32) (x_2 : Int32) : Int32 :=
  q_let (F_X5_get X σ (q_rf X a 4) v1 : Int32) (fun r_4 => if x_2.toInt < r_4.toInt then q_let (v1 * (4 : Int32) : Int32) (fun z_11 => q_let (z_11 + x_2 : Int32) (fun z_12 => q_let (F_X5_get X σ (q_rf X a 5) z_12 : Int32) (fun r_13 => q_let (F_X5_get X σ (q_rf X a 3) v1 : Int32) (fun r_15 => if r_13.toInt = r_15.toInt then q_let (x_1 + 1 : Int32) (fun z_19 => q_let (x_2 + 1 : Int32) (fun z_20 => B4_1 z_19 z_20)) else q_let (x_2 + 1 : Int32) (fun z_18 => B4_1 x_1 z_18))))) else F_X2_truth_E48_2 X σ a v1 x_1)

noncomputable def F_X2_truth_L4_1 (X : XW) (σ : ST) (a : Nat) (v1 : Int32) : Nat → Int32 → Int32 → Int32
  | 0 => fun x_1 x_2 => (0 : Int32)
  | k_ + 1 => F_X2_truth_B4_1 X σ a v1 (F_X2_truth_L4_1 X σ a v1 k_)

theorem F_X2_truth_L4_1_s {X : XW} {σ : ST} {a : Nat} {v1 : Int32} {k_ : Nat} {x_1 : Int32} {x_2 : Int32} : F_X2_truth_L4_1 X σ a v1 (k_ + 1) x_1 x_2 = F_X2_truth_B4_1 X σ a v1 (F_X2_truth_L4_1 X σ a v1 k_) x_1 x_2 := rfl

noncomputable def F_X2_truth (X : XW) (σ : ST) (a : Nat) (v1 : Int32) : Int32 :=
  F_X2_truth_L4_1 X σ a v1 ((2147483647 - (0 : Int32).toInt).toNat + 1) (0 : Int32) (0 : Int32)

noncomputable def F_X2_kindOf (X : XW) (σ : ST) (a : Nat) (v1 : Int32) (v2 : Int32) : Int32 :=
  q_let (v1 * (4 : Int32) : Int32) (fun z_1 => q_let (z_1 + v2 : Int32) (fun z_2 => q_let (F_X5_get X σ (q_rf X a 5) z_2 : Int32) (fun r_3 => r_3)))

noncomputable def F_X2_begin (X : XW) (σ : ST) (a : Nat) (v1 : Int32) (v2 : Int32) : ST :=
  q_let (σ.1 a 0 : Int32) (fun f_1 => q_let (F_X5_set X σ (q_rf X a 2) f_1 v1 : ST) (fun σ_3 => q_let (σ_3.1 a 0 : Int32) (fun f_4 => q_let (F_X5_set X σ_3 (q_rf X a 3) f_4 v2 : ST) (fun σ_6 => q_let (σ_6.1 a 0 : Int32) (fun f_7 => q_let (F_X5_set X σ_6 (q_rf X a 4) f_7 (0 : Int32) : ST) (fun σ_10 => q_let (σ_10.1 a 0 : Int32) (fun f_11 => q_let (f_11 + (1 : Int32) : Int32) (fun z_12 => q_let (q_si σ_10 a 0 z_12 : ST) (fun σ_13 => σ_13)))))))))

noncomputable def F_X1_moveToHeap (X : XW) (σ : ST) (a : Nat) (v1 : Int32) (v2 : Int32) (v3 : Int32) : ST :=
  q_let (-v3 : Int32) (fun z_1 => q_let (F_X1_deal X σ a v1 v2 z_1 : ST) (fun σ_3 => q_let (v1 * (10 : Int32) : Int32) (fun z_4 => q_let (z_4 + v2 : Int32) (fun z_5 => q_let (F_X5_add X σ_3 (q_rf X a 1) z_5 v3 : ST) (fun σ_7 => σ_7)))))

noncomputable def F_X2_add_B10_1 (X : XW) (v2 : Int32) (z_2 : Int32) (a : Nat) (v1 : Int32) (B10_1 : Int32 → ST → ST) (x_3 : Int32) (σ_4 : ST) : ST :=
  if x_3.toInt < v2.toInt then q_let (z_2 * (4 : Int32) : Int32) (fun z_7 => q_let (F_X5_get X σ_4 (q_rf X a 4) z_2 : Int32) (fun r_8 => q_let (z_7 + r_8 : Int32) (fun z_10 => q_let (F_X5_set X σ_4 (q_rf X a 5) z_10 v1 : ST) (fun σ_12 => q_let (F_X5_add X σ_12 (q_rf X a 4) z_2 (1 : Int32) : ST) (fun σ_15 => q_let (σ_15.1 a 1 : Int32) (fun f_16 => q_let (f_16 + (1 : Int32) : Int32) (fun z_17 => q_let (q_si σ_15 a 1 z_17 : ST) (fun σ_18 => q_let (x_3 + 1 : Int32) (fun z_19 => B10_1 z_19 σ_18))))))))) else σ_4

noncomputable def F_X2_add_L10_1 (X : XW) (v2 : Int32) (z_2 : Int32) (a : Nat) (v1 : Int32) : Nat → Int32 → ST → ST
  | 0 => fun x_3 σ_4 => σ_4
  | k_ + 1 => F_X2_add_B10_1 X v2 z_2 a v1 (F_X2_add_L10_1 X v2 z_2 a v1 k_)

theorem F_X2_add_L10_1_s {X : XW} {v2 : Int32} {z_2 : Int32} {a : Nat} {v1 : Int32} {k_ : Nat} {x_3 : Int32} {σ_4 : ST} : F_X2_add_L10_1 X v2 z_2 a v1 (k_ + 1) x_3 σ_4 = F_X2_add_B10_1 X v2 z_2 a v1 (F_X2_add_L10_1 X v2 z_2 a v1 k_) x_3 σ_4 := rfl

noncomputable def F_X2_add (X : XW) (σ : ST) (a : Nat) (v1 : Int32) (v2 : Int32) : ST :=
  q_let (σ.1 a 0 : Int32) (fun f_1 => q_let (f_1 - (1 : Int32) : Int32) (fun z_2 => F_X2_add_L10_1 X v2 z_2 a v1 ((2147483647 - (0 : Int32).toInt).toNat + 1) (0 : Int32) σ))

noncomputable def F_X2_topTruth (X : XW) (σ : ST) (a : Nat) : Int32 :=
  q_let (σ.1 a 0 : Int32) (fun f_1 => q_let (f_1 - (1 : Int32) : Int32) (fun z_2 => q_let (F_X2_truth X σ a z_2 : Int32) (fun r_3 => r_3)))

noncomputable def F_X1_laidBy (X : XW) (σ : ST) (a : Nat) (v1 : Int32) (v2 : Int32) : Int32 :=
  q_let (v1 * (10 : Int32) : Int32) (fun z_1 => q_let (z_1 + v2 : Int32) (fun z_2 => q_let (F_X5_get X σ (q_rf X a 1) z_2 : Int32) (fun r_3 => r_3)))

noncomputable def F_X1_takeHeap_E40_2 (X : XW) (σ_2 : ST) (a : Nat) : ST :=
  q_let (F_X5_clear X σ_2 (q_rf X a 1) : ST) (fun σ_6 => σ_6)

noncomputable def F_X1_takeHeap_E34_4 (X : XW) (x_1 : Int32) (B2_1 : Int32 → ST → ST) (σ_8 : ST) : ST :=
  q_let (x_1 + 1 : Int32) (fun z_11 => B2_1 z_11 σ_8)

noncomputable def F_X1_takeHeap_B10_3 (X : XW) (a : Nat) (x_1 : Int32) (v1 : Int32) (B2_1 : Int32 → ST → ST) (B10_3 : Int32 → ST → ST) (x_7 : Int32) (σ_8 : ST) : ST :=
  if x_7.toInt < 10 then q_let (F_X1_laidBy X σ_8 a x_1 x_7 : Int32) (fun r_12 => q_let (F_X1_deal X σ_8 a v1 x_7 r_12 : ST) (fun σ_15 => q_let (x_7 + 1 : Int32) (fun z_16 => B10_3 z_16 σ_15))) else F_X1_takeHeap_E34_4 X x_1 B2_1 σ_8

noncomputable def F_X1_takeHeap_L10_3 (X : XW) (a : Nat) (x_1 : Int32) (v1 : Int32) (B2_1 : Int32 → ST → ST) : Nat → Int32 → ST → ST
  | 0 => fun x_7 σ_8 => σ_8
  | k_ + 1 => F_X1_takeHeap_B10_3 X a x_1 v1 B2_1 (F_X1_takeHeap_L10_3 X a x_1 v1 B2_1 k_)

theorem F_X1_takeHeap_L10_3_s {X : XW} {a : Nat} {x_1 : Int32} {v1 : Int32} {B2_1 : Int32 → ST → ST} {k_ : Nat} {x_7 : Int32} {σ_8 : ST} : F_X1_takeHeap_L10_3 X a x_1 v1 B2_1 (k_ + 1) x_7 σ_8 = F_X1_takeHeap_B10_3 X a x_1 v1 B2_1 (F_X1_takeHeap_L10_3 X a x_1 v1 B2_1 k_) x_7 σ_8 := rfl

noncomputable def F_X1_takeHeap_B2_1 (X : XW) (a : Nat) (v1 : Int32) (B2_1 : Int32 → ST → ST) (x_1 : Int32) (σ_2 : ST) : ST :=
  if x_1.toInt < 6 then F_X1_takeHeap_L10_3 X a x_1 v1 B2_1 ((2147483647 - (0 : Int32).toInt).toNat + 1) (0 : Int32) σ_2 else F_X1_takeHeap_E40_2 X σ_2 a

noncomputable def F_X1_takeHeap_L2_1 (X : XW) (a : Nat) (v1 : Int32) : Nat → Int32 → ST → ST
  | 0 => fun x_1 σ_2 => σ_2
  | k_ + 1 => F_X1_takeHeap_B2_1 X a v1 (F_X1_takeHeap_L2_1 X a v1 k_)

theorem F_X1_takeHeap_L2_1_s {X : XW} {a : Nat} {v1 : Int32} {k_ : Nat} {x_1 : Int32} {σ_2 : ST} : F_X1_takeHeap_L2_1 X a v1 (k_ + 1) x_1 σ_2 = F_X1_takeHeap_B2_1 X a v1 (F_X1_takeHeap_L2_1 X a v1 k_) x_1 σ_2 := rfl

noncomputable def F_X1_takeHeap (X : XW) (σ : ST) (a : Nat) (v1 : Int32) : ST :=
  F_X1_takeHeap_L2_1 X a v1 ((2147483647 - (0 : Int32).toInt).toNat + 1) (0 : Int32) σ

noncomputable def F_X1_knownTo (X : XW) (σ : ST) (a : Nat) (v1 : Int32) (v2 : Int32) : Int32 :=
  q_let (v1 * (10 : Int32) : Int32) (fun z_1 => q_let (z_1 + v2 : Int32) (fun z_2 => q_let (F_X5_get X σ (q_rf X a 0) z_2 : Int32) (fun r_3 => q_let (F_X5_get X σ (q_rf X a 1) z_2 : Int32) (fun r_5 => q_let (r_3 + r_5 : Int32) (fun z_7 => z_7)))))

noncomputable def F_X2_topSize (X : XW) (σ : ST) (a : Nat) : Int32 :=
  q_let (σ.1 a 0 : Int32) (fun f_1 => q_let (f_1 - (1 : Int32) : Int32) (fun z_2 => q_let (F_X5_get X σ (q_rf X a 4) z_2 : Int32) (fun r_3 => r_3)))

noncomputable def F_X1_honestTop (X : XW) (σ : ST) (a : Nat) (v1 : Int32) : Int64 :=
  q_let (F_X5_get X σ (q_rf X a 5) v1 : Int32) (fun r_1 => q_let (F_X5_get X σ (q_rf X a 6) v1 : Int32) (fun r_3 => q_let (r_1 - r_3 : Int32) (fun z_5 => q_let (z_5.toInt64 : Int64) (fun y_6 => q_let (y_6 + (1 : Int64) : Int64) (fun y_7 => y_7)))))

noncomputable def F_X1_honestBottom (X : XW) (σ : ST) (a : Nat) (v1 : Int32) : Int64 :=
  q_let (F_X5_get X σ (q_rf X a 5) v1 : Int32) (fun r_1 => q_let (r_1.toInt64 : Int64) (fun y_3 => q_let (y_3 + (2 : Int64) : Int64) (fun y_4 => y_4)))

noncomputable def F_X2_timesSaid_B5_1 (X : XW) (σ : ST) (a : Nat) (v1 : Int32) (v2 : Int32) (B5_1 : Int32 → Int32 → Int32) (x_1 : Int32) (x_2 : Int32) : Int32 :=
  q_let (σ.1 a 0 : Int32) (fun f_4 => if x_2.toInt < f_4.toInt then q_let (F_X5_get X σ (q_rf X a 2) x_2 : Int32) (fun r_6 => if r_6.toInt = v1.toInt then q_let (F_X5_get X σ (q_rf X a 3) x_2 : Int32) (fun r_10 => if r_10.toInt = v2.toInt then q_let (x_1 + 1 : Int32) (fun z_14 => q_let (x_2 + 1 : Int32) (fun z_15 => B5_1 z_14 z_15)) else q_let (x_2 + 1 : Int32) (fun z_13 => B5_1 x_1 z_13)) else q_let (x_2 + 1 : Int32) (fun z_9 => B5_1 x_1 z_9)) else x_1)

noncomputable def F_X2_timesSaid_L5_1 (X : XW) (σ : ST) (a : Nat) (v1 : Int32) (v2 : Int32) : Nat → Int32 → Int32 → Int32
  | 0 => fun x_1 x_2 => (0 : Int32)
  | k_ + 1 => F_X2_timesSaid_B5_1 X σ a v1 v2 (F_X2_timesSaid_L5_1 X σ a v1 v2 k_)

theorem F_X2_timesSaid_L5_1_s {X : XW} {σ : ST} {a : Nat} {v1 : Int32} {v2 : Int32} {k_ : Nat} {x_1 : Int32} {x_2 : Int32} : F_X2_timesSaid_L5_1 X σ a v1 v2 (k_ + 1) x_1 x_2 = F_X2_timesSaid_B5_1 X σ a v1 v2 (F_X2_timesSaid_L5_1 X σ a v1 v2 k_) x_1 x_2 := rfl

noncomputable def F_X2_timesSaid (X : XW) (σ : ST) (a : Nat) (v1 : Int32) (v2 : Int32) : Int32 :=
  F_X2_timesSaid_L5_1 X σ a v1 v2 ((2147483647 - (0 : Int32).toInt).toNat + 1) (0 : Int32) (0 : Int32)

noncomputable def F_X8_meets (X : XW) (σ : ST) (a : Nat) (v1 : Int32) (v2 : Int32) : Int32 :=
  q_let (F_X5_get X σ (q_rf X a 7) v1 : Int32) (fun r_1 => q_let (F_X5_get X σ (q_rf X a 6) v1 : Int32) (fun r_3 => if r_3.toInt = 60 then if v2.toInt < r_1.toInt then (1 : Int32) else (0 : Int32) else if r_3.toInt = 62 then if r_1.toInt < v2.toInt then (1 : Int32) else (0 : Int32) else if v2.toInt = r_1.toInt then (1 : Int32) else (0 : Int32)))

noncomputable def F_X6_reset (X : XW) (σ : ST) (a : Nat) : ST :=
  q_let (q_si σ a 0 (2 : Int32) : ST) (fun σ_1 => q_let (q_si σ_1 a 1 (1 : Int32) : ST) (fun σ_2 => q_let (q_si σ_2 a 2 (0 : Int32) : ST) (fun σ_3 => q_let (q_si σ_3 a 3 (4 : Int32) : ST) (fun σ_4 => q_let (q_si σ_4 a 4 (0 : Int32) : ST) (fun σ_5 => q_let (F_X5_clear X σ_5 (q_rf X a 5) : ST) (fun σ_7 => σ_7))))))

noncomputable def F_X3_signAt (X : XW) (σ : ST) (a : Nat) (v1 : Int32) : Int32 :=
  q_let (σ.1 a 2 : Int32) (fun f_1 => q_let (f_1 + v1 : Int32) (fun z_2 => if z_2.toInt < 0 then (0 : Int32) else q_let (σ.1 a 1 : Int32) (fun f_4 => if z_2.toInt < f_4.toInt then q_let (q_len X (σ.2.2 a) : Int32) (fun n_6 => if z_2.toInt < n_6.toInt then q_let (σ.1 (σ.2.2 a) z_2.toNatClampNeg : Int32) (fun f_8 => f_8) else (0 : Int32)) else (0 : Int32))))

noncomputable def F_X3_endOfRun_B5_1 (X : XW) (σ : ST) (a : Nat) (v1 : Int32) (v2 : Int32) (B5_1 : Int32 → Int32) (x_2 : Int32) : Int32 :=
  q_let (σ.1 a 1 : Int32) (fun f_4 => if x_2.toInt < f_4.toInt then q_let (q_len X (σ.2.2 a) : Int32) (fun n_6 => if x_2.toInt < n_6.toInt then q_let (σ.1 (σ.2.2 a) x_2.toNatClampNeg : Int32) (fun f_8 => if f_8.toInt < v1.toInt then x_2 else q_let (σ.1 (σ.2.2 a) x_2.toNatClampNeg : Int32) (fun f_10 => if v2.toInt < f_10.toInt then x_2 else q_let (x_2 + 1 : Int32) (fun z_12 => B5_1 z_12))) else x_2) else x_2)

noncomputable def F_X3_endOfRun_L5_1 (X : XW) (σ : ST) (a : Nat) (v1 : Int32) (v2 : Int32) : Nat → Int32 → Int32
  | 0 => fun x_2 => (0 : Int32)
  | k_ + 1 => F_X3_endOfRun_B5_1 X σ a v1 v2 (F_X3_endOfRun_L5_1 X σ a v1 v2 k_)

theorem F_X3_endOfRun_L5_1_s {X : XW} {σ : ST} {a : Nat} {v1 : Int32} {v2 : Int32} {k_ : Nat} {x_2 : Int32} : F_X3_endOfRun_L5_1 X σ a v1 v2 (k_ + 1) x_2 = F_X3_endOfRun_B5_1 X σ a v1 v2 (F_X3_endOfRun_L5_1 X σ a v1 v2 k_) x_2 := rfl

noncomputable def F_X3_endOfRun (X : XW) (σ : ST) (a : Nat) (v1 : Int32) (v2 : Int32) : Int32 :=
  q_let (σ.1 a 2 : Int32) (fun f_1 => F_X3_endOfRun_L5_1 X σ a v1 v2 ((2147483647 - f_1.toInt).toNat + 1) f_1)

noncomputable def F_X3_size (X : XW) (σ : ST) (a : Nat) : Int32 :=
  q_let (σ.1 a 3 : Int32) (fun f_1 => q_let (σ.1 a 2 : Int32) (fun f_2 => q_let (f_1 - f_2 : Int32) (fun z_3 => z_3)))

noncomputable def F_X3_advance_B165_4 (X : XW) (a : Nat) (B165_4 : Int32 → ST → ST) (x_75 : Int32) (σ_76 : ST) : ST :=
  if x_75.toInt < 4 then q_let (F_X3_size X σ_76 a : Int32) (fun r_79 => if x_75.toInt < r_79.toInt then q_let (σ_76.1 a 5 : Int32) (fun f_82 => q_let (f_82 * (10 : Int32) : Int32) (fun z_83 => q_let (F_X3_signAt X σ_76 a x_75 : Int32) (fun r_84 => q_let (z_83 + r_84 : Int32) (fun z_86 => q_let (z_86 - (48 : Int32) : Int32) (fun z_87 => q_let (q_si σ_76 a 5 z_87 : ST) (fun σ_88 => q_let (x_75 + 1 : Int32) (fun z_89 => B165_4 z_89 σ_88))))))) else σ_76) else σ_76

noncomputable def F_X3_advance_L165_4 (X : XW) (a : Nat) : Nat → Int32 → ST → ST
  | 0 => fun x_75 σ_76 => σ_76
  | k_ + 1 => F_X3_advance_B165_4 X a (F_X3_advance_L165_4 X a k_)

theorem F_X3_advance_L165_4_s {X : XW} {a : Nat} {k_ : Nat} {x_75 : Int32} {σ_76 : ST} : F_X3_advance_L165_4 X a (k_ + 1) x_75 σ_76 = F_X3_advance_B165_4 X a (F_X3_advance_L165_4 X a k_) x_75 σ_76 := rfl

noncomputable def F_X3_advance_B165_7 (X : XW) (a : Nat) (B165_7 : Int32 → ST → ST) (x_92 : Int32) (σ_93 : ST) : ST :=
  if x_92.toInt < 4 then q_let (F_X3_size X σ_93 a : Int32) (fun r_96 => if x_92.toInt < r_96.toInt then q_let (σ_93.1 a 5 : Int32) (fun f_99 => q_let (f_99 * (10 : Int32) : Int32) (fun z_100 => q_let (F_X3_signAt X σ_93 a x_92 : Int32) (fun r_101 => q_let (z_100 + r_101 : Int32) (fun z_103 => q_let (z_103 - (48 : Int32) : Int32) (fun z_104 => q_let (q_si σ_93 a 5 z_104 : ST) (fun σ_105 => q_let (x_92 + 1 : Int32) (fun z_106 => B165_7 z_106 σ_105))))))) else σ_93) else σ_93

noncomputable def F_X3_advance_L165_7 (X : XW) (a : Nat) : Nat → Int32 → ST → ST
  | 0 => fun x_92 σ_93 => σ_93
  | k_ + 1 => F_X3_advance_B165_7 X a (F_X3_advance_L165_7 X a k_)

theorem F_X3_advance_L165_7_s {X : XW} {a : Nat} {k_ : Nat} {x_92 : Int32} {σ_93 : ST} : F_X3_advance_L165_7 X a (k_ + 1) x_92 σ_93 = F_X3_advance_B165_7 X a (F_X3_advance_L165_7 X a k_) x_92 σ_93 := rfl

noncomputable def F_X3_advance_J117_3 (X : XW) (r_10 : Int32) (σ_8 : ST) (a : Nat) : ST :=
  if r_10.toInt < 48 then if r_10.toInt = 59 then q_let (q_si σ_8 a 4 (3 : Int32) : ST) (fun σ_17 => q_let (σ_17.1 a 2 : Int32) (fun f_18 => q_let (f_18 + (1 : Int32) : Int32) (fun z_19 => q_let (q_si σ_17 a 3 z_19 : ST) (fun σ_20 => σ_20)))) else if r_10.toInt = 60 then q_let (q_si σ_8 a 4 (3 : Int32) : ST) (fun σ_22 => q_let (σ_22.1 a 2 : Int32) (fun f_23 => q_let (f_23 + (1 : Int32) : Int32) (fun z_24 => q_let (q_si σ_22 a 3 z_24 : ST) (fun σ_25 => σ_25)))) else if r_10.toInt = 62 then q_let (q_si σ_8 a 4 (3 : Int32) : ST) (fun σ_27 => q_let (σ_27.1 a 2 : Int32) (fun f_28 => q_let (f_28 + (1 : Int32) : Int32) (fun z_29 => q_let (q_si σ_27 a 3 z_29 : ST) (fun σ_30 => σ_30)))) else if r_10.toInt = 61 then q_let (q_si σ_8 a 4 (3 : Int32) : ST) (fun σ_36 => q_let (σ_36.1 a 2 : Int32) (fun f_37 => q_let (f_37 + (1 : Int32) : Int32) (fun z_38 => q_let (q_si σ_36 a 3 z_38 : ST) (fun σ_39 => σ_39)))) else q_let (q_si σ_8 a 4 (4 : Int32) : ST) (fun σ_32 => q_let (σ_32.1 a 2 : Int32) (fun f_33 => q_let (f_33 + (1 : Int32) : Int32) (fun z_34 => q_let (q_si σ_32 a 3 z_34 : ST) (fun σ_35 => σ_35)))) else if 57 < r_10.toInt then if r_10.toInt = 59 then q_let (q_si σ_8 a 4 (3 : Int32) : ST) (fun σ_42 => q_let (σ_42.1 a 2 : Int32) (fun f_43 => q_let (f_43 + (1 : Int32) : Int32) (fun z_44 => q_let (q_si σ_42 a 3 z_44 : ST) (fun σ_45 => σ_45)))) else if r_10.toInt = 60 then q_let (q_si σ_8 a 4 (3 : Int32) : ST) (fun σ_47 => q_let (σ_47.1 a 2 : Int32) (fun f_48 => q_let (f_48 + (1 : Int32) : Int32) (fun z_49 => q_let (q_si σ_47 a 3 z_49 : ST) (fun σ_50 => σ_50)))) else if r_10.toInt = 62 then q_let (q_si σ_8 a 4 (3 : Int32) : ST) (fun σ_52 => q_let (σ_52.1 a 2 : Int32) (fun f_53 => q_let (f_53 + (1 : Int32) : Int32) (fun z_54 => q_let (q_si σ_52 a 3 z_54 : ST) (fun σ_55 => σ_55)))) else if r_10.toInt = 61 then q_let (q_si σ_8 a 4 (3 : Int32) : ST) (fun σ_61 => q_let (σ_61.1 a 2 : Int32) (fun f_62 => q_let (f_62 + (1 : Int32) : Int32) (fun z_63 => q_let (q_si σ_61 a 3 z_63 : ST) (fun σ_64 => σ_64)))) else q_let (q_si σ_8 a 4 (4 : Int32) : ST) (fun σ_57 => q_let (σ_57.1 a 2 : Int32) (fun f_58 => q_let (f_58 + (1 : Int32) : Int32) (fun z_59 => q_let (q_si σ_57 a 3 z_59 : ST) (fun σ_60 => σ_60)))) else q_let (F_X3_endOfRun X σ_8 a (48 : Int32) (57 : Int32) : Int32) (fun r_67 => q_let (q_si σ_8 a 3 r_67 : ST) (fun σ_69 => q_let (F_X3_size X σ_69 a : Int32) (fun r_70 => if 4 < r_70.toInt then q_let (q_si σ_69 a 4 (4 : Int32) : ST) (fun σ_90 => q_let (q_si σ_90 a 5 (0 : Int32) : ST) (fun σ_91 => F_X3_advance_L165_7 X a ((2147483647 - (0 : Int32).toInt).toNat + 1) (0 : Int32) σ_91)) else q_let (q_si σ_69 a 4 (2 : Int32) : ST) (fun σ_73 => q_let (q_si σ_73 a 5 (0 : Int32) : ST) (fun σ_74 => F_X3_advance_L165_4 X a ((2147483647 - (0 : Int32).toInt).toNat + 1) (0 : Int32) σ_74)))))

noncomputable def F_X3_advance_J52_2 (X : XW) (σ_3 : ST) (a : Nat) : ST :=
  q_let (σ_3.1 a 2 : Int32) (fun f_7 => q_let (q_si σ_3 a 3 f_7 : ST) (fun σ_8 => q_let (F_X3_signAt X σ_8 a (0 : Int32) : Int32) (fun r_10 => q_let (σ_8.1 a 2 : Int32) (fun f_12 => q_let (σ_8.1 a 1 : Int32) (fun f_13 => if f_12.toInt < f_13.toInt then if r_10.toInt < 97 then F_X3_advance_J117_3 X r_10 σ_8 a else if 122 < r_10.toInt then F_X3_advance_J117_3 X r_10 σ_8 a else q_let (q_si σ_8 a 4 (1 : Int32) : ST) (fun σ_109 => q_let (F_X3_endOfRun X σ_109 a (97 : Int32) (122 : Int32) : Int32) (fun r_112 => q_let (q_si σ_109 a 3 r_112 : ST) (fun σ_114 => σ_114))) else q_let (q_si σ_8 a 4 (0 : Int32) : ST) (fun σ_115 => σ_115))))))

noncomputable def F_X3_advance_B8_1 (X : XW) (a : Nat) (B8_1 : ST → ST) (σ_3 : ST) : ST :=
  q_let (σ_3.1 a 2 : Int32) (fun f_5 => q_let (σ_3.1 a 1 : Int32) (fun f_6 => if f_5.toInt < f_6.toInt then q_let (F_X3_signAt X σ_3 a (0 : Int32) : Int32) (fun r_118 => if r_118.toInt = 10 then q_let (σ_3.1 a 2 : Int32) (fun f_121 => q_let (f_121 + (1 : Int32) : Int32) (fun z_122 => q_let (q_si σ_3 a 2 z_122 : ST) (fun σ_123 => B8_1 σ_123))) else q_let (F_X3_signAt X σ_3 a (0 : Int32) : Int32) (fun r_125 => if r_125.toInt = 32 then q_let (σ_3.1 a 2 : Int32) (fun f_128 => q_let (f_128 + (1 : Int32) : Int32) (fun z_129 => q_let (q_si σ_3 a 2 z_129 : ST) (fun σ_130 => B8_1 σ_130))) else F_X3_advance_J52_2 X σ_3 a)) else F_X3_advance_J52_2 X σ_3 a))

noncomputable def F_X3_advance_L8_1 (X : XW) (a : Nat) : Nat → ST → ST
  | 0 => fun σ_3 => σ_3
  | k_ + 1 => F_X3_advance_B8_1 X a (F_X3_advance_L8_1 X a k_)

theorem F_X3_advance_L8_1_s {X : XW} {a : Nat} {k_ : Nat} {σ_3 : ST} : F_X3_advance_L8_1 X a (k_ + 1) σ_3 = F_X3_advance_B8_1 X a (F_X3_advance_L8_1 X a k_) σ_3 := rfl

noncomputable def F_X3_advance (X : XW) (σ : ST) (a : Nat) : ST :=
  q_let (σ.1 a 3 : Int32) (fun f_1 => q_let (q_si σ a 2 f_1 : ST) (fun σ_2 => F_X3_advance_L8_1 X a ((2147483647 - (σ_2.1 a 2).toInt).toNat + 1) σ_2))

noncomputable def F_X3_start (X : XW) (σ : ST) (a : Nat) (r1 : Nat) (v2 : Int32) : ST :=
  q_let (q_st σ a r1 : ST) (fun σ_1 => q_let (q_len X r1 : Int32) (fun n_2 => q_let (F_J9_min_7cf53 X σ_1 v2 n_2 : Int32) (fun r_3 => q_let (F_J9_max_7cf53 X σ_1 (0 : Int32) r_3 : Int32) (fun r_6 => q_let (q_si σ_1 a 1 r_6 : ST) (fun σ_8 => q_let (q_si σ_8 a 3 (0 : Int32) : ST) (fun σ_9 => q_let (q_si σ_9 a 6 (0 : Int32) : ST) (fun σ_10 => q_let (q_si σ_10 a 7 ((-1) : Int32) : ST) (fun σ_11 => q_let (F_X3_advance X σ_11 a : ST) (fun σ_13 => σ_13)))))))))

noncomputable def F_X3_isWord_B23_1 (X : XW) (σ : ST) (r1 : Nat) (a : Nat) (B23_1 : Int32 → Int32) (x_8 : Int32) : Int32 :=
  q_let (F_J0_length_8abf5 X σ r1 : Int32) (fun r_10 => if x_8.toInt < r_10.toInt then q_let (F_J0_charAt_5068e X σ r1 x_8 : Int32) (fun r_13 => q_let (F_X3_signAt X σ a x_8 : Int32) (fun r_15 => if r_13.toInt = r_15.toInt then q_let (x_8 + 1 : Int32) (fun z_18 => B23_1 z_18) else (0 : Int32))) else (1 : Int32))

noncomputable def F_X3_isWord_L23_1 (X : XW) (σ : ST) (r1 : Nat) (a : Nat) : Nat → Int32 → Int32
  | 0 => fun x_8 => (0 : Int32)
  | k_ + 1 => F_X3_isWord_B23_1 X σ r1 a (F_X3_isWord_L23_1 X σ r1 a k_)

theorem F_X3_isWord_L23_1_s {X : XW} {σ : ST} {r1 : Nat} {a : Nat} {k_ : Nat} {x_8 : Int32} : F_X3_isWord_L23_1 X σ r1 a (k_ + 1) x_8 = F_X3_isWord_B23_1 X σ r1 a (F_X3_isWord_L23_1 X σ r1 a k_) x_8 := rfl

noncomputable def F_X3_isWord (X : XW) (σ : ST) (a : Nat) (r1 : Nat) : Int32 :=
  q_let (σ.1 a 4 : Int32) (fun f_1 => if f_1.toInt = 1 then q_let (F_X3_size X σ a : Int32) (fun r_3 => q_let (F_J0_length_8abf5 X σ r1 : Int32) (fun r_5 => if r_3.toInt = r_5.toInt then F_X3_isWord_L23_1 X σ r1 a ((2147483647 - (0 : Int32).toInt).toNat + 1) (0 : Int32) else (0 : Int32))) else (0 : Int32))

noncomputable def F_X3_fails (X : XW) (σ : ST) (a : Nat) (v1 : Int32) : Int32 × ST :=
  q_let (σ.1 a 4 : Int32) (fun f_1 => if f_1.toInt = 4 then q_let (q_si σ a 6 (1 : Int32) : ST) (fun σ_6 => q_let (σ_6.1 a 2 : Int32) (fun f_7 => q_let (q_si σ_6 a 7 f_7 : ST) (fun σ_8 => ((0 : Int32), σ_8)))) else q_let (q_si σ a 6 v1 : ST) (fun σ_3 => q_let (σ_3.1 a 2 : Int32) (fun f_4 => q_let (q_si σ_3 a 7 f_4 : ST) (fun σ_5 => ((0 : Int32), σ_5)))))

noncomputable def F_X3_passWord (X : XW) (σ : ST) (a : Nat) (r1 : Nat) : Int32 × ST :=
  q_let (F_X3_isWord X σ a r1 : Int32) (fun r_1 => if r_1.toInt = 0 then q_bi (F_X3_fails X σ a (2 : Int32)) (fun r_7 σ_8 => (r_7, σ_8)) else q_let (F_X3_advance X σ a : ST) (fun σ_5 => ((1 : Int32), σ_5)))

noncomputable def F_X3_mustBeNumber (X : XW) (σ : ST) (a : Nat) (v1 : Int32) (v2 : Int32) : Int32 × ST :=
  q_let (σ.1 a 4 : Int32) (fun f_1 => if f_1.toInt = 2 then q_let (σ.1 a 5 : Int32) (fun f_3 => if f_3.toInt < v1.toInt then q_bi (F_X3_fails X σ a (4 : Int32)) (fun r_6 σ_7 => if r_6.toInt = 0 then ((0 : Int32), σ_7) else ((1 : Int32), σ_7)) else q_let (σ.1 a 5 : Int32) (fun f_9 => if v2.toInt < f_9.toInt then q_bi (F_X3_fails X σ a (4 : Int32)) (fun r_12 σ_13 => if r_12.toInt = 0 then ((0 : Int32), σ_13) else ((1 : Int32), σ_13)) else ((1 : Int32), σ))) else q_bi (F_X3_fails X σ a (2 : Int32)) (fun r_16 σ_17 => (r_16, σ_17)))

noncomputable def F_X3_passNumber (X : XW) (σ : ST) (a : Nat) (v1 : Int32) (v2 : Int32) : Int32 × ST :=
  q_bi (F_X3_mustBeNumber X σ a v1 v2) (fun r_1 σ_2 => if r_1.toInt = 0 then (((-1) : Int32), σ_2) else q_let (σ_2.1 a 5 : Int32) (fun f_4 => q_let (F_X3_advance X σ_2 a : ST) (fun σ_6 => (f_4, σ_6))))

noncomputable def F_X3_passSemicolon (X : XW) (σ : ST) (a : Nat) : Int32 × ST :=
  q_let (σ.1 a 4 : Int32) (fun f_1 => if f_1.toInt = 3 then q_let (F_X3_signAt X σ a (0 : Int32) : Int32) (fun r_7 => if r_7.toInt = 59 then q_let (F_X3_advance X σ a : ST) (fun σ_11 => ((1 : Int32), σ_11)) else q_bi (F_X3_fails X σ a (2 : Int32)) (fun r_13 σ_14 => (r_13, σ_14))) else q_bi (F_X3_fails X σ a (2 : Int32)) (fun r_4 σ_5 => (r_4, σ_5)))

noncomputable def F_X3_isReserved_B4_1 (X : XW) (σ : ST) (a : Nat) (B4_1 : Int32 → Int32 → Int32) (x_1 : Int32) (x_2 : Int32) : Int32 :=
  q_let (F_J0_length_8abf5 X σ 8 : Int32) (fun r_4 => if x_2.toInt < r_4.toInt then q_let (F_J0_charAt_5068e X σ 8 x_2 : Int32) (fun r_7 => if r_7.toInt = 32 then q_let (F_X3_size X σ a : Int32) (fun r_18 => if x_1.toInt = r_18.toInt then (1 : Int32) else q_let (x_2 + 1 : Int32) (fun z_21 => B4_1 (0 : Int32) z_21)) else if x_1.toInt < 0 then q_let (x_2 + 1 : Int32) (fun z_11 => B4_1 x_1 z_11) else q_let (F_X3_signAt X σ a x_1 : Int32) (fun r_12 => if r_7.toInt = r_12.toInt then q_let (x_1 + (1 : Int32) : Int32) (fun z_16 => q_let (x_2 + 1 : Int32) (fun z_17 => B4_1 z_16 z_17)) else q_let (x_2 + 1 : Int32) (fun z_15 => B4_1 ((-1) : Int32) z_15))) else (0 : Int32))

noncomputable def F_X3_isReserved_L4_1 (X : XW) (σ : ST) (a : Nat) : Nat → Int32 → Int32 → Int32
  | 0 => fun x_1 x_2 => (0 : Int32)
  | k_ + 1 => F_X3_isReserved_B4_1 X σ a (F_X3_isReserved_L4_1 X σ a k_)

theorem F_X3_isReserved_L4_1_s {X : XW} {σ : ST} {a : Nat} {k_ : Nat} {x_1 : Int32} {x_2 : Int32} : F_X3_isReserved_L4_1 X σ a (k_ + 1) x_1 x_2 = F_X3_isReserved_B4_1 X σ a (F_X3_isReserved_L4_1 X σ a k_) x_1 x_2 := rfl

noncomputable def F_X3_isReserved (X : XW) (σ : ST) (a : Nat) : Int32 :=
  F_X3_isReserved_L4_1 X σ a ((2147483647 - (0 : Int32).toInt).toNat + 1) (0 : Int32) (0 : Int32)

noncomputable def F_X3_mustBeName (X : XW) (σ : ST) (a : Nat) : Int32 × ST :=
  q_let (σ.1 a 4 : Int32) (fun f_1 => if f_1.toInt = 1 then q_let (F_X3_size X σ a : Int32) (fun r_7 => if 8 < r_7.toInt then q_bi (F_X3_fails X σ a (2 : Int32)) (fun r_11 σ_12 => if r_11.toInt = 0 then ((0 : Int32), σ_12) else ((1 : Int32), σ_12)) else q_let (F_X3_isReserved X σ a : Int32) (fun r_14 => if r_14.toInt = 0 then ((1 : Int32), σ) else q_bi (F_X3_fails X σ a (2 : Int32)) (fun r_18 σ_19 => if r_18.toInt = 0 then ((0 : Int32), σ_19) else ((1 : Int32), σ_19)))) else q_bi (F_X3_fails X σ a (2 : Int32)) (fun r_4 σ_5 => if r_4.toInt = 0 then ((0 : Int32), σ_5) else ((1 : Int32), σ_5)))

noncomputable def F_X6_isNamed_B22_1 (X : XW) (r_1 : Int32) (v1 : Int32) (σ : ST) (a : Nat) (r2 : Nat) (B22_1 : Int32 → Int32) (x_6 : Int32) : Int32 :=
  if x_6.toInt < r_1.toInt then q_let (v1 * (8 : Int32) : Int32) (fun z_9 => q_let (z_9 + x_6 : Int32) (fun z_10 => q_let (F_X5_get X σ (q_rf X a 6) z_10 : Int32) (fun r_11 => q_let (F_X3_signAt X σ r2 x_6 : Int32) (fun r_13 => if r_11.toInt = r_13.toInt then q_let (x_6 + 1 : Int32) (fun z_16 => B22_1 z_16) else (0 : Int32))))) else (1 : Int32)

noncomputable def F_X6_isNamed_L22_1 (X : XW) (r_1 : Int32) (v1 : Int32) (σ : ST) (a : Nat) (r2 : Nat) : Nat → Int32 → Int32
  | 0 => fun x_6 => (0 : Int32)
  | k_ + 1 => F_X6_isNamed_B22_1 X r_1 v1 σ a r2 (F_X6_isNamed_L22_1 X r_1 v1 σ a r2 k_)

theorem F_X6_isNamed_L22_1_s {X : XW} {r_1 : Int32} {v1 : Int32} {σ : ST} {a : Nat} {r2 : Nat} {k_ : Nat} {x_6 : Int32} : F_X6_isNamed_L22_1 X r_1 v1 σ a r2 (k_ + 1) x_6 = F_X6_isNamed_B22_1 X r_1 v1 σ a r2 (F_X6_isNamed_L22_1 X r_1 v1 σ a r2 k_) x_6 := rfl

noncomputable def F_X6_isNamed (X : XW) (σ : ST) (a : Nat) (v1 : Int32) (r2 : Nat) : Int32 :=
  q_let (F_X5_get X σ (q_rf X a 7) v1 : Int32) (fun r_1 => q_let (F_X3_size X σ r2 : Int32) (fun r_3 => if r_1.toInt = r_3.toInt then F_X6_isNamed_L22_1 X r_1 v1 σ a r2 ((2147483647 - (0 : Int32).toInt).toNat + 1) (0 : Int32) else (0 : Int32)))

noncomputable def F_X6_playerNamed_B2_1 (X : XW) (σ : ST) (a : Nat) (r1 : Nat) (B2_1 : Int32 → Int32) (x_1 : Int32) : Int32 :=
  q_let (σ.1 a 4 : Int32) (fun f_3 => if x_1.toInt < f_3.toInt then q_let (F_X6_isNamed X σ a x_1 r1 : Int32) (fun r_5 => if r_5.toInt = 0 then q_let (x_1 + 1 : Int32) (fun z_8 => B2_1 z_8) else x_1) else ((-1) : Int32))

noncomputable def F_X6_playerNamed_L2_1 (X : XW) (σ : ST) (a : Nat) (r1 : Nat) : Nat → Int32 → Int32
  | 0 => fun x_1 => (0 : Int32)
  | k_ + 1 => F_X6_playerNamed_B2_1 X σ a r1 (F_X6_playerNamed_L2_1 X σ a r1 k_)

theorem F_X6_playerNamed_L2_1_s {X : XW} {σ : ST} {a : Nat} {r1 : Nat} {k_ : Nat} {x_1 : Int32} : F_X6_playerNamed_L2_1 X σ a r1 (k_ + 1) x_1 = F_X6_playerNamed_B2_1 X σ a r1 (F_X6_playerNamed_L2_1 X σ a r1 k_) x_1 := rfl

noncomputable def F_X6_playerNamed (X : XW) (σ : ST) (a : Nat) (r1 : Nat) : Int32 :=
  F_X6_playerNamed_L2_1 X σ a r1 ((2147483647 - (0 : Int32).toInt).toNat + 1) (0 : Int32)

noncomputable def F_X6_addPlayer_E56_2 (X : XW) (σ_7 : ST) (a : Nat) (r1 : Nat) : ST :=
  q_let (σ_7.1 a 4 : Int32) (fun f_12 => q_let (F_X3_size X σ_7 r1 : Int32) (fun r_13 => q_let (F_X5_set X σ_7 (q_rf X a 7) f_12 r_13 : ST) (fun σ_16 => q_let (σ_16.1 a 4 : Int32) (fun f_17 => q_let (f_17 + (1 : Int32) : Int32) (fun z_18 => q_let (q_si σ_16 a 4 z_18 : ST) (fun σ_19 => σ_19))))))

noncomputable def F_X6_addPlayer_B21_1 (X : XW) (r1 : Nat) (a : Nat) (B21_1 : Int32 → ST → ST) (x_6 : Int32) (σ_7 : ST) : ST :=
  q_let (F_X3_size X σ_7 r1 : Int32) (fun r_9 => if x_6.toInt < r_9.toInt then q_let (σ_7.1 a 4 : Int32) (fun f_20 => q_let (f_20 * (8 : Int32) : Int32) (fun z_21 => q_let (z_21 + x_6 : Int32) (fun z_22 => q_let (F_X3_signAt X σ_7 r1 x_6 : Int32) (fun r_23 => q_let (F_X5_set X σ_7 (q_rf X a 6) z_22 r_23 : ST) (fun σ_26 => q_let (x_6 + 1 : Int32) (fun z_27 => B21_1 z_27 σ_26)))))) else F_X6_addPlayer_E56_2 X σ_7 a r1)

noncomputable def F_X6_addPlayer_L21_1 (X : XW) (r1 : Nat) (a : Nat) : Nat → Int32 → ST → ST
  | 0 => fun x_6 σ_7 => σ_7
  | k_ + 1 => F_X6_addPlayer_B21_1 X r1 a (F_X6_addPlayer_L21_1 X r1 a k_)

theorem F_X6_addPlayer_L21_1_s {X : XW} {r1 : Nat} {a : Nat} {k_ : Nat} {x_6 : Int32} {σ_7 : ST} : F_X6_addPlayer_L21_1 X r1 a (k_ + 1) x_6 σ_7 = F_X6_addPlayer_B21_1 X r1 a (F_X6_addPlayer_L21_1 X r1 a k_) x_6 σ_7 := rfl

noncomputable def F_X6_addPlayer (X : XW) (σ : ST) (a : Nat) (r1 : Nat) : ST :=
  q_let (σ.1 a 4 : Int32) (fun f_1 => if f_1.toInt < 6 then q_let (F_X3_size X σ r1 : Int32) (fun r_3 => if 8 < r_3.toInt then σ else F_X6_addPlayer_L21_1 X r1 a ((2147483647 - (0 : Int32).toInt).toNat + 1) (0 : Int32) σ) else σ)

noncomputable def F_X3_passPlayer (X : XW) (σ : ST) (a : Nat) (r1 : Nat) : Int32 × ST :=
  q_bi (F_X3_mustBeName X σ a) (fun r_1 σ_2 => if r_1.toInt = 0 then (((-1) : Int32), σ_2) else q_let (F_X6_playerNamed X σ_2 r1 a : Int32) (fun r_4 => if r_4.toInt = (-1) then q_bi (F_X3_fails X σ_2 a (3 : Int32)) (fun r_10 σ_11 => (((-1) : Int32), σ_11)) else q_let (F_X3_advance X σ_2 a : ST) (fun σ_8 => (r_4, σ_8))))

noncomputable def F_X6_copyFrom (X : XW) (σ : ST) (a : Nat) (r1 : Nat) : ST :=
  q_let (σ.1 r1 0 : Int32) (fun f_1 => q_let (q_si σ a 0 f_1 : ST) (fun σ_2 => q_let (σ_2.1 r1 1 : Int32) (fun f_3 => q_let (q_si σ_2 a 1 f_3 : ST) (fun σ_4 => q_let (σ_4.1 r1 2 : Int32) (fun f_5 => q_let (q_si σ_4 a 2 f_5 : ST) (fun σ_6 => q_let (σ_6.1 r1 3 : Int32) (fun f_7 => q_let (q_si σ_6 a 3 f_7 : ST) (fun σ_8 => q_let (σ_8.1 r1 4 : Int32) (fun f_9 => q_let (q_si σ_8 a 4 f_9 : ST) (fun σ_10 => q_let (F_X5_copyFrom X σ_10 (q_rf X a 5) (q_rf X r1 5) : ST) (fun σ_12 => q_let (F_X5_copyFrom X σ_12 (q_rf X a 6) (q_rf X r1 6) : ST) (fun σ_14 => q_let (F_X5_copyFrom X σ_14 (q_rf X a 7) (q_rf X r1 7) : ST) (fun σ_16 => σ_16)))))))))))))

noncomputable def F_X6_kindAfter (X : XW) (σ : ST) (a : Nat) (v1 : Int32) (v2 : Int32) : Int32 :=
  q_let (σ.1 a 2 : Int32) (fun f_1 => if f_1.toInt = 2 then v1 else q_let (σ.1 a 0 : Int32) (fun f_3 => if 0 < f_3.toInt then q_let (σ.1 a 2 : Int32) (fun f_5 => if f_5.toInt = 0 then q_let (v1 + v2 : Int32) (fun z_11 => q_let (σ.1 a 0 : Int32) (fun f_12 => q_let (F_J9_floorMod_7cf53 X σ z_11 f_12 : Int32) (fun r_13 => r_13))) else q_let (v1 - v2 : Int32) (fun z_7 => q_let (σ.1 a 0 : Int32) (fun f_8 => q_let (F_J9_floorMod_7cf53 X σ z_7 f_8 : Int32) (fun r_9 => r_9)))) else v1))

noncomputable def F_X6_playerAfter (X : XW) (σ : ST) (a : Nat) (v1 : Int32) (v2 : Int32) : Int32 :=
  q_let (σ.1 a 4 : Int32) (fun f_1 => if 0 < f_1.toInt then q_let (v1 + v2 : Int32) (fun z_3 => q_let (σ.1 a 4 : Int32) (fun f_4 => q_let (F_J9_floorMod_7cf53 X σ z_3 f_4 : Int32) (fun r_5 => r_5))) else (0 : Int32))

noncomputable def F_X6_kindAfterDoubt (X : XW) (σ : ST) (a : Nat) (v1 : Int32) : Int32 :=
  q_let (σ.1 a 0 : Int32) (fun f_1 => if 0 < f_1.toInt then q_let (σ.1 a 2 : Int32) (fun f_3 => if f_3.toInt = 1 then q_let (v1 - (1 : Int32) : Int32) (fun z_9 => q_let (σ.1 a 0 : Int32) (fun f_10 => q_let (F_J9_floorMod_7cf53 X σ z_9 f_10 : Int32) (fun r_11 => r_11))) else q_let (v1 + (1 : Int32) : Int32) (fun z_5 => q_let (σ.1 a 0 : Int32) (fun f_6 => q_let (F_J9_floorMod_7cf53 X σ z_5 f_6 : Int32) (fun r_7 => r_7)))) else v1)

noncomputable def F_X0_reset (X : XW) (σ : ST) (a : Nat) : ST :=
  q_let (F_X6_reset X σ (q_rf X a 0) : ST) (fun σ_2 => q_let (F_X1_reset X σ_2 (q_rf X a 1) : ST) (fun σ_4 => q_let (F_X2_clear X σ_4 (q_rf X a 2) : ST) (fun σ_6 => q_let (F_X8_clear X σ_6 (q_rf X a 3) : ST) (fun σ_8 => q_let (q_si σ_8 a 4 (0 : Int32) : ST) (fun σ_9 => q_let (q_si σ_9 a 5 (0 : Int32) : ST) (fun σ_10 => q_let (q_si σ_10 a 6 ((-1) : Int32) : ST) (fun σ_11 => q_let (q_si σ_11 a 7 (0 : Int32) : ST) (fun σ_12 => σ_12))))))))

noncomputable def F_X0_copyFrom (X : XW) (σ : ST) (a : Nat) (r1 : Nat) : ST :=
  q_let (F_X6_copyFrom X σ (q_rf X a 0) (q_rf X r1 0) : ST) (fun σ_2 => q_let (F_X1_copyFrom X σ_2 (q_rf X a 1) (q_rf X r1 1) : ST) (fun σ_4 => q_let (F_X2_copyFrom X σ_4 (q_rf X a 2) (q_rf X r1 2) : ST) (fun σ_6 => q_let (F_X8_copyFrom X σ_6 (q_rf X a 3) (q_rf X r1 3) : ST) (fun σ_8 => q_let (σ_8.1 r1 4 : Int32) (fun f_9 => q_let (q_si σ_8 a 4 f_9 : ST) (fun σ_10 => q_let (σ_10.1 r1 5 : Int32) (fun f_11 => q_let (q_si σ_10 a 5 f_11 : ST) (fun σ_12 => q_let (σ_12.1 r1 6 : Int32) (fun f_13 => q_let (q_si σ_12 a 6 f_13 : ST) (fun σ_14 => q_let (σ_14.1 r1 7 : Int32) (fun f_15 => q_let (q_si σ_14 a 7 f_15 : ST) (fun σ_16 => σ_16))))))))))))

noncomputable def F_X0_clearWanted (X : XW) (σ : ST) (a : Nat) : ST :=
  q_let (F_X5_clear X σ (q_rf X a 8) : ST) (fun σ_2 => q_let (q_si σ_2 a 9 (0 : Int32) : ST) (fun σ_3 => σ_3))

noncomputable def F_X0_want (X : XW) (σ : ST) (a : Nat) (v1 : Int32) (v2 : Int32) : ST :=
  if v1.toInt = (-1) then σ else q_let (F_X5_add X σ (q_rf X a 8) v1 v2 : ST) (fun σ_3 => q_let (σ_3.1 a 9 : Int32) (fun f_4 => q_let (f_4 + v2 : Int32) (fun z_5 => q_let (q_si σ_3 a 9 z_5 : ST) (fun σ_6 => σ_6))))

noncomputable def F_X0_holdsWanted_B2_1 (X : XW) (σ : ST) (a : Nat) (B2_1 : Int32 → Int32) (x_1 : Int32) : Int32 :=
  q_let (σ.1 (q_rf X a 0) 0 : Int32) (fun f_3 => if x_1.toInt < f_3.toInt then q_let (σ.1 a 5 : Int32) (fun f_5 => q_let (F_X1_heldBy X σ (q_rf X a 1) f_5 x_1 : Int32) (fun r_6 => q_let (F_X5_get X σ (q_rf X a 8) x_1 : Int32) (fun r_8 => if r_6.toInt < r_8.toInt then (0 : Int32) else q_let (x_1 + 1 : Int32) (fun z_11 => B2_1 z_11)))) else (1 : Int32))

noncomputable def F_X0_holdsWanted_L2_1 (X : XW) (σ : ST) (a : Nat) : Nat → Int32 → Int32
  | 0 => fun x_1 => (0 : Int32)
  | k_ + 1 => F_X0_holdsWanted_B2_1 X σ a (F_X0_holdsWanted_L2_1 X σ a k_)

theorem F_X0_holdsWanted_L2_1_s {X : XW} {σ : ST} {a : Nat} {k_ : Nat} {x_1 : Int32} : F_X0_holdsWanted_L2_1 X σ a (k_ + 1) x_1 = F_X0_holdsWanted_B2_1 X σ a (F_X0_holdsWanted_L2_1 X σ a k_) x_1 := rfl

noncomputable def F_X0_holdsWanted (X : XW) (σ : ST) (a : Nat) : Int32 :=
  F_X0_holdsWanted_L2_1 X σ a ((2147483647 - (0 : Int32).toInt).toNat + 1) (0 : Int32)

noncomputable def F_X0_layWanted_E70_2 (X : XW) (σ_6 : ST) (a : Nat) : ST :=
  q_let (q_si σ_6 a 7 (1 : Int32) : ST) (fun σ_10 => σ_10)

noncomputable def F_X0_layWanted_B17_1 (X : XW) (a : Nat) (B17_1 : Int32 → ST → ST) (x_5 : Int32) (σ_6 : ST) : ST :=
  q_let (σ_6.1 (q_rf X a 0) 0 : Int32) (fun f_8 => if x_5.toInt < f_8.toInt then q_let (σ_6.1 a 5 : Int32) (fun f_11 => q_let (F_X5_get X σ_6 (q_rf X a 8) x_5 : Int32) (fun r_12 => q_let (F_X1_moveToHeap X σ_6 (q_rf X a 1) f_11 x_5 r_12 : ST) (fun σ_15 => q_let (F_X5_get X σ_15 (q_rf X a 8) x_5 : Int32) (fun r_16 => q_let (F_X2_add X σ_15 (q_rf X a 2) x_5 r_16 : ST) (fun σ_19 => q_let (x_5 + 1 : Int32) (fun z_20 => B17_1 z_20 σ_19)))))) else F_X0_layWanted_E70_2 X σ_6 a)

noncomputable def F_X0_layWanted_L17_1 (X : XW) (a : Nat) : Nat → Int32 → ST → ST
  | 0 => fun x_5 σ_6 => σ_6
  | k_ + 1 => F_X0_layWanted_B17_1 X a (F_X0_layWanted_L17_1 X a k_)

theorem F_X0_layWanted_L17_1_s {X : XW} {a : Nat} {k_ : Nat} {x_5 : Int32} {σ_6 : ST} : F_X0_layWanted_L17_1 X a (k_ + 1) x_5 σ_6 = F_X0_layWanted_B17_1 X a (F_X0_layWanted_L17_1 X a k_) x_5 σ_6 := rfl

noncomputable def F_X0_layWanted (X : XW) (σ : ST) (a : Nat) : ST :=
  q_let (σ.1 a 5 : Int32) (fun f_1 => q_let (σ.1 a 4 : Int32) (fun f_2 => q_let (F_X2_begin X σ (q_rf X a 2) f_1 f_2 : ST) (fun σ_4 => F_X0_layWanted_L17_1 X a ((2147483647 - (0 : Int32).toInt).toNat + 1) (0 : Int32) σ_4)))

noncomputable def F_X0_winIfRid (X : XW) (σ : ST) (a : Nat) : ST :=
  q_let (σ.1 a 5 : Int32) (fun f_1 => q_let (F_X5_get X σ (q_rf X (q_rf X a 1) 2) f_1 : Int32) (fun r_2 => if r_2.toInt = 0 then q_let (σ.1 a 5 : Int32) (fun f_5 => q_let (q_si σ a 6 f_5 : ST) (fun σ_6 => σ_6)) else σ))

noncomputable def F_X0_letLie (X : XW) (σ : ST) (a : Nat) : ST :=
  q_let (q_si σ a 7 (0 : Int32) : ST) (fun σ_1 => q_let (F_X0_winIfRid X σ_1 a : ST) (fun σ_3 => q_let (σ_3.1 a 4 : Int32) (fun f_4 => q_let (F_X6_kindAfter X σ_3 (q_rf X a 0) f_4 (1 : Int32) : Int32) (fun r_6 => q_let (q_si σ_3 a 4 r_6 : ST) (fun σ_8 => q_let (σ_8.1 a 5 : Int32) (fun f_9 => q_let (F_X6_playerAfter X σ_8 (q_rf X a 0) f_9 (1 : Int32) : Int32) (fun r_11 => q_let (q_si σ_8 a 5 r_11 : ST) (fun σ_13 => σ_13))))))))

noncomputable def F_X0_challenge_J41_3 (X : XW) (σ : ST) (a : Nat) (x_3 : Int32) (x_4 : Int32) (x_5 : Int32) : Int32 × ST :=
  q_let (σ.1 a 5 : Int32) (fun f_6 => q_let (F_X5_add X σ (q_rf X (q_rf X a 1) 5) f_6 (1 : Int32) : ST) (fun σ_9 => if x_3.toInt = 0 then q_let (σ_9.1 a 5 : Int32) (fun f_11 => q_let (F_X5_add X σ_9 (q_rf X (q_rf X a 1) 6) f_11 (1 : Int32) : ST) (fun σ_14 => q_let (F_X1_takeHeap X σ_14 (q_rf X a 1) x_4 : ST) (fun σ_16 => q_let (F_X2_clear X σ_16 (q_rf X a 2) : ST) (fun σ_18 => q_let (q_si σ_18 a 7 (0 : Int32) : ST) (fun σ_19 => q_let (σ_19.1 a 4 : Int32) (fun f_20 => q_let (F_X6_kindAfterDoubt X σ_19 (q_rf X a 0) f_20 : Int32) (fun r_21 => q_let (q_si σ_19 a 4 r_21 : ST) (fun σ_23 => q_let (q_si σ_23 a 5 x_5 : ST) (fun σ_24 => (x_4, σ_24)))))))))) else q_let (F_X0_winIfRid X σ_9 a : ST) (fun σ_26 => q_let (F_X1_takeHeap X σ_26 (q_rf X a 1) x_4 : ST) (fun σ_28 => q_let (F_X2_clear X σ_28 (q_rf X a 2) : ST) (fun σ_30 => q_let (q_si σ_30 a 7 (0 : Int32) : ST) (fun σ_31 => q_let (σ_31.1 a 4 : Int32) (fun f_32 => q_let (F_X6_kindAfterDoubt X σ_31 (q_rf X a 0) f_32 : Int32) (fun r_33 => q_let (q_si σ_31 a 4 r_33 : ST) (fun σ_35 => q_let (q_si σ_35 a 5 x_5 : ST) (fun σ_36 => (x_4, σ_36)))))))))))

noncomputable def F_X0_challenge_J28_2 (X : XW) (x_3 : Int32) (σ : ST) (a : Nat) (v1 : Int32) (x_4 : Int32) : Int32 × ST :=
  if x_3.toInt = 0 then F_X0_challenge_J41_3 X σ a x_3 x_4 v1 else q_let (σ.1 a 5 : Int32) (fun f_38 => F_X0_challenge_J41_3 X σ a x_3 x_4 f_38)

noncomputable def F_X0_challenge_J15_1 (X : XW) (σ : ST) (a : Nat) (v1 : Int32) (x_3 : Int32) : Int32 × ST :=
  if x_3.toInt = 0 then q_let (σ.1 a 5 : Int32) (fun f_40 => F_X0_challenge_J28_2 X x_3 σ a v1 f_40) else F_X0_challenge_J28_2 X x_3 σ a v1 v1

noncomputable def F_X0_challenge (X : XW) (σ : ST) (a : Nat) (v1 : Int32) : Int32 × ST :=
  q_let (F_X2_topTruth X σ (q_rf X a 2) : Int32) (fun r_1 => if r_1.toInt = 0 then F_X0_challenge_J15_1 X σ a v1 (1 : Int32) else F_X0_challenge_J15_1 X σ a v1 (0 : Int32))

noncomputable def F_X0_unknownTo (X : XW) (σ : ST) (a : Nat) (v1 : Int32) (v2 : Int32) : Int32 :=
  q_let (F_X5_get X σ (q_rf X (q_rf X a 0) 5) v2 : Int32) (fun r_1 => q_let (F_X1_knownTo X σ (q_rf X a 1) v1 v2 : Int32) (fun r_3 => q_let (r_1 - r_3 : Int32) (fun z_5 => z_5)))

noncomputable def F_X0_allUnknownTo_B4_1 (X : XW) (σ : ST) (a : Nat) (v1 : Int32) (B4_1 : Int32 → Int32 → Int32) (x_1 : Int32) (x_2 : Int32) : Int32 :=
  q_let (σ.1 (q_rf X a 0) 0 : Int32) (fun f_4 => if x_2.toInt < f_4.toInt then q_let (F_X0_unknownTo X σ a v1 x_2 : Int32) (fun r_6 => q_let (x_1 + r_6 : Int32) (fun z_8 => q_let (x_2 + 1 : Int32) (fun z_9 => B4_1 z_8 z_9))) else x_1)

noncomputable def F_X0_allUnknownTo_L4_1 (X : XW) (σ : ST) (a : Nat) (v1 : Int32) : Nat → Int32 → Int32 → Int32
  | 0 => fun x_1 x_2 => (0 : Int32)
  | k_ + 1 => F_X0_allUnknownTo_B4_1 X σ a v1 (F_X0_allUnknownTo_L4_1 X σ a v1 k_)

theorem F_X0_allUnknownTo_L4_1_s {X : XW} {σ : ST} {a : Nat} {v1 : Int32} {k_ : Nat} {x_1 : Int32} {x_2 : Int32} : F_X0_allUnknownTo_L4_1 X σ a v1 (k_ + 1) x_1 x_2 = F_X0_allUnknownTo_B4_1 X σ a v1 (F_X0_allUnknownTo_L4_1 X σ a v1 k_) x_1 x_2 := rfl

noncomputable def F_X0_allUnknownTo (X : XW) (σ : ST) (a : Nat) (v1 : Int32) : Int32 :=
  F_X0_allUnknownTo_L4_1 X σ a v1 ((2147483647 - (0 : Int32).toInt).toNat + 1) (0 : Int32) (0 : Int32)

noncomputable def F_X0_isImpossibleFor (X : XW) (σ : ST) (a : Nat) (v1 : Int32) : Int32 :=
  q_let (σ.1 a 4 : Int32) (fun f_1 => q_let (F_X5_get X σ (q_rf X (q_rf X a 0) 5) f_1 : Int32) (fun r_2 => q_let (σ.1 a 4 : Int32) (fun f_4 => q_let (F_X1_knownTo X σ (q_rf X a 1) v1 f_4 : Int32) (fun r_5 => q_let (r_2 - r_5 : Int32) (fun z_7 => q_let (F_X2_topSize X σ (q_rf X a 2) : Int32) (fun r_8 => if z_7.toInt < r_8.toInt then (1 : Int32) else (0 : Int32)))))))

noncomputable def F_X11_waysToTake_B12_1 (X : XW) (v1 : Int32) (v0 : Int32) (B12_1 : Int64 → Int32 → Int64) (w_2 : Int64) (x_3 : Int32) : Int64 :=
  if x_3.toInt < v1.toInt then q_let (v0 - x_3 : Int32) (fun z_6 => q_let (z_6.toInt64 : Int64) (fun y_7 => q_let (w_2 * y_7 : Int64) (fun y_8 => q_let (x_3 + (1 : Int32) : Int32) (fun z_9 => q_let (z_9.toInt64 : Int64) (fun y_11 => q_let (y_8 / y_11 : Int64) (fun y_12 => q_let (x_3 + 1 : Int32) (fun z_13 => B12_1 y_12 z_13))))))) else w_2

noncomputable def F_X11_waysToTake_L12_1 (X : XW) (v1 : Int32) (v0 : Int32) : Nat → Int64 → Int32 → Int64
  | 0 => fun w_2 x_3 => (0 : Int64)
  | k_ + 1 => F_X11_waysToTake_B12_1 X v1 v0 (F_X11_waysToTake_L12_1 X v1 v0 k_)

theorem F_X11_waysToTake_L12_1_s {X : XW} {v1 : Int32} {v0 : Int32} {k_ : Nat} {w_2 : Int64} {x_3 : Int32} : F_X11_waysToTake_L12_1 X v1 v0 (k_ + 1) w_2 x_3 = F_X11_waysToTake_B12_1 X v1 v0 (F_X11_waysToTake_L12_1 X v1 v0 k_) w_2 x_3 := rfl

noncomputable def F_X11_waysToTake (X : XW) (σ : ST) (v0 : Int32) (v1 : Int32) : Int64 :=
  if v0.toInt < v1.toInt then (0 : Int64) else F_X11_waysToTake_L12_1 X v1 v0 ((2147483647 - (0 : Int32).toInt).toNat + 1) (1 : Int64) (0 : Int32)

noncomputable def F_X0_trueWays (X : XW) (σ : ST) (a : Nat) (v1 : Int32) : Int64 :=
  q_let (σ.1 a 4 : Int32) (fun f_1 => q_let (F_X0_unknownTo X σ a v1 f_1 : Int32) (fun r_2 => q_let (F_X2_topSize X σ (q_rf X a 2) : Int32) (fun r_4 => q_let (F_X11_waysToTake X σ r_2 r_4 : Int64) (fun r_6 => r_6))))

noncomputable def F_X0_allWays (X : XW) (σ : ST) (a : Nat) (v1 : Int32) : Int64 :=
  q_let (F_X0_allUnknownTo X σ a v1 : Int32) (fun r_1 => q_let (F_X2_topSize X σ (q_rf X a 2) : Int32) (fun r_3 => q_let (F_X11_waysToTake X σ r_1 r_3 : Int64) (fun r_5 => r_5)))

noncomputable def F_X0_worthTop (X : XW) (σ : ST) (a : Nat) (v1 : Int32) : Int64 :=
  q_let (σ.1 (q_rf X a 2) 1 : Int32) (fun f_1 => q_let (f_1.toInt64 : Int64) (fun y_2 => q_let (F_X0_allWays X σ a v1 : Int64) (fun r_3 => q_let (F_X0_trueWays X σ a v1 : Int64) (fun r_5 => q_let ((2 : Int64) * r_5 : Int64) (fun y_7 => q_let (r_3 - y_7 : Int64) (fun y_8 => q_let (y_2 * y_8 : Int64) (fun y_9 => y_9)))))))

noncomputable def F_X0_turnsAhead (X : XW) (σ : ST) (a : Nat) (v1 : Int32) : Int32 :=
  q_let (σ.1 a 5 : Int32) (fun f_1 => q_let (v1 - f_1 : Int32) (fun z_2 => q_let (F_X6_playerAfter X σ (q_rf X a 0) z_2 (0 : Int32) : Int32) (fun r_4 => if r_4.toInt = 0 then q_let (σ.1 a 7 : Int32) (fun f_7 => if f_7.toInt = 0 then r_4 else q_let (σ.1 (q_rf X a 0) 4 : Int32) (fun f_9 => f_9)) else r_4)))

noncomputable def F_X0_fallingKind (X : XW) (σ : ST) (a : Nat) (v1 : Int32) (v2 : Int32) : Int32 :=
  q_let (σ.1 a 4 : Int32) (fun f_1 => q_let (F_X0_turnsAhead X σ a v1 : Int32) (fun r_2 => q_let (σ.1 (q_rf X a 0) 4 : Int32) (fun f_4 => q_let (v2 * f_4 : Int32) (fun z_5 => q_let (r_2 + z_5 : Int32) (fun z_6 => q_let (F_X6_kindAfter X σ (q_rf X a 0) f_1 z_6 : Int32) (fun r_7 => r_7))))))

noncomputable def F_X0_foresee_B83_4 (X : XW) (v2 : Int32) (a : Nat) (v1 : Int32) (r_1 : Int32) (B83_4 : Int32 → ST → ST) (x_13 : Int32) (σ_14 : ST) : ST :=
  if x_13.toInt < v2.toInt then q_let (σ_14.1 a 12 : Int32) (fun f_17 => if f_17.toInt = (-1) then q_let (F_X0_fallingKind X σ_14 a v1 x_13 : Int32) (fun r_19 => q_let (F_X5_get X σ_14 (q_rf X a 10) r_19 : Int32) (fun r_21 => q_let (σ_14.1 (q_rf X a 0) 3 : Int32) (fun f_23 => q_let (F_J9_min_7cf53 X σ_14 r_21 f_23 : Int32) (fun r_24 => q_let (-r_24 : Int32) (fun z_26 => q_let (F_X5_add X σ_14 (q_rf X a 10) r_19 z_26 : ST) (fun σ_28 => q_let (σ_28.1 a 11 : Int32) (fun f_29 => q_let (f_29 + r_24 : Int32) (fun z_30 => q_let (q_si σ_28 a 11 z_30 : ST) (fun σ_31 => if 0 < r_24.toInt then q_let (q_si σ_31 a 13 r_19 : ST) (fun σ_48 => q_let (σ_48.1 a 11 : Int32) (fun f_49 => if f_49.toInt = r_1.toInt then q_let (x_13 + (1 : Int32) : Int32) (fun z_52 => q_let (q_si σ_48 a 12 z_52 : ST) (fun σ_53 => q_let (x_13 + 1 : Int32) (fun z_54 => B83_4 z_54 σ_53))) else q_let (x_13 + 1 : Int32) (fun z_51 => B83_4 z_51 σ_48))) else q_let (σ_31.1 a 14 : Int32) (fun f_33 => if f_33.toInt = (-1) then q_let (q_si σ_31 a 14 x_13 : ST) (fun σ_41 => q_let (σ_41.1 a 11 : Int32) (fun f_42 => if f_42.toInt = r_1.toInt then q_let (x_13 + (1 : Int32) : Int32) (fun z_45 => q_let (q_si σ_41 a 12 z_45 : ST) (fun σ_46 => q_let (x_13 + 1 : Int32) (fun z_47 => B83_4 z_47 σ_46))) else q_let (x_13 + 1 : Int32) (fun z_44 => B83_4 z_44 σ_41))) else q_let (σ_31.1 a 11 : Int32) (fun f_35 => if f_35.toInt = r_1.toInt then q_let (x_13 + (1 : Int32) : Int32) (fun z_38 => q_let (q_si σ_31 a 12 z_38 : ST) (fun σ_39 => q_let (x_13 + 1 : Int32) (fun z_40 => B83_4 z_40 σ_39))) else q_let (x_13 + 1 : Int32) (fun z_37 => B83_4 z_37 σ_31)))))))))))) else σ_14) else σ_14

noncomputable def F_X0_foresee_L83_4 (X : XW) (v2 : Int32) (a : Nat) (v1 : Int32) (r_1 : Int32) : Nat → Int32 → ST → ST
  | 0 => fun x_13 σ_14 => σ_14
  | k_ + 1 => F_X0_foresee_B83_4 X v2 a v1 r_1 (F_X0_foresee_L83_4 X v2 a v1 r_1 k_)

theorem F_X0_foresee_L83_4_s {X : XW} {v2 : Int32} {a : Nat} {v1 : Int32} {r_1 : Int32} {k_ : Nat} {x_13 : Int32} {σ_14 : ST} : F_X0_foresee_L83_4 X v2 a v1 r_1 (k_ + 1) x_13 σ_14 = F_X0_foresee_B83_4 X v2 a v1 r_1 (F_X0_foresee_L83_4 X v2 a v1 r_1 k_) x_13 σ_14 := rfl

noncomputable def F_X0_foresee_J67_3 (X : XW) (σ_8 : ST) (a : Nat) (v2 : Int32) (v1 : Int32) (r_1 : Int32) (x_9 : Int32) : ST :=
  q_let (q_si σ_8 a 12 x_9 : ST) (fun σ_10 => q_let (q_si σ_10 a 13 ((-1) : Int32) : ST) (fun σ_11 => q_let (q_si σ_11 a 14 ((-1) : Int32) : ST) (fun σ_12 => F_X0_foresee_L83_4 X v2 a v1 r_1 ((2147483647 - (0 : Int32).toInt).toNat + 1) (0 : Int32) σ_12)))

noncomputable def F_X0_foresee_E52_6 (X : XW) (σ_4 : ST) (a : Nat) (r_1 : Int32) (v2 : Int32) (v1 : Int32) : ST :=
  q_let (q_si σ_4 a 11 (0 : Int32) : ST) (fun σ_8 => if r_1.toInt = 0 then F_X0_foresee_J67_3 X σ_8 a v2 v1 r_1 (0 : Int32) else F_X0_foresee_J67_3 X σ_8 a v2 v1 r_1 ((-1) : Int32))

noncomputable def F_X0_foresee_B15_1 (X : XW) (a : Nat) (v1 : Int32) (r_1 : Int32) (v2 : Int32) (B15_1 : Int32 → ST → ST) (x_3 : Int32) (σ_4 : ST) : ST :=
  q_let (σ_4.1 (q_rf X a 0) 0 : Int32) (fun f_6 => if x_3.toInt < f_6.toInt then q_let (F_X1_heldBy X σ_4 (q_rf X a 1) v1 x_3 : Int32) (fun r_56 => q_let (F_X5_set X σ_4 (q_rf X a 10) x_3 r_56 : ST) (fun σ_59 => q_let (x_3 + 1 : Int32) (fun z_60 => B15_1 z_60 σ_59))) else F_X0_foresee_E52_6 X σ_4 a r_1 v2 v1)

noncomputable def F_X0_foresee_L15_1 (X : XW) (a : Nat) (v1 : Int32) (r_1 : Int32) (v2 : Int32) : Nat → Int32 → ST → ST
  | 0 => fun x_3 σ_4 => σ_4
  | k_ + 1 => F_X0_foresee_B15_1 X a v1 r_1 v2 (F_X0_foresee_L15_1 X a v1 r_1 v2 k_)

theorem F_X0_foresee_L15_1_s {X : XW} {a : Nat} {v1 : Int32} {r_1 : Int32} {v2 : Int32} {k_ : Nat} {x_3 : Int32} {σ_4 : ST} : F_X0_foresee_L15_1 X a v1 r_1 v2 (k_ + 1) x_3 σ_4 = F_X0_foresee_B15_1 X a v1 r_1 v2 (F_X0_foresee_L15_1 X a v1 r_1 v2 k_) x_3 σ_4 := rfl

noncomputable def F_X0_foresee (X : XW) (σ : ST) (a : Nat) (v1 : Int32) (v2 : Int32) : ST :=
  q_let (F_X5_get X σ (q_rf X (q_rf X a 1) 2) v1 : Int32) (fun r_1 => F_X0_foresee_L15_1 X a v1 r_1 v2 ((2147483647 - (0 : Int32).toInt).toNat + 1) (0 : Int32) σ)

noncomputable def F_X0_sixteenthsLeft (X : XW) (σ : ST) (a : Nat) (v1 : Int32) (v2 : Int32) (v3 : Int32) : Int32 :=
  q_let (σ.1 a 5 : Int32) (fun f_1 => q_let (F_X5_get X σ (q_rf X (q_rf X a 1) 2) f_1 : Int32) (fun r_2 => q_let (r_2 - v1 : Int32) (fun z_4 => q_let (z_4 - v2 : Int32) (fun z_5 => q_let ((16 : Int32) * z_5 : Int32) (fun z_6 => if 0 < v2.toInt then q_let (σ.1 (q_rf X a 2) 1 : Int32) (fun f_9 => q_let (f_9 + v1 : Int32) (fun z_10 => q_let (z_10 + v2 : Int32) (fun z_11 => q_let (v3 * z_11 : Int32) (fun z_12 => q_let (z_6 + z_12 : Int32) (fun z_13 => z_13))))) else q_let (z_6 + (0 : Int32) : Int32) (fun z_8 => z_8))))))

noncomputable def F_X0_lyingOf_B4_1 (X : XW) (σ : ST) (a : Nat) (v1 : Int32) (B4_1 : Int32 → Int32 → Int32) (x_1 : Int32) (x_2 : Int32) : Int32 :=
  q_let (σ.1 (q_rf X a 0) 4 : Int32) (fun f_4 => if x_2.toInt < f_4.toInt then q_let (F_X1_laidBy X σ (q_rf X a 1) x_2 v1 : Int32) (fun r_6 => q_let (x_1 + r_6 : Int32) (fun z_8 => q_let (x_2 + 1 : Int32) (fun z_9 => B4_1 z_8 z_9))) else x_1)

noncomputable def F_X0_lyingOf_L4_1 (X : XW) (σ : ST) (a : Nat) (v1 : Int32) : Nat → Int32 → Int32 → Int32
  | 0 => fun x_1 x_2 => (0 : Int32)
  | k_ + 1 => F_X0_lyingOf_B4_1 X σ a v1 (F_X0_lyingOf_L4_1 X σ a v1 k_)

theorem F_X0_lyingOf_L4_1_s {X : XW} {σ : ST} {a : Nat} {v1 : Int32} {k_ : Nat} {x_1 : Int32} {x_2 : Int32} : F_X0_lyingOf_L4_1 X σ a v1 (k_ + 1) x_1 x_2 = F_X0_lyingOf_B4_1 X σ a v1 (F_X0_lyingOf_L4_1 X σ a v1 k_) x_1 x_2 := rfl

noncomputable def F_X0_lyingOf (X : XW) (σ : ST) (a : Nat) (v1 : Int32) : Int32 :=
  F_X0_lyingOf_L4_1 X σ a v1 ((2147483647 - (0 : Int32).toInt).toNat + 1) (0 : Int32) (0 : Int32)

noncomputable def F_X9_readHead (X : XW) (σ : ST) (a : Nat) : Int32 × ST :=
  q_bi (F_X3_passWord X σ a 0) (fun r_1 σ_2 => if r_1.toInt = 0 then ((0 : Int32), σ_2) else q_bi (F_X3_passNumber X σ_2 a (2 : Int32) (10 : Int32)) (fun r_6 σ_7 => if r_6.toInt = (-1) then ((0 : Int32), σ_7) else q_bi (F_X3_passWord X σ_7 a 1) (fun r_9 σ_10 => if r_9.toInt = 0 then ((0 : Int32), σ_10) else q_bi (F_X3_passNumber X σ_10 a (1 : Int32) (8 : Int32)) (fun r_14 σ_15 => if r_14.toInt = (-1) then ((0 : Int32), σ_15) else q_let (q_si σ_15 (q_rf X (q_rf X a 8) 0) 0 r_6 : ST) (fun σ_17 => q_let (q_si σ_17 (q_rf X (q_rf X a 8) 0) 1 r_14 : ST) (fun σ_18 => q_bi (F_X3_passSemicolon X σ_18 a) (fun r_19 σ_20 => (r_19, σ_20))))))))

noncomputable def F_X9_readLaw (X : XW) (σ : ST) (a : Nat) : Int32 × ST :=
  q_let (σ.1 a 9 : Int32) (fun f_1 => if f_1.toInt = 0 then q_let (q_si σ a 9 (1 : Int32) : ST) (fun σ_3 => q_let (F_X3_advance X σ_3 a : ST) (fun σ_5 => q_let (F_X3_isWord X σ_5 a 3 : Int32) (fun r_6 => if r_6.toInt = 0 then q_let (F_X3_isWord X σ_5 a 4 : Int32) (fun r_9 => if r_9.toInt = 0 then q_let (F_X3_isWord X σ_5 a 5 : Int32) (fun r_12 => if r_12.toInt = 0 then q_bi (F_X3_fails X σ_5 a (2 : Int32)) (fun r_16 σ_17 => (r_16, σ_17)) else q_let (q_si σ_5 (q_rf X (q_rf X a 8) 0) 2 (2 : Int32) : ST) (fun σ_18 => q_let (F_X3_advance X σ_18 a : ST) (fun σ_20 => q_bi (F_X3_passSemicolon X σ_20 a) (fun r_21 σ_22 => (r_21, σ_22))))) else q_let (q_si σ_5 (q_rf X (q_rf X a 8) 0) 2 (1 : Int32) : ST) (fun σ_23 => q_let (F_X3_advance X σ_23 a : ST) (fun σ_25 => q_bi (F_X3_passSemicolon X σ_25 a) (fun r_26 σ_27 => (r_26, σ_27))))) else q_let (q_si σ_5 (q_rf X (q_rf X a 8) 0) 2 (0 : Int32) : ST) (fun σ_28 => q_let (F_X3_advance X σ_28 a : ST) (fun σ_30 => q_bi (F_X3_passSemicolon X σ_30 a) (fun r_31 σ_32 => (r_31, σ_32))))))) else q_bi (F_X3_fails X σ a (5 : Int32)) (fun r_34 σ_35 => (r_34, σ_35)))

noncomputable def F_X9_readMost (X : XW) (σ : ST) (a : Nat) : Int32 × ST :=
  q_let (σ.1 a 10 : Int32) (fun f_1 => if f_1.toInt = 0 then q_let (q_si σ a 10 (1 : Int32) : ST) (fun σ_3 => q_let (F_X3_advance X σ_3 a : ST) (fun σ_5 => q_bi (F_X3_passNumber X σ_5 a (1 : Int32) (4 : Int32)) (fun r_8 σ_9 => if r_8.toInt = (-1) then ((0 : Int32), σ_9) else q_let (q_si σ_9 (q_rf X (q_rf X a 8) 0) 3 r_8 : ST) (fun σ_11 => q_bi (F_X3_passSemicolon X σ_11 a) (fun r_12 σ_13 => (r_12, σ_13)))))) else q_bi (F_X3_fails X σ a (5 : Int32)) (fun r_15 σ_16 => (r_15, σ_16)))

noncomputable def F_X9_readSixteenths (X : XW) (σ : ST) (a : Nat) (r1 : Nat) (r2 : Nat) (v3 : Int32) : Int32 × ST :=
  q_let (F_X3_isWord X σ a r1 : Int32) (fun r_1 => if r_1.toInt = 0 then ((1 : Int32), σ) else q_let (F_X3_advance X σ a : ST) (fun σ_5 => q_bi (F_X3_passNumber X σ_5 a (0 : Int32) (16 : Int32)) (fun r_8 σ_9 => q_let (F_X5_set X σ_9 r2 v3 r_8 : ST) (fun σ_11 => if r_8.toInt = (-1) then ((0 : Int32), σ_11) else ((1 : Int32), σ_11)))))

noncomputable def F_X9_readPlayer (X : XW) (σ : ST) (a : Nat) : Int32 × ST :=
  q_let (σ.1 (q_rf X (q_rf X a 8) 0) 4 : Int32) (fun f_1 => if f_1.toInt < 6 then q_let (F_X3_advance X σ a : ST) (fun σ_4 => q_bi (F_X3_mustBeName X σ_4 a) (fun r_5 σ_6 => if r_5.toInt = 0 then ((0 : Int32), σ_6) else q_let (F_X6_playerNamed X σ_6 (q_rf X (q_rf X a 8) 0) a : Int32) (fun r_8 => if r_8.toInt = (-1) then q_let (F_X6_addPlayer X σ_6 (q_rf X (q_rf X a 8) 0) a : ST) (fun σ_12 => q_let (F_X3_advance X σ_12 a : ST) (fun σ_14 => q_bi (F_X9_readSixteenths X σ_14 a 9 (q_rf X (q_rf X (q_rf X a 8) 1) 3) f_1) (fun r_15 σ_16 => if r_15.toInt = 0 then ((0 : Int32), σ_16) else q_bi (F_X9_readSixteenths X σ_16 a 10 (q_rf X (q_rf X (q_rf X a 8) 1) 4) f_1) (fun r_18 σ_19 => if r_18.toInt = 0 then ((0 : Int32), σ_19) else q_bi (F_X3_passSemicolon X σ_19 a) (fun r_21 σ_22 => if r_21.toInt = 0 then ((0 : Int32), σ_22) else ((1 : Int32), σ_22)))))) else q_bi (F_X3_fails X σ_6 a (3 : Int32)) (fun r_25 σ_26 => (r_25, σ_26))))) else q_bi (F_X3_fails X σ a (6 : Int32)) (fun r_28 σ_29 => (r_28, σ_29)))

noncomputable def F_X9_readHand_J92_1 (X : XW) (σ_18 : ST) (a : Nat) (f_20 : Int32) (r_8 : Int32) (r_3 : Int32) (x_25 : Int32) : Int32 × ST :=
  if x_25.toInt = 0 then q_let (F_X5_get X σ_18 (q_rf X (q_rf X (q_rf X a 8) 0) 5) f_20 : Int32) (fun r_30 => q_let (r_30 + r_8 : Int32) (fun z_32 => q_let (σ_18.1 (q_rf X (q_rf X a 8) 0) 1 : Int32) (fun f_33 => if f_33.toInt < z_32.toInt then q_bi (F_X3_fails X σ_18 a (5 : Int32)) (fun r_47 σ_48 => (r_47, σ_48)) else q_let ((1 : Int32) <<< (f_20 &&& 31) : Int32) (fun z_35 => q_let (F_X5_add X σ_18 (q_rf X a 11) r_3 z_35 : ST) (fun σ_37 => q_let (F_X5_add X σ_37 (q_rf X (q_rf X (q_rf X a 8) 0) 5) f_20 r_8 : ST) (fun σ_39 => q_let (F_X1_deal X σ_39 (q_rf X (q_rf X a 8) 1) r_3 f_20 r_8 : ST) (fun σ_41 => q_let (F_X3_advance X σ_41 a : ST) (fun σ_43 => q_bi (F_X3_passSemicolon X σ_43 a) (fun r_44 σ_45 => (r_44, σ_45)))))))))) else q_bi (F_X3_fails X σ_18 a (5 : Int32)) (fun r_28 σ_29 => (r_28, σ_29))

noncomputable def F_X9_readHand (X : XW) (σ : ST) (a : Nat) : Int32 × ST :=
  q_let (F_X3_advance X σ a : ST) (fun σ_2 => q_bi (F_X3_passPlayer X σ_2 a (q_rf X (q_rf X a 8) 0)) (fun r_3 σ_4 => if r_3.toInt = (-1) then ((0 : Int32), σ_4) else q_bi (F_X3_passNumber X σ_4 a (0 : Int32) (8 : Int32)) (fun r_8 σ_9 => if r_8.toInt = (-1) then ((0 : Int32), σ_9) else q_bi (F_X3_passWord X σ_9 a 12) (fun r_11 σ_12 => if r_11.toInt = 0 then ((0 : Int32), σ_12) else q_let (σ_12.1 (q_rf X (q_rf X a 8) 0) 0 : Int32) (fun f_14 => q_let (f_14 - (1 : Int32) : Int32) (fun z_15 => q_bi (F_X3_mustBeNumber X σ_12 a (0 : Int32) z_15) (fun r_17 σ_18 => if r_17.toInt = 0 then ((0 : Int32), σ_18) else q_let (σ_18.1 a 5 : Int32) (fun f_20 => q_let (F_X5_get X σ_18 (q_rf X a 11) r_3 : Int32) (fun r_21 => q_let (r_21 >>> (f_20 &&& 31) : Int32) (fun z_23 => q_let (z_23 &&& (1 : Int32) : Int32) (fun z_24 => if z_24.toInt = 0 then F_X9_readHand_J92_1 X σ_18 a f_20 r_8 r_3 (0 : Int32) else F_X9_readHand_J92_1 X σ_18 a f_20 r_8 r_3 (1 : Int32))))))))))))

noncomputable def F_X9_readPart (X : XW) (σ : ST) (a : Nat) : Int32 × ST :=
  q_let (F_X3_isWord X σ a 2 : Int32) (fun r_1 => if r_1.toInt = 0 then q_let (F_X3_isWord X σ a 6 : Int32) (fun r_4 => if r_4.toInt = 0 then q_let (F_X3_isWord X σ a 7 : Int32) (fun r_7 => if r_7.toInt = 0 then q_let (F_X3_isWord X σ a 11 : Int32) (fun r_10 => if r_10.toInt = 0 then q_bi (F_X3_fails X σ a (2 : Int32)) (fun r_14 σ_15 => (r_14, σ_15)) else q_bi (F_X9_readHand X σ a) (fun r_16 σ_17 => (r_16, σ_17))) else q_bi (F_X9_readPlayer X σ a) (fun r_18 σ_19 => (r_18, σ_19))) else q_bi (F_X9_readMost X σ a) (fun r_20 σ_21 => (r_20, σ_21))) else q_bi (F_X9_readLaw X σ a) (fun r_22 σ_23 => (r_22, σ_23)))

noncomputable def F_X9_takes_B41_1 (X : XW) (a : Nat) (B41_1 : Int32 → ST → Int32 × ST) (x_12 : Int32) (σ_13 : ST) : Int32 × ST :=
  if x_12.toInt < 900 then q_let (σ_13.1 a 4 : Int32) (fun f_16 => if f_16.toInt = 0 then ((1 : Int32), σ_13) else q_bi (F_X9_readPart X σ_13 a) (fun r_18 σ_19 => if r_18.toInt = 0 then ((0 : Int32), σ_19) else q_let (x_12 + 1 : Int32) (fun z_21 => B41_1 z_21 σ_19))) else ((1 : Int32), σ_13)

noncomputable def F_X9_takes_L41_1 (X : XW) (a : Nat) : Nat → Int32 → ST → Int32 × ST
  | 0 => fun x_12 σ_13 => ((0 : Int32), σ_13)
  | k_ + 1 => F_X9_takes_B41_1 X a (F_X9_takes_L41_1 X a k_)

theorem F_X9_takes_L41_1_s {X : XW} {a : Nat} {k_ : Nat} {x_12 : Int32} {σ_13 : ST} : F_X9_takes_L41_1 X a (k_ + 1) x_12 σ_13 = F_X9_takes_B41_1 X a (F_X9_takes_L41_1 X a k_) x_12 σ_13 := rfl

noncomputable def F_X9_takes (X : XW) (σ : ST) (a : Nat) (r1 : Nat) (v2 : Int32) : Int32 × ST :=
  q_let (F_X0_reset X σ (q_rf X a 8) : ST) (fun σ_2 => q_let (q_si σ_2 a 9 (0 : Int32) : ST) (fun σ_3 => q_let (q_si σ_3 a 10 (0 : Int32) : ST) (fun σ_4 => q_let (F_X5_clear X σ_4 (q_rf X a 11) : ST) (fun σ_6 => q_let (F_X3_start X σ_6 a r1 v2 : ST) (fun σ_8 => q_bi (F_X9_readHead X σ_8 a) (fun r_9 σ_10 => if r_9.toInt = 0 then ((0 : Int32), σ_10) else F_X9_takes_L41_1 X a ((2147483647 - (0 : Int32).toInt).toNat + 1) (0 : Int32) σ_10))))))

noncomputable def F_X4_readEnd (X : XW) (σ : ST) (a : Nat) : Int32 × ST :=
  q_let (σ.1 a 10 : Int32) (fun f_1 => if f_1.toInt = 0 then q_bi (F_X3_fails X σ a (2 : Int32)) (fun r_21 σ_22 => (r_21, σ_22)) else q_let (σ.1 a 10 : Int32) (fun f_3 => q_let (f_3 - (1 : Int32) : Int32) (fun z_4 => q_let (q_si σ a 10 z_4 : ST) (fun σ_5 => q_let (σ_5.1 a 10 : Int32) (fun f_6 => q_let (F_X5_get X σ_5 (q_rf X a 9) f_6 : Int32) (fun r_7 => q_bi (F_X8_add X σ_5 (q_rf X a 8) (9 : Int32)) (fun r_10 σ_11 => q_let (F_X5_set X σ_11 (q_rf X (q_rf X a 8) 4) r_10 r_7 : ST) (fun σ_13 => q_let (F_X5_set X σ_13 (q_rf X (q_rf X a 8) 4) r_7 r_10 : ST) (fun σ_15 => q_let (F_X3_advance X σ_15 a : ST) (fun σ_17 => q_bi (F_X3_passSemicolon X σ_17 a) (fun r_18 σ_19 => (r_18, σ_19))))))))))))

noncomputable def F_X4_actionHere (X : XW) (σ : ST) (a : Nat) : Int32 :=
  q_let (F_X3_isWord X σ a 14 : Int32) (fun r_1 => if r_1.toInt = 0 then q_let (F_X3_isWord X σ a 9 : Int32) (fun r_4 => if r_4.toInt = 0 then q_let (F_X3_isWord X σ a 10 : Int32) (fun r_7 => if r_7.toInt = 0 then q_let (F_X3_isWord X σ a 15 : Int32) (fun r_10 => if r_10.toInt = 0 then q_let (F_X3_isWord X σ a 16 : Int32) (fun r_13 => if r_13.toInt = 0 then q_let (F_X3_isWord X σ a 17 : Int32) (fun r_16 => if r_16.toInt = 0 then ((-1) : Int32) else (8 : Int32)) else (4 : Int32)) else (3 : Int32)) else (2 : Int32)) else (1 : Int32)) else (0 : Int32))

noncomputable def F_X4_readTest (X : XW) (σ : ST) (a : Nat) (v1 : Int32) : Int32 × ST :=
  q_let (F_X3_isWord X σ a 18 : Int32) (fun r_1 => if r_1.toInt = 0 then q_let (F_X3_isWord X σ a 19 : Int32) (fun r_4 => if r_4.toInt = 0 then q_let (F_X3_isWord X σ a 20 : Int32) (fun r_7 => if r_7.toInt = 0 then q_let (F_X3_isWord X σ a 21 : Int32) (fun r_10 => if r_10.toInt = 0 then q_bi (F_X3_fails X σ a (2 : Int32)) (fun r_16 σ_17 => (r_16, σ_17)) else q_let (F_X3_advance X σ a : ST) (fun σ_14 => ((1 : Int32), σ_14))) else q_let (F_X5_set X σ (q_rf X (q_rf X a 8) 3) v1 (7 : Int32) : ST) (fun σ_20 => q_let (F_X3_advance X σ_20 a : ST) (fun σ_22 => ((1 : Int32), σ_22)))) else q_let (F_X5_set X σ (q_rf X (q_rf X a 8) 3) v1 (6 : Int32) : ST) (fun σ_25 => q_let (F_X3_advance X σ_25 a : ST) (fun σ_27 => ((1 : Int32), σ_27)))) else q_let (F_X5_set X σ (q_rf X (q_rf X a 8) 3) v1 (5 : Int32) : ST) (fun σ_30 => q_let (F_X3_advance X σ_30 a : ST) (fun σ_32 => ((1 : Int32), σ_32))))

noncomputable def F_X4_readOperands_J47_1 (X : XW) (r_1 : Int32) (a : Nat) (v1 : Int32) (σ_5 : ST) : Int32 × ST :=
  q_let (F_X8_hasComparison X σ_5 r_1 : Int32) (fun r_6 => if r_6.toInt = 0 then q_let (F_X8_highest X σ_5 r_1 : Int32) (fun r_9 => if r_9.toInt = (-1) then ((1 : Int32), σ_5) else if r_1.toInt = 4 then q_bi (F_X3_passNumber X σ_5 a (1 : Int32) r_9) (fun r_20 σ_21 => q_let (F_X5_set X σ_21 (q_rf X (q_rf X a 8) 7) v1 r_20 : ST) (fun σ_23 => if r_20.toInt = (-1) then ((0 : Int32), σ_23) else ((1 : Int32), σ_23))) else q_bi (F_X3_passNumber X σ_5 a (0 : Int32) r_9) (fun r_14 σ_15 => q_let (F_X5_set X σ_15 (q_rf X (q_rf X a 8) 7) v1 r_14 : ST) (fun σ_17 => if r_14.toInt = (-1) then ((0 : Int32), σ_17) else ((1 : Int32), σ_17)))) else q_let (F_X3_signAt X σ_5 a (0 : Int32) : Int32) (fun r_26 => q_let (σ_5.1 a 4 : Int32) (fun f_28 => if f_28.toInt = 3 then if r_26.toInt = 59 then q_bi (F_X3_fails X σ_5 a (2 : Int32)) (fun r_55 σ_56 => (r_55, σ_56)) else q_let (F_X5_set X σ_5 (q_rf X (q_rf X a 8) 6) v1 r_26 : ST) (fun σ_35 => q_let (F_X3_advance X σ_35 a : ST) (fun σ_37 => q_let (F_X8_highest X σ_37 r_1 : Int32) (fun r_38 => if r_38.toInt = (-1) then ((1 : Int32), σ_37) else if r_1.toInt = 4 then q_bi (F_X3_passNumber X σ_37 a (1 : Int32) r_38) (fun r_49 σ_50 => q_let (F_X5_set X σ_50 (q_rf X (q_rf X a 8) 7) v1 r_49 : ST) (fun σ_52 => if r_49.toInt = (-1) then ((0 : Int32), σ_52) else ((1 : Int32), σ_52))) else q_bi (F_X3_passNumber X σ_37 a (0 : Int32) r_38) (fun r_43 σ_44 => q_let (F_X5_set X σ_44 (q_rf X (q_rf X a 8) 7) v1 r_43 : ST) (fun σ_46 => if r_43.toInt = (-1) then ((0 : Int32), σ_46) else ((1 : Int32), σ_46)))))) else q_bi (F_X3_fails X σ_5 a (2 : Int32)) (fun r_31 σ_32 => (r_31, σ_32)))))

noncomputable def F_X4_readOperands (X : XW) (σ : ST) (a : Nat) (v1 : Int32) (r2 : Nat) : Int32 × ST :=
  q_let (F_X5_get X σ (q_rf X (q_rf X a 8) 3) v1 : Int32) (fun r_1 => q_let (F_X8_hasName X σ r_1 : Int32) (fun r_3 => if r_3.toInt = 0 then F_X4_readOperands_J47_1 X r_1 a v1 σ else q_bi (F_X3_passPlayer X σ a r2) (fun r_58 σ_59 => if r_58.toInt = (-1) then ((0 : Int32), σ_59) else q_let (F_X5_set X σ_59 (q_rf X (q_rf X a 8) 5) v1 r_58 : ST) (fun σ_62 => F_X4_readOperands_J47_1 X r_1 a v1 σ_62))))

noncomputable def F_X4_readStep_J72_2 (X : XW) (σ : ST) (a : Nat) (r_1 : Int32) (r1 : Nat) : Int32 × ST :=
  q_bi (F_X8_add X σ (q_rf X a 8) r_1) (fun r_6 σ_7 => q_let (σ_7.1 (q_rf X a 8) 1 : Int32) (fun f_8 => q_let (f_8 + (1 : Int32) : Int32) (fun z_9 => q_let (q_si σ_7 (q_rf X a 8) 1 z_9 : ST) (fun σ_10 => if (1 : Int) = 0 then q_let (F_X3_advance X σ_10 a : ST) (fun σ_13 => q_let (F_X8_isWhen X σ_13 r_1 : Int32) (fun r_14 => if r_14.toInt = 0 then q_bi (F_X4_readOperands X σ_13 a r_6 r1) (fun r_17 σ_18 => if r_17.toInt = 0 then ((0 : Int32), σ_18) else q_bi (F_X3_passSemicolon X σ_18 a) (fun r_20 σ_21 => if r_20.toInt = 0 then ((0 : Int32), σ_21) else ((1 : Int32), σ_21))) else q_bi (F_X4_readTest X σ_13 a r_6) (fun r_23 σ_24 => if r_23.toInt = 0 then ((0 : Int32), σ_24) else q_bi (F_X4_readOperands X σ_24 a r_6 r1) (fun r_26 σ_27 => if r_26.toInt = 0 then ((0 : Int32), σ_27) else q_bi (F_X3_passSemicolon X σ_27 a) (fun r_29 σ_30 => if r_29.toInt = 0 then ((0 : Int32), σ_30) else ((1 : Int32), σ_30)))))) else q_let (σ_10.1 a 10 : Int32) (fun f_32 => q_let (F_X5_set X σ_10 (q_rf X a 9) f_32 r_6 : ST) (fun σ_34 => q_let (σ_34.1 a 10 : Int32) (fun f_35 => q_let (f_35 + (1 : Int32) : Int32) (fun z_36 => q_let (q_si σ_34 a 10 z_36 : ST) (fun σ_37 => q_let (F_X3_advance X σ_37 a : ST) (fun σ_39 => q_let (F_X8_isWhen X σ_39 r_1 : Int32) (fun r_40 => if r_40.toInt = 0 then q_bi (F_X4_readOperands X σ_39 a r_6 r1) (fun r_43 σ_44 => if r_43.toInt = 0 then ((0 : Int32), σ_44) else q_bi (F_X3_passSemicolon X σ_44 a) (fun r_46 σ_47 => if r_46.toInt = 0 then ((0 : Int32), σ_47) else ((1 : Int32), σ_47))) else q_bi (F_X4_readTest X σ_39 a r_6) (fun r_49 σ_50 => if r_49.toInt = 0 then ((0 : Int32), σ_50) else q_bi (F_X4_readOperands X σ_50 a r_6 r1) (fun r_52 σ_53 => if r_52.toInt = 0 then ((0 : Int32), σ_53) else q_bi (F_X3_passSemicolon X σ_53 a) (fun r_55 σ_56 => if r_55.toInt = 0 then ((0 : Int32), σ_56) else ((1 : Int32), σ_56)))))))))))))))

noncomputable def F_X4_readStep_J47_1 (X : XW) (σ : ST) (a : Nat) (r_1 : Int32) (r1 : Nat) : Int32 × ST :=
  if (1 : Int) = 0 then F_X4_readStep_J72_2 X σ a r_1 r1 else q_let (σ.1 a 10 : Int32) (fun f_59 => if f_59.toInt < 3 then F_X4_readStep_J72_2 X σ a r_1 r1 else q_bi (F_X3_fails X σ a (7 : Int32)) (fun r_62 σ_63 => (r_62, σ_63)))

noncomputable def F_X4_readStep_J72_4 (X : XW) (σ : ST) (a : Nat) (r_1 : Int32) (x_64 : Int32) (r1 : Nat) : Int32 × ST :=
  q_bi (F_X8_add X σ (q_rf X a 8) r_1) (fun r_65 σ_66 => q_let (σ_66.1 (q_rf X a 8) 1 : Int32) (fun f_67 => q_let (f_67 + (1 : Int32) : Int32) (fun z_68 => q_let (q_si σ_66 (q_rf X a 8) 1 z_68 : ST) (fun σ_69 => if x_64.toInt = 0 then q_let (F_X3_advance X σ_69 a : ST) (fun σ_72 => q_let (F_X8_isWhen X σ_72 r_1 : Int32) (fun r_73 => if r_73.toInt = 0 then q_bi (F_X4_readOperands X σ_72 a r_65 r1) (fun r_76 σ_77 => if r_76.toInt = 0 then ((0 : Int32), σ_77) else q_bi (F_X3_passSemicolon X σ_77 a) (fun r_79 σ_80 => if r_79.toInt = 0 then ((0 : Int32), σ_80) else ((1 : Int32), σ_80))) else q_bi (F_X4_readTest X σ_72 a r_65) (fun r_82 σ_83 => if r_82.toInt = 0 then ((0 : Int32), σ_83) else q_bi (F_X4_readOperands X σ_83 a r_65 r1) (fun r_85 σ_86 => if r_85.toInt = 0 then ((0 : Int32), σ_86) else q_bi (F_X3_passSemicolon X σ_86 a) (fun r_88 σ_89 => if r_88.toInt = 0 then ((0 : Int32), σ_89) else ((1 : Int32), σ_89)))))) else q_let (σ_69.1 a 10 : Int32) (fun f_91 => q_let (F_X5_set X σ_69 (q_rf X a 9) f_91 r_65 : ST) (fun σ_93 => q_let (σ_93.1 a 10 : Int32) (fun f_94 => q_let (f_94 + (1 : Int32) : Int32) (fun z_95 => q_let (q_si σ_93 a 10 z_95 : ST) (fun σ_96 => q_let (F_X3_advance X σ_96 a : ST) (fun σ_98 => q_let (F_X8_isWhen X σ_98 r_1 : Int32) (fun r_99 => if r_99.toInt = 0 then q_bi (F_X4_readOperands X σ_98 a r_65 r1) (fun r_102 σ_103 => if r_102.toInt = 0 then ((0 : Int32), σ_103) else q_bi (F_X3_passSemicolon X σ_103 a) (fun r_105 σ_106 => if r_105.toInt = 0 then ((0 : Int32), σ_106) else ((1 : Int32), σ_106))) else q_bi (F_X4_readTest X σ_98 a r_65) (fun r_108 σ_109 => if r_108.toInt = 0 then ((0 : Int32), σ_109) else q_bi (F_X4_readOperands X σ_109 a r_65 r1) (fun r_111 σ_112 => if r_111.toInt = 0 then ((0 : Int32), σ_112) else q_bi (F_X3_passSemicolon X σ_112 a) (fun r_114 σ_115 => if r_114.toInt = 0 then ((0 : Int32), σ_115) else ((1 : Int32), σ_115)))))))))))))))

noncomputable def F_X4_readStep_J52_3 (X : XW) (σ : ST) (a : Nat) (r_1 : Int32) (r1 : Nat) (x_64 : Int32) : Int32 × ST :=
  if x_64.toInt = 0 then F_X4_readStep_J72_4 X σ a r_1 x_64 r1 else q_let (σ.1 a 10 : Int32) (fun f_118 => if f_118.toInt < 3 then F_X4_readStep_J72_4 X σ a r_1 x_64 r1 else q_bi (F_X3_fails X σ a (7 : Int32)) (fun r_121 σ_122 => (r_121, σ_122)))

noncomputable def F_X4_readStep (X : XW) (σ : ST) (a : Nat) (r1 : Nat) : Int32 × ST :=
  q_let (F_X4_actionHere X σ a : Int32) (fun r_1 => if r_1.toInt = (-1) then q_bi (F_X3_fails X σ a (2 : Int32)) (fun r_131 σ_132 => (r_131, σ_132)) else q_let (σ.1 (q_rf X a 8) 1 : Int32) (fun f_4 => if f_4.toInt < 30 then if r_1.toInt = 4 then F_X4_readStep_J47_1 X σ a r_1 r1 else q_let (F_X8_isWhen X σ r_1 : Int32) (fun r_124 => if r_124.toInt = 0 then F_X4_readStep_J52_3 X σ a r_1 r1 (0 : Int32) else F_X4_readStep_J47_1 X σ a r_1 r1) else q_bi (F_X3_fails X σ a (6 : Int32)) (fun r_128 σ_129 => (r_128, σ_129))))

noncomputable def F_X4_takes_E72_2 (X : XW) (σ_7 : ST) (a : Nat) : Int32 × ST :=
  q_let (q_si σ_7 (q_rf X a 8) 0 (1 : Int32) : ST) (fun σ_10 => q_let (σ_10.1 a 10 : Int32) (fun f_11 => if f_11.toInt = 0 then ((1 : Int32), σ_10) else q_bi (F_X3_fails X σ_10 a (2 : Int32)) (fun r_14 σ_15 => if r_14.toInt = 0 then ((0 : Int32), σ_15) else ((1 : Int32), σ_15))))

noncomputable def F_X4_takes_E72_3 (X : XW) (σ_7 : ST) (a : Nat) : Int32 × ST :=
  q_let (q_si σ_7 (q_rf X a 8) 0 (1 : Int32) : ST) (fun σ_19 => q_let (σ_19.1 a 10 : Int32) (fun f_20 => if f_20.toInt = 0 then ((1 : Int32), σ_19) else q_bi (F_X3_fails X σ_19 a (2 : Int32)) (fun r_23 σ_24 => if r_23.toInt = 0 then ((0 : Int32), σ_24) else ((1 : Int32), σ_24))))

noncomputable def F_X4_takes_B21_1 (X : XW) (a : Nat) (r3 : Nat) (B21_1 : Int32 → ST → Int32 × ST) (x_6 : Int32) (σ_7 : ST) : Int32 × ST :=
  if x_6.toInt < 300 then q_let (σ_7.1 a 4 : Int32) (fun f_17 => if f_17.toInt = 0 then F_X4_takes_E72_3 X σ_7 a else q_let (F_X3_isWord X σ_7 a 13 : Int32) (fun r_26 => if r_26.toInt = 0 then q_bi (F_X4_readStep X σ_7 a r3) (fun r_29 σ_30 => if r_29.toInt = 0 then ((0 : Int32), σ_30) else q_let (x_6 + 1 : Int32) (fun z_32 => B21_1 z_32 σ_30)) else q_bi (F_X4_readEnd X σ_7 a) (fun r_33 σ_34 => if r_33.toInt = 0 then ((0 : Int32), σ_34) else q_let (x_6 + 1 : Int32) (fun z_36 => B21_1 z_36 σ_34)))) else F_X4_takes_E72_2 X σ_7 a

noncomputable def F_X4_takes_L21_1 (X : XW) (a : Nat) (r3 : Nat) : Nat → Int32 → ST → Int32 × ST
  | 0 => fun x_6 σ_7 => ((0 : Int32), σ_7)
  | k_ + 1 => F_X4_takes_B21_1 X a r3 (F_X4_takes_L21_1 X a r3 k_)

theorem F_X4_takes_L21_1_s {X : XW} {a : Nat} {r3 : Nat} {k_ : Nat} {x_6 : Int32} {σ_7 : ST} : F_X4_takes_L21_1 X a r3 (k_ + 1) x_6 σ_7 = F_X4_takes_B21_1 X a r3 (F_X4_takes_L21_1 X a r3 k_) x_6 σ_7 := rfl

noncomputable def F_X4_takes (X : XW) (σ : ST) (a : Nat) (r1 : Nat) (v2 : Int32) (r3 : Nat) : Int32 × ST :=
  q_let (F_X8_clear X σ (q_rf X a 8) : ST) (fun σ_2 => q_let (q_si σ_2 a 10 (0 : Int32) : ST) (fun σ_3 => q_let (F_X3_start X σ_3 a r1 v2 : ST) (fun σ_5 => F_X4_takes_L21_1 X a r3 ((2147483647 - (0 : Int32).toInt).toNat + 1) (0 : Int32) σ_5)))

noncomputable def F_X7_behindEnd (X : XW) (σ : ST) (a : Nat) (r1 : Nat) (v2 : Int32) : Int32 × ST :=
  q_let (F_X5_get X σ (q_rf X r1 4) v2 : Int32) (fun r_1 => q_let (F_X5_get X σ (q_rf X r1 3) r_1 : Int32) (fun r_3 => if r_3.toInt = 4 then q_let (F_X5_add X σ (q_rf X a 7) r_1 ((-1) : Int32) : ST) (fun σ_9 => q_let (F_X5_get X σ_9 (q_rf X a 7) r_1 : Int32) (fun r_10 => if 0 < r_10.toInt then q_let (r_1 + (1 : Int32) : Int32) (fun z_14 => (z_14, σ_9)) else q_let (v2 + (1 : Int32) : Int32) (fun z_13 => (z_13, σ_9)))) else q_let (v2 + (1 : Int32) : Int32) (fun z_6 => (z_6, σ))))

noncomputable def F_X7_draw (X : XW) (σ : ST) (a : Nat) : Int32 × ST :=
  q_let (σ.1 a 6 : Int32) (fun f_1 => q_let (f_1 * (2861 : Int32) : Int32) (fun z_2 => q_let (z_2 + (10259 : Int32) : Int32) (fun z_3 => q_let (z_3 % (65536 : Int32) : Int32) (fun z_4 => q_let (q_si σ a 6 z_4 : ST) (fun σ_5 => q_let (σ_5.1 a 6 : Int32) (fun f_6 => q_let (f_6 / (8 : Int32) : Int32) (fun z_7 => q_let (z_7 % (16 : Int32) : Int32) (fun z_8 => (z_8, σ_5)))))))))

noncomputable def F_X7_fullestOther_B6_1 (X : XW) (σ : ST) (r0 : Nat) (B6_1 : Int32 → Int32 → Int32 → Int32) (x_1 : Int32) (x_2 : Int32) (x_3 : Int32) : Int32 :=
  q_let (σ.1 (q_rf X r0 0) 0 : Int32) (fun f_5 => if x_3.toInt < f_5.toInt then q_let (σ.1 r0 5 : Int32) (fun f_7 => q_let (F_X1_heldBy X σ (q_rf X r0 1) f_7 x_3 : Int32) (fun r_8 => q_let (σ.1 r0 4 : Int32) (fun f_10 => if x_3.toInt = f_10.toInt then q_let (x_3 + 1 : Int32) (fun z_12 => B6_1 x_1 x_2 z_12) else if x_2.toInt < r_8.toInt then q_let (x_3 + 1 : Int32) (fun z_15 => B6_1 x_3 r_8 z_15) else q_let (x_3 + 1 : Int32) (fun z_14 => B6_1 x_1 x_2 z_14)))) else x_1)

noncomputable def F_X7_fullestOther_L6_1 (X : XW) (σ : ST) (r0 : Nat) : Nat → Int32 → Int32 → Int32 → Int32
  | 0 => fun x_1 x_2 x_3 => (0 : Int32)
  | k_ + 1 => F_X7_fullestOther_B6_1 X σ r0 (F_X7_fullestOther_L6_1 X σ r0 k_)

theorem F_X7_fullestOther_L6_1_s {X : XW} {σ : ST} {r0 : Nat} {k_ : Nat} {x_1 : Int32} {x_2 : Int32} {x_3 : Int32} : F_X7_fullestOther_L6_1 X σ r0 (k_ + 1) x_1 x_2 x_3 = F_X7_fullestOther_B6_1 X σ r0 (F_X7_fullestOther_L6_1 X σ r0 k_) x_1 x_2 x_3 := rfl

noncomputable def F_X7_fullestOther (X : XW) (σ : ST) (r0 : Nat) : Int32 :=
  F_X7_fullestOther_L6_1 X σ r0 ((2147483647 - (0 : Int32).toInt).toNat + 1) ((-1) : Int32) (0 : Int32) (0 : Int32)

noncomputable def F_X7_choose (X : XW) (σ : ST) (a : Nat) (r1 : Nat) : ST :=
  q_let (σ.1 r1 5 : Int32) (fun f_1 => q_let (σ.1 r1 4 : Int32) (fun f_2 => q_let (F_X1_heldBy X σ (q_rf X r1 1) f_1 f_2 : Int32) (fun r_3 => q_let (σ.1 (q_rf X r1 0) 3 : Int32) (fun f_5 => q_let (F_J9_min_7cf53 X σ r_3 f_5 : Int32) (fun r_6 => q_let (F_X0_clearWanted X σ r1 : ST) (fun σ_9 => q_let (σ_9.1 r1 4 : Int32) (fun f_10 => q_let (F_X0_want X σ_9 r1 f_10 r_6 : ST) (fun σ_12 => q_let (σ_12.1 (q_rf X r1 0) 3 : Int32) (fun f_13 => if r_6.toInt < f_13.toInt then q_let (σ_12.1 r1 5 : Int32) (fun f_33 => q_let (F_X5_get X σ_12 (q_rf X (q_rf X r1 1) 2) f_33 : Int32) (fun r_34 => if r_3.toInt < r_34.toInt then if (1 : Int) = 0 then σ_12 else if r_3.toInt = 0 then q_let (F_X7_fullestOther X σ_12 r1 : Int32) (fun r_57 => q_let (F_X0_want X σ_12 r1 r_57 (1 : Int32) : ST) (fun σ_61 => σ_61)) else q_bi (F_X7_draw X σ_12 a) (fun r_62 σ_63 => q_let (σ_63.1 r1 5 : Int32) (fun f_64 => q_let (F_X5_get X σ_63 (q_rf X (q_rf X r1 1) 3) f_64 : Int32) (fun r_65 => if r_62.toInt < r_65.toInt then q_let (F_X7_fullestOther X σ_63 r1 : Int32) (fun r_68 => q_let (F_X0_want X σ_63 r1 r_68 (1 : Int32) : ST) (fun σ_72 => σ_72)) else σ_63))) else if (0 : Int) = 0 then σ_12 else if r_3.toInt = 0 then q_let (F_X7_fullestOther X σ_12 r1 : Int32) (fun r_39 => q_let (F_X0_want X σ_12 r1 r_39 (1 : Int32) : ST) (fun σ_43 => σ_43)) else q_bi (F_X7_draw X σ_12 a) (fun r_44 σ_45 => q_let (σ_45.1 r1 5 : Int32) (fun f_46 => q_let (F_X5_get X σ_45 (q_rf X (q_rf X r1 1) 3) f_46 : Int32) (fun r_47 => if r_44.toInt < r_47.toInt then q_let (F_X7_fullestOther X σ_45 r1 : Int32) (fun r_50 => q_let (F_X0_want X σ_45 r1 r_50 (1 : Int32) : ST) (fun σ_54 => σ_54)) else σ_45))))) else if (0 : Int) = 0 then σ_12 else if r_3.toInt = 0 then q_let (F_X7_fullestOther X σ_12 r1 : Int32) (fun r_17 => q_let (F_X0_want X σ_12 r1 r_17 (1 : Int32) : ST) (fun σ_21 => σ_21)) else q_bi (F_X7_draw X σ_12 a) (fun r_22 σ_23 => q_let (σ_23.1 r1 5 : Int32) (fun f_24 => q_let (F_X5_get X σ_23 (q_rf X (q_rf X r1 1) 3) f_24 : Int32) (fun r_25 => if r_22.toInt < r_25.toInt then q_let (F_X7_fullestOther X σ_23 r1 : Int32) (fun r_28 => q_let (F_X0_want X σ_23 r1 r_28 (1 : Int32) : ST) (fun σ_32 => σ_32)) else σ_23))))))))))))

noncomputable def F_X7_firstDoubter_B2_1 (X : XW) (r1 : Nat) (a : Nat) (B2_1 : Int32 → ST → Int32 × ST) (x_1 : Int32) (σ_2 : ST) : Int32 × ST :=
  q_let (σ_2.1 (q_rf X r1 0) 4 : Int32) (fun f_4 => if x_1.toInt < f_4.toInt then q_let (σ_2.1 r1 5 : Int32) (fun f_6 => q_let (F_X6_playerAfter X σ_2 (q_rf X r1 0) f_6 x_1 : Int32) (fun r_7 => q_let (F_X0_isImpossibleFor X σ_2 r1 r_7 : Int32) (fun r_9 => if r_9.toInt = 0 then q_bi (F_X7_draw X σ_2 a) (fun r_12 σ_13 => q_let (F_X5_get X σ_13 (q_rf X (q_rf X r1 1) 4) r_7 : Int32) (fun r_14 => if r_12.toInt < r_14.toInt then (r_7, σ_13) else q_let (x_1 + 1 : Int32) (fun z_17 => B2_1 z_17 σ_13))) else (r_7, σ_2)))) else (((-1) : Int32), σ_2))

noncomputable def F_X7_firstDoubter_L2_1 (X : XW) (r1 : Nat) (a : Nat) : Nat → Int32 → ST → Int32 × ST
  | 0 => fun x_1 σ_2 => ((0 : Int32), σ_2)
  | k_ + 1 => F_X7_firstDoubter_B2_1 X r1 a (F_X7_firstDoubter_L2_1 X r1 a k_)

theorem F_X7_firstDoubter_L2_1_s {X : XW} {r1 : Nat} {a : Nat} {k_ : Nat} {x_1 : Int32} {σ_2 : ST} : F_X7_firstDoubter_L2_1 X r1 a (k_ + 1) x_1 σ_2 = F_X7_firstDoubter_B2_1 X r1 a (F_X7_firstDoubter_L2_1 X r1 a k_) x_1 σ_2 := rfl

noncomputable def F_X7_firstDoubter (X : XW) (σ : ST) (a : Nat) (r1 : Nat) : Int32 × ST :=
  F_X7_firstDoubter_L2_1 X r1 a ((2147483647 - (1 : Int32).toInt).toNat + 1) (1 : Int32) σ

noncomputable def F_X7_takeTurn_J11_1 (X : XW) (r1 : Nat) (a : Nat) (σ_2 : ST) : ST :=
  q_let (σ_2.1 r1 6 : Int32) (fun f_3 => if f_3.toInt = (-1) then q_let (σ_2.1 (q_rf X r1 0) 4 : Int32) (fun f_8 => if f_8.toInt < 2 then q_let (σ_2.1 a 1 : Int32) (fun f_10 => q_let (f_10 + (1 : Int32) : Int32) (fun z_11 => q_let (q_si σ_2 a 1 z_11 : ST) (fun σ_12 => σ_12))) else q_let (σ_2.1 r1 5 : Int32) (fun f_13 => q_let (F_X5_get X σ_2 (q_rf X (q_rf X r1 1) 2) f_13 : Int32) (fun r_14 => if r_14.toInt = 0 then q_let (σ_2.1 a 1 : Int32) (fun f_42 => q_let (f_42 + (1 : Int32) : Int32) (fun z_43 => q_let (q_si σ_2 a 1 z_43 : ST) (fun σ_44 => σ_44))) else q_let (F_X7_choose X σ_2 a r1 : ST) (fun σ_18 => q_let (F_X0_layWanted X σ_18 r1 : ST) (fun σ_20 => q_let (σ_20.1 a 2 : Int32) (fun f_21 => q_let (f_21 + (1 : Int32) : Int32) (fun z_22 => q_let (q_si σ_20 a 2 z_22 : ST) (fun σ_23 => q_bi (F_X7_firstDoubter X σ_23 a r1) (fun r_24 σ_25 => if r_24.toInt = (-1) then q_let (F_X0_letLie X σ_25 r1 : ST) (fun σ_41 => σ_41) else q_let (σ_25.1 a 3 : Int32) (fun f_27 => q_let (f_27 + (1 : Int32) : Int32) (fun z_28 => q_let (q_si σ_25 a 3 z_28 : ST) (fun σ_29 => q_let (F_X2_topTruth X σ_29 (q_rf X r1 2) : Int32) (fun r_30 => if r_30.toInt = 0 then q_bi (F_X0_challenge X σ_29 r1 r_24) (fun r_33 σ_34 => σ_34) else q_let (σ_29.1 a 4 : Int32) (fun f_35 => q_let (f_35 + (1 : Int32) : Int32) (fun z_36 => q_let (q_si σ_29 a 4 z_36 : ST) (fun σ_37 => q_bi (F_X0_challenge X σ_37 r1 r_24) (fun r_38 σ_39 => σ_39))))))))))))))))) else q_let (σ_2.1 a 1 : Int32) (fun f_5 => q_let (f_5 + (1 : Int32) : Int32) (fun z_6 => q_let (q_si σ_2 a 1 z_6 : ST) (fun σ_7 => σ_7))))

noncomputable def F_X7_takeTurn (X : XW) (σ : ST) (a : Nat) (r1 : Nat) : ST :=
  q_let (σ.1 r1 7 : Int32) (fun f_1 => if f_1.toInt = 0 then F_X7_takeTurn_J11_1 X r1 a σ else q_let (F_X0_letLie X σ r1 : ST) (fun σ_47 => F_X7_takeTurn_J11_1 X r1 a σ_47))

noncomputable def F_X7_behindStep (X : XW) (σ : ST) (a : Nat) (r1 : Nat) (v2 : Int32) : Int32 × ST :=
  q_let (F_X5_get X σ (q_rf X (q_rf X r1 3) 5) v2 : Int32) (fun r_1 => q_let (F_X5_get X σ (q_rf X (q_rf X r1 3) 7) v2 : Int32) (fun r_3 => q_let (F_X5_get X σ (q_rf X (q_rf X r1 3) 4) v2 : Int32) (fun r_5 => q_let (r_5 + (1 : Int32) : Int32) (fun z_7 => q_let (F_X5_get X σ (q_rf X (q_rf X r1 3) 3) v2 : Int32) (fun r_8 => (if r_8.toInt = 0 then q_let (F_X7_takeTurn X σ a r1 : ST) (fun σ_12 => q_let (v2 + (1 : Int32) : Int32) (fun z_13 => (z_13, σ_12))) else (if r_8.toInt = 1 then q_let (F_X5_set X σ (q_rf X (q_rf X r1 1) 3) r_1 r_3 : ST) (fun σ_16 => q_let (v2 + (1 : Int32) : Int32) (fun z_17 => (z_17, σ_16))) else (if r_8.toInt = 2 then q_let (F_X5_set X σ (q_rf X (q_rf X r1 1) 4) r_1 r_3 : ST) (fun σ_20 => q_let (v2 + (1 : Int32) : Int32) (fun z_21 => (z_21, σ_20))) else (if r_8.toInt = 3 then q_let (σ.1 (q_rf X r1 3) 2 : Int32) (fun f_23 => (f_23, σ)) else (if r_8.toInt = 4 then q_let (F_X5_set X σ (q_rf X a 7) v2 r_3 : ST) (fun σ_26 => q_let (v2 + (1 : Int32) : Int32) (fun z_27 => (z_27, σ_26))) else (if r_8.toInt = 5 then q_let (F_X5_get X σ (q_rf X (q_rf X r1 1) 2) r_1 : Int32) (fun r_29 => q_let (F_X8_meets X σ (q_rf X r1 3) v2 r_29 : Int32) (fun r_31 => if r_31.toInt = 0 then (z_7, σ) else q_let (v2 + (1 : Int32) : Int32) (fun z_34 => (z_34, σ)))) else (if r_8.toInt = 6 then q_let (σ.1 (q_rf X r1 2) 1 : Int32) (fun f_36 => q_let (F_X8_meets X σ (q_rf X r1 3) v2 f_36 : Int32) (fun r_37 => if r_37.toInt = 0 then (z_7, σ) else q_let (v2 + (1 : Int32) : Int32) (fun z_40 => (z_40, σ)))) else (if r_8.toInt = 7 then q_let (F_X5_get X σ (q_rf X (q_rf X r1 1) 5) r_1 : Int32) (fun r_42 => q_let (F_X8_meets X σ (q_rf X r1 3) v2 r_42 : Int32) (fun r_44 => if r_44.toInt = 0 then (z_7, σ) else q_let (v2 + (1 : Int32) : Int32) (fun z_47 => (z_47, σ)))) else (if r_8.toInt = 8 then q_let (σ.1 r1 6 : Int32) (fun f_49 => if f_49.toInt = (-1) then (z_7, σ) else q_let (v2 + (1 : Int32) : Int32) (fun z_51 => (z_51, σ))) else q_let (σ.1 (q_rf X r1 3) 2 : Int32) (fun f_52 => (f_52, σ))))))))))))))))

noncomputable def F_X7_go_B46_1 (X : XW) (r1 : Nat) (a : Nat) (B46_1 : Int32 → Int32 → ST → ST) (x_8 : Int32) (x_9 : Int32) (σ_10 : ST) : ST :=
  if x_9.toInt < 1000000 then q_let (σ_10.1 (q_rf X r1 3) 2 : Int32) (fun f_13 => if x_8.toInt < f_13.toInt then q_let (σ_10.1 a 5 : Int32) (fun f_15 => if f_15.toInt = 0 then q_let (F_X5_get X σ_10 (q_rf X (q_rf X r1 3) 3) x_8 : Int32) (fun r_17 => if r_17.toInt = 9 then q_bi (F_X7_behindEnd X σ_10 a (q_rf X r1 3) x_8) (fun r_30 σ_31 => q_let (x_9 + 1 : Int32) (fun z_32 => B46_1 r_30 z_32 σ_31)) else q_let (σ_10.1 a 0 : Int32) (fun f_20 => if f_20.toInt = 300 then q_let (q_si σ_10 a 5 (1 : Int32) : ST) (fun σ_28 => q_let (x_9 + 1 : Int32) (fun z_29 => B46_1 x_8 z_29 σ_28)) else q_let (σ_10.1 a 0 : Int32) (fun f_22 => q_let (f_22 + (1 : Int32) : Int32) (fun z_23 => q_let (q_si σ_10 a 0 z_23 : ST) (fun σ_24 => q_bi (F_X7_behindStep X σ_24 a r1 x_8) (fun r_25 σ_26 => q_let (x_9 + 1 : Int32) (fun z_27 => B46_1 r_25 z_27 σ_26))))))) else σ_10) else σ_10) else σ_10

noncomputable def F_X7_go_L46_1 (X : XW) (r1 : Nat) (a : Nat) : Nat → Int32 → Int32 → ST → ST
  | 0 => fun x_8 x_9 σ_10 => σ_10
  | k_ + 1 => F_X7_go_B46_1 X r1 a (F_X7_go_L46_1 X r1 a k_)

theorem F_X7_go_L46_1_s {X : XW} {r1 : Nat} {a : Nat} {k_ : Nat} {x_8 : Int32} {x_9 : Int32} {σ_10 : ST} : F_X7_go_L46_1 X r1 a (k_ + 1) x_8 x_9 σ_10 = F_X7_go_B46_1 X r1 a (F_X7_go_L46_1 X r1 a k_) x_8 x_9 σ_10 := rfl

noncomputable def F_X7_go (X : XW) (σ : ST) (a : Nat) (r1 : Nat) (v2 : Int32) : ST :=
  q_let (q_si σ a 0 (0 : Int32) : ST) (fun σ_1 => q_let (q_si σ_1 a 1 (0 : Int32) : ST) (fun σ_2 => q_let (q_si σ_2 a 2 (0 : Int32) : ST) (fun σ_3 => q_let (q_si σ_3 a 3 (0 : Int32) : ST) (fun σ_4 => q_let (q_si σ_4 a 4 (0 : Int32) : ST) (fun σ_5 => q_let (q_si σ_5 a 5 (0 : Int32) : ST) (fun σ_6 => q_let (q_si σ_6 a 6 v2 : ST) (fun σ_7 => F_X7_go_L46_1 X r1 a ((2147483647 - (0 : Int32).toInt).toNat + 1) (0 : Int32) (0 : Int32) σ_7)))))))

noncomputable def F_X11_status (X : XW) (σ : ST) (a : Nat) : Int32 :=
  q_let (σ.1 a 0 : Int32) (fun f_1 => f_1)

noncomputable def F_X11_top (X : XW) (σ : ST) (a : Nat) : Int64 :=
  q_let (σ.2.1 a 1 : Int64) (fun g_1 => g_1)

noncomputable def F_X11_bottom (X : XW) (σ : ST) (a : Nat) : Int64 :=
  q_let (σ.2.1 a 2 : Int64) (fun g_1 => g_1)

noncomputable def F_X11_trayAt (X : XW) (σ : ST) (a : Nat) (v1 : Int32) : Option Nat :=
  if v1.toInt < 0 then (none : Option Nat) else if v1.toInt < 4 then (some (q_rf X (q_rf X a 3) (v1 : Int32).toNatClampNeg)) else (none : Option Nat)

noncomputable def F_X11_no (X : XW) (σ : ST) (a : Nat) (v1 : Int32) : Int32 × ST :=
  q_let (q_si σ a 0 v1 : ST) (fun σ_1 => ((0 : Int32), σ_1))

noncomputable def F_X11_yes (X : XW) (σ : ST) (a : Nat) : Int32 × ST :=
  q_let (q_si σ a 0 (0 : Int32) : ST) (fun σ_1 => ((1 : Int32), σ_1))

noncomputable def F_X11_tray (X : XW) (σ : ST) (a : Nat) (v1 : Int32) (v2 : Int32) (v3 : Int32) : Int32 × ST :=
  q_let (F_X11_trayAt X σ a v1 : Option Nat) (fun r_1 => q_on r_1 (q_bi (F_X11_no X σ a (1 : Int32)) (fun r_4 σ_5 => (r_4, σ_5))) (fun r_1 => if v2.toInt < 0 then q_bi (F_X11_no X σ a (1 : Int32)) (fun r_8 σ_9 => (r_8, σ_9)) else if 3 < v2.toInt then q_bi (F_X11_no X σ a (1 : Int32)) (fun r_24 σ_25 => (r_24, σ_25)) else if 60 < v3.toInt then q_bi (F_X11_no X σ a (5 : Int32)) (fun r_21 σ_22 => (r_21, σ_22)) else if v3.toInt < 0 then q_bi (F_X11_no X σ a (6 : Int32)) (fun r_18 σ_19 => (r_18, σ_19)) else q_let (F_X10_make X σ r_1 v2 v3 : ST) (fun σ_14 => q_bi (F_X11_yes X σ_14 a) (fun r_15 σ_16 => (r_15, σ_16)))))

noncomputable def F_X11_placeStatus (X : XW) (σ : ST) (r0 : Nat) (v1 : Int32) : Int32 :=
  q_let (F_X10_isMissing X σ r0 : Int32) (fun r_1 => if r_1.toInt = 0 then q_let (F_X10_hasPlaces X σ r0 v1 (1 : Int32) : Int32) (fun r_5 => if r_5.toInt = 0 then (4 : Int32) else (0 : Int32)) else (3 : Int32))

noncomputable def F_X11_placeStatus_n (X : XW) (σ : ST) (v1 : Int32) : Int32 :=
  (1 : Int32)

noncomputable def F_X11_write (X : XW) (σ : ST) (a : Nat) (v1 : Int32) (v2 : Int32) (v3 : Int64) : Int32 × ST :=
  q_let (F_X11_trayAt X σ a v1 : Option Nat) (fun r_1 => q_on r_1 (q_let (F_X11_placeStatus_n X σ v2 : Int32) (fun r_3 => q_bi (F_X11_no X σ a r_3) (fun r_5 σ_6 => (r_5, σ_6)))) (fun r_1 => q_let (F_X11_placeStatus X σ r_1 v2 : Int32) (fun r_7 => if r_7.toInt = 0 then q_let (F_X10_put X σ r_1 v2 v3 : ST) (fun σ_11 => q_bi (F_X11_yes X σ_11 a) (fun r_12 σ_13 => (r_12, σ_13))) else q_bi (F_X11_no X σ a r_7) (fun r_14 σ_15 => (r_14, σ_15)))))

noncomputable def F_X11_none (X : XW) (σ : ST) (a : Nat) (v1 : Int32) : Int32 × ST :=
  q_let (q_si σ a 0 v1 : ST) (fun σ_1 => (((-1) : Int32), σ_1))

noncomputable def F_X11_read (X : XW) (σ : ST) (a : Nat) (v1 : Int32) (v2 : Int32) : Int64 × ST :=
  q_let (F_X11_trayAt X σ a v1 : Option Nat) (fun r_1 => q_on r_1 (q_let (F_X11_placeStatus_n X σ v2 : Int32) (fun r_3 => q_bi (F_X11_none X σ a r_3) (fun r_5 σ_6 => q_let (r_5.toInt64 : Int64) (fun y_7 => (y_7, σ_6))))) (fun r_1 => q_let (F_X11_placeStatus X σ r_1 v2 : Int32) (fun r_8 => if r_8.toInt = 0 then q_let (q_si σ a 0 (0 : Int32) : ST) (fun σ_11 => q_let (F_X10_get X σ_11 r_1 v2 : Int64) (fun r_12 => (r_12, σ_11))) else q_bi (F_X11_none X σ a r_8) (fun r_14 σ_15 => q_let (r_14.toInt64 : Int64) (fun y_16 => (y_16, σ_15))))))

noncomputable def F_X11_pour (X : XW) (σ : ST) (a : Nat) (v1 : Int32) (v2 : Int32) (v3 : Int32) (v4 : Int32) (v5 : Int32) : Int32 × ST :=
  q_let (F_X11_trayAt X σ a v1 : Option Nat) (fun r_1 => q_on r_1 (q_let (F_X11_trayAt X σ a v3 : Option Nat) (fun r_3 => q_on r_3 (q_bi (F_X11_no X σ a (1 : Int32)) (fun r_6 σ_7 => (r_6, σ_7))) (fun r_3 => q_bi (F_X11_no X σ a (1 : Int32)) (fun r_9 σ_10 => (r_9, σ_10))))) (fun r_1 => q_let (F_X11_trayAt X σ a v3 : Option Nat) (fun r_11 => q_on r_11 (q_bi (F_X11_no X σ a (1 : Int32)) (fun r_14 σ_15 => (r_14, σ_15))) (fun r_11 => q_let (F_X10_isMissing X σ r_1 : Int32) (fun r_16 => if r_16.toInt = 0 then q_let (F_X10_isMissing X σ r_11 : Int32) (fun r_22 => if r_22.toInt = 0 then q_let (σ.1 r_1 0 : Int32) (fun f_25 => q_let (σ.1 r_11 0 : Int32) (fun f_26 => if f_25.toInt = f_26.toInt then if v5.toInt < 0 then q_bi (F_X11_no X σ a (6 : Int32)) (fun r_46 σ_47 => (r_46, σ_47)) else q_let (F_X10_hasPlaces X σ r_1 v2 v5 : Int32) (fun r_29 => if r_29.toInt = 0 then q_bi (F_X11_no X σ a (4 : Int32)) (fun r_33 σ_34 => (r_33, σ_34)) else q_let (F_X10_hasPlaces X σ r_11 v4 v5 : Int32) (fun r_35 => if r_35.toInt = 0 then q_bi (F_X11_no X σ a (4 : Int32)) (fun r_43 σ_44 => (r_43, σ_44)) else q_let (F_X10_copyFrom X σ r_11 r_1 v2 v4 v5 : ST) (fun σ_39 => q_bi (F_X11_yes X σ_39 a) (fun r_40 σ_41 => (r_40, σ_41))))) else q_bi (F_X11_no X σ a (11 : Int32)) (fun r_49 σ_50 => (r_49, σ_50)))) else q_bi (F_X11_no X σ a (3 : Int32)) (fun r_52 σ_53 => (r_52, σ_53))) else q_bi (F_X11_no X σ a (3 : Int32)) (fun r_20 σ_21 => (r_20, σ_21)))))))

noncomputable def F_X11_tapeInt_B3_1 (X : XW) (a : Nat) (v1 : Int32) (B3_1 : Int32 → ST → ST) (x_1 : Int32) (σ_2 : ST) : ST :=
  if x_1.toInt < 0 then σ_2 else q_let (σ_2.1 a 5 : Int32) (fun f_5 => if f_5.toInt < 0 then σ_2 else q_let (σ_2.1 a 5 : Int32) (fun f_7 => if f_7.toInt < 900 then q_let (σ_2.1 a 5 : Int32) (fun f_9 => q_let (v1 >>> (x_1 &&& 31) : Int32) (fun z_10 => q_let (z_10.toInt8.toInt32 : Int32) (fun z_11 => q_let (q_si σ_2 (q_rf X a 4) f_9.toNatClampNeg z_11.toInt8.toInt32 : ST) (fun σ_12 => q_let (σ_12.1 a 5 : Int32) (fun f_13 => q_let (f_13 + (1 : Int32) : Int32) (fun z_14 => q_let (q_si σ_12 a 5 z_14 : ST) (fun σ_15 => q_let (x_1 + (-8) : Int32) (fun z_16 => B3_1 z_16 σ_15)))))))) else σ_2))

noncomputable def F_X11_tapeInt_L3_1 (X : XW) (a : Nat) (v1 : Int32) : Nat → Int32 → ST → ST
  | 0 => fun x_1 σ_2 => σ_2
  | k_ + 1 => F_X11_tapeInt_B3_1 X a v1 (F_X11_tapeInt_L3_1 X a v1 k_)

theorem F_X11_tapeInt_L3_1_s {X : XW} {a : Nat} {v1 : Int32} {k_ : Nat} {x_1 : Int32} {σ_2 : ST} : F_X11_tapeInt_L3_1 X a v1 (k_ + 1) x_1 σ_2 = F_X11_tapeInt_B3_1 X a v1 (F_X11_tapeInt_L3_1 X a v1 k_) x_1 σ_2 := rfl

noncomputable def F_X11_tapeInt (X : XW) (σ : ST) (a : Nat) (v1 : Int32) : ST :=
  F_X11_tapeInt_L3_1 X a v1 (((24 : Int32).toInt + 2147483656).toNat + 1) (24 : Int32) σ

noncomputable def F_X11_feed (X : XW) (σ : ST) (a : Nat) (v1 : Int32) (v2 : Int32) (v3 : Int32) (v4 : Int32) (v5 : Int32) : Int32 × ST :=
  q_let (σ.1 a 5 : Int32) (fun f_1 => q_let (f_1 + (20 : Int32) : Int32) (fun z_2 => if 900 < z_2.toInt then (((-1) : Int32), σ) else q_let (F_X11_tapeInt X σ a v1 : ST) (fun σ_6 => q_let (F_X11_tapeInt X σ_6 a v2 : ST) (fun σ_8 => q_let (F_X11_tapeInt X σ_8 a v3 : ST) (fun σ_10 => q_let (F_X11_tapeInt X σ_10 a v4 : ST) (fun σ_12 => q_let (F_X11_tapeInt X σ_12 a v5 : ST) (fun σ_14 => q_let (σ_14.1 a 5 : Int32) (fun f_15 => (f_15, σ_14)))))))))

noncomputable def F_X11_endReading (X : XW) (σ : ST) (a : Nat) (r1 : Nat) : ST :=
  q_let (q_si σ a 5 (0 : Int32) : ST) (fun σ_1 => q_let (σ_1.1 r1 6 : Int32) (fun f_2 => q_let (q_si σ_1 a 6 f_2 : ST) (fun σ_3 => q_let (σ_3.1 r1 7 : Int32) (fun f_4 => q_let (q_si σ_3 a 7 f_4 : ST) (fun σ_5 => σ_5)))))

noncomputable def F_X11_good (X : XW) (σ : ST) (a : Nat) (v1 : Int32) : Int32 × ST :=
  q_let (q_si σ a 0 (0 : Int32) : ST) (fun σ_1 => (v1, σ_1))

noncomputable def F_X11_table (X : XW) (σ : ST) (a : Nat) (v1 : Int32) : Int32 × ST :=
  if v1.toInt < 0 then q_bi (F_X11_none X σ a (5 : Int32)) (fun r_3 σ_4 => (r_3, σ_4)) else q_let (σ.1 a 5 : Int32) (fun f_5 => if f_5.toInt < v1.toInt then q_bi (F_X11_none X σ a (5 : Int32)) (fun r_21 σ_22 => (r_21, σ_22)) else q_bi (F_X9_takes X σ (q_rf X a 12) (q_rf X a 4) v1) (fun r_7 σ_8 => q_let (F_X11_endReading X σ_8 a (q_rf X a 12) : ST) (fun σ_10 => if r_7.toInt = 0 then q_bi (F_X11_none X σ_10 a (10 : Int32)) (fun r_18 σ_19 => (r_18, σ_19)) else q_let (F_X0_copyFrom X σ_10 (q_rf X a 8) (q_rf X (q_rf X a 12) 8) : ST) (fun σ_13 => q_let (σ_13.1 (q_rf X (q_rf X a 8) 0) 4 : Int32) (fun f_14 => q_bi (F_X11_good X σ_13 a f_14) (fun r_15 σ_16 => (r_15, σ_16)))))))

noncomputable def F_X11_round (X : XW) (σ : ST) (a : Nat) (v1 : Int32) : Int32 × ST :=
  if v1.toInt < 0 then q_bi (F_X11_none X σ a (5 : Int32)) (fun r_3 σ_4 => (r_3, σ_4)) else q_let (σ.1 a 5 : Int32) (fun f_5 => if f_5.toInt < v1.toInt then q_bi (F_X11_none X σ a (5 : Int32)) (fun r_8 σ_9 => (r_8, σ_9)) else if 300 < v1.toInt then q_bi (F_X11_none X σ a (5 : Int32)) (fun r_25 σ_26 => (r_25, σ_26)) else q_bi (F_X4_takes X σ (q_rf X a 13) (q_rf X a 4) v1 (q_rf X (q_rf X a 8) 0)) (fun r_11 σ_12 => q_let (F_X11_endReading X σ_12 a (q_rf X a 13) : ST) (fun σ_14 => if r_11.toInt = 0 then q_bi (F_X11_none X σ_14 a (10 : Int32)) (fun r_22 σ_23 => (r_22, σ_23)) else q_let (F_X8_copyFrom X σ_14 (q_rf X (q_rf X a 8) 3) (q_rf X (q_rf X a 13) 8) : ST) (fun σ_17 => q_let (σ_17.1 (q_rf X (q_rf X a 8) 3) 1 : Int32) (fun f_18 => q_bi (F_X11_good X σ_17 a f_18) (fun r_19 σ_20 => (r_19, σ_20)))))))

noncomputable def F_X11_fault (X : XW) (σ : ST) (a : Nat) (v1 : Int32) : Int32 :=
  if v1.toInt = 0 then q_let (σ.1 a 6 : Int32) (fun f_4 => f_4) else if v1.toInt = 1 then q_let (σ.1 a 7 : Int32) (fun f_3 => f_3) else ((-1) : Int32)

noncomputable def F_X11_many (X : XW) (σ : ST) (a : Nat) (v1 : Int32) : Int32 × ST :=
  (if v1.toInt = 0 then q_let (σ.1 (q_rf X (q_rf X a 8) 0) 0 : Int32) (fun f_2 => q_bi (F_X11_good X σ a f_2) (fun r_3 σ_4 => (r_3, σ_4))) else (if v1.toInt = 1 then q_let (σ.1 (q_rf X (q_rf X a 8) 0) 1 : Int32) (fun f_6 => q_bi (F_X11_good X σ a f_6) (fun r_7 σ_8 => (r_7, σ_8))) else (if v1.toInt = 2 then q_let (σ.1 (q_rf X (q_rf X a 8) 0) 4 : Int32) (fun f_10 => q_bi (F_X11_good X σ a f_10) (fun r_11 σ_12 => (r_11, σ_12))) else (if v1.toInt = 3 then q_let (σ.1 (q_rf X (q_rf X a 8) 0) 2 : Int32) (fun f_14 => q_bi (F_X11_good X σ a f_14) (fun r_15 σ_16 => (r_15, σ_16))) else (if v1.toInt = 4 then q_let (σ.1 (q_rf X (q_rf X a 8) 0) 3 : Int32) (fun f_18 => q_bi (F_X11_good X σ a f_18) (fun r_19 σ_20 => (r_19, σ_20))) else (if v1.toInt = 5 then q_let (σ.1 (q_rf X a 8) 4 : Int32) (fun f_22 => q_bi (F_X11_good X σ a f_22) (fun r_23 σ_24 => (r_23, σ_24))) else (if v1.toInt = 6 then q_let (σ.1 (q_rf X (q_rf X a 8) 0) 4 : Int32) (fun f_26 => if f_26.toInt = 0 then q_bi (F_X11_none X σ a (8 : Int32)) (fun r_32 σ_33 => (r_32, σ_33)) else q_let (σ.1 (q_rf X a 8) 5 : Int32) (fun f_28 => q_bi (F_X11_good X σ a f_28) (fun r_29 σ_30 => (r_29, σ_30)))) else (if v1.toInt = 7 then q_let (σ.1 (q_rf X (q_rf X a 8) 2) 1 : Int32) (fun f_35 => q_bi (F_X11_good X σ a f_35) (fun r_36 σ_37 => (r_36, σ_37))) else (if v1.toInt = 8 then q_let (σ.1 (q_rf X a 8) 7 : Int32) (fun f_39 => if f_39.toInt = 0 then q_bi (F_X11_good X σ a (0 : Int32)) (fun r_42 σ_43 => (r_42, σ_43)) else q_bi (F_X11_good X σ a (1 : Int32)) (fun r_45 σ_46 => (r_45, σ_46))) else (if v1.toInt = 9 then q_let (σ.1 (q_rf X a 8) 6 : Int32) (fun f_48 => if f_48.toInt = (-1) then q_bi (F_X11_none X σ a (8 : Int32)) (fun r_54 σ_55 => (r_54, σ_55)) else q_let (σ.1 (q_rf X a 8) 6 : Int32) (fun f_50 => q_bi (F_X11_good X σ a f_50) (fun r_51 σ_52 => (r_51, σ_52)))) else (if v1.toInt = 10 then q_let (σ.1 (q_rf X (q_rf X a 8) 2) 0 : Int32) (fun f_57 => q_bi (F_X11_good X σ a f_57) (fun r_58 σ_59 => (r_58, σ_59))) else q_bi (F_X11_none X σ a (5 : Int32)) (fun r_61 σ_62 => (r_61, σ_62)))))))))))))

noncomputable def F_X11_isPlayer (X : XW) (σ : ST) (a : Nat) (v1 : Int32) : Int32 :=
  if v1.toInt < 0 then (0 : Int32) else q_let (σ.1 (q_rf X (q_rf X a 8) 0) 4 : Int32) (fun f_2 => if v1.toInt < f_2.toInt then (1 : Int32) else (0 : Int32))

noncomputable def F_X11_player (X : XW) (σ : ST) (a : Nat) (v1 : Int32) (v2 : Int32) : Int32 × ST :=
  q_let (F_X11_isPlayer X σ a v1 : Int32) (fun r_1 => if r_1.toInt = 0 then q_bi (F_X11_none X σ a (2 : Int32)) (fun r_38 σ_39 => (r_38, σ_39)) else (if v2.toInt = 0 then q_let (F_X5_get X σ (q_rf X (q_rf X (q_rf X a 8) 1) 3) v1 : Int32) (fun r_5 => q_bi (F_X11_good X σ a r_5) (fun r_7 σ_8 => (r_7, σ_8))) else (if v2.toInt = 1 then q_let (F_X5_get X σ (q_rf X (q_rf X (q_rf X a 8) 1) 4) v1 : Int32) (fun r_10 => q_bi (F_X11_good X σ a r_10) (fun r_12 σ_13 => (r_12, σ_13))) else (if v2.toInt = 2 then q_let (F_X5_get X σ (q_rf X (q_rf X (q_rf X a 8) 1) 2) v1 : Int32) (fun r_15 => q_bi (F_X11_good X σ a r_15) (fun r_17 σ_18 => (r_17, σ_18))) else (if v2.toInt = 3 then q_let (F_X5_get X σ (q_rf X (q_rf X (q_rf X a 8) 1) 5) v1 : Int32) (fun r_20 => q_bi (F_X11_good X σ a r_20) (fun r_22 σ_23 => (r_22, σ_23))) else (if v2.toInt = 4 then q_let (F_X5_get X σ (q_rf X (q_rf X (q_rf X a 8) 1) 6) v1 : Int32) (fun r_25 => q_bi (F_X11_good X σ a r_25) (fun r_27 σ_28 => (r_27, σ_28))) else (if v2.toInt = 5 then q_let (F_X1_allLaidBy X σ (q_rf X (q_rf X a 8) 1) v1 : Int32) (fun r_30 => q_bi (F_X11_good X σ a r_30) (fun r_32 σ_33 => (r_32, σ_33))) else q_bi (F_X11_none X σ a (5 : Int32)) (fun r_35 σ_36 => (r_35, σ_36)))))))))

noncomputable def F_X11_isKind (X : XW) (σ : ST) (a : Nat) (v1 : Int32) : Int32 :=
  if v1.toInt < 0 then (0 : Int32) else q_let (σ.1 (q_rf X (q_rf X a 8) 0) 0 : Int32) (fun f_2 => if v1.toInt < f_2.toInt then (1 : Int32) else (0 : Int32))

noncomputable def F_X11_hand (X : XW) (σ : ST) (a : Nat) (v1 : Int32) (v2 : Int32) : Int32 × ST :=
  q_let (F_X11_isPlayer X σ a v1 : Int32) (fun r_1 => if r_1.toInt = 0 then q_bi (F_X11_none X σ a (2 : Int32)) (fun r_5 σ_6 => (r_5, σ_6)) else q_let (F_X11_isKind X σ a v2 : Int32) (fun r_7 => if r_7.toInt = 0 then q_bi (F_X11_none X σ a (2 : Int32)) (fun r_15 σ_16 => (r_15, σ_16)) else q_let (F_X1_heldBy X σ (q_rf X (q_rf X a 8) 1) v1 v2 : Int32) (fun r_10 => q_bi (F_X11_good X σ a r_10) (fun r_12 σ_13 => (r_12, σ_13)))))

noncomputable def F_X11_inGame (X : XW) (σ : ST) (a : Nat) (v1 : Int32) : Int32 × ST :=
  q_let (F_X11_isKind X σ a v1 : Int32) (fun r_1 => if r_1.toInt = 0 then q_bi (F_X11_none X σ a (2 : Int32)) (fun r_5 σ_6 => (r_5, σ_6)) else q_let (F_X5_get X σ (q_rf X (q_rf X (q_rf X a 8) 0) 5) v1 : Int32) (fun r_7 => q_bi (F_X11_good X σ a r_7) (fun r_9 σ_10 => (r_9, σ_10))))

noncomputable def F_X11_laying (X : XW) (σ : ST) (a : Nat) (v1 : Int32) (v2 : Int32) : Int32 × ST :=
  if v2.toInt < 0 then q_bi (F_X11_none X σ a (5 : Int32)) (fun r_3 σ_4 => (r_3, σ_4)) else if 3 < v2.toInt then q_bi (F_X11_none X σ a (5 : Int32)) (fun r_35 σ_36 => (r_35, σ_36)) else if v1.toInt < 0 then q_bi (F_X11_none X σ a (8 : Int32)) (fun r_8 σ_9 => (r_8, σ_9)) else q_let (σ.1 (q_rf X (q_rf X a 8) 2) 0 : Int32) (fun f_10 => if v1.toInt < f_10.toInt then (if v2.toInt = 0 then q_let (F_X5_get X σ (q_rf X (q_rf X (q_rf X a 8) 2) 2) v1 : Int32) (fun r_13 => q_bi (F_X11_good X σ a r_13) (fun r_15 σ_16 => (r_15, σ_16))) else (if v2.toInt = 1 then q_let (F_X5_get X σ (q_rf X (q_rf X (q_rf X a 8) 2) 3) v1 : Int32) (fun r_18 => q_bi (F_X11_good X σ a r_18) (fun r_20 σ_21 => (r_20, σ_21))) else (if v2.toInt = 2 then q_let (F_X5_get X σ (q_rf X (q_rf X (q_rf X a 8) 2) 4) v1 : Int32) (fun r_23 => q_bi (F_X11_good X σ a r_23) (fun r_25 σ_26 => (r_25, σ_26))) else q_let (F_X2_truth X σ (q_rf X (q_rf X a 8) 2) v1 : Int32) (fun r_27 => q_bi (F_X11_good X σ a r_27) (fun r_29 σ_30 => (r_29, σ_30)))))) else q_bi (F_X11_none X σ a (8 : Int32)) (fun r_32 σ_33 => (r_32, σ_33)))

noncomputable def F_X11_cardOf (X : XW) (σ : ST) (a : Nat) (v1 : Int32) (v2 : Int32) : Int32 × ST :=
  if v1.toInt < 0 then q_bi (F_X11_none X σ a (8 : Int32)) (fun r_3 σ_4 => (r_3, σ_4)) else q_let (σ.1 (q_rf X (q_rf X a 8) 2) 0 : Int32) (fun f_5 => if v1.toInt < f_5.toInt then if v2.toInt < 0 then q_bi (F_X11_none X σ a (8 : Int32)) (fun r_12 σ_13 => (r_12, σ_13)) else q_let (F_X5_get X σ (q_rf X (q_rf X (q_rf X a 8) 2) 4) v1 : Int32) (fun r_14 => if v2.toInt < r_14.toInt then q_let (F_X2_kindOf X σ (q_rf X (q_rf X a 8) 2) v1 v2 : Int32) (fun r_17 => q_bi (F_X11_good X σ a r_17) (fun r_19 σ_20 => (r_19, σ_20))) else q_bi (F_X11_none X σ a (8 : Int32)) (fun r_22 σ_23 => (r_22, σ_23))) else q_bi (F_X11_none X σ a (8 : Int32)) (fun r_8 σ_9 => (r_8, σ_9)))

noncomputable def F_X11_copyHand_E107_2 (X : XW) (σ_18 : ST) (a : Nat) (f_12 : Int32) : Int32 × ST :=
  q_bi (F_X11_good X σ_18 a f_12) (fun r_21 σ_22 => (r_21, σ_22))

noncomputable def F_X11_copyHand_B74_1 (X : XW) (f_12 : Int32) (a : Nat) (v1 : Int32) (r_1 : Nat) (B74_1 : Int32 → ST → Int32 × ST) (x_17 : Int32) (σ_18 : ST) : Int32 × ST :=
  if x_17.toInt < f_12.toInt then q_let (F_X1_heldBy X σ_18 (q_rf X (q_rf X a 8) 1) v1 x_17 : Int32) (fun r_23 => q_let (r_23.toInt64 : Int64) (fun y_25 => q_let (F_X10_put X σ_18 r_1 x_17 y_25 : ST) (fun σ_27 => q_let (x_17 + 1 : Int32) (fun z_28 => B74_1 z_28 σ_27)))) else F_X11_copyHand_E107_2 X σ_18 a f_12

noncomputable def F_X11_copyHand_L74_1 (X : XW) (f_12 : Int32) (a : Nat) (v1 : Int32) (r_1 : Nat) : Nat → Int32 → ST → Int32 × ST
  | 0 => fun x_17 σ_18 => ((0 : Int32), σ_18)
  | k_ + 1 => F_X11_copyHand_B74_1 X f_12 a v1 r_1 (F_X11_copyHand_L74_1 X f_12 a v1 r_1 k_)

theorem F_X11_copyHand_L74_1_s {X : XW} {f_12 : Int32} {a : Nat} {v1 : Int32} {r_1 : Nat} {k_ : Nat} {x_17 : Int32} {σ_18 : ST} : F_X11_copyHand_L74_1 X f_12 a v1 r_1 (k_ + 1) x_17 σ_18 = F_X11_copyHand_B74_1 X f_12 a v1 r_1 (F_X11_copyHand_L74_1 X f_12 a v1 r_1 k_) x_17 σ_18 := rfl

noncomputable def F_X11_copyHand (X : XW) (σ : ST) (a : Nat) (v1 : Int32) (v2 : Int32) : Int32 × ST :=
  q_let (F_X11_trayAt X σ a v2 : Option Nat) (fun r_1 => q_on r_1 (q_bi (F_X11_none X σ a (1 : Int32)) (fun r_4 σ_5 => (r_4, σ_5))) (fun r_1 => q_let (F_X10_isMissing X σ r_1 : Int32) (fun r_6 => if r_6.toInt = 0 then q_let (F_X11_isPlayer X σ a v1 : Int32) (fun r_9 => if r_9.toInt = 0 then q_bi (F_X11_none X σ a (2 : Int32)) (fun r_33 σ_34 => (r_33, σ_34)) else q_let (σ.1 (q_rf X (q_rf X a 8) 0) 0 : Int32) (fun f_12 => q_let (F_X10_hasPlaces X σ r_1 (0 : Int32) f_12 : Int32) (fun r_14 => if r_14.toInt = 0 then q_bi (F_X11_none X σ a (4 : Int32)) (fun r_30 σ_31 => (r_30, σ_31)) else F_X11_copyHand_L74_1 X f_12 a v1 r_1 ((2147483647 - (0 : Int32).toInt).toNat + 1) (0 : Int32) σ))) else q_bi (F_X11_none X σ a (3 : Int32)) (fun r_36 σ_37 => (r_36, σ_37)))))

noncomputable def F_X11_isKindOrNone (X : XW) (σ : ST) (a : Nat) (v1 : Int32) : Int32 :=
  if v1.toInt = (-1) then (1 : Int32) else q_let (F_X11_isKind X σ a v1 : Int32) (fun r_2 => if r_2.toInt = 0 then (0 : Int32) else (1 : Int32))

noncomputable def F_X11_lay_J71_2 (X : XW) (σ : ST) (a : Nat) (v1 : Int32) (v2 : Int32) (v3 : Int32) (v4 : Int32) : Int32 × ST :=
  q_let (F_X0_clearWanted X σ (q_rf X a 8) : ST) (fun σ_27 => q_let (F_X0_want X σ_27 (q_rf X a 8) v1 (1 : Int32) : ST) (fun σ_30 => q_let (F_X0_want X σ_30 (q_rf X a 8) v2 (1 : Int32) : ST) (fun σ_33 => q_let (F_X0_want X σ_33 (q_rf X a 8) v3 (1 : Int32) : ST) (fun σ_36 => q_let (F_X0_want X σ_36 (q_rf X a 8) v4 (1 : Int32) : ST) (fun σ_39 => q_let (σ_39.1 (q_rf X a 8) 9 : Int32) (fun f_40 => q_let (σ_39.1 (q_rf X (q_rf X a 8) 0) 3 : Int32) (fun f_41 => if f_41.toInt < f_40.toInt then q_bi (F_X11_none X σ_39 a (7 : Int32)) (fun r_70 σ_71 => (r_70, σ_71)) else q_let (σ_39.1 (q_rf X a 8) 7 : Int32) (fun f_43 => if f_43.toInt = 0 then q_let (σ_39.1 (q_rf X a 8) 6 : Int32) (fun f_48 => if f_48.toInt = (-1) then q_let (σ_39.1 (q_rf X (q_rf X a 8) 0) 4 : Int32) (fun f_53 => if f_53.toInt = 0 then q_bi (F_X11_none X σ_39 a (9 : Int32)) (fun r_56 σ_57 => (r_56, σ_57)) else q_let (F_X0_holdsWanted X σ_39 (q_rf X a 8) : Int32) (fun r_58 => if r_58.toInt = 0 then q_bi (F_X11_none X σ_39 a (9 : Int32)) (fun r_67 σ_68 => (r_67, σ_68)) else q_let (F_X0_layWanted X σ_39 (q_rf X a 8) : ST) (fun σ_62 => q_let (σ_62.1 (q_rf X (q_rf X a 8) 2) 1 : Int32) (fun f_63 => q_bi (F_X11_good X σ_62 a f_63) (fun r_64 σ_65 => (r_64, σ_65)))))) else q_bi (F_X11_none X σ_39 a (9 : Int32)) (fun r_51 σ_52 => (r_51, σ_52))) else q_bi (F_X11_none X σ_39 a (9 : Int32)) (fun r_46 σ_47 => (r_46, σ_47))))))))))

noncomputable def F_X11_lay_J54_1 (X : XW) (v3 : Int32) (v4 : Int32) (σ : ST) (a : Nat) (v1 : Int32) (v2 : Int32) : Int32 × ST :=
  if v3.toInt = (-1) then if v4.toInt = (-1) then F_X11_lay_J71_2 X σ a v1 v2 v3 v4 else q_bi (F_X11_none X σ a (5 : Int32)) (fun r_75 σ_76 => (r_75, σ_76)) else F_X11_lay_J71_2 X σ a v1 v2 v3 v4

noncomputable def F_X11_lay (X : XW) (σ : ST) (a : Nat) (v1 : Int32) (v2 : Int32) (v3 : Int32) (v4 : Int32) : Int32 × ST :=
  q_let (F_X11_isKindOrNone X σ a v1 : Int32) (fun r_1 => if r_1.toInt = 0 then q_bi (F_X11_none X σ a (2 : Int32)) (fun r_5 σ_6 => (r_5, σ_6)) else q_let (F_X11_isKindOrNone X σ a v2 : Int32) (fun r_7 => if r_7.toInt = 0 then q_bi (F_X11_none X σ a (2 : Int32)) (fun r_11 σ_12 => (r_11, σ_12)) else q_let (F_X11_isKindOrNone X σ a v3 : Int32) (fun r_13 => if r_13.toInt = 0 then q_bi (F_X11_none X σ a (2 : Int32)) (fun r_17 σ_18 => (r_17, σ_18)) else q_let (F_X11_isKindOrNone X σ a v4 : Int32) (fun r_19 => if r_19.toInt = 0 then q_bi (F_X11_none X σ a (2 : Int32)) (fun r_83 σ_84 => (r_83, σ_84)) else if v1.toInt = (-1) then q_bi (F_X11_none X σ a (5 : Int32)) (fun r_24 σ_25 => (r_24, σ_25)) else if v2.toInt = (-1) then if v3.toInt = (-1) then F_X11_lay_J54_1 X v3 v4 σ a v1 v2 else q_bi (F_X11_none X σ a (5 : Int32)) (fun r_80 σ_81 => (r_80, σ_81)) else F_X11_lay_J54_1 X v3 v4 σ a v1 v2))))

noncomputable def F_X11_leave (X : XW) (σ : ST) (a : Nat) : Int32 × ST :=
  q_let (σ.1 (q_rf X a 8) 7 : Int32) (fun f_1 => if f_1.toInt = 0 then q_bi (F_X11_none X σ a (8 : Int32)) (fun r_9 σ_10 => (r_9, σ_10)) else q_let (F_X0_letLie X σ (q_rf X a 8) : ST) (fun σ_4 => q_let (σ_4.1 (q_rf X a 8) 5 : Int32) (fun f_5 => q_bi (F_X11_good X σ_4 a f_5) (fun r_6 σ_7 => (r_6, σ_7)))))

noncomputable def F_X11_doubterStatus (X : XW) (σ : ST) (a : Nat) (v1 : Int32) : Int32 :=
  q_let (F_X11_isPlayer X σ a v1 : Int32) (fun r_1 => if r_1.toInt = 0 then (2 : Int32) else q_let (σ.1 (q_rf X a 8) 7 : Int32) (fun f_4 => if f_4.toInt = 0 then (8 : Int32) else q_let (σ.1 (q_rf X a 8) 5 : Int32) (fun f_6 => if v1.toInt = f_6.toInt then (5 : Int32) else (0 : Int32))))

noncomputable def F_X11_doubt (X : XW) (σ : ST) (a : Nat) (v1 : Int32) : Int32 × ST :=
  q_let (F_X11_doubterStatus X σ a v1 : Int32) (fun r_1 => if r_1.toInt = 0 then q_bi (F_X0_challenge X σ (q_rf X a 8) v1) (fun r_6 σ_7 => q_bi (F_X11_good X σ_7 a r_6) (fun r_8 σ_9 => (r_8, σ_9))) else q_bi (F_X11_none X σ a r_1) (fun r_4 σ_5 => (r_4, σ_5)))

noncomputable def F_X11_isSixteenths (X : XW) (σ : ST) (v0 : Int32) : Int32 :=
  if v0.toInt < 0 then (0 : Int32) else if 16 < v0.toInt then (0 : Int32) else (1 : Int32)

noncomputable def F_X11_bend (X : XW) (σ : ST) (a : Nat) (v1 : Int32) (v2 : Int32) (v3 : Int32) : Int32 × ST :=
  q_let (F_X11_isPlayer X σ a v1 : Int32) (fun r_1 => if r_1.toInt = 0 then q_bi (F_X11_no X σ a (2 : Int32)) (fun r_23 σ_24 => (r_23, σ_24)) else q_let (F_X11_isSixteenths X σ v2 : Int32) (fun r_4 => if r_4.toInt = 0 then q_bi (F_X11_no X σ a (5 : Int32)) (fun r_8 σ_9 => (r_8, σ_9)) else q_let (F_X11_isSixteenths X σ v3 : Int32) (fun r_10 => if r_10.toInt = 0 then q_bi (F_X11_no X σ a (5 : Int32)) (fun r_20 σ_21 => (r_20, σ_21)) else q_let (F_X5_set X σ (q_rf X (q_rf X (q_rf X a 8) 1) 3) v1 v2 : ST) (fun σ_14 => q_let (F_X5_set X σ_14 (q_rf X (q_rf X (q_rf X a 8) 1) 4) v1 v3 : ST) (fun σ_16 => q_bi (F_X11_yes X σ_16 a) (fun r_17 σ_18 => (r_17, σ_18)))))))

noncomputable def F_X11_known (X : XW) (σ : ST) (a : Nat) (v1 : Int32) (v2 : Int32) : Int32 × ST :=
  q_let (F_X11_isPlayer X σ a v1 : Int32) (fun r_1 => if r_1.toInt = 0 then q_bi (F_X11_none X σ a (2 : Int32)) (fun r_5 σ_6 => (r_5, σ_6)) else q_let (F_X11_isKind X σ a v2 : Int32) (fun r_7 => if r_7.toInt = 0 then q_bi (F_X11_none X σ a (2 : Int32)) (fun r_15 σ_16 => (r_15, σ_16)) else q_let (F_X1_knownTo X σ (q_rf X (q_rf X a 8) 1) v1 v2 : Int32) (fun r_10 => q_bi (F_X11_good X σ a r_10) (fun r_12 σ_13 => (r_12, σ_13)))))

noncomputable def F_X11_unknown (X : XW) (σ : ST) (a : Nat) (v1 : Int32) (v2 : Int32) : Int32 × ST :=
  q_let (F_X11_isPlayer X σ a v1 : Int32) (fun r_1 => if r_1.toInt = 0 then q_bi (F_X11_none X σ a (2 : Int32)) (fun r_5 σ_6 => (r_5, σ_6)) else q_let (F_X11_isKindOrNone X σ a v2 : Int32) (fun r_7 => if r_7.toInt = 0 then q_bi (F_X11_none X σ a (2 : Int32)) (fun r_20 σ_21 => (r_20, σ_21)) else if v2.toInt = (-1) then q_let (F_X0_allUnknownTo X σ (q_rf X a 8) v1 : Int32) (fun r_15 => q_bi (F_X11_good X σ a r_15) (fun r_17 σ_18 => (r_17, σ_18))) else q_let (F_X0_unknownTo X σ (q_rf X a 8) v1 v2 : Int32) (fun r_11 => q_bi (F_X11_good X σ a r_11) (fun r_13 σ_14 => (r_13, σ_14)))))

noncomputable def F_X11_impossible (X : XW) (σ : ST) (a : Nat) (v1 : Int32) : Int32 × ST :=
  q_let (F_X11_doubterStatus X σ a v1 : Int32) (fun r_1 => if r_1.toInt = 0 then q_let (F_X0_isImpossibleFor X σ (q_rf X a 8) v1 : Int32) (fun r_4 => if r_4.toInt = 0 then q_bi (F_X11_good X σ a (0 : Int32)) (fun r_8 σ_9 => (r_8, σ_9)) else q_bi (F_X11_good X σ a (1 : Int32)) (fun r_11 σ_12 => (r_11, σ_12))) else q_bi (F_X11_none X σ a r_1) (fun r_13 σ_14 => (r_13, σ_14)))

noncomputable def F_X11_commonDivisor_B3_1 (X : XW) (B3_1 : Int64 → Int64 → Int32 → Int64) (w_1 : Int64) (w_2 : Int64) (x_3 : Int32) : Int64 :=
  if x_3.toInt < 200 then q_let (lg_cmp w_2 (0 : Int64) : Int32) (fun z_6 => if z_6.toInt = 0 then w_1 else q_let (w_1 % w_2 : Int64) (fun y_9 => q_let (x_3 + 1 : Int32) (fun z_10 => B3_1 w_2 y_9 z_10))) else w_1

noncomputable def F_X11_commonDivisor_L3_1 (X : XW) : Nat → Int64 → Int64 → Int32 → Int64
  | 0 => fun w_1 w_2 x_3 => (0 : Int64)
  | k_ + 1 => F_X11_commonDivisor_B3_1 X (F_X11_commonDivisor_L3_1 X k_)

theorem F_X11_commonDivisor_L3_1_s {X : XW} {k_ : Nat} {w_1 : Int64} {w_2 : Int64} {x_3 : Int32} : F_X11_commonDivisor_L3_1 X (k_ + 1) w_1 w_2 x_3 = F_X11_commonDivisor_B3_1 X (F_X11_commonDivisor_L3_1 X k_) w_1 w_2 x_3 := rfl

noncomputable def F_X11_commonDivisor (X : XW) (σ : ST) (v0 : Int64) (v1 : Int64) : Int64 :=
  F_X11_commonDivisor_L3_1 X ((2147483647 - (0 : Int32).toInt).toNat + 1) v0 v1 (0 : Int32)

noncomputable def F_X11_tell (X : XW) (σ : ST) (a : Nat) (v1 : Int64) (v2 : Int64) : Int32 × ST :=
  q_let (F_J9_abs_067f4 X σ v1 : Int64) (fun r_1 => q_let (F_X11_commonDivisor X σ r_1 v2 : Int64) (fun r_3 => q_let (lg_cmp v1 (0 : Int64) : Int32) (fun z_5 => if z_5.toInt = 0 then q_let (q_sl σ a 1 (0 : Int64) : ST) (fun σ_8 => q_let (q_sl σ_8 a 2 (1 : Int64) : ST) (fun σ_9 => q_bi (F_X11_yes X σ_9 a) (fun r_10 σ_11 => (r_10, σ_11)))) else q_let (lg_cmp v2 (0 : Int64) : Int32) (fun z_12 => if 0 < z_12.toInt then q_let (lg_cmp r_3 (0 : Int64) : Int32) (fun z_19 => if 0 < z_19.toInt then q_let (v1 / r_3 : Int64) (fun y_22 => q_let (q_sl σ a 1 y_22 : ST) (fun σ_23 => q_let (v2 / r_3 : Int64) (fun y_24 => q_let (q_sl σ_23 a 2 y_24 : ST) (fun σ_25 => q_bi (F_X11_yes X σ_25 a) (fun r_26 σ_27 => (r_26, σ_27)))))) else q_let (q_sl σ a 1 (0 : Int64) : ST) (fun σ_28 => q_let (q_sl σ_28 a 2 (1 : Int64) : ST) (fun σ_29 => q_bi (F_X11_yes X σ_29 a) (fun r_30 σ_31 => (r_30, σ_31))))) else q_let (q_sl σ a 1 (0 : Int64) : ST) (fun σ_15 => q_let (q_sl σ_15 a 2 (1 : Int64) : ST) (fun σ_16 => q_bi (F_X11_yes X σ_16 a) (fun r_17 σ_18 => (r_17, σ_18))))))))

noncomputable def F_X11_blind (X : XW) (σ : ST) (a : Nat) (v1 : Int32) : Int32 × ST :=
  q_let (F_X11_doubterStatus X σ a v1 : Int32) (fun r_1 => if r_1.toInt = 0 then q_let (F_X0_trueWays X σ (q_rf X a 8) v1 : Int64) (fun r_4 => q_let (F_X0_allWays X σ (q_rf X a 8) v1 : Int64) (fun r_6 => q_bi (F_X11_tell X σ a r_4 r_6) (fun r_8 σ_9 => (r_8, σ_9)))) else q_bi (F_X11_no X σ a r_1) (fun r_10 σ_11 => (r_10, σ_11)))

noncomputable def F_X11_honest (X : XW) (σ : ST) (a : Nat) (v1 : Int32) : Int32 × ST :=
  q_let (F_X11_isPlayer X σ a v1 : Int32) (fun r_1 => if r_1.toInt = 0 then q_bi (F_X11_no X σ a (2 : Int32)) (fun r_11 σ_12 => (r_11, σ_12)) else q_let (F_X1_honestTop X σ (q_rf X (q_rf X a 8) 1) v1 : Int64) (fun r_4 => q_let (F_X1_honestBottom X σ (q_rf X (q_rf X a 8) 1) v1 : Int64) (fun r_6 => q_bi (F_X11_tell X σ a r_4 r_6) (fun r_8 σ_9 => (r_8, σ_9)))))

noncomputable def F_X11_belief (X : XW) (σ : ST) (a : Nat) (v1 : Int32) : Int32 × ST :=
  q_let (F_X11_doubterStatus X σ a v1 : Int32) (fun r_1 => if r_1.toInt = 0 then q_let (F_X0_trueWays X σ (q_rf X a 8) v1 : Int64) (fun r_4 => q_let (F_X0_allWays X σ (q_rf X a 8) v1 : Int64) (fun r_6 => q_let (r_6 - r_4 : Int64) (fun y_8 => q_let (σ.1 (q_rf X a 8) 5 : Int32) (fun f_9 => q_let (F_X1_honestTop X σ (q_rf X (q_rf X a 8) 1) f_9 : Int64) (fun r_10 => q_let (σ.1 (q_rf X a 8) 5 : Int32) (fun f_12 => q_let (F_X1_honestBottom X σ (q_rf X (q_rf X a 8) 1) f_12 : Int64) (fun r_13 => q_let (r_13 - r_10 : Int64) (fun y_15 => q_let (r_4 * r_10 : Int64) (fun y_16 => q_let (r_4 * r_10 : Int64) (fun y_17 => q_let (y_8 * y_15 : Int64) (fun y_18 => q_let (y_17 + y_18 : Int64) (fun y_19 => q_bi (F_X11_tell X σ a y_16 y_19) (fun r_20 σ_21 => (r_20, σ_21)))))))))))))) else q_bi (F_X11_no X σ a r_1) (fun r_22 σ_23 => (r_22, σ_23)))

noncomputable def F_X11_worth (X : XW) (σ : ST) (a : Nat) (v1 : Int32) : Int32 × ST :=
  q_let (F_X11_doubterStatus X σ a v1 : Int32) (fun r_1 => if r_1.toInt = 0 then q_let (F_X0_worthTop X σ (q_rf X a 8) v1 : Int64) (fun r_4 => q_let (F_X0_allWays X σ (q_rf X a 8) v1 : Int64) (fun r_6 => q_bi (F_X11_tell X σ a r_4 r_6) (fun r_8 σ_9 => (r_8, σ_9)))) else q_bi (F_X11_no X σ a r_1) (fun r_10 σ_11 => (r_10, σ_11)))

noncomputable def F_X11_ready_E128_2 (X : XW) (σ : ST) (a : Nat) (x_12 : Int32) : Int32 × ST :=
  q_bi (F_X11_good X σ a x_12) (fun r_16 σ_17 => (r_16, σ_17))

noncomputable def F_X11_ready_B54_1 (X : XW) (f_1 : Int32) (σ : ST) (a : Nat) (B54_1 : Int32 → Int32 → Int32 × ST) (x_12 : Int32) (x_13 : Int32) : Int32 × ST :=
  if x_13.toInt < f_1.toInt then q_let (σ.1 (q_rf X a 8) 5 : Int32) (fun f_18 => q_let (F_X6_playerAfter X σ (q_rf X (q_rf X a 8) 0) f_18 x_13 : Int32) (fun r_19 => q_let (F_X0_worthTop X σ (q_rf X a 8) r_19 : Int64) (fun r_21 => q_let (F_X0_allWays X σ (q_rf X a 8) x_12 : Int64) (fun r_23 => q_let (r_21 * r_23 : Int64) (fun y_25 => q_let (F_X0_worthTop X σ (q_rf X a 8) x_12 : Int64) (fun r_26 => q_let (F_X0_allWays X σ (q_rf X a 8) r_19 : Int64) (fun r_28 => q_let (r_26 * r_28 : Int64) (fun y_30 => q_let (lg_cmp y_25 y_30 : Int32) (fun z_31 => if 0 < z_31.toInt then q_let (x_13 + 1 : Int32) (fun z_34 => B54_1 r_19 z_34) else q_let (x_13 + 1 : Int32) (fun z_33 => B54_1 x_12 z_33)))))))))) else F_X11_ready_E128_2 X σ a x_12

noncomputable def F_X11_ready_L54_1 (X : XW) (f_1 : Int32) (σ : ST) (a : Nat) : Nat → Int32 → Int32 → Int32 × ST
  | 0 => fun x_12 x_13 => ((0 : Int32), σ)
  | k_ + 1 => F_X11_ready_B54_1 X f_1 σ a (F_X11_ready_L54_1 X f_1 σ a k_)

theorem F_X11_ready_L54_1_s {X : XW} {f_1 : Int32} {σ : ST} {a : Nat} {k_ : Nat} {x_12 : Int32} {x_13 : Int32} : F_X11_ready_L54_1 X f_1 σ a (k_ + 1) x_12 x_13 = F_X11_ready_B54_1 X f_1 σ a (F_X11_ready_L54_1 X f_1 σ a k_) x_12 x_13 := rfl

noncomputable def F_X11_ready (X : XW) (σ : ST) (a : Nat) : Int32 × ST :=
  q_let (σ.1 (q_rf X (q_rf X a 8) 0) 4 : Int32) (fun f_1 => q_let (σ.1 (q_rf X a 8) 7 : Int32) (fun f_2 => if f_2.toInt = 0 then q_bi (F_X11_none X σ a (8 : Int32)) (fun r_5 σ_6 => (r_5, σ_6)) else if f_1.toInt < 2 then q_bi (F_X11_none X σ a (8 : Int32)) (fun r_36 σ_37 => (r_36, σ_37)) else q_let (σ.1 (q_rf X a 8) 5 : Int32) (fun f_8 => q_let (F_X6_playerAfter X σ (q_rf X (q_rf X a 8) 0) f_8 (1 : Int32) : Int32) (fun r_10 => F_X11_ready_L54_1 X f_1 σ a ((2147483647 - (2 : Int32).toInt).toNat + 1) r_10 (2 : Int32)))))

noncomputable def F_X11_heap (X : XW) (σ : ST) (a : Nat) (v1 : Int32) (v2 : Int32) : Int32 × ST :=
  q_let (F_X11_isPlayer X σ a v1 : Int32) (fun r_1 => if r_1.toInt = 0 then q_bi (F_X11_no X σ a (2 : Int32)) (fun r_5 σ_6 => (r_5, σ_6)) else q_let (F_X11_isKind X σ a v2 : Int32) (fun r_7 => if r_7.toInt = 0 then q_bi (F_X11_no X σ a (2 : Int32)) (fun r_35 σ_36 => (r_35, σ_36)) else q_let (F_X1_laidBy X σ (q_rf X (q_rf X a 8) 1) v1 v2 : Int32) (fun r_10 => q_let (r_10.toInt64 : Int64) (fun y_12 => q_let (σ.1 (q_rf X (q_rf X a 8) 2) 1 : Int32) (fun f_13 => q_let (F_X1_allLaidBy X σ (q_rf X (q_rf X a 8) 1) v1 : Int32) (fun r_14 => q_let (f_13 - r_14 : Int32) (fun z_16 => q_let (z_16.toInt64 : Int64) (fun y_17 => q_let (F_X0_allUnknownTo X σ (q_rf X a 8) v1 : Int32) (fun r_18 => q_let (r_18.toInt64 : Int64) (fun y_20 => q_let (lg_cmp y_20 (0 : Int64) : Int32) (fun z_21 => if z_21.toInt = 0 then q_bi (F_X11_tell X σ a y_12 (1 : Int64)) (fun r_32 σ_33 => (r_32, σ_33)) else q_let (y_12 * y_20 : Int64) (fun y_24 => q_let (F_X0_unknownTo X σ (q_rf X a 8) v1 v2 : Int32) (fun r_25 => q_let (r_25.toInt64 : Int64) (fun y_27 => q_let (y_17 * y_27 : Int64) (fun y_28 => q_let (y_24 + y_28 : Int64) (fun y_29 => q_bi (F_X11_tell X σ a y_29 y_20) (fun r_30 σ_31 => (r_30, σ_31))))))))))))))))))

noncomputable def F_X11_said (X : XW) (σ : ST) (a : Nat) (v1 : Int32) (v2 : Int32) : Int32 × ST :=
  q_let (F_X11_isPlayer X σ a v1 : Int32) (fun r_1 => if r_1.toInt = 0 then q_bi (F_X11_none X σ a (2 : Int32)) (fun r_5 σ_6 => (r_5, σ_6)) else q_let (F_X11_isKind X σ a v2 : Int32) (fun r_7 => if r_7.toInt = 0 then q_bi (F_X11_none X σ a (2 : Int32)) (fun r_15 σ_16 => (r_15, σ_16)) else q_let (F_X2_timesSaid X σ (q_rf X (q_rf X a 8) 2) v1 v2 : Int32) (fun r_10 => q_bi (F_X11_good X σ a r_10) (fun r_12 σ_13 => (r_12, σ_13)))))

noncomputable def F_X11_waits (X : XW) (σ : ST) (a : Nat) (v1 : Int32) : Int32 × ST :=
  q_let (F_X11_isPlayer X σ a v1 : Int32) (fun r_1 => if r_1.toInt = 0 then q_bi (F_X11_none X σ a (2 : Int32)) (fun r_5 σ_6 => (r_5, σ_6)) else q_let (F_X0_turnsAhead X σ (q_rf X a 8) v1 : Int32) (fun r_7 => q_bi (F_X11_good X σ a r_7) (fun r_9 σ_10 => (r_9, σ_10))))

noncomputable def F_X11_forecastStatus (X : XW) (σ : ST) (a : Nat) (v1 : Int32) (v2 : Int32) : Int32 :=
  q_let (F_X11_isPlayer X σ a v1 : Int32) (fun r_1 => if r_1.toInt = 0 then (2 : Int32) else if v2.toInt < 0 then (5 : Int32) else if 60 < v2.toInt then (5 : Int32) else (0 : Int32))

noncomputable def F_X11_falls (X : XW) (σ : ST) (a : Nat) (v1 : Int32) (v2 : Int32) : Int32 × ST :=
  q_let (F_X11_forecastStatus X σ a v1 v2 : Int32) (fun r_1 => if r_1.toInt = 0 then q_let (F_X0_fallingKind X σ (q_rf X a 8) v1 v2 : Int32) (fun r_6 => q_bi (F_X11_good X σ a r_6) (fun r_8 σ_9 => (r_8, σ_9))) else q_bi (F_X11_none X σ a r_1) (fun r_4 σ_5 => (r_4, σ_5)))

noncomputable def F_X11_honestly (X : XW) (σ : ST) (a : Nat) (v1 : Int32) (v2 : Int32) : Int32 × ST :=
  q_let (F_X11_forecastStatus X σ a v1 v2 : Int32) (fun r_1 => if r_1.toInt = 0 then q_let (F_X0_foresee X σ (q_rf X a 8) v1 v2 : ST) (fun σ_5 => q_let (σ_5.1 (q_rf X a 8) 11 : Int32) (fun f_6 => q_bi (F_X11_good X σ_5 a f_6) (fun r_7 σ_8 => (r_7, σ_8)))) else q_bi (F_X11_none X σ a r_1) (fun r_9 σ_10 => (r_9, σ_10)))

noncomputable def F_X11_goodOrNotThere (X : XW) (σ : ST) (a : Nat) (v1 : Int32) : Int32 × ST :=
  if v1.toInt = (-1) then q_bi (F_X11_none X σ a (8 : Int32)) (fun r_5 σ_6 => (r_5, σ_6)) else q_bi (F_X11_good X σ a v1) (fun r_2 σ_3 => (r_2, σ_3))

noncomputable def F_X11_rid (X : XW) (σ : ST) (a : Nat) (v1 : Int32) : Int32 × ST :=
  q_let (F_X11_isPlayer X σ a v1 : Int32) (fun r_1 => if r_1.toInt = 0 then q_bi (F_X11_none X σ a (2 : Int32)) (fun r_11 σ_12 => (r_11, σ_12)) else q_let (F_X0_foresee X σ (q_rf X a 8) v1 (60 : Int32) : ST) (fun σ_6 => q_let (σ_6.1 (q_rf X a 8) 12 : Int32) (fun f_7 => q_bi (F_X11_goodOrNotThere X σ_6 a f_7) (fun r_8 σ_9 => (r_8, σ_9)))))

noncomputable def F_X11_lastKind (X : XW) (σ : ST) (a : Nat) (v1 : Int32) : Int32 × ST :=
  q_let (F_X11_isPlayer X σ a v1 : Int32) (fun r_1 => if r_1.toInt = 0 then q_bi (F_X11_none X σ a (2 : Int32)) (fun r_16 σ_17 => (r_16, σ_17)) else q_let (F_X0_foresee X σ (q_rf X a 8) v1 (60 : Int32) : ST) (fun σ_6 => q_let (σ_6.1 (q_rf X a 8) 12 : Int32) (fun f_7 => if f_7.toInt = (-1) then q_bi (F_X11_goodOrNotThere X σ_6 a ((-1) : Int32)) (fun r_13 σ_14 => (r_13, σ_14)) else q_let (σ_6.1 (q_rf X a 8) 13 : Int32) (fun f_9 => q_bi (F_X11_goodOrNotThere X σ_6 a f_9) (fun r_10 σ_11 => (r_10, σ_11))))))

noncomputable def F_X11_mustLie (X : XW) (σ : ST) (a : Nat) (v1 : Int32) : Int32 × ST :=
  q_let (F_X11_isPlayer X σ a v1 : Int32) (fun r_1 => if r_1.toInt = 0 then q_bi (F_X11_none X σ a (2 : Int32)) (fun r_11 σ_12 => (r_11, σ_12)) else q_let (F_X0_foresee X σ (q_rf X a 8) v1 (60 : Int32) : ST) (fun σ_6 => q_let (σ_6.1 (q_rf X a 8) 14 : Int32) (fun f_7 => q_bi (F_X11_goodOrNotThere X σ_6 a f_7) (fun r_8 σ_9 => (r_8, σ_9)))))

noncomputable def F_X11_soonest_E69_2 (X : XW) (σ_4 : ST) (a : Nat) (x_1 : Int32) : Int32 × ST :=
  q_bi (F_X11_goodOrNotThere X σ_4 a x_1) (fun r_8 σ_9 => (r_8, σ_9))

noncomputable def F_X11_soonest_B7_1 (X : XW) (a : Nat) (B7_1 : Int32 → Int32 → Int32 → ST → Int32 × ST) (x_1 : Int32) (x_2 : Int32) (x_3 : Int32) (σ_4 : ST) : Int32 × ST :=
  q_let (σ_4.1 (q_rf X (q_rf X a 8) 0) 4 : Int32) (fun f_6 => if x_3.toInt < f_6.toInt then q_let (F_X0_foresee X σ_4 (q_rf X a 8) x_3 (60 : Int32) : ST) (fun σ_12 => q_let (σ_12.1 (q_rf X a 8) 12 : Int32) (fun f_13 => if f_13.toInt = (-1) then q_let (x_3 + 1 : Int32) (fun z_15 => B7_1 x_1 x_2 z_15 σ_12) else q_let (σ_12.1 (q_rf X a 8) 12 : Int32) (fun f_16 => if f_16.toInt < x_2.toInt then q_let (σ_12.1 (q_rf X a 8) 12 : Int32) (fun f_19 => q_let (x_3 + 1 : Int32) (fun z_20 => B7_1 x_3 f_19 z_20 σ_12)) else q_let (x_3 + 1 : Int32) (fun z_18 => B7_1 x_1 x_2 z_18 σ_12)))) else F_X11_soonest_E69_2 X σ_4 a x_1)

noncomputable def F_X11_soonest_L7_1 (X : XW) (a : Nat) : Nat → Int32 → Int32 → Int32 → ST → Int32 × ST
  | 0 => fun x_1 x_2 x_3 σ_4 => ((0 : Int32), σ_4)
  | k_ + 1 => F_X11_soonest_B7_1 X a (F_X11_soonest_L7_1 X a k_)

theorem F_X11_soonest_L7_1_s {X : XW} {a : Nat} {k_ : Nat} {x_1 : Int32} {x_2 : Int32} {x_3 : Int32} {σ_4 : ST} : F_X11_soonest_L7_1 X a (k_ + 1) x_1 x_2 x_3 σ_4 = F_X11_soonest_B7_1 X a (F_X11_soonest_L7_1 X a k_) x_1 x_2 x_3 σ_4 := rfl

noncomputable def F_X11_soonest (X : XW) (σ : ST) (a : Nat) : Int32 × ST :=
  F_X11_soonest_L7_1 X a ((2147483647 - (0 : Int32).toInt).toNat + 1) ((-1) : Int32) (61 : Int32) (0 : Int32) σ

noncomputable def F_X11_best_E239_2 (X : XW) (x_34 : Int32) (σ : ST) (a : Nat) (v2 : Int32) (x_32 : Int32) (x_33 : Int32) : Int32 × ST :=
  q_let (x_34.toInt64 : Int64) (fun y_42 => q_bi (F_X11_tell X σ a y_42 (16 : Int64)) (fun r_43 σ_44 => if v2.toInt = 0 then (x_32, σ_44) else (x_33, σ_44)))

noncomputable def F_X11_best_E233_4 (X : XW) (x_35 : Int32) (B133_1 : Int32 → Int32 → Int32 → Int32 → Int32 × ST) (x_50 : Int32) (x_51 : Int32) (x_52 : Int32) : Int32 × ST :=
  q_let (x_35 + 1 : Int32) (fun z_56 => B133_1 x_50 x_51 x_52 z_56)

noncomputable def F_X11_best_B175_3 (X : XW) (x_35 : Int32) (B133_1 : Int32 → Int32 → Int32 → Int32 → Int32 × ST) (σ : ST) (a : Nat) (v1 : Int32) (B175_3 : Int32 → Int32 → Int32 → Int32 → Int32 × ST) (x_50 : Int32) (x_51 : Int32) (x_52 : Int32) (x_53 : Int32) : Int32 × ST :=
  if x_53.toInt < 0 then F_X11_best_E233_4 X x_35 B133_1 x_50 x_51 x_52 else q_let (F_X0_sixteenthsLeft X σ (q_rf X a 8) x_53 x_35 v1 : Int32) (fun r_57 => q_let (x_53 + x_35 : Int32) (fun z_59 => if 0 < z_59.toInt then if x_52.toInt = (-1) then q_let (x_53 + (-1) : Int32) (fun z_63 => B175_3 x_53 x_35 r_57 z_63) else if r_57.toInt < x_52.toInt then q_let (x_53 + (-1) : Int32) (fun z_66 => B175_3 x_53 x_35 r_57 z_66) else q_let (x_53 + (-1) : Int32) (fun z_65 => B175_3 x_50 x_51 x_52 z_65) else q_let (x_53 + (-1) : Int32) (fun z_61 => B175_3 x_50 x_51 x_52 z_61)))

noncomputable def F_X11_best_L175_3 (X : XW) (x_35 : Int32) (B133_1 : Int32 → Int32 → Int32 → Int32 → Int32 × ST) (σ : ST) (a : Nat) (v1 : Int32) : Nat → Int32 → Int32 → Int32 → Int32 → Int32 × ST
  | 0 => fun x_50 x_51 x_52 x_53 => ((0 : Int32), σ)
  | k_ + 1 => F_X11_best_B175_3 X x_35 B133_1 σ a v1 (F_X11_best_L175_3 X x_35 B133_1 σ a v1 k_)

theorem F_X11_best_L175_3_s {X : XW} {x_35 : Int32} {B133_1 : Int32 → Int32 → Int32 → Int32 → Int32 × ST} {σ : ST} {a : Nat} {v1 : Int32} {k_ : Nat} {x_50 : Int32} {x_51 : Int32} {x_52 : Int32} {x_53 : Int32} : F_X11_best_L175_3 X x_35 B133_1 σ a v1 (k_ + 1) x_50 x_51 x_52 x_53 = F_X11_best_B175_3 X x_35 B133_1 σ a v1 (F_X11_best_L175_3 X x_35 B133_1 σ a v1 k_) x_50 x_51 x_52 x_53 := rfl

noncomputable def F_X11_best_B133_1 (X : XW) (σ : ST) (a : Nat) (r_15 : Int32) (r_30 : Int32) (v2 : Int32) (v1 : Int32) (B133_1 : Int32 → Int32 → Int32 → Int32 → Int32 × ST) (x_32 : Int32) (x_33 : Int32) (x_34 : Int32) (x_35 : Int32) : Int32 × ST :=
  q_let (σ.1 (q_rf X (q_rf X a 8) 0) 3 : Int32) (fun f_37 => q_let (r_15 - r_30 : Int32) (fun z_38 => q_let (F_J9_min_7cf53 X σ f_37 z_38 : Int32) (fun r_39 => if r_39.toInt < x_35.toInt then F_X11_best_E239_2 X x_34 σ a v2 x_32 x_33 else q_let (σ.1 (q_rf X (q_rf X a 8) 0) 3 : Int32) (fun f_46 => q_let (f_46 - x_35 : Int32) (fun z_47 => q_let (F_J9_min_7cf53 X σ z_47 r_30 : Int32) (fun r_48 => F_X11_best_L175_3 X x_35 B133_1 σ a v1 ((r_48.toInt + 2147483649).toNat + 1) x_32 x_33 x_34 r_48))))))

noncomputable def F_X11_best_L133_1 (X : XW) (σ : ST) (a : Nat) (r_15 : Int32) (r_30 : Int32) (v2 : Int32) (v1 : Int32) : Nat → Int32 → Int32 → Int32 → Int32 → Int32 × ST
  | 0 => fun x_32 x_33 x_34 x_35 => ((0 : Int32), σ)
  | k_ + 1 => F_X11_best_B133_1 X σ a r_15 r_30 v2 v1 (F_X11_best_L133_1 X σ a r_15 r_30 v2 v1 k_)

theorem F_X11_best_L133_1_s {X : XW} {σ : ST} {a : Nat} {r_15 : Int32} {r_30 : Int32} {v2 : Int32} {v1 : Int32} {k_ : Nat} {x_32 : Int32} {x_33 : Int32} {x_34 : Int32} {x_35 : Int32} : F_X11_best_L133_1 X σ a r_15 r_30 v2 v1 (k_ + 1) x_32 x_33 x_34 x_35 = F_X11_best_B133_1 X σ a r_15 r_30 v2 v1 (F_X11_best_L133_1 X σ a r_15 r_30 v2 v1 k_) x_32 x_33 x_34 x_35 := rfl

noncomputable def F_X11_best (X : XW) (σ : ST) (a : Nat) (v1 : Int32) (v2 : Int32) : Int32 × ST :=
  q_let (F_X11_isSixteenths X σ v1 : Int32) (fun r_1 => if r_1.toInt = 0 then q_bi (F_X11_none X σ a (5 : Int32)) (fun r_5 σ_6 => (r_5, σ_6)) else if v2.toInt < 0 then q_bi (F_X11_none X σ a (5 : Int32)) (fun r_9 σ_10 => (r_9, σ_10)) else if 1 < v2.toInt then q_bi (F_X11_none X σ a (5 : Int32)) (fun r_74 σ_75 => (r_74, σ_75)) else q_let (σ.1 (q_rf X (q_rf X a 8) 0) 4 : Int32) (fun f_12 => if f_12.toInt = 0 then q_bi (F_X11_none X σ a (8 : Int32)) (fun r_71 σ_72 => (r_71, σ_72)) else q_let (σ.1 (q_rf X a 8) 5 : Int32) (fun f_14 => q_let (F_X5_get X σ (q_rf X (q_rf X (q_rf X a 8) 1) 2) f_14 : Int32) (fun r_15 => q_let (σ.1 (q_rf X a 8) 7 : Int32) (fun f_17 => if f_17.toInt = 0 then q_let (σ.1 (q_rf X a 8) 6 : Int32) (fun f_22 => if f_22.toInt = (-1) then if r_15.toInt = 0 then q_bi (F_X11_none X σ a (9 : Int32)) (fun r_68 σ_69 => (r_68, σ_69)) else q_let (σ.1 (q_rf X a 8) 5 : Int32) (fun f_28 => q_let (σ.1 (q_rf X a 8) 4 : Int32) (fun f_29 => q_let (F_X1_heldBy X σ (q_rf X (q_rf X a 8) 1) f_28 f_29 : Int32) (fun r_30 => F_X11_best_L133_1 X σ a r_15 r_30 v2 v1 ((2147483647 - (0 : Int32).toInt).toNat + 1) ((-1) : Int32) ((-1) : Int32) ((-1) : Int32) (0 : Int32)))) else q_bi (F_X11_none X σ a (9 : Int32)) (fun r_25 σ_26 => (r_25, σ_26))) else q_bi (F_X11_none X σ a (9 : Int32)) (fun r_20 σ_21 => (r_20, σ_21)))))))

noncomputable def F_X11_sayer_E117_2 (X : XW) (σ : ST) (a : Nat) : Int32 × ST :=
  q_bi (F_X11_none X σ a (8 : Int32)) (fun r_13 σ_14 => (r_13, σ_14))

noncomputable def F_X11_sayer_E88_3 (X : XW) (σ : ST) (a : Nat) (x_8 : Int32) : Int32 × ST :=
  q_let (σ.1 (q_rf X a 8) 5 : Int32) (fun f_20 => q_let (F_X6_playerAfter X σ (q_rf X (q_rf X a 8) 0) f_20 x_8 : Int32) (fun r_21 => q_bi (F_X11_good X σ a r_21) (fun r_23 σ_24 => (r_23, σ_24))))

noncomputable def F_X11_sayer_B52_1 (X : XW) (σ : ST) (a : Nat) (v1 : Int32) (B52_1 : Int32 → Int32 × ST) (x_8 : Int32) : Int32 × ST :=
  q_let (σ.1 (q_rf X (q_rf X a 8) 0) 0 : Int32) (fun f_10 => if f_10.toInt < x_8.toInt then F_X11_sayer_E117_2 X σ a else q_let (σ.1 (q_rf X a 8) 4 : Int32) (fun f_15 => q_let (F_X6_kindAfter X σ (q_rf X (q_rf X a 8) 0) f_15 x_8 : Int32) (fun r_16 => if r_16.toInt = v1.toInt then F_X11_sayer_E88_3 X σ a x_8 else q_let (x_8 + 1 : Int32) (fun z_19 => B52_1 z_19))))

noncomputable def F_X11_sayer_L52_1 (X : XW) (σ : ST) (a : Nat) (v1 : Int32) : Nat → Int32 → Int32 × ST
  | 0 => fun x_8 => ((0 : Int32), σ)
  | k_ + 1 => F_X11_sayer_B52_1 X σ a v1 (F_X11_sayer_L52_1 X σ a v1 k_)

theorem F_X11_sayer_L52_1_s {X : XW} {σ : ST} {a : Nat} {v1 : Int32} {k_ : Nat} {x_8 : Int32} : F_X11_sayer_L52_1 X σ a v1 (k_ + 1) x_8 = F_X11_sayer_B52_1 X σ a v1 (F_X11_sayer_L52_1 X σ a v1 k_) x_8 := rfl

noncomputable def F_X11_sayer_E117_5 (X : XW) (σ : ST) (a : Nat) : Int32 × ST :=
  q_bi (F_X11_none X σ a (8 : Int32)) (fun r_30 σ_31 => (r_30, σ_31))

noncomputable def F_X11_sayer_E88_6 (X : XW) (σ : ST) (a : Nat) (x_25 : Int32) : Int32 × ST :=
  q_let (σ.1 (q_rf X a 8) 5 : Int32) (fun f_37 => q_let (F_X6_playerAfter X σ (q_rf X (q_rf X a 8) 0) f_37 x_25 : Int32) (fun r_38 => q_bi (F_X11_good X σ a r_38) (fun r_40 σ_41 => (r_40, σ_41))))

noncomputable def F_X11_sayer_B52_4 (X : XW) (σ : ST) (a : Nat) (v1 : Int32) (B52_4 : Int32 → Int32 × ST) (x_25 : Int32) : Int32 × ST :=
  q_let (σ.1 (q_rf X (q_rf X a 8) 0) 0 : Int32) (fun f_27 => if f_27.toInt < x_25.toInt then F_X11_sayer_E117_5 X σ a else q_let (σ.1 (q_rf X a 8) 4 : Int32) (fun f_32 => q_let (F_X6_kindAfter X σ (q_rf X (q_rf X a 8) 0) f_32 x_25 : Int32) (fun r_33 => if r_33.toInt = v1.toInt then F_X11_sayer_E88_6 X σ a x_25 else q_let (x_25 + 1 : Int32) (fun z_36 => B52_4 z_36))))

noncomputable def F_X11_sayer_L52_4 (X : XW) (σ : ST) (a : Nat) (v1 : Int32) : Nat → Int32 → Int32 × ST
  | 0 => fun x_25 => ((0 : Int32), σ)
  | k_ + 1 => F_X11_sayer_B52_4 X σ a v1 (F_X11_sayer_L52_4 X σ a v1 k_)

theorem F_X11_sayer_L52_4_s {X : XW} {σ : ST} {a : Nat} {v1 : Int32} {k_ : Nat} {x_25 : Int32} : F_X11_sayer_L52_4 X σ a v1 (k_ + 1) x_25 = F_X11_sayer_B52_4 X σ a v1 (F_X11_sayer_L52_4 X σ a v1 k_) x_25 := rfl

noncomputable def F_X11_sayer (X : XW) (σ : ST) (a : Nat) (v1 : Int32) : Int32 × ST :=
  q_let (F_X11_isKind X σ a v1 : Int32) (fun r_1 => if r_1.toInt = 0 then q_bi (F_X11_none X σ a (2 : Int32)) (fun r_46 σ_47 => (r_46, σ_47)) else q_let (σ.1 (q_rf X (q_rf X a 8) 0) 4 : Int32) (fun f_4 => if f_4.toInt = 0 then q_bi (F_X11_none X σ a (8 : Int32)) (fun r_43 σ_44 => (r_43, σ_44)) else q_let (σ.1 (q_rf X a 8) 7 : Int32) (fun f_6 => if f_6.toInt = 0 then F_X11_sayer_L52_1 X σ a v1 ((2147483647 - (0 : Int32).toInt).toNat + 1) (0 : Int32) else F_X11_sayer_L52_4 X σ a v1 ((2147483647 - (1 : Int32).toInt).toNat + 1) (1 : Int32))))

noncomputable def F_X11_has_E59_2 (X : XW) (σ : ST) (a : Nat) (x_4 : Int32) : Int32 × ST :=
  q_bi (F_X11_good X σ a x_4) (fun r_9 σ_10 => (r_9, σ_10))

noncomputable def F_X11_has_B18_1 (X : XW) (σ : ST) (a : Nat) (v1 : Int32) (B18_1 : Int32 → Int32 → Int32 × ST) (x_4 : Int32) (x_5 : Int32) : Int32 × ST :=
  q_let (σ.1 (q_rf X (q_rf X a 8) 0) 0 : Int32) (fun f_7 => if x_5.toInt < f_7.toInt then q_let (F_X1_heldBy X σ (q_rf X (q_rf X a 8) 1) v1 x_5 : Int32) (fun r_11 => if 0 < r_11.toInt then q_let ((1 : Int32) <<< (x_5 &&& 31) : Int32) (fun z_15 => q_let (x_4 ||| z_15 : Int32) (fun z_16 => q_let (x_5 + 1 : Int32) (fun z_17 => B18_1 z_16 z_17))) else q_let (x_5 + 1 : Int32) (fun z_14 => B18_1 x_4 z_14)) else F_X11_has_E59_2 X σ a x_4)

noncomputable def F_X11_has_L18_1 (X : XW) (σ : ST) (a : Nat) (v1 : Int32) : Nat → Int32 → Int32 → Int32 × ST
  | 0 => fun x_4 x_5 => ((0 : Int32), σ)
  | k_ + 1 => F_X11_has_B18_1 X σ a v1 (F_X11_has_L18_1 X σ a v1 k_)

theorem F_X11_has_L18_1_s {X : XW} {σ : ST} {a : Nat} {v1 : Int32} {k_ : Nat} {x_4 : Int32} {x_5 : Int32} : F_X11_has_L18_1 X σ a v1 (k_ + 1) x_4 x_5 = F_X11_has_B18_1 X σ a v1 (F_X11_has_L18_1 X σ a v1 k_) x_4 x_5 := rfl

noncomputable def F_X11_has (X : XW) (σ : ST) (a : Nat) (v1 : Int32) : Int32 × ST :=
  q_let (F_X11_isPlayer X σ a v1 : Int32) (fun r_1 => if r_1.toInt = 0 then q_bi (F_X11_none X σ a (2 : Int32)) (fun r_19 σ_20 => (r_19, σ_20)) else F_X11_has_L18_1 X σ a v1 ((2147483647 - (0 : Int32).toInt).toNat + 1) (0 : Int32) (0 : Int32))

noncomputable def F_X11_lies (X : XW) (σ : ST) (a : Nat) (v1 : Int32) : Int32 × ST :=
  q_let (F_X11_isKind X σ a v1 : Int32) (fun r_1 => if r_1.toInt = 0 then q_bi (F_X11_none X σ a (2 : Int32)) (fun r_5 σ_6 => (r_5, σ_6)) else q_let (F_X0_lyingOf X σ (q_rf X a 8) v1 : Int32) (fun r_7 => q_bi (F_X11_good X σ a r_7) (fun r_9 σ_10 => (r_9, σ_10))))

noncomputable def F_X11_guess (X : XW) (σ : ST) (a : Nat) (v1 : Int32) (v2 : Int32) (v3 : Int32) : Int32 × ST :=
  q_let (F_X11_isPlayer X σ a v1 : Int32) (fun r_1 => if r_1.toInt = 0 then q_bi (F_X11_no X σ a (2 : Int32)) (fun r_5 σ_6 => (r_5, σ_6)) else q_let (F_X11_isKind X σ a v2 : Int32) (fun r_7 => if r_7.toInt = 0 then q_bi (F_X11_no X σ a (2 : Int32)) (fun r_33 σ_34 => (r_33, σ_34)) else if v3.toInt < 0 then q_bi (F_X11_no X σ a (5 : Int32)) (fun r_12 σ_13 => (r_12, σ_13)) else if 4 < v3.toInt then q_bi (F_X11_no X σ a (5 : Int32)) (fun r_30 σ_31 => (r_30, σ_31)) else q_let (F_X0_allUnknownTo X σ (q_rf X a 8) v1 : Int32) (fun r_15 => if r_15.toInt < v3.toInt then q_bi (F_X11_no X σ a (9 : Int32)) (fun r_27 σ_28 => (r_27, σ_28)) else q_let (F_X0_unknownTo X σ (q_rf X a 8) v1 v2 : Int32) (fun r_18 => q_let (F_X11_waysToTake X σ r_18 v3 : Int64) (fun r_20 => q_let (F_X11_waysToTake X σ r_15 v3 : Int64) (fun r_22 => q_bi (F_X11_tell X σ a r_20 r_22) (fun r_24 σ_25 => (r_24, σ_25))))))))

noncomputable def F_X11_fullest_E61_2 (X : XW) (σ : ST) (a : Nat) (x_1 : Int32) : Int32 × ST :=
  q_bi (F_X11_goodOrNotThere X σ a x_1) (fun r_7 σ_8 => (r_7, σ_8))

noncomputable def F_X11_fullest_B6_1 (X : XW) (σ : ST) (a : Nat) (B6_1 : Int32 → Int32 → Int32 → Int32 × ST) (x_1 : Int32) (x_2 : Int32) (x_3 : Int32) : Int32 × ST :=
  q_let (σ.1 (q_rf X (q_rf X a 8) 0) 4 : Int32) (fun f_5 => if x_3.toInt < f_5.toInt then q_let (F_X5_get X σ (q_rf X (q_rf X (q_rf X a 8) 1) 2) x_3 : Int32) (fun r_9 => if x_2.toInt < r_9.toInt then q_let (F_X5_get X σ (q_rf X (q_rf X (q_rf X a 8) 1) 2) x_3 : Int32) (fun r_13 => q_let (x_3 + 1 : Int32) (fun z_15 => B6_1 x_3 r_13 z_15)) else q_let (x_3 + 1 : Int32) (fun z_12 => B6_1 x_1 x_2 z_12)) else F_X11_fullest_E61_2 X σ a x_1)

noncomputable def F_X11_fullest_L6_1 (X : XW) (σ : ST) (a : Nat) : Nat → Int32 → Int32 → Int32 → Int32 × ST
  | 0 => fun x_1 x_2 x_3 => ((0 : Int32), σ)
  | k_ + 1 => F_X11_fullest_B6_1 X σ a (F_X11_fullest_L6_1 X σ a k_)

theorem F_X11_fullest_L6_1_s {X : XW} {σ : ST} {a : Nat} {k_ : Nat} {x_1 : Int32} {x_2 : Int32} {x_3 : Int32} : F_X11_fullest_L6_1 X σ a (k_ + 1) x_1 x_2 x_3 = F_X11_fullest_B6_1 X σ a (F_X11_fullest_L6_1 X σ a k_) x_1 x_2 x_3 := rfl

noncomputable def F_X11_fullest (X : XW) (σ : ST) (a : Nat) : Int32 × ST :=
  F_X11_fullest_L6_1 X σ a ((2147483647 - (0 : Int32).toInt).toNat + 1) ((-1) : Int32) ((-1) : Int32) (0 : Int32)

noncomputable def F_X11_quartet_E77_2 (X : XW) (σ : ST) (a : Nat) : Int32 × ST :=
  q_bi (F_X11_none X σ a (8 : Int32)) (fun r_9 σ_10 => (r_9, σ_10))

noncomputable def F_X11_quartet_E65_3 (X : XW) (σ : ST) (a : Nat) (x_4 : Int32) : Int32 × ST :=
  q_bi (F_X11_good X σ a x_4) (fun r_19 σ_20 => (r_19, σ_20))

noncomputable def F_X11_quartet_B16_1 (X : XW) (σ : ST) (a : Nat) (v1 : Int32) (B16_1 : Int32 → Int32 × ST) (x_4 : Int32) : Int32 × ST :=
  q_let (σ.1 (q_rf X (q_rf X a 8) 0) 0 : Int32) (fun f_6 => if x_4.toInt < f_6.toInt then q_let (F_X5_get X σ (q_rf X (q_rf X (q_rf X a 8) 0) 5) x_4 : Int32) (fun r_11 => if 0 < r_11.toInt then q_let (F_X1_heldBy X σ (q_rf X (q_rf X a 8) 1) v1 x_4 : Int32) (fun r_15 => if r_15.toInt = r_11.toInt then F_X11_quartet_E65_3 X σ a x_4 else q_let (x_4 + 1 : Int32) (fun z_18 => B16_1 z_18)) else q_let (x_4 + 1 : Int32) (fun z_14 => B16_1 z_14)) else F_X11_quartet_E77_2 X σ a)

noncomputable def F_X11_quartet_L16_1 (X : XW) (σ : ST) (a : Nat) (v1 : Int32) : Nat → Int32 → Int32 × ST
  | 0 => fun x_4 => ((0 : Int32), σ)
  | k_ + 1 => F_X11_quartet_B16_1 X σ a v1 (F_X11_quartet_L16_1 X σ a v1 k_)

theorem F_X11_quartet_L16_1_s {X : XW} {σ : ST} {a : Nat} {v1 : Int32} {k_ : Nat} {x_4 : Int32} : F_X11_quartet_L16_1 X σ a v1 (k_ + 1) x_4 = F_X11_quartet_B16_1 X σ a v1 (F_X11_quartet_L16_1 X σ a v1 k_) x_4 := rfl

noncomputable def F_X11_quartet (X : XW) (σ : ST) (a : Nat) (v1 : Int32) : Int32 × ST :=
  q_let (F_X11_isPlayer X σ a v1 : Int32) (fun r_1 => if r_1.toInt = 0 then q_bi (F_X11_none X σ a (2 : Int32)) (fun r_22 σ_23 => (r_22, σ_23)) else F_X11_quartet_L16_1 X σ a v1 ((2147483647 - (0 : Int32).toInt).toNat + 1) (0 : Int32))

noncomputable def F_X11_sorts_E57_2 (X : XW) (σ : ST) (a : Nat) (x_6 : Int32) : Int32 × ST :=
  q_bi (F_X11_good X σ a x_6) (fun r_11 σ_12 => (r_11, σ_12))

noncomputable def F_X11_sorts_B19_1 (X : XW) (σ : ST) (a : Nat) (v1 : Int32) (B19_1 : Int32 → Int32 → Int32 × ST) (x_6 : Int32) (x_7 : Int32) : Int32 × ST :=
  q_let (σ.1 (q_rf X (q_rf X a 8) 2) 0 : Int32) (fun f_9 => if x_7.toInt < f_9.toInt then q_let (F_X2_truth X σ (q_rf X (q_rf X a 8) 2) x_7 : Int32) (fun r_13 => if r_13.toInt = v1.toInt then q_let (x_6 + 1 : Int32) (fun z_17 => q_let (x_7 + 1 : Int32) (fun z_18 => B19_1 z_17 z_18)) else q_let (x_7 + 1 : Int32) (fun z_16 => B19_1 x_6 z_16)) else F_X11_sorts_E57_2 X σ a x_6)

noncomputable def F_X11_sorts_L19_1 (X : XW) (σ : ST) (a : Nat) (v1 : Int32) : Nat → Int32 → Int32 → Int32 × ST
  | 0 => fun x_6 x_7 => ((0 : Int32), σ)
  | k_ + 1 => F_X11_sorts_B19_1 X σ a v1 (F_X11_sorts_L19_1 X σ a v1 k_)

theorem F_X11_sorts_L19_1_s {X : XW} {σ : ST} {a : Nat} {v1 : Int32} {k_ : Nat} {x_6 : Int32} {x_7 : Int32} : F_X11_sorts_L19_1 X σ a v1 (k_ + 1) x_6 x_7 = F_X11_sorts_B19_1 X σ a v1 (F_X11_sorts_L19_1 X σ a v1 k_) x_6 x_7 := rfl

noncomputable def F_X11_sorts (X : XW) (σ : ST) (a : Nat) (v1 : Int32) : Int32 × ST :=
  if v1.toInt < 0 then q_bi (F_X11_none X σ a (5 : Int32)) (fun r_3 σ_4 => (r_3, σ_4)) else if 2 < v1.toInt then q_bi (F_X11_none X σ a (5 : Int32)) (fun r_20 σ_21 => (r_20, σ_21)) else F_X11_sorts_L19_1 X σ a v1 ((2147483647 - (0 : Int32).toInt).toNat + 1) (0 : Int32) (0 : Int32)

noncomputable def F_X11_liar_E77_2 (X : XW) (σ : ST) (a : Nat) (x_3 : Int32) : Int32 × ST :=
  q_bi (F_X11_goodOrNotThere X σ a x_3) (fun r_8 σ_9 => (r_8, σ_9))

noncomputable def F_X11_liar_B29_1 (X : XW) (σ : ST) (a : Nat) (B29_1 : Int32 → Int32 → Int32 × ST) (x_3 : Int32) (x_4 : Int32) : Int32 × ST :=
  q_let (σ.1 (q_rf X (q_rf X a 8) 0) 4 : Int32) (fun f_6 => if x_4.toInt < f_6.toInt then q_let (F_X1_honestTop X σ (q_rf X (q_rf X a 8) 1) x_4 : Int64) (fun r_10 => q_let (F_X1_honestBottom X σ (q_rf X (q_rf X a 8) 1) x_3 : Int64) (fun r_12 => q_let (r_10 * r_12 : Int64) (fun y_14 => q_let (F_X1_honestTop X σ (q_rf X (q_rf X a 8) 1) x_3 : Int64) (fun r_15 => q_let (F_X1_honestBottom X σ (q_rf X (q_rf X a 8) 1) x_4 : Int64) (fun r_17 => q_let (r_15 * r_17 : Int64) (fun y_19 => q_let (lg_cmp y_14 y_19 : Int32) (fun z_20 => if z_20.toInt < 0 then q_let (x_4 + 1 : Int32) (fun z_23 => B29_1 x_4 z_23) else q_let (x_4 + 1 : Int32) (fun z_22 => B29_1 x_3 z_22)))))))) else F_X11_liar_E77_2 X σ a x_3)

noncomputable def F_X11_liar_L29_1 (X : XW) (σ : ST) (a : Nat) : Nat → Int32 → Int32 → Int32 × ST
  | 0 => fun x_3 x_4 => ((0 : Int32), σ)
  | k_ + 1 => F_X11_liar_B29_1 X σ a (F_X11_liar_L29_1 X σ a k_)

theorem F_X11_liar_L29_1_s {X : XW} {σ : ST} {a : Nat} {k_ : Nat} {x_3 : Int32} {x_4 : Int32} : F_X11_liar_L29_1 X σ a (k_ + 1) x_3 x_4 = F_X11_liar_B29_1 X σ a (F_X11_liar_L29_1 X σ a k_) x_3 x_4 := rfl

noncomputable def F_X11_liar_E77_4 (X : XW) (σ : ST) (a : Nat) (x_24 : Int32) : Int32 × ST :=
  q_bi (F_X11_goodOrNotThere X σ a x_24) (fun r_29 σ_30 => (r_29, σ_30))

noncomputable def F_X11_liar_B29_3 (X : XW) (σ : ST) (a : Nat) (B29_3 : Int32 → Int32 → Int32 × ST) (x_24 : Int32) (x_25 : Int32) : Int32 × ST :=
  q_let (σ.1 (q_rf X (q_rf X a 8) 0) 4 : Int32) (fun f_27 => if x_25.toInt < f_27.toInt then q_let (F_X1_honestTop X σ (q_rf X (q_rf X a 8) 1) x_25 : Int64) (fun r_31 => q_let (F_X1_honestBottom X σ (q_rf X (q_rf X a 8) 1) x_24 : Int64) (fun r_33 => q_let (r_31 * r_33 : Int64) (fun y_35 => q_let (F_X1_honestTop X σ (q_rf X (q_rf X a 8) 1) x_24 : Int64) (fun r_36 => q_let (F_X1_honestBottom X σ (q_rf X (q_rf X a 8) 1) x_25 : Int64) (fun r_38 => q_let (r_36 * r_38 : Int64) (fun y_40 => q_let (lg_cmp y_35 y_40 : Int32) (fun z_41 => if z_41.toInt < 0 then q_let (x_25 + 1 : Int32) (fun z_44 => B29_3 x_25 z_44) else q_let (x_25 + 1 : Int32) (fun z_43 => B29_3 x_24 z_43)))))))) else F_X11_liar_E77_4 X σ a x_24)

noncomputable def F_X11_liar_L29_3 (X : XW) (σ : ST) (a : Nat) : Nat → Int32 → Int32 → Int32 × ST
  | 0 => fun x_24 x_25 => ((0 : Int32), σ)
  | k_ + 1 => F_X11_liar_B29_3 X σ a (F_X11_liar_L29_3 X σ a k_)

theorem F_X11_liar_L29_3_s {X : XW} {σ : ST} {a : Nat} {k_ : Nat} {x_24 : Int32} {x_25 : Int32} : F_X11_liar_L29_3 X σ a (k_ + 1) x_24 x_25 = F_X11_liar_B29_3 X σ a (F_X11_liar_L29_3 X σ a k_) x_24 x_25 := rfl

noncomputable def F_X11_liar (X : XW) (σ : ST) (a : Nat) : Int32 × ST :=
  q_let (σ.1 (q_rf X (q_rf X a 8) 0) 4 : Int32) (fun f_1 => if f_1.toInt = 0 then F_X11_liar_L29_3 X σ a ((2147483647 - (1 : Int32).toInt).toNat + 1) ((-1) : Int32) (1 : Int32) else F_X11_liar_L29_1 X σ a ((2147483647 - (1 : Int32).toInt).toNat + 1) (0 : Int32) (1 : Int32))

noncomputable def F_X11_play (X : XW) (σ : ST) (a : Nat) (v1 : Int32) : Int32 × ST :=
  if v1.toInt < 0 then q_bi (F_X11_none X σ a (5 : Int32)) (fun r_3 σ_4 => (r_3, σ_4)) else if 9999 < v1.toInt then q_bi (F_X11_none X σ a (5 : Int32)) (fun r_18 σ_19 => (r_18, σ_19)) else q_let (σ.1 (q_rf X (q_rf X a 8) 3) 0 : Int32) (fun f_6 => if f_6.toInt = 0 then q_bi (F_X11_none X σ a (8 : Int32)) (fun r_15 σ_16 => (r_15, σ_16)) else q_let (F_X7_go X σ (q_rf X a 14) (q_rf X a 8) v1 : ST) (fun σ_9 => q_let (q_si σ_9 a 16 (1 : Int32) : ST) (fun σ_10 => q_let (σ_10.1 (q_rf X a 14) 0 : Int32) (fun f_11 => q_bi (F_X11_good X σ_10 a f_11) (fun r_12 σ_13 => (r_12, σ_13))))))

noncomputable def F_X11_played (X : XW) (σ : ST) (a : Nat) (v1 : Int32) : Int32 × ST :=
  if v1.toInt < 0 then q_bi (F_X11_none X σ a (5 : Int32)) (fun r_3 σ_4 => (r_3, σ_4)) else if 4 < v1.toInt then q_bi (F_X11_none X σ a (5 : Int32)) (fun r_36 σ_37 => (r_36, σ_37)) else q_let (σ.1 a 16 : Int32) (fun f_6 => if f_6.toInt = 0 then q_bi (F_X11_none X σ a (8 : Int32)) (fun r_33 σ_34 => (r_33, σ_34)) else (if v1.toInt = 0 then q_let (σ.1 (q_rf X a 14) 1 : Int32) (fun f_9 => q_bi (F_X11_good X σ a f_9) (fun r_10 σ_11 => (r_10, σ_11))) else (if v1.toInt = 1 then q_let (σ.1 (q_rf X a 14) 2 : Int32) (fun f_13 => q_bi (F_X11_good X σ a f_13) (fun r_14 σ_15 => (r_14, σ_15))) else (if v1.toInt = 2 then q_let (σ.1 (q_rf X a 14) 3 : Int32) (fun f_17 => q_bi (F_X11_good X σ a f_17) (fun r_18 σ_19 => (r_18, σ_19))) else (if v1.toInt = 3 then q_let (σ.1 (q_rf X a 14) 4 : Int32) (fun f_21 => q_bi (F_X11_good X σ a f_21) (fun r_22 σ_23 => (r_22, σ_23))) else q_let (σ.1 (q_rf X a 14) 5 : Int32) (fun f_24 => if f_24.toInt = 0 then q_bi (F_X11_good X σ a (0 : Int32)) (fun r_27 σ_28 => (r_27, σ_28)) else q_bi (F_X11_good X σ a (1 : Int32)) (fun r_30 σ_31 => (r_30, σ_31))))))))

noncomputable def F_X11_seedsStatus (X : XW) (σ : ST) (a : Nat) (v1 : Int32) (v2 : Int32) (v3 : Int32) : Int32 :=
  q_let (F_X11_isPlayer X σ a v1 : Int32) (fun r_1 => if r_1.toInt = 0 then (2 : Int32) else if v2.toInt < 0 then (5 : Int32) else if v3.toInt < 1 then (5 : Int32) else if 20 < v3.toInt then (5 : Int32) else q_let ((9999 : Int32) - v3 : Int32) (fun z_7 => q_let (z_7 + (1 : Int32) : Int32) (fun z_8 => if z_8.toInt < v2.toInt then (5 : Int32) else q_let (σ.1 (q_rf X (q_rf X a 8) 3) 0 : Int32) (fun f_10 => if f_10.toInt = 0 then (8 : Int32) else (0 : Int32)))))

noncomputable def F_X11_wins_E79_2 (X : XW) (x_4 : Int32) (v3 : Int32) (σ_6 : ST) (a : Nat) : Int32 × ST :=
  q_let (x_4.toInt64 : Int64) (fun y_9 => q_let (v3.toInt64 : Int64) (fun y_10 => q_bi (F_X11_tell X σ_6 a y_9 y_10) (fun r_11 σ_12 => (r_11, σ_12))))

noncomputable def F_X11_wins_B27_1 (X : XW) (v3 : Int32) (a : Nat) (v2 : Int32) (v1 : Int32) (B27_1 : Int32 → Int32 → ST → Int32 × ST) (x_4 : Int32) (x_5 : Int32) (σ_6 : ST) : Int32 × ST :=
  if x_5.toInt < v3.toInt then q_let (F_X0_copyFrom X σ_6 (q_rf X a 9) (q_rf X a 8) : ST) (fun σ_14 => q_let (v2 + x_5 : Int32) (fun z_15 => q_let (F_X7_go X σ_14 (q_rf X a 15) (q_rf X a 9) z_15 : ST) (fun σ_17 => q_let (σ_17.1 (q_rf X a 9) 6 : Int32) (fun f_18 => if f_18.toInt = v1.toInt then q_let (x_4 + 1 : Int32) (fun z_21 => q_let (x_5 + 1 : Int32) (fun z_22 => B27_1 z_21 z_22 σ_17)) else q_let (x_5 + 1 : Int32) (fun z_20 => B27_1 x_4 z_20 σ_17))))) else F_X11_wins_E79_2 X x_4 v3 σ_6 a

noncomputable def F_X11_wins_L27_1 (X : XW) (v3 : Int32) (a : Nat) (v2 : Int32) (v1 : Int32) : Nat → Int32 → Int32 → ST → Int32 × ST
  | 0 => fun x_4 x_5 σ_6 => ((0 : Int32), σ_6)
  | k_ + 1 => F_X11_wins_B27_1 X v3 a v2 v1 (F_X11_wins_L27_1 X v3 a v2 v1 k_)

theorem F_X11_wins_L27_1_s {X : XW} {v3 : Int32} {a : Nat} {v2 : Int32} {v1 : Int32} {k_ : Nat} {x_4 : Int32} {x_5 : Int32} {σ_6 : ST} : F_X11_wins_L27_1 X v3 a v2 v1 (k_ + 1) x_4 x_5 σ_6 = F_X11_wins_B27_1 X v3 a v2 v1 (F_X11_wins_L27_1 X v3 a v2 v1 k_) x_4 x_5 σ_6 := rfl

noncomputable def F_X11_wins (X : XW) (σ : ST) (a : Nat) (v1 : Int32) (v2 : Int32) (v3 : Int32) : Int32 × ST :=
  q_let (F_X11_seedsStatus X σ a v1 v2 v3 : Int32) (fun r_1 => if r_1.toInt = 0 then F_X11_wins_L27_1 X v3 a v2 v1 ((2147483647 - (0 : Int32).toInt).toNat + 1) (0 : Int32) (0 : Int32) σ else q_bi (F_X11_no X σ a r_1) (fun r_23 σ_24 => (r_23, σ_24)))

noncomputable def F_X11_left_E84_2 (X : XW) (x_4 : Int32) (v3 : Int32) (σ_6 : ST) (a : Nat) : Int32 × ST :=
  q_let (x_4.toInt64 : Int64) (fun y_9 => q_let (v3.toInt64 : Int64) (fun y_10 => q_bi (F_X11_tell X σ_6 a y_9 y_10) (fun r_11 σ_12 => (r_11, σ_12))))

noncomputable def F_X11_left_B27_1 (X : XW) (v3 : Int32) (a : Nat) (v2 : Int32) (v1 : Int32) (B27_1 : Int32 → Int32 → ST → Int32 × ST) (x_4 : Int32) (x_5 : Int32) (σ_6 : ST) : Int32 × ST :=
  if x_5.toInt < v3.toInt then q_let (F_X0_copyFrom X σ_6 (q_rf X a 9) (q_rf X a 8) : ST) (fun σ_14 => q_let (v2 + x_5 : Int32) (fun z_15 => q_let (F_X7_go X σ_14 (q_rf X a 15) (q_rf X a 9) z_15 : ST) (fun σ_17 => q_let (F_X5_get X σ_17 (q_rf X (q_rf X (q_rf X a 9) 1) 2) v1 : Int32) (fun r_18 => q_let (x_4 + r_18 : Int32) (fun z_20 => q_let (x_5 + 1 : Int32) (fun z_21 => B27_1 z_20 z_21 σ_17)))))) else F_X11_left_E84_2 X x_4 v3 σ_6 a

noncomputable def F_X11_left_L27_1 (X : XW) (v3 : Int32) (a : Nat) (v2 : Int32) (v1 : Int32) : Nat → Int32 → Int32 → ST → Int32 × ST
  | 0 => fun x_4 x_5 σ_6 => ((0 : Int32), σ_6)
  | k_ + 1 => F_X11_left_B27_1 X v3 a v2 v1 (F_X11_left_L27_1 X v3 a v2 v1 k_)

theorem F_X11_left_L27_1_s {X : XW} {v3 : Int32} {a : Nat} {v2 : Int32} {v1 : Int32} {k_ : Nat} {x_4 : Int32} {x_5 : Int32} {σ_6 : ST} : F_X11_left_L27_1 X v3 a v2 v1 (k_ + 1) x_4 x_5 σ_6 = F_X11_left_B27_1 X v3 a v2 v1 (F_X11_left_L27_1 X v3 a v2 v1 k_) x_4 x_5 σ_6 := rfl

noncomputable def F_X11_left (X : XW) (σ : ST) (a : Nat) (v1 : Int32) (v2 : Int32) (v3 : Int32) : Int32 × ST :=
  q_let (F_X11_seedsStatus X σ a v1 v2 v3 : Int32) (fun r_1 => if r_1.toInt = 0 then F_X11_left_L27_1 X v3 a v2 v1 ((2147483647 - (0 : Int32).toInt).toNat + 1) (0 : Int32) (0 : Int32) σ else q_bi (F_X11_no X σ a r_1) (fun r_22 σ_23 => (r_22, σ_23)))

noncomputable def F_X11_markAt (X : XW) (σ : ST) (a : Nat) (v1 : Int32) : Option Nat :=
  if v1.toInt < 0 then (none : Option Nat) else if v1.toInt < 3 then (some (q_rf X (q_rf X a 10) (v1 : Int32).toNatClampNeg)) else (none : Option Nat)

noncomputable def F_X11_mark (X : XW) (σ : ST) (a : Nat) : Int32 × ST :=
  q_let (σ.1 a 11 : Int32) (fun f_1 => q_let (F_X11_markAt X σ a f_1 : Option Nat) (fun r_2 => q_on r_2 (q_bi (F_X11_none X σ a (7 : Int32)) (fun r_5 σ_6 => (r_5, σ_6))) (fun r_2 => q_let (F_X0_copyFrom X σ r_2 (q_rf X a 8) : ST) (fun σ_8 => q_let (σ_8.1 a 11 : Int32) (fun f_9 => q_let (f_9 + (1 : Int32) : Int32) (fun z_10 => q_let (q_si σ_8 a 11 z_10 : ST) (fun σ_12 => q_let (σ_12.1 a 11 : Int32) (fun f_13 => q_bi (F_X11_good X σ_12 a f_13) (fun r_14 σ_15 => (r_14, σ_15))))))))))

noncomputable def F_X11_back (X : XW) (σ : ST) (a : Nat) : Int32 × ST :=
  q_let (σ.1 a 11 : Int32) (fun f_1 => q_let (f_1 - (1 : Int32) : Int32) (fun z_2 => q_let (F_X11_markAt X σ a z_2 : Option Nat) (fun r_4 => q_on r_4 (q_bi (F_X11_none X σ a (8 : Int32)) (fun r_7 σ_8 => (r_7, σ_8))) (fun r_4 => q_let (F_X0_copyFrom X σ (q_rf X a 8) r_4 : ST) (fun σ_10 => q_let (σ_10.1 a 11 : Int32) (fun f_11 => q_let (f_11 - (1 : Int32) : Int32) (fun z_12 => q_let (q_si σ_10 a 11 z_12 : ST) (fun σ_14 => q_let (σ_14.1 a 11 : Int32) (fun f_15 => q_bi (F_X11_good X σ_14 a f_15) (fun r_16 σ_17 => (r_16, σ_17)))))))))))
end
/-! FROM 10.small.a.lean.txt -/
section
def q_j9L : List (String × String) := [("min", "(II)I"), ("max", "(II)I"), ("floorMod", "(II)I"), ("abs", "(J)J")]
theorem q_j9a : Jvm.natives.all (fun r => !(r.cls == "java/lang/Math" && q_j9L.contains (r.name, r.desc))) = true := by decide +kernel
theorem q_j9 {n d : String} (h : q_j9L.contains (n, d) = true) : plainFor ⟨"java/lang/Math", n, d⟩ = true := by
  have k : (NativeRow.find? Jvm.natives "java/lang/Math" n d).isNone = true := by
    unfold NativeRow.find?
    rw [List.find?_eq_none.mpr]
    · rfl
    · intro r hr hq
      have a := List.all_eq_true.mp q_j9a r hr
      simp only [Bool.and_eq_true, beq_iff_eq] at hq
      rw [hq.1.2, hq.1.1, hq.2, h] at a
      exact absurd a (by decide)
  unfold plainFor
  rw [k, Bool.or_true]
section QS
variable {p : Program} {l : Launch} {e : Env} {R : Room} {s : State} {m : MethodId} {args : Array Value} {below : List Frame} {meth : Method} {c : Code} {H : Heap} {locs : List Loc} {cells slots : Nat} {Q : State → Prop} {cc : ByteArray} {X : XW} {n : Nat} {σ0 σ : ST} {H0 : Heap} {pc : Nat} {ls : Array Slot} {rest : List Value} {a : Nat}
theorem ps_X10_9_10 (E : q_E p c cc s m args RX10 X) (hI : q_I X n σ0 H0 locs σ H) (ha : q_kd X a = 10) {v : Int32} (hcl : n < 1) (h1 : 0 ≤ v.toInt) (h2 : v.toInt ≤ 3) (hdg : decode cc pc = .ok (.putfield 9, 3)) (kk : ∀ (H1 : Heap) (locs1 : List Loc) (σ1 : ST), σ1 = q_si σ a 0 v → q_I X n σ0 H0 locs1 σ1 H1 → W p l e R s m args below meth c H1 locs1 cells slots Q (F0 m (pc + 3) ls rest)) : W p l e R s m args below meth c H locs cells slots Q (F0 m pc ls (.int v :: .ref a :: rest)) :=
  q_puti (ref := "CheatHeap$Tray") E hI ha ⟨rfl, by decide⟩ (show vwCl[9]? = some (RX10, TX10, 3) from rfl) q_inX10 tyX10_ok nmX10 (f := 0) (by decide) (q_in_t2 (i := 190) (by first | rfl | decide +kernel) rfl) (Or.inl rfl) rfl rfl hcl hdg (q_inB rfl h1 h2) (Or.inl rfl) (fun H1 l1 h => kk H1 l1 _ rfl h)
theorem ks_X10_22 : q_okS RX10 22 yJ9_min_7cf53 cJ9_min_7cf53 2 (some .int) 2 := ⟨(q_in_t3 (i := 42) (by first | rfl | decide +kernel) rfl), (q_in_t3 (i := 43) (by first | rfl | decide +kernel) rfl), (q_in_t1 (i := 5) (by first | rfl | decide +kernel) rfl), (q_in_t3 (i := 44) (by first | rfl | decide +kernel) rfl), ⟨by decide, by decide, rfl⟩⟩
theorem ks_X10_28 : q_okS RX10 28 yJ9_max_7cf53 cJ9_max_7cf53 2 (some .int) 2 := ⟨(q_in_t3 (i := 45) (by first | rfl | decide +kernel) rfl), (q_in_t1 (i := 49) (by first | rfl | decide +kernel) rfl), (q_in_t1 (i := 5) (by first | rfl | decide +kernel) rfl), (q_in_t1 (i := 50) (by first | rfl | decide +kernel) rfl), ⟨by decide, by decide, rfl⟩⟩
theorem ps_X10_15_10 (E : q_E p c cc s m args RX10 X) (hI : q_I X n σ0 H0 locs σ H) (ha : q_kd X a = 10) {v : Int32} (hcl : n < 1) (h1 : -1 ≤ v.toInt) (h2 : v.toInt ≤ 60) (hdg : decode cc pc = .ok (.putfield 15, 3)) (kk : ∀ (H1 : Heap) (locs1 : List Loc) (σ1 : ST), σ1 = q_si σ a 1 v → q_I X n σ0 H0 locs1 σ1 H1 → W p l e R s m args below meth c H1 locs1 cells slots Q (F0 m (pc + 3) ls rest)) : W p l e R s m args below meth c H locs cells slots Q (F0 m pc ls (.int v :: .ref a :: rest)) :=
  q_puti (ref := "CheatHeap$Tray") E hI ha ⟨rfl, by decide⟩ (show vwCl[9]? = some (RX10, TX10, 3) from rfl) q_inX10 tyX10_ok nmX10 (f := 1) (by decide) (q_in_t2 (i := 192) (by first | rfl | decide +kernel) rfl) (Or.inl rfl) rfl rfl hcl hdg (q_inB rfl h1 h2) (Or.inl rfl) (fun H1 l1 h => kk H1 l1 _ rfl h)
theorem gs_X10_18_10 (E : q_E p c cc s m args RX10 X) (hI : q_I X n σ0 H0 locs σ H) (ha : q_kd X a = 10) (hdg : decode cc pc = .ok (.getfield 18, 3)) (kk : W p l e R s m args below meth c H locs cells slots Q (F0 m (pc + 3) ls (.ref (q_rf X a 2) :: rest))) : W p l e R s m args below meth c H locs cells slots Q (F0 m pc ls (.ref a :: rest)) :=
  q_getf (ref := "CheatHeap$Tray") E hI ha ⟨rfl, by decide⟩ (show vwCl[9]? = some (RX10, TX10, 3) from rfl) q_inX10 (f := 2) (by decide) (q_in_t2 (i := 193) (by first | rfl | decide +kernel) rfl) (Or.inl rfl) rfl hdg kk
theorem gs_X10_15_10 (E : q_E p c cc s m args RX10 X) (hI : q_I X n σ0 H0 locs σ H) (ha : q_kd X a = 10) (hdg : decode cc pc = .ok (.getfield 15, 3)) (kk : W p l e R s m args below meth c H locs cells slots Q (F0 m (pc + 3) ls (.int (σ.1 a 1) :: rest))) : W p l e R s m args below meth c H locs cells slots Q (F0 m pc ls (.ref a :: rest)) :=
  q_getf (ref := "CheatHeap$Tray") E hI ha ⟨rfl, by decide⟩ (show vwCl[9]? = some (RX10, TX10, 3) from rfl) q_inX10 (f := 1) (by decide) (q_in_t2 (i := 192) (by first | rfl | decide +kernel) rfl) (Or.inl rfl) rfl hdg kk
theorem gs_X10_9_10 (E : q_E p c cc s m args RX10 X) (hI : q_I X n σ0 H0 locs σ H) (ha : q_kd X a = 10) (hdg : decode cc pc = .ok (.getfield 9, 3)) (kk : W p l e R s m args below meth c H locs cells slots Q (F0 m (pc + 3) ls (.int (σ.1 a 0) :: rest))) : W p l e R s m args below meth c H locs cells slots Q (F0 m pc ls (.ref a :: rest)) :=
  q_getf (ref := "CheatHeap$Tray") E hI ha ⟨rfl, by decide⟩ (show vwCl[9]? = some (RX10, TX10, 3) from rfl) q_inX10 (f := 0) (by decide) (q_in_t2 (i := 190) (by first | rfl | decide +kernel) rfl) (Or.inl rfl) rfl hdg kk
theorem kv_X10_31 : q_okV RX10 31 RX10 yX10_cut cX10_cut 3 (some .long) 1 := ⟨(q_in_t3 (i := 69) (by first | rfl | decide +kernel) rfl), (q_in_t3 (i := 71) (by first | rfl | decide +kernel) rfl), (q_in_p (i := 3) (by decide +kernel) rfl), (q_in_t1 (i := 13) (by first | rfl | decide +kernel) rfl), (q_in_t3 (i := 72) (by first | rfl | decide +kernel) rfl), ⟨rfl, by decide, by decide, rfl⟩⟩
theorem kv_X10_35 : q_okV RX10 35 RX10 yX10_hasPlaces cX10_hasPlaces 3 (some .boolean) 2 := ⟨(q_in_t3 (i := 93) (by first | rfl | decide +kernel) rfl), (q_in_t3 (i := 62) (by first | rfl | decide +kernel) rfl), (q_in_t3 (i := 63) (by first | rfl | decide +kernel) rfl), (q_in_t1 (i := 13) (by first | rfl | decide +kernel) rfl), (q_in_t3 (i := 64) (by first | rfl | decide +kernel) rfl), ⟨rfl, by decide, by decide, rfl⟩⟩
theorem gs_X5_13_5 (E : q_E p c cc s m args RX5 X) (hI : q_I X n σ0 H0 locs σ H) (ha : q_kd X a = 5) (hdg : decode cc pc = .ok (.getfield 13, 3)) (kk : W p l e R s m args below meth c H locs cells slots Q (F0 m (pc + 3) ls (.ref (q_rf X a 0) :: rest))) : W p l e R s m args below meth c H locs cells slots Q (F0 m pc ls (.ref a :: rest)) :=
  q_getf (ref := "CheatHeap$Row") E hI ha ⟨rfl, by decide⟩ (show vwCl[4]? = some (RX5, TX5, 1) from rfl) q_inX5 (f := 0) (by decide) (q_in_t1 (i := 51) (by first | rfl | decide +kernel) rfl) (Or.inl rfl) rfl hdg kk
theorem kt_J0_335 : q_okV RJ0 335 "java/lang/String" yJ0_coder_7d493 cJ0_coder_7d493 1 (some .byte) 0 := ⟨(q_in_t3 (i := 190) (by first | rfl | decide +kernel) rfl), (q_in_t3 (i := 191) (by first | rfl | decide +kernel) rfl), (q_in_t3 (i := 192) (by first | rfl | decide +kernel) rfl), (q_in_t1 (i := 16) (by first | rfl | decide +kernel) rfl), (q_in_t3 (i := 193) (by first | rfl | decide +kernel) rfl), ⟨rfl, by decide, by decide, rfl⟩⟩
theorem ks_J0_1059 : q_okS RJ0 1059 yJ3_checkIndex_8e157 cJ3_checkIndex_8e157 3 (some .int) 3 := ⟨(q_in_t3 (i := 212) (by first | rfl | decide +kernel) rfl), (q_in_t3 (i := 213) (by first | rfl | decide +kernel) rfl), (q_in_t1 (i := 18) (by first | rfl | decide +kernel) rfl), (q_in_t3 (i := 214) (by first | rfl | decide +kernel) rfl), ⟨by decide, by decide, rfl⟩⟩
theorem ks_J1_9 : q_okS RJ1 9 yJ0_checkIndex_df160 cJ0_checkIndex_df160 2 none 2 := ⟨(q_in_t3 (i := 207) (by first | rfl | decide +kernel) rfl), (q_in_t3 (i := 208) (by first | rfl | decide +kernel) rfl), (q_in_t1 (i := 16) (by first | rfl | decide +kernel) rfl), (q_in_t3 (i := 209) (by first | rfl | decide +kernel) rfl), ⟨by decide, by decide, rfl⟩⟩
theorem kt_J0_492 : q_okV RJ0 492 "java/lang/String" yJ0_isLatin1_aae02 cJ0_isLatin1_aae02 1 (some .boolean) 0 := ⟨(q_in_t3 (i := 200) (by first | rfl | decide +kernel) rfl), (q_in_t3 (i := 201) (by first | rfl | decide +kernel) rfl), (q_in_t3 (i := 202) (by first | rfl | decide +kernel) rfl), (q_in_t1 (i := 16) (by first | rfl | decide +kernel) rfl), (q_in_t3 (i := 203) (by first | rfl | decide +kernel) rfl), ⟨rfl, by decide, by decide, rfl⟩⟩
theorem ks_J0_495 : q_okS RJ0 495 yJ1_charAt_3b067 cJ1_charAt_3b067 2 (some .char) 2 := ⟨(q_in_t3 (i := 204) (by first | rfl | decide +kernel) rfl), (q_in_t3 (i := 205) (by first | rfl | decide +kernel) rfl), (q_in_t1 (i := 17) (by first | rfl | decide +kernel) rfl), (q_in_t3 (i := 206) (by first | rfl | decide +kernel) rfl), ⟨by decide, by decide, rfl⟩⟩
theorem kv_X5_19 : q_okV RX5 19 RX5 yX5_get cX5_get 2 (some .int) 1 := ⟨(q_in_t5 (i := 27) (by first | rfl | decide +kernel) rfl), (q_in_t4 (i := 73) (by first | rfl | decide +kernel) rfl), (q_in_t4 (i := 74) (by first | rfl | decide +kernel) rfl), (q_in_t1 (i := 4) (by first | rfl | decide +kernel) rfl), (q_in_t4 (i := 75) (by first | rfl | decide +kernel) rfl), ⟨rfl, by decide, by decide, rfl⟩⟩
end QS
end
/-! FROM 10.small.b00.lean.txt -/
section
set_option maxRecDepth 100000 in
set_option maxHeartbeats 4000000 in
theorem c_J9_min_7cf53 (l : Launch) (X : XW) (σ : ST) (v0 : Int32) (v1 : Int32) : Met l yJ9_min_7cf53 (q_ws yJ9_min_7cf53 cJ9_min_7cf53 2 (some .int)) (q_rm 0 0) (q_P X σ [.int v0, .int v1]) (q_Qi X 9 σ (fun (r : Int32) (σ' : ST) => σ' = σ ∧ (r.toInt = min v0.toInt v1.toInt) ∧ r = F_J9_min_7cf53 X σ v0 v1)) 0 0 (q_reg X) := by
  refine q_met 9 (by first | exact q_j9 (n := "min") (d := "(II)I") (by decide) | decide +kernel) rfl (Nat.le_of_ble_eq_true rfl) (fun p e s m below meth c E hml hr hlk hI ls hl => ?_)
  have hx := E.1
  have hb := E.2.1
  have hl : lv_has ls 2 [(0, .int v0), (1, .int v1)] := hl
  obtain ⟨out, hout⟩ : ∃ o, o = F_J9_min_7cf53 X σ v0 v1 := ⟨_, rfl⟩
  have hF := hout.symm
  unfold F_J9_min_7cf53 at hF
  refine lv_iload_n hx hb dJ9_min_7cf53_0 rfl (lv_at hl 0 rfl) ?_
  refine lv_iload_n hx hb dJ9_min_7cf53_1 rfl (lv_at hl 1 rfl) ?_
  refine q_icmp_gt (A := v0.toInt) (B := v1.toInt) E rfl rfl (tgt := 9) dJ9_min_7cf53_2 (by decide) (fun c_1 => ?_) (fun c_1 => ?_)
  · skip
    replace hF := q_ifp hF c_1
    refine lv_iload_n hx hb dJ9_min_7cf53_9 rfl (lv_at hl 1 rfl) ?_
    exact q_reti E hr hlk hI ⟨rfl, (by omega), (hF.trans hout)⟩ dJ9_min_7cf53_10
  · skip
    replace hF := q_ifn hF (Int.not_lt.mpr c_1)
    refine lv_iload_n hx hb dJ9_min_7cf53_5 rfl (lv_at hl 0 rfl) ?_
    refine lv_goto (tgt := 10) hx hb dJ9_min_7cf53_6 (by decide) ?_
    exact q_reti E hr hlk hI ⟨rfl, (by omega), (hF.trans hout)⟩ dJ9_min_7cf53_10

set_option maxRecDepth 100000 in
set_option maxHeartbeats 4000000 in
theorem c_J9_max_7cf53 (l : Launch) (X : XW) (σ : ST) (v0 : Int32) (v1 : Int32) : Met l yJ9_max_7cf53 (q_ws yJ9_max_7cf53 cJ9_max_7cf53 2 (some .int)) (q_rm 0 0) (q_P X σ [.int v0, .int v1]) (q_Qi X 9 σ (fun (r : Int32) (σ' : ST) => σ' = σ ∧ (r.toInt = max v0.toInt v1.toInt) ∧ r = F_J9_max_7cf53 X σ v0 v1)) 0 0 (q_reg X) := by
  refine q_met 9 (by first | exact q_j9 (n := "max") (d := "(II)I") (by decide) | decide +kernel) rfl (Nat.le_of_ble_eq_true rfl) (fun p e s m below meth c E hml hr hlk hI ls hl => ?_)
  have hx := E.1
  have hb := E.2.1
  have hl : lv_has ls 2 [(0, .int v0), (1, .int v1)] := hl
  obtain ⟨out, hout⟩ : ∃ o, o = F_J9_max_7cf53 X σ v0 v1 := ⟨_, rfl⟩
  have hF := hout.symm
  unfold F_J9_max_7cf53 at hF
  refine lv_iload_n hx hb dJ9_max_7cf53_0 rfl (lv_at hl 0 rfl) ?_
  refine lv_iload_n hx hb dJ9_max_7cf53_1 rfl (lv_at hl 1 rfl) ?_
  refine q_icmp_lt (A := v0.toInt) (B := v1.toInt) E rfl rfl (tgt := 9) dJ9_max_7cf53_2 (by decide) (fun c_1 => ?_) (fun c_1 => ?_)
  · skip
    replace hF := q_ifp hF c_1
    refine lv_iload_n hx hb dJ9_max_7cf53_9 rfl (lv_at hl 1 rfl) ?_
    exact q_reti E hr hlk hI ⟨rfl, (by omega), (hF.trans hout)⟩ dJ9_max_7cf53_10
  · skip
    replace hF := q_ifn hF (Int.not_lt.mpr c_1)
    refine lv_iload_n hx hb dJ9_max_7cf53_5 rfl (lv_at hl 0 rfl) ?_
    refine lv_goto (tgt := 10) hx hb dJ9_max_7cf53_6 (by decide) ?_
    exact q_reti E hr hlk hI ⟨rfl, (by omega), (hF.trans hout)⟩ dJ9_max_7cf53_10

set_option maxRecDepth 100000 in
set_option maxHeartbeats 4000000 in
theorem c_X10_make (l : Launch) (X : XW) (σ : ST) (a : Nat) (v1 : Int32) (v2 : Int32) (ha : q_kd X a = 10) (h0 : 0 ≤ v1.toInt) (h1 : v1.toInt ≤ 3) : Met l yX10_make (q_ws yX10_make cX10_make 4 none) (q_rm 1 21) (q_P X σ [.ref a, .int v1, .int v2]) (q_Qv X 0 σ (fun (σ' : ST) => (q_KS (fun b g => b = a ∧ g ≤ 1) 8 X σ σ') ∧ (σ'.1 a 0 = v1) ∧ ((σ'.1 a 1).toInt = max 0 (min v2.toInt 60)) ∧ σ' = F_X10_make X σ a v1 v2 ∧ q_ow [(10, 0), (10, 1)] [(21, 99)] X σ σ')) 0 0 (q_reg X) := by
  refine q_met 0 (by first | exact rfl | decide +kernel) rfl (Nat.le_of_ble_eq_true rfl) (fun p e s m below meth c E hml hr hlk hI ls hl => ?_)
  have hx := E.1
  have hb := E.2.1
  have hl : lv_has ls 4 [(0, .ref a), (1, .int v1), (2, .int v2)] := hl
  have ks_σ : q_KS (fun b g => b = a ∧ g ≤ 1) 8 X σ σ := q_KS.rf
  have fr_σ : q_ow [(10, 0), (10, 1)] [(21, 99)] X σ σ := q_ow.rf
  obtain ⟨out, hout⟩ : ∃ o, o = F_X10_make X σ a v1 v2 := ⟨_, rfl⟩
  have hF := hout.symm
  unfold F_X10_make at hF
  refine lv_aload_n hx hb dX10_make_0 rfl (lv_at hl 0 rfl) ?_
  refine lv_iload_n hx hb dX10_make_1 rfl (lv_at hl 1 rfl) ?_
  refine ps_X10_9_10 E hI ha (by decide) (by omega) (by omega) dX10_make_2 (fun H locs σ_1 hσ_1 hI => ?_)
  replace hF := q_letX hF hσ_1
  have fr_σ_1 := fr_σ.si hσ_1 ha rfl
  have ks_σ_1 : q_KS (fun b g => b = a ∧ g ≤ 1) 8 X σ σ_1 := ks_σ.siS hσ_1 ⟨rfl, by decide⟩
  have p0σ_1 : σ_1.1 a 0 = v1 := q_rd hσ_1
  refine lv_aload_n hx hb dX10_make_5 rfl (lv_at hl 0 rfl) ?_
  refine lv_iconst (v := 0) hx hb dX10_make_6 zki_0 ?_
  refine lv_iload_n hx hb dX10_make_7 rfl (lv_at hl 2 rfl) ?_
  refine lv_bipush (v := 60) hx hb dX10_make_8 zkb_60 ?_
  have kc_2 : (60 : Int32).toInt = 60 := zt_60
  refine q_ci (q_runS (As := [.int v2, .int 60]) (rest := [.int 0, .ref a]) E (hml.trans hl.1.symm) hI (c_J9_min_7cf53 l X σ_1 v2 (60 : Int32)) ks_X10_22 rfl ⟨Nat.le_of_ble_eq_true rfl, Nat.le_of_ble_eq_true rfl⟩ ⟨Nat.le_refl _, Nat.le_refl _⟩ rfl (Nat.le_of_ble_eq_true rfl) dX10_make_10) hI (Nat.le_of_ble_eq_true rfl) (fun r_3 σ_4 H locs hpσ_4 hkσ_4 hI => ?_)
  have ahpσ_4 := hpσ_4.1
  have bhpσ_4 := hpσ_4.2.1
  have chpσ_4 := hpσ_4.2.2
  clear hpσ_4
  replace hI := q_Irw ahpσ_4 hI
  replace hF := q_letX hF chpσ_4
  have kc_5 : (0 : Int32).toInt = 0 := zt_0
  refine q_ci (q_runS (As := [.int 0, .int r_3]) (rest := [.ref a]) E (hml.trans hl.1.symm) hI (c_J9_max_7cf53 l X σ_1 (0 : Int32) r_3) ks_X10_28 rfl ⟨Nat.le_of_ble_eq_true rfl, Nat.le_of_ble_eq_true rfl⟩ ⟨Nat.le_refl _, Nat.le_refl _⟩ rfl (Nat.le_of_ble_eq_true rfl) dX10_make_13) hI (Nat.le_of_ble_eq_true rfl) (fun r_6 σ_7 H locs hpσ_7 hkσ_7 hI => ?_)
  have ahpσ_7 := hpσ_7.1
  have bhpσ_7 := hpσ_7.2.1
  have chpσ_7 := hpσ_7.2.2
  clear hpσ_7
  replace hI := q_Irw ahpσ_7 hI
  replace hF := q_letX hF chpσ_7
  refine ps_X10_15_10 E hI ha (by decide) (by first | (clear h0 h1 p0σ_1 kc_2 ahpσ_4 chpσ_4 ahpσ_7 chpσ_7; omega) | omega) (by first | (clear h0 h1 p0σ_1 ahpσ_4 chpσ_4 ahpσ_7 chpσ_7; omega) | omega) dX10_make_16 (fun H locs σ_8 hσ_8 hI => ?_)
  replace hF := q_letX hF hσ_8
  have fr_σ_8 := fr_σ_1.si hσ_8 ha rfl
  have ks_σ_8 : q_KS (fun b g => b = a ∧ g ≤ 1) 8 X σ σ_8 := ks_σ_1.siS hσ_8 ⟨rfl, by decide⟩
  have p0σ_8 : σ_8.1 a 0 = v1 := (q_rdn hσ_8 (Or.inr (by decide))).trans p0σ_1
  have p1σ_8 : (σ_8.1 a 1).toInt = max 0 (min v2.toInt 60) := by rw [q_rd hσ_8]; omega
  refine lv_iconst (v := 0) hx hb dX10_make_19 zki_0 ?_
  refine lv_istore_n (lv' := [(3, .int 0), (0, .ref a), (1, .int v1), (2, .int v2)]) hx hb dX10_make_20 rfl hl (by decide) rfl (fun ls hl => ?_)
  have L_21_11 : ∀ (k_11 : Nat) (x_9 : Int32) (σ_10 : ST) (H : Heap) (locs : List Loc) (ls : Array Slot), (2147483647 - x_9.toInt).toNat < k_11 → (0 ≤ x_9.toInt) → (σ_10.1 a 0 = v1) → ((σ_10.1 a 1).toInt = max 0 (min v2.toInt 60)) → (q_KS (fun b g => b = a ∧ g ≤ 1) 8 X σ σ_10) → (q_ow [(10, 0), (10, 1)] [(21, 99)] X σ σ_10) → (F_X10_make_L21_1 X a k_11 x_9 σ_10 = out) → q_I X 0 σ s.heap locs σ_10 H → lv_has ls 4 [(0, .ref a), (1, .int v1), (2, .int v2), (3, .int x_9)] → W p l e (q_rm 1 21) s m ([.ref a, .int v1, .int v2] : List Value).toArray below meth c H locs 0 0 (MQ below (q_Qv X 0 σ (fun (σ' : ST) => (q_KS (fun b g => b = a ∧ g ≤ 1) 8 X σ σ') ∧ (σ'.1 a 0 = v1) ∧ ((σ'.1 a 1).toInt = max 0 (min v2.toInt 60)) ∧ σ' = F_X10_make X σ a v1 v2 ∧ q_ow [(10, 0), (10, 1)] [(21, 99)] X σ σ')) ([.ref a, .int v1, .int v2] : List Value).toArray s 0 0 (q_reg X)) (F0 m 21 ls []) := by
    clear hF
    intro k_11
    induction k_11 with
    | zero =>
      intro x_9 σ_10 H locs ls hms
      exact absurd hms (Nat.not_lt_zero _)
    | succ k_11 ih21 =>
      intro x_9 σ_10 H locs ls hm21 hge21 p0σ_10 p1σ_10 ks_σ_10 fr_σ_10 hF hI hl
      replace hF := (F_X10_make_L21_1_s).symm.trans hF
      unfold F_X10_make_B21_1 at hF
      refine lv_iload_n hx hb dX10_make_21 rfl (lv_at hl 3 rfl) ?_
      refine lv_bipush (v := 60) hx hb dX10_make_22 zkb_60 ?_
      have gc_12_x_9 := q_rng x_9
      refine q_icmp_ge (A := x_9.toInt) (B := 60) E rfl (by decide) (tgt := 40) dX10_make_24 (by decide) (fun c_12 => ?_) (fun c_12 => ?_)
      · skip
        replace hF := q_ifn hF (Int.not_lt.mpr c_12)
        skip
        exact q_retv E hr hlk hI ⟨ks_σ_10, p0σ_10, p1σ_10, (hF.trans hout), fr_σ_10⟩ dX10_make_40
      · skip
        replace hF := q_ifp hF c_12
        refine lv_aload_n hx hb dX10_make_27 rfl (lv_at hl 0 rfl) ?_
        refine gs_X10_18_10 E hI ha dX10_make_28 ?_
        refine lv_iload_n hx hb dX10_make_31 rfl (lv_at hl 3 rfl) ?_
        refine lv_lconst (v := 0) hx hb dX10_make_32 (by decide) ?_
        refine q_lastN E hI (q_tk (k' := 21) hI ha rfl (Nat.succ_ne_zero _)) ⟨by decide, rfl⟩ (by omega) (by rw [q_lnk (v := 60) hI (q_tk (k' := 21) hI ha rfl (Nat.succ_ne_zero _)) rfl (by decide)]; omega) dX10_make_33 (fun H locs σ_13 hσ_13 hI => ?_)
        replace hF := q_letX hF hσ_13
        have fr_σ_13 := fr_σ_10.sl hσ_13 (q_tk (k' := 21) hI ha rfl (Nat.succ_ne_zero _)) rfl
        have ks_σ_13 : q_KS (fun b g => b = a ∧ g ≤ 1) 8 X σ σ_13 := ks_σ_10.sl hσ_13
        have p0σ_13 : σ_13.1 a 0 = v1 := (q_rdl hσ_13).trans p0σ_10
        have p1σ_13 : (σ_13.1 a 1).toInt = max 0 (min v2.toInt 60) := (congrArg Int32.toInt (q_rdl hσ_13)).trans p1σ_10
        obtain ⟨z_14, ez_14⟩ : ∃ y : Int32, y = x_9 + 1 := ⟨_, rfl⟩
        replace hF := q_letX hF ez_14
        refine lv_iinc (v := z_14) (lv' := [(3, .int z_14), (0, .ref a), (1, .int v1), (2, .int v2)]) hx hb dX10_make_34 hl (k := 3) rfl (by rw [ez_14]; rfl) (by decide) rfl (fun ls hl => ?_)
        have iz_14 : z_14.toInt = x_9.toInt + 1 := q_inc ez_14 (by first | (clear h0 h1 p0σ_1 kc_2 ahpσ_4 bhpσ_4 chpσ_4 kc_5 ahpσ_7 bhpσ_7 chpσ_7 p0σ_8 p1σ_8 hm21 p0σ_10 p1σ_10 p0σ_13 p1σ_13; omega) | omega)
        refine lv_goto (tgt := 21) hx hb dX10_make_37 (by decide) ?_
        exact ih21 z_14 σ_13 _ _ ls (by first | (clear h0 h1 p0σ_1 kc_2 ahpσ_4 bhpσ_4 chpσ_4 kc_5 ahpσ_7 bhpσ_7 chpσ_7 p0σ_8 p1σ_8 p0σ_10 p1σ_10 p0σ_13 p1σ_13; omega) | omega) (by first | (clear h0 h1 p0σ_1 kc_2 ahpσ_4 bhpσ_4 chpσ_4 kc_5 ahpσ_7 bhpσ_7 chpσ_7 p0σ_8 p1σ_8 hm21 p0σ_10 p1σ_10 p0σ_13 p1σ_13; omega) | omega) p0σ_13 p1σ_13 ks_σ_13 fr_σ_13 hF hI (lv_sub hl [1, 2, 3, 0] rfl)
  exact L_21_11 ((2147483647 - (0 : Int32).toInt).toNat + 1) 0 σ_8 _ _ ls (Nat.lt_succ_self _) (by decide) p0σ_8 p1σ_8 ks_σ_8 fr_σ_8 hF hI (lv_sub hl [1, 2, 3, 0] rfl)

set_option maxRecDepth 100000 in
set_option maxHeartbeats 4000000 in
theorem c_X10_isMissing (l : Launch) (X : XW) (σ : ST) (a : Nat) (ha : q_kd X a = 10) : Met l yX10_isMissing (q_ws yX10_isMissing cX10_isMissing 1 (some .boolean)) (q_rm 0 0) (q_P X σ [.ref a]) (q_Qi X 9 σ (fun (r : Int32) (σ' : ST) => σ' = σ ∧ (0 ≤ r.toInt ∧ r.toInt ≤ 1) ∧ (r.toInt = 1 ↔ (σ.1 a 1).toInt = -1) ∧ r = F_X10_isMissing X σ a)) 0 0 (q_reg X) := by
  refine q_met 9 (by first | exact rfl | decide +kernel) rfl (Nat.le_of_ble_eq_true rfl) (fun p e s m below meth c E hml hr hlk hI ls hl => ?_)
  have hx := E.1
  have hb := E.2.1
  have hl : lv_has ls 1 [(0, .ref a)] := hl
  obtain ⟨out, hout⟩ : ∃ o, o = F_X10_isMissing X σ a := ⟨_, rfl⟩
  have hF := hout.symm
  unfold F_X10_isMissing at hF
  refine lv_aload_n hx hb dX10_isMissing_0 rfl (lv_at hl 0 rfl) ?_
  refine gs_X10_15_10 E hI ha dX10_isMissing_1 ?_
  refine lv_topi (fun f_1 ef_1 => ?_)
  replace hF := q_letX hF ef_1
  have if_1 : f_1.toInt = (σ.1 a 1).toInt := congrArg Int32.toInt ef_1
  have bf_1 : -1 ≤ f_1.toInt ∧ f_1.toInt ≤ 60 := by rw [ef_1]; exact q_bd hI ha rfl
  refine lv_iconst (v := (-1)) hx hb dX10_isMissing_4 zki_m1 ?_
  refine q_icmp_ne (A := f_1.toInt) (B := (-1)) E rfl (by decide) (tgt := 12) dX10_isMissing_5 (by decide) (fun c_2 => ?_) (fun c_2 => ?_)
  · skip
    replace hF := q_ifn hF c_2
    refine lv_iconst (v := 0) hx hb dX10_isMissing_12 zki_0 ?_
    have hrv : (0 : Int32).toInt = 0 := zt_0
    exact q_retz E hr hlk hI ⟨by decide, by decide⟩ ⟨rfl, ⟨by decide, by decide⟩, (by constructor <;> intro h9 <;> omega), (hF.trans hout)⟩ dX10_isMissing_13
  · skip
    replace hF := q_ifp hF c_2
    refine lv_iconst (v := 1) hx hb dX10_isMissing_8 zki_1 ?_
    refine lv_goto (tgt := 13) hx hb dX10_isMissing_9 (by decide) ?_
    have hrv : (1 : Int32).toInt = 1 := zt_1
    exact q_retz E hr hlk hI ⟨by decide, by decide⟩ ⟨rfl, ⟨by decide, by decide⟩, (by constructor <;> intro h9 <;> omega), (hF.trans hout)⟩ dX10_isMissing_13

set_option maxRecDepth 100000 in
set_option maxHeartbeats 4000000 in
theorem c_X10_hasPlaces (l : Launch) (X : XW) (σ : ST) (a : Nat) (v1 : Int32) (v2 : Int32) (ha : q_kd X a = 10) : Met l yX10_hasPlaces (q_ws yX10_hasPlaces cX10_hasPlaces 3 (some .boolean)) (q_rm 0 0) (q_P X σ [.ref a, .int v1, .int v2]) (q_Qi X 9 σ (fun (r : Int32) (σ' : ST) => σ' = σ ∧ (0 ≤ r.toInt ∧ r.toInt ≤ 1) ∧ (r.toInt = 1 ↔ (0 ≤ v2.toInt ∧ 0 ≤ v1.toInt ∧ v1.toInt + v2.toInt ≤ (σ.1 a 1).toInt)) ∧ r = F_X10_hasPlaces X σ a v1 v2)) 0 0 (q_reg X) := by
  refine q_met 9 (by first | exact rfl | decide +kernel) rfl (Nat.le_of_ble_eq_true rfl) (fun p e s m below meth c E hml hr hlk hI ls hl => ?_)
  have hx := E.1
  have hb := E.2.1
  have hl : lv_has ls 3 [(0, .ref a), (1, .int v1), (2, .int v2)] := hl
  obtain ⟨out, hout⟩ : ∃ o, o = F_X10_hasPlaces X σ a v1 v2 := ⟨_, rfl⟩
  have hF := hout.symm
  unfold F_X10_hasPlaces at hF
  refine lv_iload_n hx hb dX10_hasPlaces_0 rfl (lv_at hl 2 rfl) ?_
  refine q_if_lt (A := v2.toInt) E rfl (tgt := 30) dX10_hasPlaces_1 (by decide) (fun c_1 => ?_) (fun c_1 => ?_)
  · skip
    replace hF := q_ifp hF c_1
    refine lv_iconst (v := 0) hx hb dX10_hasPlaces_30 zki_0 ?_
    have hrv : (0 : Int32).toInt = 0 := zt_0
    exact q_retz E hr hlk hI ⟨by decide, by decide⟩ ⟨rfl, ⟨by decide, by decide⟩, (by constructor <;> intro h9 <;> omega), (hF.trans hout)⟩ dX10_hasPlaces_31
  · skip
    replace hF := q_ifn hF (Int.not_lt.mpr c_1)
    refine lv_iload_n hx hb dX10_hasPlaces_4 rfl (lv_at hl 2 rfl) ?_
    refine lv_aload_n hx hb dX10_hasPlaces_5 rfl (lv_at hl 0 rfl) ?_
    refine gs_X10_15_10 E hI ha dX10_hasPlaces_6 ?_
    refine lv_topi (fun f_2 ef_2 => ?_)
    replace hF := q_letX hF ef_2
    have if_2 : f_2.toInt = (σ.1 a 1).toInt := congrArg Int32.toInt ef_2
    have bf_2 : -1 ≤ f_2.toInt ∧ f_2.toInt ≤ 60 := by rw [ef_2]; exact q_bd hI ha rfl
    have gc_3_v2 := q_rng v2
    have gc_3_f_2 := q_rng f_2
    refine q_icmp_gt (A := v2.toInt) (B := f_2.toInt) E rfl rfl (tgt := 30) dX10_hasPlaces_9 (by decide) (fun c_3 => ?_) (fun c_3 => ?_)
    · skip
      replace hF := q_ifp hF c_3
      refine lv_iconst (v := 0) hx hb dX10_hasPlaces_30 zki_0 ?_
      have hrv : (0 : Int32).toInt = 0 := zt_0
      exact q_retz E hr hlk hI ⟨by decide, by decide⟩ ⟨rfl, ⟨by decide, by decide⟩, (by constructor <;> intro h9 <;> omega), (hF.trans hout)⟩ dX10_hasPlaces_31
    · skip
      replace hF := q_ifn hF (Int.not_lt.mpr c_3)
      refine lv_iload_n hx hb dX10_hasPlaces_12 rfl (lv_at hl 1 rfl) ?_
      refine q_if_lt (A := v1.toInt) E rfl (tgt := 30) dX10_hasPlaces_13 (by decide) (fun c_4 => ?_) (fun c_4 => ?_)
      · skip
        replace hF := q_ifp hF c_4
        refine lv_iconst (v := 0) hx hb dX10_hasPlaces_30 zki_0 ?_
        have hrv : (0 : Int32).toInt = 0 := zt_0
        exact q_retz E hr hlk hI ⟨by decide, by decide⟩ ⟨rfl, ⟨by decide, by decide⟩, (by constructor <;> intro h9 <;> omega), (hF.trans hout)⟩ dX10_hasPlaces_31
      · skip
        replace hF := q_ifn hF (Int.not_lt.mpr c_4)
        refine lv_iload_n hx hb dX10_hasPlaces_16 rfl (lv_at hl 1 rfl) ?_
        refine lv_aload_n hx hb dX10_hasPlaces_17 rfl (lv_at hl 0 rfl) ?_
        refine gs_X10_15_10 E hI ha dX10_hasPlaces_18 ?_
        refine lv_topi (fun f_5 ef_5 => ?_)
        replace hF := q_letX hF ef_5
        have if_5 : f_5.toInt = (σ.1 a 1).toInt := congrArg Int32.toInt ef_5
        have bf_5 : -1 ≤ f_5.toInt ∧ f_5.toInt ≤ 60 := by rw [ef_5]; exact q_bd hI ha rfl
        refine lv_iload_n hx hb dX10_hasPlaces_21 rfl (lv_at hl 2 rfl) ?_
        refine lv_isub hx hb dX10_hasPlaces_22 ?_
        refine lv_topi (fun z_6 ez_6 => ?_)
        replace hF := q_letX hF ez_6
        have iz_6 := q_sub ez_6 (by first | (clear c_1 bf_2 gc_3_v2 gc_3_f_2 c_4 bf_5; omega) | omega) (by first | (clear gc_3_f_2 c_3 c_4 bf_5; omega) | omega)
        have gc_7_v1 := q_rng v1
        have gc_7_z_6 := q_rng z_6
        refine q_icmp_gt (A := v1.toInt) (B := z_6.toInt) E rfl rfl (tgt := 30) dX10_hasPlaces_23 (by decide) (fun c_7 => ?_) (fun c_7 => ?_)
        · skip
          replace hF := q_ifp hF c_7
          refine lv_iconst (v := 0) hx hb dX10_hasPlaces_30 zki_0 ?_
          have hrv : (0 : Int32).toInt = 0 := zt_0
          exact q_retz E hr hlk hI ⟨by decide, by decide⟩ ⟨rfl, ⟨by decide, by decide⟩, (by constructor <;> intro h9 <;> omega), (hF.trans hout)⟩ dX10_hasPlaces_31
        · skip
          replace hF := q_ifn hF (Int.not_lt.mpr c_7)
          refine lv_iconst (v := 1) hx hb dX10_hasPlaces_26 zki_1 ?_
          refine lv_goto (tgt := 31) hx hb dX10_hasPlaces_27 (by decide) ?_
          have hrv : (1 : Int32).toInt = 1 := zt_1
          exact q_retz E hr hlk hI ⟨by decide, by decide⟩ ⟨rfl, ⟨by decide, by decide⟩, (by constructor <;> intro h9 <;> omega), (hF.trans hout)⟩ dX10_hasPlaces_31

set_option maxRecDepth 100000 in
set_option maxHeartbeats 4000000 in
theorem c_X10_cut (l : Launch) (X : XW) (σ : ST) (a : Nat) (v1 : Int64) (ha : q_kd X a = 10) : Met l yX10_cut (q_ws yX10_cut cX10_cut 3 (some .long)) (q_rm 0 0) (q_P X σ [.ref a, .long v1]) (q_Ql X 9 σ (fun (r : Int64) (σ' : ST) => σ' = σ ∧ r = F_X10_cut X σ a v1)) 0 0 (q_reg X) := by
  refine q_met 9 (by first | exact rfl | decide +kernel) rfl (Nat.le_of_ble_eq_true rfl) (fun p e s m below meth c E hml hr hlk hI ls hl => ?_)
  have hx := E.1
  have hb := E.2.1
  have hl : lv_has ls 3 [(0, .ref a), (1, .long v1)] := hl
  obtain ⟨out, hout⟩ : ∃ o, o = F_X10_cut X σ a v1 := ⟨_, rfl⟩
  have hF := hout.symm
  unfold F_X10_cut at hF
  refine lv_aload_n hx hb dX10_cut_0 rfl (lv_at hl 0 rfl) ?_
  refine gs_X10_9_10 E hI ha dX10_cut_1 ?_
  refine lv_topi (fun f_1 ef_1 => ?_)
  replace hF := q_letX hF ef_1
  have bf_1 : 0 ≤ f_1.toInt ∧ f_1.toInt ≤ 3 := by rw [ef_1]; exact q_bd hI ha rfl
  by_cases c_2 : f_1.toInt = 0
  · refine lv_tableIn (off := 28) (tgt := 32) hx hb dX10_cut_4 (by first | (clear bf_1; omega) | omega) (by first | (clear bf_1; omega) | omega) (by rw [c_2]; rfl) (by decide) ?_
    replace hF := q_ifp hF c_2
    refine lv_lload_n hx hb dX10_cut_32 rfl (lv_at hl 1 rfl) ?_
    refine lv_l2i hx hb dX10_cut_33 rfl ?_
    refine lv_topi (fun z_3 ez_3 => ?_)
    replace hF := q_letX hF ez_3
    refine lv_i2b hx hb dX10_cut_34 rfl ?_
    refine lv_topi (fun z_4 ez_4 => ?_)
    replace hF := q_letX hF ez_4
    refine lv_i2l hx hb dX10_cut_35 rfl ?_
    refine lv_topl (fun y_5 ey_5 => ?_)
    replace hF := q_letX hF ey_5
    exact q_retl E hr hlk hI ⟨rfl, (hF.trans hout)⟩ dX10_cut_36
  replace hF := q_ifn hF c_2
  by_cases c_6 : f_1.toInt = 1
  · refine lv_tableIn (off := 33) (tgt := 37) hx hb dX10_cut_4 (by first | (clear bf_1; omega) | omega) (by first | (clear bf_1; omega) | omega) (by rw [c_6]; rfl) (by decide) ?_
    replace hF := q_ifp hF c_6
    refine lv_lload_n hx hb dX10_cut_37 rfl (lv_at hl 1 rfl) ?_
    refine lv_l2i hx hb dX10_cut_38 rfl ?_
    refine lv_topi (fun z_7 ez_7 => ?_)
    replace hF := q_letX hF ez_7
    refine lv_i2s hx hb dX10_cut_39 rfl ?_
    refine lv_topi (fun z_8 ez_8 => ?_)
    replace hF := q_letX hF ez_8
    refine lv_i2l hx hb dX10_cut_40 rfl ?_
    refine lv_topl (fun y_9 ey_9 => ?_)
    replace hF := q_letX hF ey_9
    exact q_retl E hr hlk hI ⟨rfl, (hF.trans hout)⟩ dX10_cut_41
  replace hF := q_ifn hF c_6
  by_cases c_10 : f_1.toInt = 2
  · refine lv_tableIn (off := 38) (tgt := 42) hx hb dX10_cut_4 (by first | (clear bf_1; omega) | omega) (by first | (clear bf_1; omega) | omega) (by rw [c_10]; rfl) (by decide) ?_
    replace hF := q_ifp hF c_10
    refine lv_lload_n hx hb dX10_cut_42 rfl (lv_at hl 1 rfl) ?_
    refine lv_l2i hx hb dX10_cut_43 rfl ?_
    refine lv_topi (fun z_11 ez_11 => ?_)
    replace hF := q_letX hF ez_11
    refine lv_i2l hx hb dX10_cut_44 rfl ?_
    refine lv_topl (fun y_12 ey_12 => ?_)
    replace hF := q_letX hF ey_12
    exact q_retl E hr hlk hI ⟨rfl, (hF.trans hout)⟩ dX10_cut_45
  replace hF := q_ifn hF c_10
  refine lv_tableOut (tgt := 46) hx hb dX10_cut_4 (by omega) (by decide) ?_
  refine lv_lload_n hx hb dX10_cut_46 rfl (lv_at hl 1 rfl) ?_
  exact q_retl E hr hlk hI ⟨rfl, (hF.trans hout)⟩ dX10_cut_47

set_option maxRecDepth 100000 in
set_option maxHeartbeats 4000000 in
theorem c_X10_put (l : Launch) (X : XW) (σ : ST) (a : Nat) (v1 : Int32) (v2 : Int64) (ha : q_kd X a = 10) : Met l yX10_put (q_ws yX10_put cX10_put 4 none) (q_rm 1 22) (q_P X σ [.ref a, .int v1, .long v2]) (q_Qv X 8 σ (fun (σ' : ST) => σ' = F_X10_put X σ a v1 v2 ∧ q_ow [] [(21, 99)] X σ σ')) 0 0 (q_reg X) := by
  refine q_met 8 (by first | exact rfl | decide +kernel) rfl (Nat.le_of_ble_eq_true rfl) (fun p e s m below meth c E hml hr hlk hI ls hl => ?_)
  have hx := E.1
  have hb := E.2.1
  have hl : lv_has ls 4 [(0, .ref a), (1, .int v1), (2, .long v2)] := hl
  have fr_σ : q_ow [] [(21, 99)] X σ σ := q_ow.rf
  obtain ⟨out, hout⟩ : ∃ o, o = F_X10_put X σ a v1 v2 := ⟨_, rfl⟩
  have hF := hout.symm
  unfold F_X10_put at hF
  refine lv_iload_n hx hb dX10_put_0 rfl (lv_at hl 1 rfl) ?_
  refine q_if_lt (A := v1.toInt) E rfl (tgt := 21) dX10_put_1 (by decide) (fun c_1 => ?_) (fun c_1 => ?_)
  · skip
    replace hF := q_ifp hF c_1
    exact q_retv E hr hlk hI ⟨(hF.trans hout), fr_σ⟩ dX10_put_21
  · skip
    replace hF := q_ifn hF (Int.not_lt.mpr c_1)
    refine lv_iload_n hx hb dX10_put_4 rfl (lv_at hl 1 rfl) ?_
    refine lv_bipush (v := 60) hx hb dX10_put_5 zkb_60 ?_
    refine q_icmp_ge (A := v1.toInt) (B := 60) E rfl (by decide) (tgt := 21) dX10_put_7 (by decide) (fun c_2 => ?_) (fun c_2 => ?_)
    · skip
      replace hF := q_ifn hF (Int.not_lt.mpr c_2)
      exact q_retv E hr hlk hI ⟨(hF.trans hout), fr_σ⟩ dX10_put_21
    · skip
      replace hF := q_ifp hF c_2
      refine lv_aload_n hx hb dX10_put_10 rfl (lv_at hl 0 rfl) ?_
      refine gs_X10_18_10 E hI ha dX10_put_11 ?_
      refine lv_iload_n hx hb dX10_put_14 rfl (lv_at hl 1 rfl) ?_
      refine lv_aload_n hx hb dX10_put_15 rfl (lv_at hl 0 rfl) ?_
      refine lv_lload_n hx hb dX10_put_16 rfl (lv_at hl 2 rfl) ?_
      refine q_cl_ (q_rV9_1 (rest := [.int v1, .ref (q_rf X a 2)]) E (hml.trans hl.1.symm) hI (c_X10_cut l X σ a v2 ha) kv_X10_31 ha ⟨Nat.le_of_ble_eq_true rfl, Nat.le_of_ble_eq_true rfl⟩ (Nat.le_of_ble_eq_true rfl) dX10_put_17) hI (Nat.le_of_ble_eq_true rfl) (fun r_3 σ_4 H locs hpσ_4 hkσ_4 hI => ?_)
      have ahpσ_4 := hpσ_4.1
      have bhpσ_4 := hpσ_4.2
      clear hpσ_4
      replace hI := q_Irw ahpσ_4 hI
      replace hF := q_letX hF bhpσ_4
      refine q_lastN E hI (q_tk (k' := 21) hI ha rfl (Nat.succ_ne_zero _)) ⟨by decide, rfl⟩ (by omega) (by rw [q_lnk (v := 60) hI (q_tk (k' := 21) hI ha rfl (Nat.succ_ne_zero _)) rfl (by decide)]; omega) dX10_put_20 (fun H locs σ_5 hσ_5 hI => ?_)
      replace hF := q_letX hF hσ_5
      have fr_σ_5 := fr_σ.sl hσ_5 (q_tk (k' := 21) hI ha rfl (Nat.succ_ne_zero _)) rfl
      exact q_retv E hr hlk hI ⟨(hF.trans hout), fr_σ_5⟩ dX10_put_21

set_option maxRecDepth 100000 in
set_option maxHeartbeats 4000000 in
theorem c_X10_get (l : Launch) (X : XW) (σ : ST) (a : Nat) (v1 : Int32) (ha : q_kd X a = 10) : Met l yX10_get (q_ws yX10_get cX10_get 2 (some .long)) (q_rm 0 0) (q_P X σ [.ref a, .int v1]) (q_Ql X 9 σ (fun (r : Int64) (σ' : ST) => σ' = σ ∧ r = F_X10_get X σ a v1)) 0 0 (q_reg X) := by
  refine q_met 9 (by first | exact rfl | decide +kernel) rfl (Nat.le_of_ble_eq_true rfl) (fun p e s m below meth c E hml hr hlk hI ls hl => ?_)
  have hx := E.1
  have hb := E.2.1
  have hl : lv_has ls 2 [(0, .ref a), (1, .int v1)] := hl
  obtain ⟨out, hout⟩ : ∃ o, o = F_X10_get X σ a v1 := ⟨_, rfl⟩
  have hF := hout.symm
  unfold F_X10_get at hF
  refine lv_iload_n hx hb dX10_get_0 rfl (lv_at hl 1 rfl) ?_
  refine q_if_lt (A := v1.toInt) E rfl (tgt := 19) dX10_get_1 (by decide) (fun c_1 => ?_) (fun c_1 => ?_)
  · skip
    replace hF := q_ifp hF c_1
    refine lv_lconst (v := 0) hx hb dX10_get_19 (by decide) ?_
    exact q_retl E hr hlk hI ⟨rfl, (hF.trans hout)⟩ dX10_get_20
  · skip
    replace hF := q_ifn hF (Int.not_lt.mpr c_1)
    refine lv_iload_n hx hb dX10_get_4 rfl (lv_at hl 1 rfl) ?_
    refine lv_bipush (v := 60) hx hb dX10_get_5 zkb_60 ?_
    refine q_icmp_ge (A := v1.toInt) (B := 60) E rfl (by decide) (tgt := 19) dX10_get_7 (by decide) (fun c_2 => ?_) (fun c_2 => ?_)
    · skip
      replace hF := q_ifn hF (Int.not_lt.mpr c_2)
      refine lv_lconst (v := 0) hx hb dX10_get_19 (by decide) ?_
      exact q_retl E hr hlk hI ⟨rfl, (hF.trans hout)⟩ dX10_get_20
    · skip
      replace hF := q_ifp hF c_2
      refine lv_aload_n hx hb dX10_get_10 rfl (lv_at hl 0 rfl) ?_
      refine gs_X10_18_10 E hI ha dX10_get_11 ?_
      refine lv_iload_n hx hb dX10_get_14 rfl (lv_at hl 1 rfl) ?_
      refine q_lald E hI (q_tk (k' := 21) hI ha rfl (Nat.succ_ne_zero _)) ⟨by decide, rfl⟩ (by omega) (by rw [q_lnk (v := 60) hI (q_tk (k' := 21) hI ha rfl (Nat.succ_ne_zero _)) rfl (by decide)]; omega) dX10_get_15 ?_
      refine lv_topl (fun g_3 eg_3 => ?_)
      replace hF := q_letX hF eg_3
      refine lv_goto (tgt := 20) hx hb dX10_get_16 (by decide) ?_
      exact q_retl E hr hlk hI ⟨rfl, (hF.trans hout)⟩ dX10_get_20

set_option maxRecDepth 100000 in
set_option maxHeartbeats 4000000 in
theorem c_X10_copyFrom (l : Launch) (X : XW) (σ : ST) (a : Nat) (r1 : Nat) (v2 : Int32) (v3 : Int32) (v4 : Int32) (ha : q_kd X a = 10) (hr1 : q_kd X r1 = 10) : Met l yX10_copyFrom (q_ws yX10_copyFrom cX10_copyFrom 5 none) (q_rm 1 60) (q_P X σ [.ref a, .ref r1, .int v2, .int v3, .int v4]) (q_Qv X 8 σ (fun (σ' : ST) => σ' = F_X10_copyFrom X σ a r1 v2 v3 v4 ∧ q_ow [] [(21, 99)] X σ σ')) 0 0 (q_reg X) := by
  refine q_met 8 (by first | exact rfl | decide +kernel) rfl (Nat.le_of_ble_eq_true rfl) (fun p e s m below meth c E hml hr hlk hI ls hl => ?_)
  have hx := E.1
  have hb := E.2.1
  have hl : lv_has ls 5 [(0, .ref a), (1, .ref r1), (2, .int v2), (3, .int v3), (4, .int v4)] := hl
  have fr_σ : q_ow [] [(21, 99)] X σ σ := q_ow.rf
  have gp0 := q_bd (f := 1) (lo := -1) (hi := 60) hI ha rfl
  have gp1 := q_bd (f := 1) (lo := -1) (hi := 60) hI hr1 rfl
  obtain ⟨out, hout⟩ : ∃ o, o = F_X10_copyFrom X σ a r1 v2 v3 v4 := ⟨_, rfl⟩
  have hF := hout.symm
  unfold F_X10_copyFrom at hF
  refine lv_aload_n hx hb dX10_copyFrom_0 rfl (lv_at hl 1 rfl) ?_
  refine lv_iload_n hx hb dX10_copyFrom_1 rfl (lv_at hl 2 rfl) ?_
  refine lv_iload hx hb dX10_copyFrom_2 (lv_at hl 4 rfl) ?_
  refine q_ci (q_rV9_2 (rest := []) E (hml.trans hl.1.symm) hI (c_X10_hasPlaces l X σ r1 v2 v4 hr1) kv_X10_35 hr1 ⟨Nat.le_of_ble_eq_true rfl, Nat.le_of_ble_eq_true rfl⟩ (Nat.le_of_ble_eq_true rfl) dX10_copyFrom_4) hI (Nat.le_of_ble_eq_true rfl) (fun r_1 σ_2 H locs hpσ_2 hkσ_2 hI => ?_)
  have ahpσ_2 := hpσ_2.1
  have bhpσ_2 := hpσ_2.2.1
  have chpσ_2 := hpσ_2.2.2.1
  have dhpσ_2 := hpσ_2.2.2.2
  clear hpσ_2
  replace hI := q_Irw ahpσ_2 hI
  replace hF := q_letX hF dhpσ_2
  refine q_if_eq (A := r_1.toInt) E rfl (tgt := 35) dX10_copyFrom_7 (by decide) (fun c_3 => ?_) (fun c_3 => ?_)
  · skip
    replace hF := q_ifp hF c_3
    replace chpσ_2 := q_ifNo chpσ_2 c_3
    exact q_retv E hr hlk hI ⟨(hF.trans hout), fr_σ⟩ dX10_copyFrom_35
  · skip
    replace hF := q_ifn hF c_3
    replace c_3 := q_ifOne bhpσ_2 c_3
    replace chpσ_2 := q_ifYes chpσ_2 c_3
    refine lv_aload_n hx hb dX10_copyFrom_10 rfl (lv_at hl 0 rfl) ?_
    refine lv_iload_n hx hb dX10_copyFrom_11 rfl (lv_at hl 3 rfl) ?_
    refine lv_iload hx hb dX10_copyFrom_12 (lv_at hl 4 rfl) ?_
    refine q_ci (q_rV9_2 (rest := []) E (hml.trans hl.1.symm) hI (c_X10_hasPlaces l X σ a v3 v4 ha) kv_X10_35 ha ⟨Nat.le_of_ble_eq_true rfl, Nat.le_of_ble_eq_true rfl⟩ (Nat.le_of_ble_eq_true rfl) dX10_copyFrom_14) hI (Nat.le_of_ble_eq_true rfl) (fun r_4 σ_5 H locs hpσ_5 hkσ_5 hI => ?_)
    have ahpσ_5 := hpσ_5.1
    have bhpσ_5 := hpσ_5.2.1
    have chpσ_5 := hpσ_5.2.2.1
    have dhpσ_5 := hpσ_5.2.2.2
    clear hpσ_5
    replace hI := q_Irw ahpσ_5 hI
    replace hF := q_letX hF dhpσ_5
    refine q_if_eq (A := r_4.toInt) E rfl (tgt := 35) dX10_copyFrom_17 (by decide) (fun c_6 => ?_) (fun c_6 => ?_)
    · skip
      replace hF := q_ifp hF c_6
      replace chpσ_5 := q_ifNo chpσ_5 c_6
      exact q_retv E hr hlk hI ⟨(hF.trans hout), fr_σ⟩ dX10_copyFrom_35
    · skip
      replace hF := q_ifn hF c_6
      replace c_6 := q_ifOne bhpσ_5 c_6
      replace chpσ_5 := q_ifYes chpσ_5 c_6
      refine lv_aload_n hx hb dX10_copyFrom_20 rfl (lv_at hl 1 rfl) ?_
      refine gs_X10_18_10 E hI hr1 dX10_copyFrom_21 ?_
      refine lv_iload_n hx hb dX10_copyFrom_24 rfl (lv_at hl 2 rfl) ?_
      refine lv_aload_n hx hb dX10_copyFrom_25 rfl (lv_at hl 0 rfl) ?_
      refine gs_X10_18_10 E hI ha dX10_copyFrom_26 ?_
      refine lv_iload_n hx hb dX10_copyFrom_29 rfl (lv_at hl 3 rfl) ?_
      refine lv_iload hx hb dX10_copyFrom_30 (lv_at hl 4 rfl) ?_
      refine q_copyl E (hml.trans hl.1.symm) hI (q_tk (k' := 21) hI hr1 rfl (Nat.succ_ne_zero _)) (q_tk (k' := 21) hI ha rfl (Nat.succ_ne_zero _)) (q_in_t3 (i := 94) (by first | rfl | decide +kernel) rfl) (q_in_t3 (i := 96) (by first | rfl | decide +kernel) rfl) (q_in_t3 (i := 95) (by first | rfl | decide +kernel) rfl) (q_in_t1 (i := 15) (by first | rfl | decide +kernel) rfl) (by first | (clear gp0 gp1 ahpσ_2 bhpσ_2 dhpσ_2 c_3 ahpσ_5 bhpσ_5 dhpσ_5 c_6 chpσ_5; omega) | omega) (by first | (clear gp0 gp1 ahpσ_2 bhpσ_2 dhpσ_2 c_3 chpσ_2 ahpσ_5 bhpσ_5 dhpσ_5 c_6; omega) | omega) (by first | (clear gp0 gp1 ahpσ_2 bhpσ_2 dhpσ_2 c_3 ahpσ_5 bhpσ_5 dhpσ_5 c_6 chpσ_5; omega) | omega) (by first | (clear gp0 ahpσ_2 bhpσ_2 dhpσ_2 c_3 ahpσ_5 bhpσ_5 dhpσ_5 c_6 chpσ_5; omega) | omega) (by first | (clear gp1 ahpσ_2 bhpσ_2 dhpσ_2 c_3 chpσ_2 ahpσ_5 bhpσ_5 dhpσ_5 c_6; omega) | omega) (by decide) (by decide) dX10_copyFrom_32 ⟨Nat.le_refl _, Nat.le_refl _⟩ (fun H locs σ_7 hσ_7 hI => ?_)
      replace hF := q_letX hF hσ_7
      have fr_σ_7 := fr_σ.cpy hσ_7 (q_tk (k' := 21) hI ha rfl (Nat.succ_ne_zero _)) (fun _ => rfl)
      exact q_retv E hr hlk hI ⟨(hF.trans hout), fr_σ_7⟩ dX10_copyFrom_35

set_option maxRecDepth 100000 in
set_option maxHeartbeats 4000000 in
theorem c_X5_clear (l : Launch) (X : XW) (σ : ST) (a : Nat) (ha : q_kd X a = 5) : Met l yX5_clear (q_ws yX5_clear cX5_clear 2 none) (q_rm 0 0) (q_P X σ [.ref a]) (q_Qv X 8 σ (fun (σ' : ST) => σ' = F_X5_clear X σ a ∧ q_ow [(20, 99)] [] X σ σ')) 0 0 (q_reg X) := by
  refine q_met 8 (by first | exact rfl | decide +kernel) rfl (Nat.le_of_ble_eq_true rfl) (fun p e s m below meth c E hml hr hlk hI ls hl => ?_)
  have hx := E.1
  have hb := E.2.1
  have hl : lv_has ls 2 [(0, .ref a)] := hl
  have fr_σ : q_ow [(20, 99)] [] X σ σ := q_ow.rf
  obtain ⟨out, hout⟩ : ∃ o, o = F_X5_clear X σ a := ⟨_, rfl⟩
  have hF := hout.symm
  unfold F_X5_clear at hF
  refine lv_iconst (v := 0) hx hb dX5_clear_0 zki_0 ?_
  refine lv_istore_n (lv' := [(1, .int 0), (0, .ref a)]) hx hb dX5_clear_1 rfl hl (by decide) rfl (fun ls hl => ?_)
  have L_2_3 : ∀ (k_3 : Nat) (x_1 : Int32) (σ_2 : ST) (H : Heap) (locs : List Loc) (ls : Array Slot), (2147483647 - x_1.toInt).toNat < k_3 → (0 ≤ x_1.toInt) → (q_ow [(20, 99)] [] X σ σ_2) → (F_X5_clear_L2_1 X a k_3 x_1 σ_2 = out) → q_I X 8 σ s.heap locs σ_2 H → lv_has ls 2 [(0, .ref a), (1, .int x_1)] → W p l e (q_rm 0 0) s m ([.ref a] : List Value).toArray below meth c H locs 0 0 (MQ below (q_Qv X 8 σ (fun (σ' : ST) => σ' = F_X5_clear X σ a ∧ q_ow [(20, 99)] [] X σ σ')) ([.ref a] : List Value).toArray s 0 0 (q_reg X)) (F0 m 2 ls []) := by
    clear hF
    intro k_3
    induction k_3 with
    | zero =>
      intro x_1 σ_2 H locs ls hms
      exact absurd hms (Nat.not_lt_zero _)
    | succ k_3 ih2 =>
      intro x_1 σ_2 H locs ls hm2 hge2 fr_σ_2 hF hI hl
      replace hF := (F_X5_clear_L2_1_s).symm.trans hF
      unfold F_X5_clear_B2_1 at hF
      refine lv_iload_n hx hb dX5_clear_2 rfl (lv_at hl 1 rfl) ?_
      refine lv_aload_n hx hb dX5_clear_3 rfl (lv_at hl 0 rfl) ?_
      refine gs_X5_13_5 E hI ha dX5_clear_4 ?_
      refine q_alenX E hI (q_tk (k' := 20) hI ha rfl (Nat.succ_ne_zero _)) (by decide) (t := 1) rfl rfl dX5_clear_7 (fun n_4 en_4 hn_4 => ?_)
      replace hF := q_letX hF en_4
      have gc_5_x_1 := q_rng x_1
      have gc_5_n_4 := q_rng n_4
      refine q_icmp_ge (A := x_1.toInt) (B := n_4.toInt) E rfl rfl (tgt := 24) dX5_clear_8 (by decide) (fun c_5 => ?_) (fun c_5 => ?_)
      · skip
        replace hF := q_ifn hF (Int.not_lt.mpr c_5)
        skip
        exact q_retv E hr hlk hI ⟨(hF.trans hout), fr_σ_2⟩ dX5_clear_24
      · skip
        replace hF := q_ifp hF c_5
        refine lv_aload_n hx hb dX5_clear_11 rfl (lv_at hl 0 rfl) ?_
        refine gs_X5_13_5 E hI ha dX5_clear_12 ?_
        refine lv_iload_n hx hb dX5_clear_15 rfl (lv_at hl 1 rfl) ?_
        refine lv_iconst (v := 0) hx hb dX5_clear_16 zki_0 ?_
        refine q_iastN E hI (q_tk (k' := 20) hI ha rfl (Nat.succ_ne_zero _)) ⟨by decide, rfl⟩ (by omega) (by first | (clear hm2 hge2 gc_5_x_1 gc_5_n_4; omega) | omega) (show 8 < 9 by decide) (q_inU rfl) dX5_clear_17 (fun H locs σ_6 hσ_6 hI => ?_)
        replace hF := q_letX hF hσ_6
        have fr_σ_6 := fr_σ_2.si hσ_6 (q_tk (k' := 20) hI ha rfl (Nat.succ_ne_zero _)) rfl
        obtain ⟨z_7, ez_7⟩ : ∃ y : Int32, y = x_1 + 1 := ⟨_, rfl⟩
        replace hF := q_letX hF ez_7
        refine lv_iinc (v := z_7) (lv' := [(1, .int z_7), (0, .ref a)]) hx hb dX5_clear_18 hl (k := 1) rfl (by rw [ez_7]; rfl) (by decide) rfl (fun ls hl => ?_)
        have iz_7 : z_7.toInt = x_1.toInt + 1 := q_inc ez_7 (by first | (clear hm2; omega) | omega)
        refine lv_goto (tgt := 2) hx hb dX5_clear_21 (by decide) ?_
        exact ih2 z_7 σ_6 _ _ ls (by omega) (by first | (clear hm2 hn_4 gc_5_n_4 c_5; omega) | omega) fr_σ_6 hF hI (lv_sub hl [1, 0] rfl)
  exact L_2_3 ((2147483647 - (0 : Int32).toInt).toNat + 1) 0 σ _ _ ls (Nat.lt_succ_self _) (by decide) fr_σ hF hI (lv_sub hl [1, 0] rfl)

set_option maxRecDepth 100000 in
set_option maxHeartbeats 4000000 in
theorem c_J0_coder_7d493 (l : Launch) (X : XW) (σ : ST) (a : Nat) (ha : a < 22) : Met l yJ0_coder_7d493 (q_ws yJ0_coder_7d493 cJ0_coder_7d493 1 (some .byte)) (q_rm 0 0) (q_P X σ [.ref (q_sk X a)]) (q_Qi X 9 σ (fun (r : Int32) (σ' : ST) => σ' = σ ∧ (r.toInt = 0) ∧ r = F_J0_coder_7d493 X σ a)) 0 0 (q_reg X) := by
  refine q_met 9 (by first | exact rfl | decide +kernel) rfl (Nat.le_of_ble_eq_true rfl) (fun p e s m below meth c E hml hr hlk hI ls hl => ?_)
  have hx := E.1
  have hb := E.2.1
  have hl : lv_has ls 1 [(0, .ref (q_sk X a))] := hl
  obtain ⟨out, hout⟩ : ∃ o, o = F_J0_coder_7d493 X σ a := ⟨_, rfl⟩
  have hF := hout.symm
  unfold F_J0_coder_7d493 at hF
  refine va_gets hx hb E.2.2.2.2.2.2.1 hI.S E.2.2.1 (E.2.2.2.1 _ (q_in_t3 (i := 194) (by first | rfl | decide +kernel) rfl)) (fun _ h => h) dJ0_coder_7d493_0 ?_
  refine q_if_eq (A := 1) E (by decide) (tgt := 13) dJ0_coder_7d493_3 (by decide) (fun c_1 => ?_) (fun c_1 => ?_)
  · skip
    replace hF := q_ifp hF c_1
    exact absurd c_1 (by omega)
  · skip
    replace hF := q_ifn hF c_1
    refine lv_aload_n hx hb dJ0_coder_7d493_6 rfl (lv_at hl 0 rfl) ?_
    refine vk_getf hx hb (E.2.2.2.2.2.1.1 _ ha).2.1 hI.S E.2.2.1 (E.2.2.2.1 _ (q_in_t9 (i := 211) (by first | rfl | decide +kernel) rfl)) (fun _ h => h) dJ0_coder_7d493_7 ?_
    refine lv_goto (tgt := 14) hx hb dJ0_coder_7d493_10 (by decide) ?_
    have hrv : (0 : Int32).toInt = 0 := zt_0
    exact q_retn E hr hlk hI rfl ⟨rfl, (by decide), (hF.trans hout)⟩ dJ0_coder_7d493_14

set_option maxRecDepth 100000 in
set_option maxHeartbeats 4000000 in
theorem c_J0_length_8abf5 (l : Launch) (X : XW) (σ : ST) (a : Nat) (ha : a < 22) : Met l yJ0_length_8abf5 (q_ws yJ0_length_8abf5 cJ0_length_8abf5 1 (some .int)) (q_rm 1 20) (q_P X σ [.ref (q_sk X a)]) (q_Qi X 9 σ (fun (r : Int32) (σ' : ST) => σ' = σ ∧ (r.toInt = (q_slen.getD a 0 : Nat)) ∧ r = F_J0_length_8abf5 X σ a)) 0 0 (q_reg X) := by
  refine q_met 9 (by first | exact rfl | decide +kernel) rfl (Nat.le_of_ble_eq_true rfl) (fun p e s m below meth c E hml hr hlk hI ls hl => ?_)
  have hx := E.1
  have hb := E.2.1
  have hl : lv_has ls 1 [(0, .ref (q_sk X a))] := hl
  obtain ⟨out, hout⟩ : ∃ o, o = F_J0_length_8abf5 X σ a := ⟨_, rfl⟩
  have hF := hout.symm
  unfold F_J0_length_8abf5 at hF
  refine lv_aload_n hx hb dJ0_length_8abf5_0 rfl (lv_at hl 0 rfl) ?_
  refine vk_getf hx hb (E.2.2.2.2.2.1.1 _ ha).2.2.1 hI.S E.2.2.1 (E.2.2.2.1 _ (q_in_t9 (i := 210) (by first | rfl | decide +kernel) rfl)) (fun _ h => h) dJ0_length_8abf5_1 ?_
  refine va_tlen hx hb (E.2.2.2.2.2.1.1 _ ha).2.2.2 hI.S rfl dJ0_length_8abf5_4 ?_
  refine lv_topi (fun n_1 en_1 => ?_)
  replace hF := q_letX hF en_1
  have hn_1 : n_1.toInt = (q_slen.getD a 0 : Nat) := by rw [en_1]; exact nI_toInt (q_slen_lt a)
  refine lv_aload_n hx hb dJ0_length_8abf5_5 rfl (lv_at hl 0 rfl) ?_
  refine q_ci (q_runT (As := []) (rest := [.int n_1]) E (hml.trans hl.1.symm) hI (c_J0_coder_7d493 l X σ a ha) kt_J0_335 ha rfl ⟨Nat.le_of_ble_eq_true rfl, Nat.le_of_ble_eq_true rfl⟩ ⟨Nat.le_refl _, Nat.le_refl _⟩ rfl (Nat.le_of_ble_eq_true rfl) dJ0_length_8abf5_6) hI (Nat.le_of_ble_eq_true rfl) (fun r_2 σ_3 H locs hpσ_3 hkσ_3 hI => ?_)
  have ahpσ_3 := hpσ_3.1
  have bhpσ_3 := hpσ_3.2.1
  have chpσ_3 := hpσ_3.2.2
  clear hpσ_3
  replace hI := q_Irw ahpσ_3 hI
  replace hF := q_letX hF chpσ_3
  refine lv_ishr hx hb dJ0_length_8abf5_9 ?_
  refine lv_topi (fun z_4 ez_4 => ?_)
  replace hF := q_letX hF ez_4
  have hr0 : r_2 = 0 := q_eqI.mpr (by rw [q_z0]; omega)
  have j_lenz_4 : (n_1 >>> (r_2 &&& 31)).toInt = (q_slen.getD a 0 : Nat) := by rw [hr0]; exact (congrArg Int32.toInt (sb_shr0 n_1)).trans hn_1
  exact q_reti E hr hlk hI ⟨rfl, (by rw [ez_4]; exact j_lenz_4), (hF.trans hout)⟩ dJ0_length_8abf5_10

set_option maxRecDepth 100000 in
set_option maxHeartbeats 4000000 in
theorem c_J0_isLatin1_aae02 (l : Launch) (X : XW) (σ : ST) (a : Nat) (ha : a < 22) : Met l yJ0_isLatin1_aae02 (q_ws yJ0_isLatin1_aae02 cJ0_isLatin1_aae02 1 (some .boolean)) (q_rm 0 0) (q_P X σ [.ref (q_sk X a)]) (q_Qi X 9 σ (fun (r : Int32) (σ' : ST) => σ' = σ ∧ (0 ≤ r.toInt ∧ r.toInt ≤ 1) ∧ (r.toInt = 1) ∧ r = F_J0_isLatin1_aae02 X σ a)) 0 0 (q_reg X) := by
  refine q_met 9 (by first | exact rfl | decide +kernel) rfl (Nat.le_of_ble_eq_true rfl) (fun p e s m below meth c E hml hr hlk hI ls hl => ?_)
  have hx := E.1
  have hb := E.2.1
  have hl : lv_has ls 1 [(0, .ref (q_sk X a))] := hl
  obtain ⟨out, hout⟩ : ∃ o, o = F_J0_isLatin1_aae02 X σ a := ⟨_, rfl⟩
  have hF := hout.symm
  unfold F_J0_isLatin1_aae02 at hF
  refine va_gets hx hb E.2.2.2.2.2.2.1 hI.S E.2.2.1 (E.2.2.2.1 _ (q_in_t3 (i := 194) (by first | rfl | decide +kernel) rfl)) (fun _ h => h) dJ0_isLatin1_aae02_0 ?_
  refine q_if_eq (A := 1) E (by decide) (tgt := 17) dJ0_isLatin1_aae02_3 (by decide) (fun c_1 => ?_) (fun c_1 => ?_)
  · skip
    replace hF := q_ifp hF c_1
    exact absurd c_1 (by omega)
  · skip
    replace hF := q_ifn hF c_1
    refine lv_aload_n hx hb dJ0_isLatin1_aae02_6 rfl (lv_at hl 0 rfl) ?_
    refine vk_getf hx hb (E.2.2.2.2.2.1.1 _ ha).2.1 hI.S E.2.2.1 (E.2.2.2.1 _ (q_in_t9 (i := 211) (by first | rfl | decide +kernel) rfl)) (fun _ h => h) dJ0_isLatin1_aae02_7 ?_
    refine q_if_ne (A := 0) E (by decide) (tgt := 17) dJ0_isLatin1_aae02_10 (by decide) (fun c_2 => ?_) (fun c_2 => ?_)
    · skip
      replace hF := q_ifn hF c_2
      exact absurd c_2 (by first | (clear c_1 c_2; omega) | omega)
    · skip
      replace hF := q_ifp hF c_2
      refine lv_iconst (v := 1) hx hb dJ0_isLatin1_aae02_13 zki_1 ?_
      refine lv_goto (tgt := 18) hx hb dJ0_isLatin1_aae02_14 (by decide) ?_
      have hrv : (1 : Int32).toInt = 1 := zt_1
      exact q_retz E hr hlk hI ⟨by decide, by decide⟩ ⟨rfl, ⟨by decide, by decide⟩, (by decide), (hF.trans hout)⟩ dJ0_isLatin1_aae02_18

set_option maxRecDepth 100000 in
set_option maxHeartbeats 4000000 in
theorem c_J3_checkIndex_8e157 (l : Launch) (X : XW) (σ : ST) (v0 : Int32) (v1 : Int32) (r2 : Nat) (h0 : 0 ≤ v0.toInt) (h1 : v0.toInt < v1.toInt) : Met l yJ3_checkIndex_8e157 (q_ws yJ3_checkIndex_8e157 cJ3_checkIndex_8e157 3 (some .int)) (q_rm 0 0) (q_P X σ [.int v0, .int v1, .ref r2]) (q_Qi X 9 σ (fun (r : Int32) (σ' : ST) => σ' = σ)) 0 0 (q_reg X) := by
  refine q_met 9 (by first | exact rfl | decide +kernel) rfl (Nat.le_of_ble_eq_true rfl) (fun p e s m below meth c E hml hr hlk hI ls hl => ?_)
  have hx := E.1
  have hb := E.2.1
  have hl : lv_has ls 3 [(0, .int v0), (1, .int v1), (2, .ref r2)] := hl
  refine lv_iload_n hx hb dJ3_checkIndex_8e157_0 rfl (lv_at hl 0 rfl) ?_
  refine q_if_lt (A := v0.toInt) E rfl (tgt := 9) dJ3_checkIndex_8e157_1 (by decide) (fun c_1 => ?_) (fun c_1 => ?_)
  · skip
    exact absurd c_1 (by first | (clear h0 h1; omega) | omega)
  · skip
    refine lv_iload_n hx hb dJ3_checkIndex_8e157_4 rfl (lv_at hl 0 rfl) ?_
    refine lv_iload_n hx hb dJ3_checkIndex_8e157_5 rfl (lv_at hl 1 rfl) ?_
    refine q_icmp_lt (A := v0.toInt) (B := v1.toInt) E rfl rfl (tgt := 16) dJ3_checkIndex_8e157_6 (by decide) (fun c_2 => ?_) (fun c_2 => ?_)
    · skip
      refine lv_iload_n hx hb dJ3_checkIndex_8e157_16 rfl (lv_at hl 0 rfl) ?_
      exact q_reti E hr hlk hI rfl dJ3_checkIndex_8e157_17
    · skip
      exact absurd c_2 (by first | (clear h0 h1 c_1; omega) | omega)

set_option maxRecDepth 100000 in
set_option maxHeartbeats 4000000 in
theorem c_J3_checkIndex_8e157_n (l : Launch) (X : XW) (σ : ST) (v0 : Int32) (v1 : Int32) (h0 : 0 ≤ v0.toInt) (h1 : v0.toInt < v1.toInt) : Met l yJ3_checkIndex_8e157 (q_ws yJ3_checkIndex_8e157 cJ3_checkIndex_8e157 3 (some .int)) (q_rm 0 0) (q_P X σ [.int v0, .int v1, .null]) (q_Qi X 9 σ (fun (r : Int32) (σ' : ST) => σ' = σ)) 0 0 (q_reg X) := by
  refine q_met 9 (by first | exact rfl | decide +kernel) rfl (Nat.le_of_ble_eq_true rfl) (fun p e s m below meth c E hml hr hlk hI ls hl => ?_)
  have hx := E.1
  have hb := E.2.1
  have hl : lv_has ls 3 [(0, .int v0), (1, .int v1), (2, .null)] := hl
  refine lv_iload_n hx hb dJ3_checkIndex_8e157_0 rfl (lv_at hl 0 rfl) ?_
  refine q_if_lt (A := v0.toInt) E rfl (tgt := 9) dJ3_checkIndex_8e157_1 (by decide) (fun c_1 => ?_) (fun c_1 => ?_)
  · skip
    exact absurd c_1 (by omega)
  · skip
    refine lv_iload_n hx hb dJ3_checkIndex_8e157_4 rfl (lv_at hl 0 rfl) ?_
    refine lv_iload_n hx hb dJ3_checkIndex_8e157_5 rfl (lv_at hl 1 rfl) ?_
    refine q_icmp_lt (A := v0.toInt) (B := v1.toInt) E rfl rfl (tgt := 16) dJ3_checkIndex_8e157_6 (by decide) (fun c_2 => ?_) (fun c_2 => ?_)
    · skip
      refine lv_iload_n hx hb dJ3_checkIndex_8e157_16 rfl (lv_at hl 0 rfl) ?_
      exact q_reti E hr hlk hI rfl dJ3_checkIndex_8e157_17
    · skip
      exact absurd c_2 (by omega)

set_option maxRecDepth 100000 in
set_option maxHeartbeats 4000000 in
theorem c_J0_checkIndex_df160 (l : Launch) (X : XW) (σ : ST) (v0 : Int32) (v1 : Int32) (h0 : 0 ≤ v0.toInt) (h1 : v0.toInt < v1.toInt) : Met l yJ0_checkIndex_df160 (q_ws yJ0_checkIndex_df160 cJ0_checkIndex_df160 2 none) (q_rm 1 22) (q_P X σ [.int v0, .int v1]) (q_Qv X 9 σ (fun (σ' : ST) => σ' = σ)) 0 0 (q_reg X) := by
  refine q_met 9 (by first | exact rfl | decide +kernel) rfl (Nat.le_of_ble_eq_true rfl) (fun p e s m below meth c E hml hr hlk hI ls hl => ?_)
  have hx := E.1
  have hb := E.2.1
  have hl : lv_has ls 2 [(0, .int v0), (1, .int v1)] := hl
  refine lv_iload_n hx hb dJ0_checkIndex_df160_0 rfl (lv_at hl 0 rfl) ?_
  refine lv_iload_n hx hb dJ0_checkIndex_df160_1 rfl (lv_at hl 1 rfl) ?_
  rcases E.2.2.2.2.2.2.2 with hz | ⟨t_1, hz⟩
  · refine va_gets hx hb hz hI.S E.2.2.1 (E.2.2.2.1 _ (q_in_t3 (i := 210) (by first | rfl | decide +kernel) rfl)) (fun _ h => h) dJ0_checkIndex_df160_2 ?_
    refine q_ci (q_runS (As := [.int v0, .int v1, .null]) (rest := []) E (hml.trans hl.1.symm) hI (c_J3_checkIndex_8e157_n l X σ v0 v1 (by omega) (by omega)) ks_J0_1059 rfl ⟨Nat.le_of_ble_eq_true rfl, Nat.le_of_ble_eq_true rfl⟩ ⟨Nat.le_refl _, Nat.le_refl _⟩ rfl (Nat.le_of_ble_eq_true rfl) dJ0_checkIndex_df160_5) hI (Nat.le_of_ble_eq_true rfl) (fun r_2 σ_3 H locs hpσ_3 hkσ_3 hI => ?_)
    have ahpσ_3 := hpσ_3
    replace hI := q_Irw ahpσ_3 hI
    refine lv_pop hx hb dJ0_checkIndex_df160_8 rfl ?_
    exact q_retv E hr hlk hI rfl dJ0_checkIndex_df160_9
  · refine va_gets hx hb hz hI.S E.2.2.1 (E.2.2.2.1 _ (q_in_t3 (i := 210) (by first | rfl | decide +kernel) rfl)) (fun _ h => h) dJ0_checkIndex_df160_2 ?_
    refine q_ci (q_runS (As := [.int v0, .int v1, .ref t_1]) (rest := []) E (hml.trans hl.1.symm) hI (c_J3_checkIndex_8e157 l X σ v0 v1 t_1 (by omega) (by omega)) ks_J0_1059 rfl ⟨Nat.le_of_ble_eq_true rfl, Nat.le_of_ble_eq_true rfl⟩ ⟨Nat.le_refl _, Nat.le_refl _⟩ rfl (Nat.le_of_ble_eq_true rfl) dJ0_checkIndex_df160_5) hI (Nat.le_of_ble_eq_true rfl) (fun r_4 σ_5 H locs hpσ_5 hkσ_5 hI => ?_)
    have ahpσ_5 := hpσ_5
    replace hI := q_Irw ahpσ_5 hI
    refine lv_pop hx hb dJ0_checkIndex_df160_8 rfl ?_
    exact q_retv E hr hlk hI rfl dJ0_checkIndex_df160_9

set_option maxRecDepth 100000 in
set_option maxHeartbeats 4000000 in
theorem c_J1_charAt_3b067 (l : Launch) (X : XW) (σ : ST) (r0 : Nat) (v1 : Int32) (hr0 : r0 < 22) (h0 : 0 ≤ v1.toInt) (h1 : v1.toInt < (q_slen.getD r0 0 : Nat)) : Met l yJ1_charAt_3b067 (q_ws yJ1_charAt_3b067 cJ1_charAt_3b067 2 (some .char)) (q_rm 2 43) (q_P X σ [.ref (q_sv X r0), .int v1]) (q_Qi X 9 σ (fun (r : Int32) (σ' : ST) => σ' = σ ∧ (narrow .char (.int r) = .int r) ∧ r = F_J1_charAt_3b067 X σ r0 v1)) 0 0 (q_reg X) := by
  refine q_met 9 (by first | exact rfl | decide +kernel) rfl (Nat.le_of_ble_eq_true rfl) (fun p e s m below meth c E hml hr hlk hI ls hl => ?_)
  have hx := E.1
  have hb := E.2.1
  have hl : lv_has ls 2 [(0, .ref (q_sv X r0)), (1, .int v1)] := hl
  obtain ⟨out, hout⟩ : ∃ o, o = F_J1_charAt_3b067 X σ r0 v1 := ⟨_, rfl⟩
  have hF := hout.symm
  unfold F_J1_charAt_3b067 at hF
  refine lv_iload_n hx hb dJ1_charAt_3b067_0 rfl (lv_at hl 1 rfl) ?_
  refine lv_aload_n hx hb dJ1_charAt_3b067_1 rfl (lv_at hl 0 rfl) ?_
  refine va_tlen hx hb (E.2.2.2.2.2.1.1 _ hr0).2.2.2 hI.S rfl dJ1_charAt_3b067_2 ?_
  refine lv_topi (fun n_1 en_1 => ?_)
  replace hF := q_letX hF en_1
  have hn_1 : n_1.toInt = (q_slen.getD r0 0 : Nat) := by rw [en_1]; exact nI_toInt (q_slen_lt r0)
  refine q_cv (q_runS (As := [.int v1, .int n_1]) (rest := []) E (hml.trans hl.1.symm) hI (c_J0_checkIndex_df160 l X σ v1 n_1 (by omega) (by first | (clear h0 h1; omega) | omega)) ks_J1_9 rfl ⟨Nat.le_of_ble_eq_true rfl, Nat.le_of_ble_eq_true rfl⟩ ⟨Nat.le_refl _, Nat.le_refl _⟩ rfl (Nat.le_of_ble_eq_true rfl) dJ1_charAt_3b067_3) hI (Nat.le_of_ble_eq_true rfl) (fun σ_3 H locs hpσ_3 hkσ_3 hI => ?_)
  have ahpσ_3 := hpσ_3
  replace hI := q_Irw ahpσ_3 hI
  refine lv_aload_n hx hb dJ1_charAt_3b067_6 rfl (lv_at hl 0 rfl) ?_
  refine lv_iload_n hx hb dJ1_charAt_3b067_7 rfl (lv_at hl 1 rfl) ?_
  refine va_tb hx hb (E.2.2.2.2.2.1.1 _ hr0).2.2.2 hI.S (vp_in_iff.mpr ⟨by omega, by omega⟩) rfl dJ1_charAt_3b067_8 ?_
  refine lv_topi (fun f_4 ef_4 => ?_)
  replace hF := q_letX hF ef_4
  refine lv_sipush (v := 255) hx hb dJ1_charAt_3b067_9 zks_255 ?_
  refine lv_iand hx hb dJ1_charAt_3b067_12 ?_
  refine lv_topi (fun z_5 ez_5 => ?_)
  replace hF := q_letX hF ez_5
  refine lv_i2c hx hb dJ1_charAt_3b067_13 rfl ?_
  refine lv_topi (fun z_6 ez_6 => ?_)
  replace hF := q_letX hF ez_6
  exact q_retn E hr hlk hI (by rw [ez_6]; exact pk_nc _) ⟨rfl, (by rw [ez_6]; exact pk_nc _), (hF.trans hout)⟩ dJ1_charAt_3b067_14

set_option maxRecDepth 100000 in
set_option maxHeartbeats 4000000 in
theorem c_J0_charAt_5068e (l : Launch) (X : XW) (σ : ST) (a : Nat) (v1 : Int32) (ha : a < 22) (h0 : 0 ≤ v1.toInt) (h1 : v1.toInt < (q_slen.getD a 0 : Nat)) : Met l yJ0_charAt_5068e (q_ws yJ0_charAt_5068e cJ0_charAt_5068e 2 (some .char)) (q_rm 3 64) (q_P X σ [.ref (q_sk X a), .int v1]) (q_Qi X 9 σ (fun (r : Int32) (σ' : ST) => σ' = σ ∧ r = F_J0_charAt_5068e X σ a v1)) 0 0 (q_reg X) := by
  refine q_met 9 (by first | exact rfl | decide +kernel) rfl (Nat.le_of_ble_eq_true rfl) (fun p e s m below meth c E hml hr hlk hI ls hl => ?_)
  have hx := E.1
  have hb := E.2.1
  have hl : lv_has ls 2 [(0, .ref (q_sk X a)), (1, .int v1)] := hl
  obtain ⟨out, hout⟩ : ∃ o, o = F_J0_charAt_5068e X σ a v1 := ⟨_, rfl⟩
  have hF := hout.symm
  unfold F_J0_charAt_5068e at hF
  refine lv_aload_n hx hb dJ0_charAt_5068e_0 rfl (lv_at hl 0 rfl) ?_
  refine q_ci (q_runT (As := []) (rest := []) E (hml.trans hl.1.symm) hI (c_J0_isLatin1_aae02 l X σ a ha) kt_J0_492 ha rfl ⟨Nat.le_of_ble_eq_true rfl, Nat.le_of_ble_eq_true rfl⟩ ⟨Nat.le_refl _, Nat.le_refl _⟩ rfl (Nat.le_of_ble_eq_true rfl) dJ0_charAt_5068e_1) hI (Nat.le_of_ble_eq_true rfl) (fun r_1 σ_2 H locs hpσ_2 hkσ_2 hI => ?_)
  have ahpσ_2 := hpσ_2.1
  have bhpσ_2 := hpσ_2.2.1
  have chpσ_2 := hpσ_2.2.2.1
  have dhpσ_2 := hpσ_2.2.2.2
  clear hpσ_2
  replace hI := q_Irw ahpσ_2 hI
  replace hF := q_letX hF dhpσ_2
  refine q_if_eq (A := r_1.toInt) E rfl (tgt := 16) dJ0_charAt_5068e_4 (by decide) (fun c_3 => ?_) (fun c_3 => ?_)
  · skip
    replace hF := q_ifp hF c_3
    exact absurd c_3 (by first | (clear h0 h1 ahpσ_2 bhpσ_2 dhpσ_2; omega) | omega)
  · skip
    replace hF := q_ifn hF c_3
    replace c_3 := q_ifOne bhpσ_2 c_3
    refine lv_aload_n hx hb dJ0_charAt_5068e_7 rfl (lv_at hl 0 rfl) ?_
    refine vk_getf hx hb (E.2.2.2.2.2.1.1 _ ha).2.2.1 hI.S E.2.2.1 (E.2.2.2.1 _ (q_in_t9 (i := 210) (by first | rfl | decide +kernel) rfl)) (fun _ h => h) dJ0_charAt_5068e_8 ?_
    refine lv_iload_n hx hb dJ0_charAt_5068e_11 rfl (lv_at hl 1 rfl) ?_
    refine q_ci (q_runS (As := [.ref (q_sv X a), .int v1]) (rest := []) E (hml.trans hl.1.symm) hI (c_J1_charAt_3b067 l X σ a v1 ha (by omega) (by omega)) ks_J0_495 rfl ⟨Nat.le_of_ble_eq_true rfl, Nat.le_of_ble_eq_true rfl⟩ ⟨Nat.le_refl _, Nat.le_refl _⟩ rfl (Nat.le_of_ble_eq_true rfl) dJ0_charAt_5068e_12) hI (Nat.le_of_ble_eq_true rfl) (fun r_4 σ_5 H locs hpσ_5 hkσ_5 hI => ?_)
    have ahpσ_5 := hpσ_5.1
    have bhpσ_5 := hpσ_5.2.1
    have chpσ_5 := hpσ_5.2.2
    clear hpσ_5
    replace hI := q_Irw ahpσ_5 hI
    replace hF := q_letX hF chpσ_5
    exact q_retn E hr hlk hI bhpσ_5 ⟨rfl, (hF.trans hout)⟩ dJ0_charAt_5068e_15

set_option maxRecDepth 100000 in
set_option maxHeartbeats 4000000 in
theorem c_X5_get (l : Launch) (X : XW) (σ : ST) (a : Nat) (v1 : Int32) (ha : q_kd X a = 5) : Met l yX5_get (q_ws yX5_get cX5_get 2 (some .int)) (q_rm 0 0) (q_P X σ [.ref a, .int v1]) (q_Qi X 9 σ (fun (r : Int32) (σ' : ST) => σ' = σ ∧ r = F_X5_get X σ a v1)) 0 0 (q_reg X) := by
  refine q_met 9 (by first | exact rfl | decide +kernel) rfl (Nat.le_of_ble_eq_true rfl) (fun p e s m below meth c E hml hr hlk hI ls hl => ?_)
  have hx := E.1
  have hb := E.2.1
  have hl : lv_has ls 2 [(0, .ref a), (1, .int v1)] := hl
  obtain ⟨out, hout⟩ : ∃ o, o = F_X5_get X σ a v1 := ⟨_, rfl⟩
  have hF := hout.symm
  unfold F_X5_get at hF
  refine lv_iload_n hx hb dX5_get_0 rfl (lv_at hl 1 rfl) ?_
  refine q_if_lt (A := v1.toInt) E rfl (tgt := 22) dX5_get_1 (by decide) (fun c_1 => ?_) (fun c_1 => ?_)
  · skip
    replace hF := q_ifp hF c_1
    refine lv_iconst (v := 0) hx hb dX5_get_22 zki_0 ?_
    exact q_reti E hr hlk hI ⟨rfl, (hF.trans hout)⟩ dX5_get_23
  · skip
    replace hF := q_ifn hF (Int.not_lt.mpr c_1)
    refine lv_iload_n hx hb dX5_get_4 rfl (lv_at hl 1 rfl) ?_
    refine lv_aload_n hx hb dX5_get_5 rfl (lv_at hl 0 rfl) ?_
    refine gs_X5_13_5 E hI ha dX5_get_6 ?_
    refine q_alenX E hI (q_tk (k' := 20) hI ha rfl (Nat.succ_ne_zero _)) (by decide) (t := 1) rfl rfl dX5_get_9 (fun n_2 en_2 hn_2 => ?_)
    replace hF := q_letX hF en_2
    refine q_icmp_ge (A := v1.toInt) (B := n_2.toInt) E rfl rfl (tgt := 22) dX5_get_10 (by decide) (fun c_3 => ?_) (fun c_3 => ?_)
    · skip
      replace hF := q_ifn hF (Int.not_lt.mpr c_3)
      refine lv_iconst (v := 0) hx hb dX5_get_22 zki_0 ?_
      exact q_reti E hr hlk hI ⟨rfl, (hF.trans hout)⟩ dX5_get_23
    · skip
      replace hF := q_ifp hF c_3
      refine lv_aload_n hx hb dX5_get_13 rfl (lv_at hl 0 rfl) ?_
      refine gs_X5_13_5 E hI ha dX5_get_14 ?_
      refine lv_iload_n hx hb dX5_get_17 rfl (lv_at hl 1 rfl) ?_
      refine q_iald E hI (q_tk (k' := 20) hI ha rfl (Nat.succ_ne_zero _)) ⟨by decide, rfl⟩ (by omega) (by first | (clear c_1; omega) | omega) dX5_get_18 ?_
      refine lv_topi (fun f_4 ef_4 => ?_)
      replace hF := q_letX hF ef_4
      refine lv_goto (tgt := 23) hx hb dX5_get_19 (by decide) ?_
      exact q_reti E hr hlk hI ⟨rfl, (hF.trans hout)⟩ dX5_get_23

set_option maxRecDepth 100000 in
set_option maxHeartbeats 4000000 in
theorem c_X5_set (l : Launch) (X : XW) (σ : ST) (a : Nat) (v1 : Int32) (v2 : Int32) (ha : q_kd X a = 5) : Met l yX5_set (q_ws yX5_set cX5_set 3 none) (q_rm 0 0) (q_P X σ [.ref a, .int v1, .int v2]) (q_Qv X 8 σ (fun (σ' : ST) => σ' = F_X5_set X σ a v1 v2 ∧ q_ow [(20, 99)] [] X σ σ')) 0 0 (q_reg X) := by
  refine q_met 8 (by first | exact rfl | decide +kernel) rfl (Nat.le_of_ble_eq_true rfl) (fun p e s m below meth c E hml hr hlk hI ls hl => ?_)
  have hx := E.1
  have hb := E.2.1
  have hl : lv_has ls 3 [(0, .ref a), (1, .int v1), (2, .int v2)] := hl
  have fr_σ : q_ow [(20, 99)] [] X σ σ := q_ow.rf
  obtain ⟨out, hout⟩ : ∃ o, o = F_X5_set X σ a v1 v2 := ⟨_, rfl⟩
  have hF := hout.symm
  unfold F_X5_set at hF
  refine lv_iload_n hx hb dX5_set_0 rfl (lv_at hl 1 rfl) ?_
  refine q_if_lt (A := v1.toInt) E rfl (tgt := 20) dX5_set_1 (by decide) (fun c_1 => ?_) (fun c_1 => ?_)
  · skip
    replace hF := q_ifp hF c_1
    exact q_retv E hr hlk hI ⟨(hF.trans hout), fr_σ⟩ dX5_set_20
  · skip
    replace hF := q_ifn hF (Int.not_lt.mpr c_1)
    refine lv_iload_n hx hb dX5_set_4 rfl (lv_at hl 1 rfl) ?_
    refine lv_aload_n hx hb dX5_set_5 rfl (lv_at hl 0 rfl) ?_
    refine gs_X5_13_5 E hI ha dX5_set_6 ?_
    refine q_alenX E hI (q_tk (k' := 20) hI ha rfl (Nat.succ_ne_zero _)) (by decide) (t := 1) rfl rfl dX5_set_9 (fun n_2 en_2 hn_2 => ?_)
    replace hF := q_letX hF en_2
    refine q_icmp_ge (A := v1.toInt) (B := n_2.toInt) E rfl rfl (tgt := 20) dX5_set_10 (by decide) (fun c_3 => ?_) (fun c_3 => ?_)
    · skip
      replace hF := q_ifn hF (Int.not_lt.mpr c_3)
      exact q_retv E hr hlk hI ⟨(hF.trans hout), fr_σ⟩ dX5_set_20
    · skip
      replace hF := q_ifp hF c_3
      refine lv_aload_n hx hb dX5_set_13 rfl (lv_at hl 0 rfl) ?_
      refine gs_X5_13_5 E hI ha dX5_set_14 ?_
      refine lv_iload_n hx hb dX5_set_17 rfl (lv_at hl 1 rfl) ?_
      refine lv_iload_n hx hb dX5_set_18 rfl (lv_at hl 2 rfl) ?_
      refine q_iastN E hI (q_tk (k' := 20) hI ha rfl (Nat.succ_ne_zero _)) ⟨by decide, rfl⟩ (by omega) (by omega) (show 8 < 9 by decide) (q_inU rfl) dX5_set_19 (fun H locs σ_4 hσ_4 hI => ?_)
      replace hF := q_letX hF hσ_4
      have fr_σ_4 := fr_σ.si hσ_4 (q_tk (k' := 20) hI ha rfl (Nat.succ_ne_zero _)) rfl
      exact q_retv E hr hlk hI ⟨(hF.trans hout), fr_σ_4⟩ dX5_set_20

set_option maxRecDepth 100000 in
set_option maxHeartbeats 4000000 in
theorem c_X5_add (l : Launch) (X : XW) (σ : ST) (a : Nat) (v1 : Int32) (v2 : Int32) (ha : q_kd X a = 5) : Met l yX5_add (q_ws yX5_add cX5_add 3 none) (q_rm 0 0) (q_P X σ [.ref a, .int v1, .int v2]) (q_Qv X 8 σ (fun (σ' : ST) => σ' = F_X5_add X σ a v1 v2 ∧ q_ow [(20, 99)] [] X σ σ')) 0 0 (q_reg X) := by
  refine q_met 8 (by first | exact rfl | decide +kernel) rfl (Nat.le_of_ble_eq_true rfl) (fun p e s m below meth c E hml hr hlk hI ls hl => ?_)
  have hx := E.1
  have hb := E.2.1
  have hl : lv_has ls 3 [(0, .ref a), (1, .int v1), (2, .int v2)] := hl
  have fr_σ : q_ow [(20, 99)] [] X σ σ := q_ow.rf
  obtain ⟨out, hout⟩ : ∃ o, o = F_X5_add X σ a v1 v2 := ⟨_, rfl⟩
  have hF := hout.symm
  unfold F_X5_add at hF
  refine lv_iload_n hx hb dX5_add_0 rfl (lv_at hl 1 rfl) ?_
  refine q_if_lt (A := v1.toInt) E rfl (tgt := 23) dX5_add_1 (by decide) (fun c_1 => ?_) (fun c_1 => ?_)
  · skip
    replace hF := q_ifp hF c_1
    exact q_retv E hr hlk hI ⟨(hF.trans hout), fr_σ⟩ dX5_add_23
  · skip
    replace hF := q_ifn hF (Int.not_lt.mpr c_1)
    refine lv_iload_n hx hb dX5_add_4 rfl (lv_at hl 1 rfl) ?_
    refine lv_aload_n hx hb dX5_add_5 rfl (lv_at hl 0 rfl) ?_
    refine gs_X5_13_5 E hI ha dX5_add_6 ?_
    refine q_alenX E hI (q_tk (k' := 20) hI ha rfl (Nat.succ_ne_zero _)) (by decide) (t := 1) rfl rfl dX5_add_9 (fun n_2 en_2 hn_2 => ?_)
    replace hF := q_letX hF en_2
    refine q_icmp_ge (A := v1.toInt) (B := n_2.toInt) E rfl rfl (tgt := 23) dX5_add_10 (by decide) (fun c_3 => ?_) (fun c_3 => ?_)
    · skip
      replace hF := q_ifn hF (Int.not_lt.mpr c_3)
      exact q_retv E hr hlk hI ⟨(hF.trans hout), fr_σ⟩ dX5_add_23
    · skip
      replace hF := q_ifp hF c_3
      refine lv_aload_n hx hb dX5_add_13 rfl (lv_at hl 0 rfl) ?_
      refine gs_X5_13_5 E hI ha dX5_add_14 ?_
      refine lv_iload_n hx hb dX5_add_17 rfl (lv_at hl 1 rfl) ?_
      refine lv_dup2_11 hx hb dX5_add_18 rfl rfl ?_
      refine q_iald E hI (q_tk (k' := 20) hI ha rfl (Nat.succ_ne_zero _)) ⟨by decide, rfl⟩ (by omega) (by omega) dX5_add_19 ?_
      refine lv_topi (fun f_4 ef_4 => ?_)
      replace hF := q_letX hF ef_4
      refine lv_iload_n hx hb dX5_add_20 rfl (lv_at hl 2 rfl) ?_
      refine lv_iadd hx hb dX5_add_21 ?_
      refine lv_topi (fun z_5 ez_5 => ?_)
      replace hF := q_letX hF ez_5
      refine q_iastN E hI (q_tk (k' := 20) hI ha rfl (Nat.succ_ne_zero _)) ⟨by decide, rfl⟩ (by omega) (by omega) (show 8 < 9 by decide) (q_inU rfl) dX5_add_22 (fun H locs σ_6 hσ_6 hI => ?_)
      replace hF := q_letX hF hσ_6
      have fr_σ_6 := fr_σ.si hσ_6 (q_tk (k' := 20) hI ha rfl (Nat.succ_ne_zero _)) rfl
      exact q_retv E hr hlk hI ⟨(hF.trans hout), fr_σ_6⟩ dX5_add_23

set_option maxRecDepth 100000 in
set_option maxHeartbeats 4000000 in
theorem c_X5_copyFrom (l : Launch) (X : XW) (σ : ST) (a : Nat) (r1 : Nat) (ha : q_kd X a = 5) (hr1 : q_kd X r1 = 5) : Met l yX5_copyFrom (q_ws yX5_copyFrom cX5_copyFrom 3 none) (q_rm 0 0) (q_P X σ [.ref a, .ref r1]) (q_Qv X 8 σ (fun (σ' : ST) => σ' = F_X5_copyFrom X σ a r1 ∧ q_ow [(20, 99)] [] X σ σ')) 0 0 (q_reg X) := by
  refine q_met 8 (by first | exact rfl | decide +kernel) rfl (Nat.le_of_ble_eq_true rfl) (fun p e s m below meth c E hml hr hlk hI ls hl => ?_)
  have hx := E.1
  have hb := E.2.1
  have hl : lv_has ls 3 [(0, .ref a), (1, .ref r1)] := hl
  have fr_σ : q_ow [(20, 99)] [] X σ σ := q_ow.rf
  obtain ⟨out, hout⟩ : ∃ o, o = F_X5_copyFrom X σ a r1 := ⟨_, rfl⟩
  have hF := hout.symm
  unfold F_X5_copyFrom at hF
  refine lv_iconst (v := 0) hx hb dX5_copyFrom_0 zki_0 ?_
  refine lv_istore_n (lv' := [(2, .int 0), (0, .ref a), (1, .ref r1)]) hx hb dX5_copyFrom_1 rfl hl (by decide) rfl (fun ls hl => ?_)
  have L_2_3 : ∀ (k_3 : Nat) (x_1 : Int32) (σ_2 : ST) (H : Heap) (locs : List Loc) (ls : Array Slot), (2147483647 - x_1.toInt).toNat < k_3 → (0 ≤ x_1.toInt) → (q_ow [(20, 99)] [] X σ σ_2) → (F_X5_copyFrom_L2_1 X a r1 k_3 x_1 σ_2 = out) → q_I X 8 σ s.heap locs σ_2 H → lv_has ls 3 [(0, .ref a), (1, .ref r1), (2, .int x_1)] → W p l e (q_rm 0 0) s m ([.ref a, .ref r1] : List Value).toArray below meth c H locs 0 0 (MQ below (q_Qv X 8 σ (fun (σ' : ST) => σ' = F_X5_copyFrom X σ a r1 ∧ q_ow [(20, 99)] [] X σ σ')) ([.ref a, .ref r1] : List Value).toArray s 0 0 (q_reg X)) (F0 m 2 ls []) := by
    clear hF
    intro k_3
    induction k_3 with
    | zero =>
      intro x_1 σ_2 H locs ls hms
      exact absurd hms (Nat.not_lt_zero _)
    | succ k_3 ih2 =>
      intro x_1 σ_2 H locs ls hm2 hge2 fr_σ_2 hF hI hl
      replace hF := (F_X5_copyFrom_L2_1_s).symm.trans hF
      unfold F_X5_copyFrom_B2_1 at hF
      refine lv_iload_n hx hb dX5_copyFrom_2 rfl (lv_at hl 2 rfl) ?_
      refine lv_aload_n hx hb dX5_copyFrom_3 rfl (lv_at hl 0 rfl) ?_
      refine gs_X5_13_5 E hI ha dX5_copyFrom_4 ?_
      refine q_alenX E hI (q_tk (k' := 20) hI ha rfl (Nat.succ_ne_zero _)) (by decide) (t := 1) rfl rfl dX5_copyFrom_7 (fun n_4 en_4 hn_4 => ?_)
      replace hF := q_letX hF en_4
      have gc_5_x_1 := q_rng x_1
      have gc_5_n_4 := q_rng n_4
      refine q_icmp_ge (A := x_1.toInt) (B := n_4.toInt) E rfl rfl (tgt := 38) dX5_copyFrom_8 (by decide) (fun c_5 => ?_) (fun c_5 => ?_)
      · skip
        replace hF := q_ifn hF (Int.not_lt.mpr c_5)
        skip
        exact q_retv E hr hlk hI ⟨(hF.trans hout), fr_σ_2⟩ dX5_copyFrom_38
      · skip
        replace hF := q_ifp hF c_5
        refine lv_iload_n hx hb dX5_copyFrom_11 rfl (lv_at hl 2 rfl) ?_
        refine lv_aload_n hx hb dX5_copyFrom_12 rfl (lv_at hl 1 rfl) ?_
        refine gs_X5_13_5 E hI hr1 dX5_copyFrom_13 ?_
        refine q_alenX E hI (q_tk (k' := 20) hI hr1 rfl (Nat.succ_ne_zero _)) (by decide) (t := 1) rfl rfl dX5_copyFrom_16 (fun n_6 en_6 hn_6 => ?_)
        replace hF := q_letX hF en_6
        have gc_7_x_1 := q_rng x_1
        have gc_7_n_6 := q_rng n_6
        refine q_icmp_ge (A := x_1.toInt) (B := n_6.toInt) E rfl rfl (tgt := 38) dX5_copyFrom_17 (by decide) (fun c_7 => ?_) (fun c_7 => ?_)
        · skip
          replace hF := q_ifn hF (Int.not_lt.mpr c_7)
          skip
          exact q_retv E hr hlk hI ⟨(hF.trans hout), fr_σ_2⟩ dX5_copyFrom_38
        · skip
          replace hF := q_ifp hF c_7
          refine lv_aload_n hx hb dX5_copyFrom_20 rfl (lv_at hl 0 rfl) ?_
          refine gs_X5_13_5 E hI ha dX5_copyFrom_21 ?_
          refine lv_iload_n hx hb dX5_copyFrom_24 rfl (lv_at hl 2 rfl) ?_
          refine lv_aload_n hx hb dX5_copyFrom_25 rfl (lv_at hl 1 rfl) ?_
          refine gs_X5_13_5 E hI hr1 dX5_copyFrom_26 ?_
          refine lv_iload_n hx hb dX5_copyFrom_29 rfl (lv_at hl 2 rfl) ?_
          refine q_iald E hI (q_tk (k' := 20) hI hr1 rfl (Nat.succ_ne_zero _)) ⟨by decide, rfl⟩ (by omega) (by first | (clear hm2 hge2 hn_4 gc_5_x_1 gc_5_n_4 c_5 gc_7_x_1 gc_7_n_6; omega) | omega) dX5_copyFrom_30 ?_
          refine lv_topi (fun f_8 ef_8 => ?_)
          replace hF := q_letX hF ef_8
          refine q_iastN E hI (q_tk (k' := 20) hI ha rfl (Nat.succ_ne_zero _)) ⟨by decide, rfl⟩ (by omega) (by first | (clear hm2 hge2 gc_5_x_1 gc_5_n_4 hn_6 gc_7_x_1 gc_7_n_6 c_7; omega) | omega) (show 8 < 9 by decide) (q_inU rfl) dX5_copyFrom_31 (fun H locs σ_9 hσ_9 hI => ?_)
          replace hF := q_letX hF hσ_9
          have fr_σ_9 := fr_σ_2.si hσ_9 (q_tk (k' := 20) hI ha rfl (Nat.succ_ne_zero _)) rfl
          obtain ⟨z_10, ez_10⟩ : ∃ y : Int32, y = x_1 + 1 := ⟨_, rfl⟩
          replace hF := q_letX hF ez_10
          refine lv_iinc (v := z_10) (lv' := [(2, .int z_10), (0, .ref a), (1, .ref r1)]) hx hb dX5_copyFrom_32 hl (k := 2) rfl (by rw [ez_10]; rfl) (by decide) rfl (fun ls hl => ?_)
          have iz_10 : z_10.toInt = x_1.toInt + 1 := q_inc ez_10 (by first | (clear hm2 hn_6 gc_7_x_1 gc_7_n_6 c_7; omega) | omega)
          refine lv_goto (tgt := 2) hx hb dX5_copyFrom_35 (by decide) ?_
          exact ih2 z_10 σ_9 _ _ ls (by first | (clear hn_6 gc_7_x_1 gc_7_n_6 c_7; omega) | omega) (by first | (clear hm2 hn_4 gc_5_n_4 c_5 hn_6 gc_7_x_1 gc_7_n_6 c_7; omega) | omega) fr_σ_9 hF hI (lv_sub hl [1, 2, 0] rfl)
  exact L_2_3 ((2147483647 - (0 : Int32).toInt).toNat + 1) 0 σ _ _ ls (Nat.lt_succ_self _) (by decide) fr_σ hF hI (lv_sub hl [1, 2, 0] rfl)

set_option maxRecDepth 100000 in
set_option maxHeartbeats 4000000 in
theorem c_X5_sum (l : Launch) (X : XW) (σ : ST) (a : Nat) (v1 : Int32) (v2 : Int32) (ha : q_kd X a = 5) : Met l yX5_sum (q_ws yX5_sum cX5_sum 5 (some .int)) (q_rm 1 21) (q_P X σ [.ref a, .int v1, .int v2]) (q_Qi X 9 σ (fun (r : Int32) (σ' : ST) => σ' = σ ∧ r = F_X5_sum X σ a v1 v2)) 0 0 (q_reg X) := by
  refine q_met 9 (by first | exact rfl | decide +kernel) rfl (Nat.le_of_ble_eq_true rfl) (fun p e s m below meth c E hml hr hlk hI ls hl => ?_)
  have hx := E.1
  have hb := E.2.1
  have hl : lv_has ls 5 [(0, .ref a), (1, .int v1), (2, .int v2)] := hl
  obtain ⟨out, hout⟩ : ∃ o, o = F_X5_sum X σ a v1 v2 := ⟨_, rfl⟩
  have hF := hout.symm
  unfold F_X5_sum at hF
  refine lv_iconst (v := 0) hx hb dX5_sum_0 zki_0 ?_
  refine lv_istore_n (lv' := [(3, .int 0), (0, .ref a), (1, .int v1), (2, .int v2)]) hx hb dX5_sum_1 rfl hl (by decide) rfl (fun ls hl => ?_)
  refine lv_iload_n hx hb dX5_sum_2 rfl (lv_at hl 2 rfl) ?_
  refine lv_istore (lv' := [(4, .int v1), (3, .int 0), (0, .ref a), (1, .int v1), (2, .int v2)]) hx hb dX5_sum_3 hl (by decide) rfl (fun ls hl => ?_)
  have L_5_3 : ∀ (k_3 : Nat) (x_1 : Int32) (x_2 : Int32) (H : Heap) (locs : List Loc) (ls : Array Slot), (2147483647 - x_2.toInt).toNat < k_3 → (F_X5_sum_L5_1 X v1 v2 σ a k_3 x_1 x_2 = out) → q_I X 9 σ s.heap locs σ H → lv_has ls 5 [(0, .ref a), (1, .int v1), (2, .int v2), (3, .int x_1), (4, .int x_2)] → W p l e (q_rm 1 21) s m ([.ref a, .int v1, .int v2] : List Value).toArray below meth c H locs 0 0 (MQ below (q_Qi X 9 σ (fun (r : Int32) (σ' : ST) => σ' = σ ∧ r = F_X5_sum X σ a v1 v2)) ([.ref a, .int v1, .int v2] : List Value).toArray s 0 0 (q_reg X)) (F0 m 5 ls []) := by
    clear hF
    intro k_3
    induction k_3 with
    | zero =>
      intro x_1 x_2 H locs ls hms
      exact absurd hms (Nat.not_lt_zero _)
    | succ k_3 ih5 =>
      intro x_1 x_2 H locs ls hm5  hF hI hl
      replace hF := (F_X5_sum_L5_1_s).symm.trans hF
      unfold F_X5_sum_B5_1 at hF
      refine lv_iload hx hb dX5_sum_5 (lv_at hl 4 rfl) ?_
      refine lv_iload_n hx hb dX5_sum_7 rfl (lv_at hl 1 rfl) ?_
      refine lv_iload_n hx hb dX5_sum_8 rfl (lv_at hl 2 rfl) ?_
      refine lv_iadd hx hb dX5_sum_9 ?_
      refine lv_topi (fun z_4 ez_4 => ?_)
      replace hF := q_letX hF ez_4
      have gc_5_x_2 := q_rng x_2
      have gc_5_z_4 := q_rng z_4
      refine q_icmp_ge (A := x_2.toInt) (B := z_4.toInt) E rfl rfl (tgt := 28) dX5_sum_10 (by decide) (fun c_5 => ?_) (fun c_5 => ?_)
      · skip
        replace hF := q_ifn hF (Int.not_lt.mpr c_5)
        skip
        refine lv_iload_n hx hb dX5_sum_28 rfl (lv_at hl 3 rfl) ?_
        exact q_reti E hr hlk hI ⟨rfl, (hF.trans hout)⟩ dX5_sum_29
      · skip
        replace hF := q_ifp hF c_5
        refine lv_iload_n hx hb dX5_sum_13 rfl (lv_at hl 3 rfl) ?_
        refine lv_aload_n hx hb dX5_sum_14 rfl (lv_at hl 0 rfl) ?_
        refine lv_iload hx hb dX5_sum_15 (lv_at hl 4 rfl) ?_
        refine q_ci (q_rV4_1 (rest := [.int x_1]) E (hml.trans hl.1.symm) hI (c_X5_get l X σ a x_2 ha) kv_X5_19 ha ⟨Nat.le_of_ble_eq_true rfl, Nat.le_of_ble_eq_true rfl⟩ (Nat.le_of_ble_eq_true rfl) dX5_sum_17) hI (Nat.le_of_ble_eq_true rfl) (fun r_6 σ_7 H locs hpσ_7 hkσ_7 hI => ?_)
        have ahpσ_7 := hpσ_7.1
        have bhpσ_7 := hpσ_7.2
        clear hpσ_7
        replace hI := q_Irw ahpσ_7 hI
        replace hF := q_letX hF bhpσ_7
        refine lv_iadd hx hb dX5_sum_20 ?_
        refine lv_topi (fun z_8 ez_8 => ?_)
        replace hF := q_letX hF ez_8
        refine lv_istore_n (lv' := [(3, .int z_8), (0, .ref a), (1, .int v1), (2, .int v2), (4, .int x_2)]) hx hb dX5_sum_21 rfl hl (by decide) rfl (fun ls hl => ?_)
        obtain ⟨z_9, ez_9⟩ : ∃ y : Int32, y = x_2 + 1 := ⟨_, rfl⟩
        replace hF := q_letX hF ez_9
        refine lv_iinc (v := z_9) (lv' := [(4, .int z_9), (3, .int z_8), (0, .ref a), (1, .int v1), (2, .int v2)]) hx hb dX5_sum_22 hl (k := 4) rfl (by rw [ez_9]; rfl) (by decide) rfl (fun ls hl => ?_)
        have iz_9 : z_9.toInt = x_2.toInt + 1 := q_inc ez_9 (by first | (clear hm5 ahpσ_7 bhpσ_7; omega) | omega)
        refine lv_goto (tgt := 5) hx hb dX5_sum_25 (by decide) ?_
        exact ih5 z_8 z_9 _ _ ls (by first | (clear ahpσ_7 bhpσ_7; omega) | omega) hF hI (lv_sub hl [2, 3, 4, 1, 0] rfl)
  exact L_5_3 ((2147483647 - v1.toInt).toNat + 1) 0 v1 _ _ ls (Nat.lt_succ_self _) hF hI (lv_sub hl [2, 3, 4, 1, 0] rfl)

set_option maxRecDepth 100000 in
set_option maxHeartbeats 4000000 in
theorem c_J9_floorMod_7cf53 (l : Launch) (X : XW) (σ : ST) (v0 : Int32) (v1 : Int32) (hne : ¬ v1 = 0) : Met l yJ9_floorMod_7cf53 (q_ws yJ9_floorMod_7cf53 cJ9_floorMod_7cf53 3 (some .int)) (q_rm 0 0) (q_P X σ [.int v0, .int v1]) (q_Qi X 9 σ (fun (r : Int32) (σ' : ST) => σ' = σ ∧ r = F_J9_floorMod_7cf53 X σ v0 v1)) 0 0 (q_reg X) := by
  refine q_met 9 (by first | exact q_j9 (n := "floorMod") (d := "(II)I") (by decide) | decide +kernel) rfl (Nat.le_of_ble_eq_true rfl) (fun p e s m below meth c E hml hr hlk hI ls hl => ?_)
  have hx := E.1
  have hb := E.2.1
  have hl : lv_has ls 3 [(0, .int v0), (1, .int v1)] := hl
  obtain ⟨out, hout⟩ : ∃ o, o = F_J9_floorMod_7cf53 X σ v0 v1 := ⟨_, rfl⟩
  have hF := hout.symm
  unfold F_J9_floorMod_7cf53 at hF
  refine lv_iload_n hx hb dJ9_floorMod_7cf53_0 rfl (lv_at hl 0 rfl) ?_
  refine lv_iload_n hx hb dJ9_floorMod_7cf53_1 rfl (lv_at hl 1 rfl) ?_
  refine lv_irem hx hb dJ9_floorMod_7cf53_2 hne ?_
  refine lv_topi (fun z_1 ez_1 => ?_)
  replace hF := q_letX hF (ez_1.trans (q_remI _ _))
  refine lv_istore_n (lv' := [(2, .int z_1), (0, .int v0), (1, .int v1)]) hx hb dJ9_floorMod_7cf53_3 rfl hl (by decide) rfl (fun ls hl => ?_)
  refine lv_iload_n hx hb dJ9_floorMod_7cf53_4 rfl (lv_at hl 1 rfl) ?_
  refine lv_iload_n hx hb dJ9_floorMod_7cf53_5 rfl (lv_at hl 2 rfl) ?_
  refine lv_ixor hx hb dJ9_floorMod_7cf53_6 ?_
  refine lv_topi (fun z_2 ez_2 => ?_)
  replace hF := q_letX hF ez_2
  refine q_if_ge (A := z_2.toInt) E rfl (tgt := 18) dJ9_floorMod_7cf53_7 (by decide) (fun c_3 => ?_) (fun c_3 => ?_)
  · skip
    replace hF := q_ifn hF (Int.not_lt.mpr c_3)
    refine lv_iload_n hx hb dJ9_floorMod_7cf53_18 rfl (lv_at hl 0 rfl) ?_
    exact q_reti E hr hlk hI ⟨rfl, (hF.trans hout)⟩ dJ9_floorMod_7cf53_19
  · skip
    replace hF := q_ifp hF c_3
    refine lv_iload_n hx hb dJ9_floorMod_7cf53_10 rfl (lv_at hl 0 rfl) ?_
    refine q_if_eq (A := z_1.toInt) E rfl (tgt := 18) dJ9_floorMod_7cf53_11 (by decide) (fun c_4 => ?_) (fun c_4 => ?_)
    · skip
      replace hF := q_ifp hF c_4
      refine lv_iload_n hx hb dJ9_floorMod_7cf53_18 rfl (lv_at hl 0 rfl) ?_
      exact q_reti E hr hlk hI ⟨rfl, (hF.trans hout)⟩ dJ9_floorMod_7cf53_19
    · skip
      replace hF := q_ifn hF c_4
      refine lv_iload_n hx hb dJ9_floorMod_7cf53_14 rfl (lv_at hl 0 rfl) ?_
      refine lv_iload_n hx hb dJ9_floorMod_7cf53_15 rfl (lv_at hl 2 rfl) ?_
      refine lv_iadd hx hb dJ9_floorMod_7cf53_16 ?_
      refine lv_topi (fun z_5 ez_5 => ?_)
      replace hF := q_letX hF ez_5
      exact q_reti E hr hlk hI ⟨rfl, (hF.trans hout)⟩ dJ9_floorMod_7cf53_17

set_option maxRecDepth 100000 in
set_option maxHeartbeats 4000000 in
theorem c_J9_abs_067f4 (l : Launch) (X : XW) (σ : ST) (v0 : Int64) : Met l yJ9_abs_067f4 (q_ws yJ9_abs_067f4 cJ9_abs_067f4 2 (some .long)) (q_rm 0 0) (q_P X σ [.long v0]) (q_Ql X 9 σ (fun (r : Int64) (σ' : ST) => σ' = σ ∧ r = F_J9_abs_067f4 X σ v0)) 0 0 (q_reg X) := by
  refine q_met 9 (by first | exact q_j9 (n := "abs") (d := "(J)J") (by decide) | decide +kernel) rfl (Nat.le_of_ble_eq_true rfl) (fun p e s m below meth c E hml hr hlk hI ls hl => ?_)
  have hx := E.1
  have hb := E.2.1
  have hl : lv_has ls 2 [(0, .long v0)] := hl
  obtain ⟨out, hout⟩ : ∃ o, o = F_J9_abs_067f4 X σ v0 := ⟨_, rfl⟩
  have hF := hout.symm
  unfold F_J9_abs_067f4 at hF
  refine lv_lload_n hx hb dJ9_abs_067f4_0 rfl (lv_at hl 0 rfl) ?_
  refine lv_lconst (v := 0) hx hb dJ9_abs_067f4_1 (by decide) ?_
  have kc_2 : (0 : Int64).toInt = 0 := rfl
  refine q_lcmpX E dJ9_abs_067f4_2 (fun z_1 ez_1 hz_1 => ?_)
  replace hF := q_letX hF ez_1
  refine q_if_ge (A := z_1.toInt) E rfl (tgt := 11) dJ9_abs_067f4_3 (by decide) (fun c_3 => ?_) (fun c_3 => ?_)
  · skip
    replace hF := q_ifn hF (Int.not_lt.mpr c_3)
    refine lv_lload_n hx hb dJ9_abs_067f4_11 rfl (lv_at hl 0 rfl) ?_
    exact q_retl E hr hlk hI ⟨rfl, (hF.trans hout)⟩ dJ9_abs_067f4_12
  · skip
    replace hF := q_ifp hF c_3
    refine lv_lload_n hx hb dJ9_abs_067f4_6 rfl (lv_at hl 0 rfl) ?_
    refine lv_lneg hx hb dJ9_abs_067f4_7 ?_
    refine lv_topl (fun y_4 ey_4 => ?_)
    replace hF := q_letX hF ey_4
    refine lv_goto (tgt := 12) hx hb dJ9_abs_067f4_8 (by decide) ?_
    exact q_retl E hr hlk hI ⟨rfl, (hF.trans hout)⟩ dJ9_abs_067f4_12
end
/-! FROM 11.parts.a.lean.txt -/
section
section QS
variable {p : Program} {l : Launch} {e : Env} {R : Room} {s : State} {m : MethodId} {args : Array Value} {below : List Frame} {meth : Method} {c : Code} {H : Heap} {locs : List Loc} {cells slots : Nat} {Q : State → Prop} {cc : ByteArray} {X : XW} {n : Nat} {σ0 σ : ST} {H0 : Heap} {pc : Nat} {ls : Array Slot} {rest : List Value} {a : Nat}
theorem gs_X1_14_2 (E : q_E p c cc s m args RX1 X) (hI : q_I X n σ0 H0 locs σ H) (ha : q_kd X a = 2) (hdg : decode cc pc = .ok (.getfield 14, 3)) (kk : W p l e R s m args below meth c H locs cells slots Q (F0 m (pc + 3) ls (.ref (q_rf X a 0) :: rest))) : W p l e R s m args below meth c H locs cells slots Q (F0 m pc ls (.ref a :: rest)) :=
  q_getf (ref := "CheatHeap$Hands") E hI ha ⟨rfl, by decide⟩ (show vwCl[1]? = some (RX1, TX1, 7) from rfl) q_inX1 (f := 0) (by decide) (q_in_t1 (i := 109) (by first | rfl | decide +kernel) rfl) (Or.inl rfl) rfl hdg kk
theorem kv_X1_38 : q_okV RX1 38 RX5 yX5_clear cX5_clear 2 none 0 := ⟨(q_in_t3 (i := 129) (by first | rfl | decide +kernel) rfl), (q_in_t3 (i := 122) (by first | rfl | decide +kernel) rfl), (q_in_t3 (i := 123) (by first | rfl | decide +kernel) rfl), (q_in_t1 (i := 4) (by first | rfl | decide +kernel) rfl), (q_in_t3 (i := 124) (by first | rfl | decide +kernel) rfl), ⟨rfl, by decide, by decide, rfl⟩⟩
theorem gs_X1_20_2 (E : q_E p c cc s m args RX1 X) (hI : q_I X n σ0 H0 locs σ H) (ha : q_kd X a = 2) (hdg : decode cc pc = .ok (.getfield 20, 3)) (kk : W p l e R s m args below meth c H locs cells slots Q (F0 m (pc + 3) ls (.ref (q_rf X a 1) :: rest))) : W p l e R s m args below meth c H locs cells slots Q (F0 m pc ls (.ref a :: rest)) :=
  q_getf (ref := "CheatHeap$Hands") E hI ha ⟨rfl, by decide⟩ (show vwCl[1]? = some (RX1, TX1, 7) from rfl) q_inX1 (f := 1) (by decide) (q_in_t1 (i := 110) (by first | rfl | decide +kernel) rfl) (Or.inl rfl) rfl hdg kk
theorem gs_X1_23_2 (E : q_E p c cc s m args RX1 X) (hI : q_I X n σ0 H0 locs σ H) (ha : q_kd X a = 2) (hdg : decode cc pc = .ok (.getfield 23, 3)) (kk : W p l e R s m args below meth c H locs cells slots Q (F0 m (pc + 3) ls (.ref (q_rf X a 2) :: rest))) : W p l e R s m args below meth c H locs cells slots Q (F0 m pc ls (.ref a :: rest)) :=
  q_getf (ref := "CheatHeap$Hands") E hI ha ⟨rfl, by decide⟩ (show vwCl[1]? = some (RX1, TX1, 7) from rfl) q_inX1 (f := 2) (by decide) (q_in_t1 (i := 111) (by first | rfl | decide +kernel) rfl) (Or.inl rfl) rfl hdg kk
theorem gs_X1_26_2 (E : q_E p c cc s m args RX1 X) (hI : q_I X n σ0 H0 locs σ H) (ha : q_kd X a = 2) (hdg : decode cc pc = .ok (.getfield 26, 3)) (kk : W p l e R s m args below meth c H locs cells slots Q (F0 m (pc + 3) ls (.ref (q_rf X a 3) :: rest))) : W p l e R s m args below meth c H locs cells slots Q (F0 m pc ls (.ref a :: rest)) :=
  q_getf (ref := "CheatHeap$Hands") E hI ha ⟨rfl, by decide⟩ (show vwCl[1]? = some (RX1, TX1, 7) from rfl) q_inX1 (f := 3) (by decide) (q_in_t1 (i := 115) (by first | rfl | decide +kernel) rfl) (Or.inl rfl) rfl hdg kk
theorem gs_X1_29_2 (E : q_E p c cc s m args RX1 X) (hI : q_I X n σ0 H0 locs σ H) (ha : q_kd X a = 2) (hdg : decode cc pc = .ok (.getfield 29, 3)) (kk : W p l e R s m args below meth c H locs cells slots Q (F0 m (pc + 3) ls (.ref (q_rf X a 4) :: rest))) : W p l e R s m args below meth c H locs cells slots Q (F0 m pc ls (.ref a :: rest)) :=
  q_getf (ref := "CheatHeap$Hands") E hI ha ⟨rfl, by decide⟩ (show vwCl[1]? = some (RX1, TX1, 7) from rfl) q_inX1 (f := 4) (by decide) (q_in_t1 (i := 119) (by first | rfl | decide +kernel) rfl) (Or.inl rfl) rfl hdg kk
theorem gs_X1_32_2 (E : q_E p c cc s m args RX1 X) (hI : q_I X n σ0 H0 locs σ H) (ha : q_kd X a = 2) (hdg : decode cc pc = .ok (.getfield 32, 3)) (kk : W p l e R s m args below meth c H locs cells slots Q (F0 m (pc + 3) ls (.ref (q_rf X a 5) :: rest))) : W p l e R s m args below meth c H locs cells slots Q (F0 m pc ls (.ref a :: rest)) :=
  q_getf (ref := "CheatHeap$Hands") E hI ha ⟨rfl, by decide⟩ (show vwCl[1]? = some (RX1, TX1, 7) from rfl) q_inX1 (f := 5) (by decide) (q_in_t1 (i := 123) (by first | rfl | decide +kernel) rfl) (Or.inl rfl) rfl hdg kk
theorem gs_X1_35_2 (E : q_E p c cc s m args RX1 X) (hI : q_I X n σ0 H0 locs σ H) (ha : q_kd X a = 2) (hdg : decode cc pc = .ok (.getfield 35, 3)) (kk : W p l e R s m args below meth c H locs cells slots Q (F0 m (pc + 3) ls (.ref (q_rf X a 6) :: rest))) : W p l e R s m args below meth c H locs cells slots Q (F0 m pc ls (.ref a :: rest)) :=
  q_getf (ref := "CheatHeap$Hands") E hI ha ⟨rfl, by decide⟩ (show vwCl[1]? = some (RX1, TX1, 7) from rfl) q_inX1 (f := 6) (by decide) (q_in_t1 (i := 127) (by first | rfl | decide +kernel) rfl) (Or.inl rfl) rfl hdg kk
theorem ps_X2_9_3 (E : q_E p c cc s m args RX2 X) (hI : q_I X n σ0 H0 locs σ H) (ha : q_kd X a = 3) {v : Int32} (hcl : n < 9) (hdg : decode cc pc = .ok (.putfield 9, 3)) (kk : ∀ (H1 : Heap) (locs1 : List Loc) (σ1 : ST), σ1 = q_si σ a 0 v → q_I X n σ0 H0 locs1 σ1 H1 → W p l e R s m args below meth c H1 locs1 cells slots Q (F0 m (pc + 3) ls rest)) : W p l e R s m args below meth c H locs cells slots Q (F0 m pc ls (.int v :: .ref a :: rest)) :=
  q_puti (ref := "CheatHeap$Pile") E hI ha ⟨rfl, by decide⟩ (show vwCl[2]? = some (RX2, TX2, 6) from rfl) q_inX2 tyX2_ok nmX2 (f := 0) (by decide) (q_in_t1 (i := 153) (by first | rfl | decide +kernel) rfl) (Or.inl rfl) rfl rfl hcl hdg (q_inU rfl) (Or.inl rfl) (fun H1 l1 h => kk H1 l1 _ rfl h)
theorem ps_X2_15_3 (E : q_E p c cc s m args RX2 X) (hI : q_I X n σ0 H0 locs σ H) (ha : q_kd X a = 3) {v : Int32} (hcl : n < 9) (hdg : decode cc pc = .ok (.putfield 15, 3)) (kk : ∀ (H1 : Heap) (locs1 : List Loc) (σ1 : ST), σ1 = q_si σ a 1 v → q_I X n σ0 H0 locs1 σ1 H1 → W p l e R s m args below meth c H1 locs1 cells slots Q (F0 m (pc + 3) ls rest)) : W p l e R s m args below meth c H locs cells slots Q (F0 m pc ls (.int v :: .ref a :: rest)) :=
  q_puti (ref := "CheatHeap$Pile") E hI ha ⟨rfl, by decide⟩ (show vwCl[2]? = some (RX2, TX2, 6) from rfl) q_inX2 tyX2_ok nmX2 (f := 1) (by decide) (q_in_t1 (i := 155) (by first | rfl | decide +kernel) rfl) (Or.inl rfl) rfl rfl hcl hdg (q_inU rfl) (Or.inl rfl) (fun H1 l1 h => kk H1 l1 _ rfl h)
theorem ps_X8_11_8 (E : q_E p c cc s m args RX8 X) (hI : q_I X n σ0 H0 locs σ H) (ha : q_kd X a = 8) {v : Int32} (hcl : n < 9) (h1 : 0 ≤ v.toInt) (h2 : v.toInt ≤ 1) (hdg : decode cc pc = .ok (.putfield 11, 3)) (kk : ∀ (H1 : Heap) (locs1 : List Loc) (σ1 : ST), σ1 = q_si σ a 0 v → q_I X n σ0 H0 locs1 σ1 H1 → W p l e R s m args below meth c H1 locs1 cells slots Q (F0 m (pc + 3) ls rest)) : W p l e R s m args below meth c H locs cells slots Q (F0 m pc ls (.int v :: .ref a :: rest)) :=
  q_puti (ref := "CheatHeap$Script") E hI ha ⟨rfl, by decide⟩ (show vwCl[7]? = some (RX8, TX8, 8) from rfl) q_inX8 tyX8_ok nmX8 (f := 0) (by decide) (q_in_t1 (i := 187) (by first | rfl | decide +kernel) rfl) (Or.inl rfl) rfl rfl hcl hdg (q_inB rfl h1 h2) (Or.inr ⟨rfl, h1, h2⟩) (fun H1 l1 h => kk H1 l1 _ rfl h)
theorem ps_X8_15_8 (E : q_E p c cc s m args RX8 X) (hI : q_I X n σ0 H0 locs σ H) (ha : q_kd X a = 8) {v : Int32} (hcl : n < 9) (hdg : decode cc pc = .ok (.putfield 15, 3)) (kk : ∀ (H1 : Heap) (locs1 : List Loc) (σ1 : ST), σ1 = q_si σ a 1 v → q_I X n σ0 H0 locs1 σ1 H1 → W p l e R s m args below meth c H1 locs1 cells slots Q (F0 m (pc + 3) ls rest)) : W p l e R s m args below meth c H locs cells slots Q (F0 m pc ls (.int v :: .ref a :: rest)) :=
  q_puti (ref := "CheatHeap$Script") E hI ha ⟨rfl, by decide⟩ (show vwCl[7]? = some (RX8, TX8, 8) from rfl) q_inX8 tyX8_ok nmX8 (f := 1) (by decide) (q_in_t1 (i := 190) (by first | rfl | decide +kernel) rfl) (Or.inl rfl) rfl rfl hcl hdg (q_inU rfl) (Or.inl rfl) (fun H1 l1 h => kk H1 l1 _ rfl h)
theorem ps_X8_19_8 (E : q_E p c cc s m args RX8 X) (hI : q_I X n σ0 H0 locs σ H) (ha : q_kd X a = 8) {v : Int32} (hcl : n < 9) (hdg : decode cc pc = .ok (.putfield 19, 3)) (kk : ∀ (H1 : Heap) (locs1 : List Loc) (σ1 : ST), σ1 = q_si σ a 2 v → q_I X n σ0 H0 locs1 σ1 H1 → W p l e R s m args below meth c H1 locs1 cells slots Q (F0 m (pc + 3) ls rest)) : W p l e R s m args below meth c H locs cells slots Q (F0 m pc ls (.int v :: .ref a :: rest)) :=
  q_puti (ref := "CheatHeap$Script") E hI ha ⟨rfl, by decide⟩ (show vwCl[7]? = some (RX8, TX8, 8) from rfl) q_inX8 tyX8_ok nmX8 (f := 2) (by decide) (q_in_t1 (i := 193) (by first | rfl | decide +kernel) rfl) (Or.inl rfl) rfl rfl hcl hdg (q_inU rfl) (Or.inl rfl) (fun H1 l1 h => kk H1 l1 _ rfl h)
theorem kv_X1_53 : q_okV RX1 53 RX5 yX5_add cX5_add 3 none 2 := ⟨(q_in_t4 (i := 120) (by first | rfl | decide +kernel) rfl), (q_in_t4 (i := 113) (by first | rfl | decide +kernel) rfl), (q_in_t4 (i := 114) (by first | rfl | decide +kernel) rfl), (q_in_t1 (i := 4) (by first | rfl | decide +kernel) rfl), (q_in_t4 (i := 115) (by first | rfl | decide +kernel) rfl), ⟨rfl, by decide, by decide, rfl⟩⟩
theorem kv_X1_41 : q_okV RX1 41 RX5 yX5_copyFrom cX5_copyFrom 3 none 1 := ⟨(q_in_t4 (i := 141) (by first | rfl | decide +kernel) rfl), (q_in_t4 (i := 134) (by first | rfl | decide +kernel) rfl), (q_in_t4 (i := 135) (by first | rfl | decide +kernel) rfl), (q_in_t1 (i := 4) (by first | rfl | decide +kernel) rfl), (q_in_t4 (i := 136) (by first | rfl | decide +kernel) rfl), ⟨rfl, by decide, by decide, rfl⟩⟩
theorem gs_X2_9_3 (E : q_E p c cc s m args RX2 X) (hI : q_I X n σ0 H0 locs σ H) (ha : q_kd X a = 3) (hdg : decode cc pc = .ok (.getfield 9, 3)) (kk : W p l e R s m args below meth c H locs cells slots Q (F0 m (pc + 3) ls (.int (σ.1 a 0) :: rest))) : W p l e R s m args below meth c H locs cells slots Q (F0 m pc ls (.ref a :: rest)) :=
  q_getf (ref := "CheatHeap$Pile") E hI ha ⟨rfl, by decide⟩ (show vwCl[2]? = some (RX2, TX2, 6) from rfl) q_inX2 (f := 0) (by decide) (q_in_t1 (i := 153) (by first | rfl | decide +kernel) rfl) (Or.inl rfl) rfl hdg kk
theorem gs_X2_15_3 (E : q_E p c cc s m args RX2 X) (hI : q_I X n σ0 H0 locs σ H) (ha : q_kd X a = 3) (hdg : decode cc pc = .ok (.getfield 15, 3)) (kk : W p l e R s m args below meth c H locs cells slots Q (F0 m (pc + 3) ls (.int (σ.1 a 1) :: rest))) : W p l e R s m args below meth c H locs cells slots Q (F0 m pc ls (.ref a :: rest)) :=
  q_getf (ref := "CheatHeap$Pile") E hI ha ⟨rfl, by decide⟩ (show vwCl[2]? = some (RX2, TX2, 6) from rfl) q_inX2 (f := 1) (by decide) (q_in_t1 (i := 155) (by first | rfl | decide +kernel) rfl) (Or.inl rfl) rfl hdg kk
theorem gs_X2_23_3 (E : q_E p c cc s m args RX2 X) (hI : q_I X n σ0 H0 locs σ H) (ha : q_kd X a = 3) (hdg : decode cc pc = .ok (.getfield 23, 3)) (kk : W p l e R s m args below meth c H locs cells slots Q (F0 m (pc + 3) ls (.ref (q_rf X a 2) :: rest))) : W p l e R s m args below meth c H locs cells slots Q (F0 m pc ls (.ref a :: rest)) :=
  q_getf (ref := "CheatHeap$Pile") E hI ha ⟨rfl, by decide⟩ (show vwCl[2]? = some (RX2, TX2, 6) from rfl) q_inX2 (f := 2) (by decide) (q_in_t1 (i := 159) (by first | rfl | decide +kernel) rfl) (Or.inl rfl) rfl hdg kk
theorem kv_X2_36 : q_okV RX2 36 RX5 yX5_copyFrom cX5_copyFrom 3 none 1 := ⟨(q_in_t4 (i := 146) (by first | rfl | decide +kernel) rfl), (q_in_t4 (i := 134) (by first | rfl | decide +kernel) rfl), (q_in_t4 (i := 135) (by first | rfl | decide +kernel) rfl), (q_in_t1 (i := 4) (by first | rfl | decide +kernel) rfl), (q_in_t4 (i := 136) (by first | rfl | decide +kernel) rfl), ⟨rfl, by decide, by decide, rfl⟩⟩
theorem gs_X2_27_3 (E : q_E p c cc s m args RX2 X) (hI : q_I X n σ0 H0 locs σ H) (ha : q_kd X a = 3) (hdg : decode cc pc = .ok (.getfield 27, 3)) (kk : W p l e R s m args below meth c H locs cells slots Q (F0 m (pc + 3) ls (.ref (q_rf X a 3) :: rest))) : W p l e R s m args below meth c H locs cells slots Q (F0 m pc ls (.ref a :: rest)) :=
  q_getf (ref := "CheatHeap$Pile") E hI ha ⟨rfl, by decide⟩ (show vwCl[2]? = some (RX2, TX2, 6) from rfl) q_inX2 (f := 3) (by decide) (q_in_t1 (i := 161) (by first | rfl | decide +kernel) rfl) (Or.inl rfl) rfl hdg kk
theorem gs_X2_30_3 (E : q_E p c cc s m args RX2 X) (hI : q_I X n σ0 H0 locs σ H) (ha : q_kd X a = 3) (hdg : decode cc pc = .ok (.getfield 30, 3)) (kk : W p l e R s m args below meth c H locs cells slots Q (F0 m (pc + 3) ls (.ref (q_rf X a 4) :: rest))) : W p l e R s m args below meth c H locs cells slots Q (F0 m pc ls (.ref a :: rest)) :=
  q_getf (ref := "CheatHeap$Pile") E hI ha ⟨rfl, by decide⟩ (show vwCl[2]? = some (RX2, TX2, 6) from rfl) q_inX2 (f := 4) (by decide) (q_in_t1 (i := 163) (by first | rfl | decide +kernel) rfl) (Or.inl rfl) rfl hdg kk
theorem gs_X2_33_3 (E : q_E p c cc s m args RX2 X) (hI : q_I X n σ0 H0 locs σ H) (ha : q_kd X a = 3) (hdg : decode cc pc = .ok (.getfield 33, 3)) (kk : W p l e R s m args below meth c H locs cells slots Q (F0 m (pc + 3) ls (.ref (q_rf X a 5) :: rest))) : W p l e R s m args below meth c H locs cells slots Q (F0 m pc ls (.ref a :: rest)) :=
  q_getf (ref := "CheatHeap$Pile") E hI ha ⟨rfl, by decide⟩ (show vwCl[2]? = some (RX2, TX2, 6) from rfl) q_inX2 (f := 5) (by decide) (q_in_t1 (i := 165) (by first | rfl | decide +kernel) rfl) (Or.inl rfl) rfl hdg kk
theorem gs_X8_11_8 (E : q_E p c cc s m args RX8 X) (hI : q_I X n σ0 H0 locs σ H) (ha : q_kd X a = 8) (hdg : decode cc pc = .ok (.getfield 11, 3)) (kk : W p l e R s m args below meth c H locs cells slots Q (F0 m (pc + 3) ls (.int (σ.1 a 0) :: rest))) : W p l e R s m args below meth c H locs cells slots Q (F0 m pc ls (.ref a :: rest)) :=
  q_getf (ref := "CheatHeap$Script") E hI ha ⟨rfl, by decide⟩ (show vwCl[7]? = some (RX8, TX8, 8) from rfl) q_inX8 (f := 0) (by decide) (q_in_t1 (i := 187) (by first | rfl | decide +kernel) rfl) (Or.inl rfl) rfl hdg kk
theorem gs_X8_15_8 (E : q_E p c cc s m args RX8 X) (hI : q_I X n σ0 H0 locs σ H) (ha : q_kd X a = 8) (hdg : decode cc pc = .ok (.getfield 15, 3)) (kk : W p l e R s m args below meth c H locs cells slots Q (F0 m (pc + 3) ls (.int (σ.1 a 1) :: rest))) : W p l e R s m args below meth c H locs cells slots Q (F0 m pc ls (.ref a :: rest)) :=
  q_getf (ref := "CheatHeap$Script") E hI ha ⟨rfl, by decide⟩ (show vwCl[7]? = some (RX8, TX8, 8) from rfl) q_inX8 (f := 1) (by decide) (q_in_t1 (i := 190) (by first | rfl | decide +kernel) rfl) (Or.inl rfl) rfl hdg kk
theorem gs_X8_19_8 (E : q_E p c cc s m args RX8 X) (hI : q_I X n σ0 H0 locs σ H) (ha : q_kd X a = 8) (hdg : decode cc pc = .ok (.getfield 19, 3)) (kk : W p l e R s m args below meth c H locs cells slots Q (F0 m (pc + 3) ls (.int (σ.1 a 2) :: rest))) : W p l e R s m args below meth c H locs cells slots Q (F0 m pc ls (.ref a :: rest)) :=
  q_getf (ref := "CheatHeap$Script") E hI ha ⟨rfl, by decide⟩ (show vwCl[7]? = some (RX8, TX8, 8) from rfl) q_inX8 (f := 2) (by decide) (q_in_t1 (i := 193) (by first | rfl | decide +kernel) rfl) (Or.inl rfl) rfl hdg kk
theorem gs_X8_27_8 (E : q_E p c cc s m args RX8 X) (hI : q_I X n σ0 H0 locs σ H) (ha : q_kd X a = 8) (hdg : decode cc pc = .ok (.getfield 27, 3)) (kk : W p l e R s m args below meth c H locs cells slots Q (F0 m (pc + 3) ls (.ref (q_rf X a 3) :: rest))) : W p l e R s m args below meth c H locs cells slots Q (F0 m pc ls (.ref a :: rest)) :=
  q_getf (ref := "CheatHeap$Script") E hI ha ⟨rfl, by decide⟩ (show vwCl[7]? = some (RX8, TX8, 8) from rfl) q_inX8 (f := 3) (by decide) (q_in_t1 (i := 195) (by first | rfl | decide +kernel) rfl) (Or.inl rfl) rfl hdg kk
theorem kv_X8_43 : q_okV RX8 43 RX5 yX5_copyFrom cX5_copyFrom 3 none 1 := ⟨(q_in_t4 (i := 151) (by first | rfl | decide +kernel) rfl), (q_in_t4 (i := 134) (by first | rfl | decide +kernel) rfl), (q_in_t4 (i := 135) (by first | rfl | decide +kernel) rfl), (q_in_t1 (i := 4) (by first | rfl | decide +kernel) rfl), (q_in_t4 (i := 136) (by first | rfl | decide +kernel) rfl), ⟨rfl, by decide, by decide, rfl⟩⟩
theorem gs_X8_31_8 (E : q_E p c cc s m args RX8 X) (hI : q_I X n σ0 H0 locs σ H) (ha : q_kd X a = 8) (hdg : decode cc pc = .ok (.getfield 31, 3)) (kk : W p l e R s m args below meth c H locs cells slots Q (F0 m (pc + 3) ls (.ref (q_rf X a 4) :: rest))) : W p l e R s m args below meth c H locs cells slots Q (F0 m pc ls (.ref a :: rest)) :=
  q_getf (ref := "CheatHeap$Script") E hI ha ⟨rfl, by decide⟩ (show vwCl[7]? = some (RX8, TX8, 8) from rfl) q_inX8 (f := 4) (by decide) (q_in_t1 (i := 198) (by first | rfl | decide +kernel) rfl) (Or.inl rfl) rfl hdg kk
theorem gs_X8_34_8 (E : q_E p c cc s m args RX8 X) (hI : q_I X n σ0 H0 locs σ H) (ha : q_kd X a = 8) (hdg : decode cc pc = .ok (.getfield 34, 3)) (kk : W p l e R s m args below meth c H locs cells slots Q (F0 m (pc + 3) ls (.ref (q_rf X a 5) :: rest))) : W p l e R s m args below meth c H locs cells slots Q (F0 m pc ls (.ref a :: rest)) :=
  q_getf (ref := "CheatHeap$Script") E hI ha ⟨rfl, by decide⟩ (show vwCl[7]? = some (RX8, TX8, 8) from rfl) q_inX8 (f := 5) (by decide) (q_in_t1 (i := 201) (by first | rfl | decide +kernel) rfl) (Or.inl rfl) rfl hdg kk
theorem gs_X8_37_8 (E : q_E p c cc s m args RX8 X) (hI : q_I X n σ0 H0 locs σ H) (ha : q_kd X a = 8) (hdg : decode cc pc = .ok (.getfield 37, 3)) (kk : W p l e R s m args below meth c H locs cells slots Q (F0 m (pc + 3) ls (.ref (q_rf X a 6) :: rest))) : W p l e R s m args below meth c H locs cells slots Q (F0 m pc ls (.ref a :: rest)) :=
  q_getf (ref := "CheatHeap$Script") E hI ha ⟨rfl, by decide⟩ (show vwCl[7]? = some (RX8, TX8, 8) from rfl) q_inX8 (f := 6) (by decide) (q_in_t1 (i := 204) (by first | rfl | decide +kernel) rfl) (Or.inl rfl) rfl hdg kk
theorem gs_X8_40_8 (E : q_E p c cc s m args RX8 X) (hI : q_I X n σ0 H0 locs σ H) (ha : q_kd X a = 8) (hdg : decode cc pc = .ok (.getfield 40, 3)) (kk : W p l e R s m args below meth c H locs cells slots Q (F0 m (pc + 3) ls (.ref (q_rf X a 7) :: rest))) : W p l e R s m args below meth c H locs cells slots Q (F0 m pc ls (.ref a :: rest)) :=
  q_getf (ref := "CheatHeap$Script") E hI ha ⟨rfl, by decide⟩ (show vwCl[7]? = some (RX8, TX8, 8) from rfl) q_inX8 (f := 7) (by decide) (q_in_t1 (i := 206) (by first | rfl | decide +kernel) rfl) (Or.inl rfl) rfl hdg kk
theorem kv_X8_47 : q_okV RX8 47 RX5 yX5_set cX5_set 3 none 2 := ⟨(q_in_t4 (i := 184) (by first | rfl | decide +kernel) rfl), (q_in_t4 (i := 83) (by first | rfl | decide +kernel) rfl), (q_in_t4 (i := 84) (by first | rfl | decide +kernel) rfl), (q_in_t1 (i := 4) (by first | rfl | decide +kernel) rfl), (q_in_t4 (i := 85) (by first | rfl | decide +kernel) rfl), ⟨rfl, by decide, by decide, rfl⟩⟩
theorem ks_X8_55 : q_okS RX8 55 yX8_isWhen cX8_isWhen 1 (some .boolean) 1 := ⟨(q_in_t4 (i := 230) (by first | rfl | decide +kernel) rfl), (q_in_t4 (i := 207) (by first | rfl | decide +kernel) rfl), (q_in_t1 (i := 8) (by first | rfl | decide +kernel) rfl), (q_in_t4 (i := 208) (by first | rfl | decide +kernel) rfl), ⟨by decide, by decide, rfl⟩⟩
theorem kv_X1_49 : q_okV RX1 49 RX5 yX5_sum cX5_sum 5 (some .int) 2 := ⟨(q_in_t5 (i := 23) (by first | rfl | decide +kernel) rfl), (q_in_t5 (i := 24) (by first | rfl | decide +kernel) rfl), (q_in_t5 (i := 25) (by first | rfl | decide +kernel) rfl), (q_in_t1 (i := 4) (by first | rfl | decide +kernel) rfl), (q_in_t5 (i := 26) (by first | rfl | decide +kernel) rfl), ⟨rfl, by decide, by decide, rfl⟩⟩
theorem kv_X1_45 : q_okV RX1 45 RX5 yX5_get cX5_get 2 (some .int) 1 := ⟨(q_in_t5 (i := 40) (by first | rfl | decide +kernel) rfl), (q_in_t4 (i := 73) (by first | rfl | decide +kernel) rfl), (q_in_t4 (i := 74) (by first | rfl | decide +kernel) rfl), (q_in_t1 (i := 4) (by first | rfl | decide +kernel) rfl), (q_in_t4 (i := 75) (by first | rfl | decide +kernel) rfl), ⟨rfl, by decide, by decide, rfl⟩⟩
theorem kv_X2_44 : q_okV RX2 44 RX5 yX5_get cX5_get 2 (some .int) 1 := ⟨(q_in_t5 (i := 53) (by first | rfl | decide +kernel) rfl), (q_in_t4 (i := 73) (by first | rfl | decide +kernel) rfl), (q_in_t4 (i := 74) (by first | rfl | decide +kernel) rfl), (q_in_t1 (i := 4) (by first | rfl | decide +kernel) rfl), (q_in_t4 (i := 75) (by first | rfl | decide +kernel) rfl), ⟨rfl, by decide, by decide, rfl⟩⟩
theorem kv_X2_40 : q_okV RX2 40 RX5 yX5_set cX5_set 3 none 2 := ⟨(q_in_t5 (i := 98) (by first | rfl | decide +kernel) rfl), (q_in_t4 (i := 83) (by first | rfl | decide +kernel) rfl), (q_in_t4 (i := 84) (by first | rfl | decide +kernel) rfl), (q_in_t1 (i := 4) (by first | rfl | decide +kernel) rfl), (q_in_t4 (i := 85) (by first | rfl | decide +kernel) rfl), ⟨rfl, by decide, by decide, rfl⟩⟩
theorem kv_X1_57 : q_okV RX1 57 RX1 yX1_deal cX1_deal 4 none 3 := ⟨(q_in_t5 (i := 103) (by first | rfl | decide +kernel) rfl), (q_in_t4 (i := 117) (by first | rfl | decide +kernel) rfl), (q_in_t4 (i := 118) (by first | rfl | decide +kernel) rfl), (q_in_t1 (i := 6) (by first | rfl | decide +kernel) rfl), (q_in_t4 (i := 119) (by first | rfl | decide +kernel) rfl), ⟨rfl, by decide, by decide, rfl⟩⟩
theorem kv_X2_48 : q_okV RX2 48 RX5 yX5_add cX5_add 3 none 2 := ⟨(q_in_t5 (i := 108) (by first | rfl | decide +kernel) rfl), (q_in_t4 (i := 113) (by first | rfl | decide +kernel) rfl), (q_in_t4 (i := 114) (by first | rfl | decide +kernel) rfl), (q_in_t1 (i := 4) (by first | rfl | decide +kernel) rfl), (q_in_t4 (i := 115) (by first | rfl | decide +kernel) rfl), ⟨rfl, by decide, by decide, rfl⟩⟩
theorem kv_X2_51 : q_okV RX2 51 RX2 yX2_truth cX2_truth 4 (some .int) 1 := ⟨(q_in_t5 (i := 148) (by first | rfl | decide +kernel) rfl), (q_in_t5 (i := 50) (by first | rfl | decide +kernel) rfl), (q_in_t5 (i := 51) (by first | rfl | decide +kernel) rfl), (q_in_t1 (i := 7) (by first | rfl | decide +kernel) rfl), (q_in_t5 (i := 52) (by first | rfl | decide +kernel) rfl), ⟨rfl, by decide, by decide, rfl⟩⟩
theorem kv_X1_61 : q_okV RX1 61 RX1 yX1_laidBy cX1_laidBy 3 (some .int) 2 := ⟨(q_in_t5 (i := 153) (by first | rfl | decide +kernel) rfl), (q_in_t5 (i := 154) (by first | rfl | decide +kernel) rfl), (q_in_t5 (i := 155) (by first | rfl | decide +kernel) rfl), (q_in_t1 (i := 6) (by first | rfl | decide +kernel) rfl), (q_in_t5 (i := 156) (by first | rfl | decide +kernel) rfl), ⟨rfl, by decide, by decide, rfl⟩⟩
theorem kv_X8_51 : q_okV RX8 51 RX5 yX5_get cX5_get 2 (some .int) 1 := ⟨(q_in_t6 (i := 190) (by first | rfl | decide +kernel) rfl), (q_in_t4 (i := 73) (by first | rfl | decide +kernel) rfl), (q_in_t4 (i := 74) (by first | rfl | decide +kernel) rfl), (q_in_t1 (i := 4) (by first | rfl | decide +kernel) rfl), (q_in_t4 (i := 75) (by first | rfl | decide +kernel) rfl), ⟨rfl, by decide, by decide, rfl⟩⟩
end QS
end
/-! FROM 11.parts.b00.lean.txt -/
section
set_option maxRecDepth 100000 in
set_option maxHeartbeats 4000000 in
theorem c_X1_reset (l : Launch) (X : XW) (σ : ST) (a : Nat) (ha : q_kd X a = 2) : Met l yX1_reset (q_ws yX1_reset cX1_reset 1 none) (q_rm 1 21) (q_P X σ [.ref a]) (q_Qv X 8 σ (fun (σ' : ST) => σ' = F_X1_reset X σ a ∧ q_ow [(20, 99)] [] X σ σ')) 0 0 (q_reg X) := by
  refine q_met 8 (by first | exact rfl | decide +kernel) rfl (Nat.le_of_ble_eq_true rfl) (fun p e s m below meth c E hml hr hlk hI ls hl => ?_)
  have hx := E.1
  have hb := E.2.1
  have hl : lv_has ls 1 [(0, .ref a)] := hl
  have fr_σ : q_ow [(20, 99)] [] X σ σ := q_ow.rf
  obtain ⟨out, hout⟩ : ∃ o, o = F_X1_reset X σ a := ⟨_, rfl⟩
  have hF := hout.symm
  unfold F_X1_reset at hF
  refine lv_aload_n hx hb dX1_reset_0 rfl (lv_at hl 0 rfl) ?_
  refine gs_X1_14_2 E hI ha dX1_reset_1 ?_
  refine q_cv (q_rV4_0 (rest := []) E (hml.trans hl.1.symm) hI (c_X5_clear l X σ (q_rf X a 0) (q_tk (k' := 5) hI ha rfl (Nat.succ_ne_zero _))) kv_X1_38 (q_tk (k' := 5) hI ha rfl (Nat.succ_ne_zero _)) ⟨Nat.le_of_ble_eq_true rfl, Nat.le_of_ble_eq_true rfl⟩ (Nat.le_of_ble_eq_true rfl) dX1_reset_4) hI (Nat.le_of_ble_eq_true rfl) (fun σ_2 H locs hpσ_2 hkσ_2 hI => ?_)
  have ahpσ_2 := hpσ_2.1
  have bhpσ_2 := hpσ_2.2
  clear hpσ_2
  have fr_σ_2 := fr_σ.call bhpσ_2 rfl rfl
  replace hF := q_letX hF ahpσ_2
  refine lv_aload_n hx hb dX1_reset_7 rfl (lv_at hl 0 rfl) ?_
  refine gs_X1_20_2 E hI ha dX1_reset_8 ?_
  refine q_cv (q_rV4_0 (rest := []) E (hml.trans hl.1.symm) hI (c_X5_clear l X σ_2 (q_rf X a 1) (q_tk (k' := 5) hI ha rfl (Nat.succ_ne_zero _))) kv_X1_38 (q_tk (k' := 5) hI ha rfl (Nat.succ_ne_zero _)) ⟨Nat.le_of_ble_eq_true rfl, Nat.le_of_ble_eq_true rfl⟩ (Nat.le_of_ble_eq_true rfl) dX1_reset_11) hI (Nat.le_of_ble_eq_true rfl) (fun σ_4 H locs hpσ_4 hkσ_4 hI => ?_)
  have ahpσ_4 := hpσ_4.1
  have bhpσ_4 := hpσ_4.2
  clear hpσ_4
  have fr_σ_4 := fr_σ_2.call bhpσ_4 rfl rfl
  replace hF := q_letX hF ahpσ_4
  refine lv_aload_n hx hb dX1_reset_14 rfl (lv_at hl 0 rfl) ?_
  refine gs_X1_23_2 E hI ha dX1_reset_15 ?_
  refine q_cv (q_rV4_0 (rest := []) E (hml.trans hl.1.symm) hI (c_X5_clear l X σ_4 (q_rf X a 2) (q_tk (k' := 5) hI ha rfl (Nat.succ_ne_zero _))) kv_X1_38 (q_tk (k' := 5) hI ha rfl (Nat.succ_ne_zero _)) ⟨Nat.le_of_ble_eq_true rfl, Nat.le_of_ble_eq_true rfl⟩ (Nat.le_of_ble_eq_true rfl) dX1_reset_18) hI (Nat.le_of_ble_eq_true rfl) (fun σ_6 H locs hpσ_6 hkσ_6 hI => ?_)
  have ahpσ_6 := hpσ_6.1
  have bhpσ_6 := hpσ_6.2
  clear hpσ_6
  have fr_σ_6 := fr_σ_4.call bhpσ_6 rfl rfl
  replace hF := q_letX hF ahpσ_6
  refine lv_aload_n hx hb dX1_reset_21 rfl (lv_at hl 0 rfl) ?_
  refine gs_X1_26_2 E hI ha dX1_reset_22 ?_
  refine q_cv (q_rV4_0 (rest := []) E (hml.trans hl.1.symm) hI (c_X5_clear l X σ_6 (q_rf X a 3) (q_tk (k' := 5) hI ha rfl (Nat.succ_ne_zero _))) kv_X1_38 (q_tk (k' := 5) hI ha rfl (Nat.succ_ne_zero _)) ⟨Nat.le_of_ble_eq_true rfl, Nat.le_of_ble_eq_true rfl⟩ (Nat.le_of_ble_eq_true rfl) dX1_reset_25) hI (Nat.le_of_ble_eq_true rfl) (fun σ_8 H locs hpσ_8 hkσ_8 hI => ?_)
  have ahpσ_8 := hpσ_8.1
  have bhpσ_8 := hpσ_8.2
  clear hpσ_8
  have fr_σ_8 := fr_σ_6.call bhpσ_8 rfl rfl
  replace hF := q_letX hF ahpσ_8
  refine lv_aload_n hx hb dX1_reset_28 rfl (lv_at hl 0 rfl) ?_
  refine gs_X1_29_2 E hI ha dX1_reset_29 ?_
  refine q_cv (q_rV4_0 (rest := []) E (hml.trans hl.1.symm) hI (c_X5_clear l X σ_8 (q_rf X a 4) (q_tk (k' := 5) hI ha rfl (Nat.succ_ne_zero _))) kv_X1_38 (q_tk (k' := 5) hI ha rfl (Nat.succ_ne_zero _)) ⟨Nat.le_of_ble_eq_true rfl, Nat.le_of_ble_eq_true rfl⟩ (Nat.le_of_ble_eq_true rfl) dX1_reset_32) hI (Nat.le_of_ble_eq_true rfl) (fun σ_10 H locs hpσ_10 hkσ_10 hI => ?_)
  have ahpσ_10 := hpσ_10.1
  have bhpσ_10 := hpσ_10.2
  clear hpσ_10
  have fr_σ_10 := fr_σ_8.call bhpσ_10 rfl rfl
  replace hF := q_letX hF ahpσ_10
  refine lv_aload_n hx hb dX1_reset_35 rfl (lv_at hl 0 rfl) ?_
  refine gs_X1_32_2 E hI ha dX1_reset_36 ?_
  refine q_cv (q_rV4_0 (rest := []) E (hml.trans hl.1.symm) hI (c_X5_clear l X σ_10 (q_rf X a 5) (q_tk (k' := 5) hI ha rfl (Nat.succ_ne_zero _))) kv_X1_38 (q_tk (k' := 5) hI ha rfl (Nat.succ_ne_zero _)) ⟨Nat.le_of_ble_eq_true rfl, Nat.le_of_ble_eq_true rfl⟩ (Nat.le_of_ble_eq_true rfl) dX1_reset_39) hI (Nat.le_of_ble_eq_true rfl) (fun σ_12 H locs hpσ_12 hkσ_12 hI => ?_)
  have ahpσ_12 := hpσ_12.1
  have bhpσ_12 := hpσ_12.2
  clear hpσ_12
  have fr_σ_12 := fr_σ_10.call bhpσ_12 rfl rfl
  replace hF := q_letX hF ahpσ_12
  refine lv_aload_n hx hb dX1_reset_42 rfl (lv_at hl 0 rfl) ?_
  refine gs_X1_35_2 E hI ha dX1_reset_43 ?_
  refine q_cv (q_rV4_0 (rest := []) E (hml.trans hl.1.symm) hI (c_X5_clear l X σ_12 (q_rf X a 6) (q_tk (k' := 5) hI ha rfl (Nat.succ_ne_zero _))) kv_X1_38 (q_tk (k' := 5) hI ha rfl (Nat.succ_ne_zero _)) ⟨Nat.le_of_ble_eq_true rfl, Nat.le_of_ble_eq_true rfl⟩ (Nat.le_of_ble_eq_true rfl) dX1_reset_46) hI (Nat.le_of_ble_eq_true rfl) (fun σ_14 H locs hpσ_14 hkσ_14 hI => ?_)
  have ahpσ_14 := hpσ_14.1
  have bhpσ_14 := hpσ_14.2
  clear hpσ_14
  have fr_σ_14 := fr_σ_12.call bhpσ_14 rfl rfl
  replace hF := q_letX hF ahpσ_14
  exact q_retv E hr hlk hI ⟨(hF.trans hout), fr_σ_14⟩ dX1_reset_49

set_option maxRecDepth 100000 in
set_option maxHeartbeats 4000000 in
theorem c_X2_clear (l : Launch) (X : XW) (σ : ST) (a : Nat) (ha : q_kd X a = 3) : Met l yX2_clear (q_ws yX2_clear cX2_clear 1 none) (q_rm 0 0) (q_P X σ [.ref a]) (q_Qv X 8 σ (fun (σ' : ST) => σ' = F_X2_clear X σ a ∧ q_ow [(3, 0), (3, 1)] [] X σ σ')) 0 0 (q_reg X) := by
  refine q_met 8 (by first | exact rfl | decide +kernel) rfl (Nat.le_of_ble_eq_true rfl) (fun p e s m below meth c E hml hr hlk hI ls hl => ?_)
  have hx := E.1
  have hb := E.2.1
  have hl : lv_has ls 1 [(0, .ref a)] := hl
  have fr_σ : q_ow [(3, 0), (3, 1)] [] X σ σ := q_ow.rf
  obtain ⟨out, hout⟩ : ∃ o, o = F_X2_clear X σ a := ⟨_, rfl⟩
  have hF := hout.symm
  unfold F_X2_clear at hF
  refine lv_aload_n hx hb dX2_clear_0 rfl (lv_at hl 0 rfl) ?_
  refine lv_iconst (v := 0) hx hb dX2_clear_1 zki_0 ?_
  refine ps_X2_9_3 E hI ha (by decide) dX2_clear_2 (fun H locs σ_1 hσ_1 hI => ?_)
  replace hF := q_letX hF hσ_1
  have fr_σ_1 := fr_σ.si hσ_1 ha rfl
  refine lv_aload_n hx hb dX2_clear_5 rfl (lv_at hl 0 rfl) ?_
  refine lv_iconst (v := 0) hx hb dX2_clear_6 zki_0 ?_
  refine ps_X2_15_3 E hI ha (by decide) dX2_clear_7 (fun H locs σ_2 hσ_2 hI => ?_)
  replace hF := q_letX hF hσ_2
  have fr_σ_2 := fr_σ_1.si hσ_2 ha rfl
  exact q_retv E hr hlk hI ⟨(hF.trans hout), fr_σ_2⟩ dX2_clear_10

set_option maxRecDepth 100000 in
set_option maxHeartbeats 4000000 in
theorem c_X8_clear (l : Launch) (X : XW) (σ : ST) (a : Nat) (ha : q_kd X a = 8) : Met l yX8_clear (q_ws yX8_clear cX8_clear 1 none) (q_rm 0 0) (q_P X σ [.ref a]) (q_Qv X 8 σ (fun (σ' : ST) => σ' = F_X8_clear X σ a ∧ q_ow [(8, 0), (8, 1), (8, 2)] [] X σ σ')) 0 0 (q_reg X) := by
  refine q_met 8 (by first | exact rfl | decide +kernel) rfl (Nat.le_of_ble_eq_true rfl) (fun p e s m below meth c E hml hr hlk hI ls hl => ?_)
  have hx := E.1
  have hb := E.2.1
  have hl : lv_has ls 1 [(0, .ref a)] := hl
  have fr_σ : q_ow [(8, 0), (8, 1), (8, 2)] [] X σ σ := q_ow.rf
  obtain ⟨out, hout⟩ : ∃ o, o = F_X8_clear X σ a := ⟨_, rfl⟩
  have hF := hout.symm
  unfold F_X8_clear at hF
  refine lv_aload_n hx hb dX8_clear_0 rfl (lv_at hl 0 rfl) ?_
  refine lv_iconst (v := 0) hx hb dX8_clear_1 zki_0 ?_
  refine ps_X8_11_8 E hI ha (by decide) (by decide) (by decide) dX8_clear_2 (fun H locs σ_1 hσ_1 hI => ?_)
  replace hF := q_letX hF hσ_1
  have fr_σ_1 := fr_σ.si hσ_1 ha rfl
  refine lv_aload_n hx hb dX8_clear_5 rfl (lv_at hl 0 rfl) ?_
  refine lv_iconst (v := 0) hx hb dX8_clear_6 zki_0 ?_
  refine ps_X8_15_8 E hI ha (by decide) dX8_clear_7 (fun H locs σ_2 hσ_2 hI => ?_)
  replace hF := q_letX hF hσ_2
  have fr_σ_2 := fr_σ_1.si hσ_2 ha rfl
  refine lv_aload_n hx hb dX8_clear_10 rfl (lv_at hl 0 rfl) ?_
  refine lv_iconst (v := 0) hx hb dX8_clear_11 zki_0 ?_
  refine ps_X8_19_8 E hI ha (by decide) dX8_clear_12 (fun H locs σ_3 hσ_3 hI => ?_)
  replace hF := q_letX hF hσ_3
  have fr_σ_3 := fr_σ_2.si hσ_3 ha rfl
  exact q_retv E hr hlk hI ⟨(hF.trans hout), fr_σ_3⟩ dX8_clear_15

set_option maxRecDepth 100000 in
set_option maxHeartbeats 4000000 in
theorem c_X1_deal (l : Launch) (X : XW) (σ : ST) (a : Nat) (v1 : Int32) (v2 : Int32) (v3 : Int32) (ha : q_kd X a = 2) : Met l yX1_deal (q_ws yX1_deal cX1_deal 4 none) (q_rm 1 22) (q_P X σ [.ref a, .int v1, .int v2, .int v3]) (q_Qv X 8 σ (fun (σ' : ST) => σ' = F_X1_deal X σ a v1 v2 v3 ∧ q_ow [(20, 99)] [] X σ σ')) 0 0 (q_reg X) := by
  refine q_met 8 (by first | exact rfl | decide +kernel) rfl (Nat.le_of_ble_eq_true rfl) (fun p e s m below meth c E hml hr hlk hI ls hl => ?_)
  have hx := E.1
  have hb := E.2.1
  have hl : lv_has ls 4 [(0, .ref a), (1, .int v1), (2, .int v2), (3, .int v3)] := hl
  have fr_σ : q_ow [(20, 99)] [] X σ σ := q_ow.rf
  obtain ⟨out, hout⟩ : ∃ o, o = F_X1_deal X σ a v1 v2 v3 := ⟨_, rfl⟩
  have hF := hout.symm
  unfold F_X1_deal at hF
  refine lv_aload_n hx hb dX1_deal_0 rfl (lv_at hl 0 rfl) ?_
  refine gs_X1_14_2 E hI ha dX1_deal_1 ?_
  refine lv_iload_n hx hb dX1_deal_4 rfl (lv_at hl 1 rfl) ?_
  refine lv_bipush (v := 10) hx hb dX1_deal_5 zkb_10 ?_
  refine lv_imul hx hb dX1_deal_7 ?_
  refine lv_topi (fun z_1 ez_1 => ?_)
  replace hF := q_letX hF ez_1
  refine lv_iload_n hx hb dX1_deal_8 rfl (lv_at hl 2 rfl) ?_
  refine lv_iadd hx hb dX1_deal_9 ?_
  refine lv_topi (fun z_2 ez_2 => ?_)
  replace hF := q_letX hF ez_2
  refine lv_iload_n hx hb dX1_deal_10 rfl (lv_at hl 3 rfl) ?_
  refine q_cv (q_rV4_2 (rest := []) E (hml.trans hl.1.symm) hI (c_X5_add l X σ (q_rf X a 0) z_2 v3 (q_tk (k' := 5) hI ha rfl (Nat.succ_ne_zero _))) kv_X1_53 (q_tk (k' := 5) hI ha rfl (Nat.succ_ne_zero _)) ⟨Nat.le_of_ble_eq_true rfl, Nat.le_of_ble_eq_true rfl⟩ (Nat.le_of_ble_eq_true rfl) dX1_deal_11) hI (Nat.le_of_ble_eq_true rfl) (fun σ_4 H locs hpσ_4 hkσ_4 hI => ?_)
  have ahpσ_4 := hpσ_4.1
  have bhpσ_4 := hpσ_4.2
  clear hpσ_4
  have fr_σ_4 := fr_σ.call bhpσ_4 rfl rfl
  replace hF := q_letX hF ahpσ_4
  refine lv_aload_n hx hb dX1_deal_14 rfl (lv_at hl 0 rfl) ?_
  refine gs_X1_23_2 E hI ha dX1_deal_15 ?_
  refine lv_iload_n hx hb dX1_deal_18 rfl (lv_at hl 1 rfl) ?_
  refine lv_iload_n hx hb dX1_deal_19 rfl (lv_at hl 3 rfl) ?_
  refine q_cv (q_rV4_2 (rest := []) E (hml.trans hl.1.symm) hI (c_X5_add l X σ_4 (q_rf X a 2) v1 v3 (q_tk (k' := 5) hI ha rfl (Nat.succ_ne_zero _))) kv_X1_53 (q_tk (k' := 5) hI ha rfl (Nat.succ_ne_zero _)) ⟨Nat.le_of_ble_eq_true rfl, Nat.le_of_ble_eq_true rfl⟩ (Nat.le_of_ble_eq_true rfl) dX1_deal_20) hI (Nat.le_of_ble_eq_true rfl) (fun σ_6 H locs hpσ_6 hkσ_6 hI => ?_)
  have ahpσ_6 := hpσ_6.1
  have bhpσ_6 := hpσ_6.2
  clear hpσ_6
  have fr_σ_6 := fr_σ_4.call bhpσ_6 rfl rfl
  replace hF := q_letX hF ahpσ_6
  exact q_retv E hr hlk hI ⟨(hF.trans hout), fr_σ_6⟩ dX1_deal_23

set_option maxRecDepth 100000 in
set_option maxHeartbeats 4000000 in
theorem c_X1_copyFrom (l : Launch) (X : XW) (σ : ST) (a : Nat) (r1 : Nat) (ha : q_kd X a = 2) (hr1 : q_kd X r1 = 2) : Met l yX1_copyFrom (q_ws yX1_copyFrom cX1_copyFrom 2 none) (q_rm 1 22) (q_P X σ [.ref a, .ref r1]) (q_Qv X 8 σ (fun (σ' : ST) => σ' = F_X1_copyFrom X σ a r1 ∧ q_ow [(20, 99)] [] X σ σ')) 0 0 (q_reg X) := by
  refine q_met 8 (by first | exact rfl | decide +kernel) rfl (Nat.le_of_ble_eq_true rfl) (fun p e s m below meth c E hml hr hlk hI ls hl => ?_)
  have hx := E.1
  have hb := E.2.1
  have hl : lv_has ls 2 [(0, .ref a), (1, .ref r1)] := hl
  have fr_σ : q_ow [(20, 99)] [] X σ σ := q_ow.rf
  obtain ⟨out, hout⟩ : ∃ o, o = F_X1_copyFrom X σ a r1 := ⟨_, rfl⟩
  have hF := hout.symm
  unfold F_X1_copyFrom at hF
  refine lv_aload_n hx hb dX1_copyFrom_0 rfl (lv_at hl 0 rfl) ?_
  refine gs_X1_14_2 E hI ha dX1_copyFrom_1 ?_
  refine lv_aload_n hx hb dX1_copyFrom_4 rfl (lv_at hl 1 rfl) ?_
  refine gs_X1_14_2 E hI hr1 dX1_copyFrom_5 ?_
  refine q_cv (q_rV4_1 (rest := []) E (hml.trans hl.1.symm) hI (c_X5_copyFrom l X σ (q_rf X a 0) (q_rf X r1 0) (q_tk (k' := 5) hI ha rfl (Nat.succ_ne_zero _)) (q_tk (k' := 5) hI hr1 rfl (Nat.succ_ne_zero _))) kv_X1_41 (q_tk (k' := 5) hI ha rfl (Nat.succ_ne_zero _)) ⟨Nat.le_of_ble_eq_true rfl, Nat.le_of_ble_eq_true rfl⟩ (Nat.le_of_ble_eq_true rfl) dX1_copyFrom_8) hI (Nat.le_of_ble_eq_true rfl) (fun σ_2 H locs hpσ_2 hkσ_2 hI => ?_)
  have ahpσ_2 := hpσ_2.1
  have bhpσ_2 := hpσ_2.2
  clear hpσ_2
  have fr_σ_2 := fr_σ.call bhpσ_2 rfl rfl
  replace hF := q_letX hF ahpσ_2
  refine lv_aload_n hx hb dX1_copyFrom_11 rfl (lv_at hl 0 rfl) ?_
  refine gs_X1_20_2 E hI ha dX1_copyFrom_12 ?_
  refine lv_aload_n hx hb dX1_copyFrom_15 rfl (lv_at hl 1 rfl) ?_
  refine gs_X1_20_2 E hI hr1 dX1_copyFrom_16 ?_
  refine q_cv (q_rV4_1 (rest := []) E (hml.trans hl.1.symm) hI (c_X5_copyFrom l X σ_2 (q_rf X a 1) (q_rf X r1 1) (q_tk (k' := 5) hI ha rfl (Nat.succ_ne_zero _)) (q_tk (k' := 5) hI hr1 rfl (Nat.succ_ne_zero _))) kv_X1_41 (q_tk (k' := 5) hI ha rfl (Nat.succ_ne_zero _)) ⟨Nat.le_of_ble_eq_true rfl, Nat.le_of_ble_eq_true rfl⟩ (Nat.le_of_ble_eq_true rfl) dX1_copyFrom_19) hI (Nat.le_of_ble_eq_true rfl) (fun σ_4 H locs hpσ_4 hkσ_4 hI => ?_)
  have ahpσ_4 := hpσ_4.1
  have bhpσ_4 := hpσ_4.2
  clear hpσ_4
  have fr_σ_4 := fr_σ_2.call bhpσ_4 rfl rfl
  replace hF := q_letX hF ahpσ_4
  refine lv_aload_n hx hb dX1_copyFrom_22 rfl (lv_at hl 0 rfl) ?_
  refine gs_X1_23_2 E hI ha dX1_copyFrom_23 ?_
  refine lv_aload_n hx hb dX1_copyFrom_26 rfl (lv_at hl 1 rfl) ?_
  refine gs_X1_23_2 E hI hr1 dX1_copyFrom_27 ?_
  refine q_cv (q_rV4_1 (rest := []) E (hml.trans hl.1.symm) hI (c_X5_copyFrom l X σ_4 (q_rf X a 2) (q_rf X r1 2) (q_tk (k' := 5) hI ha rfl (Nat.succ_ne_zero _)) (q_tk (k' := 5) hI hr1 rfl (Nat.succ_ne_zero _))) kv_X1_41 (q_tk (k' := 5) hI ha rfl (Nat.succ_ne_zero _)) ⟨Nat.le_of_ble_eq_true rfl, Nat.le_of_ble_eq_true rfl⟩ (Nat.le_of_ble_eq_true rfl) dX1_copyFrom_30) hI (Nat.le_of_ble_eq_true rfl) (fun σ_6 H locs hpσ_6 hkσ_6 hI => ?_)
  have ahpσ_6 := hpσ_6.1
  have bhpσ_6 := hpσ_6.2
  clear hpσ_6
  have fr_σ_6 := fr_σ_4.call bhpσ_6 rfl rfl
  replace hF := q_letX hF ahpσ_6
  refine lv_aload_n hx hb dX1_copyFrom_33 rfl (lv_at hl 0 rfl) ?_
  refine gs_X1_26_2 E hI ha dX1_copyFrom_34 ?_
  refine lv_aload_n hx hb dX1_copyFrom_37 rfl (lv_at hl 1 rfl) ?_
  refine gs_X1_26_2 E hI hr1 dX1_copyFrom_38 ?_
  refine q_cv (q_rV4_1 (rest := []) E (hml.trans hl.1.symm) hI (c_X5_copyFrom l X σ_6 (q_rf X a 3) (q_rf X r1 3) (q_tk (k' := 5) hI ha rfl (Nat.succ_ne_zero _)) (q_tk (k' := 5) hI hr1 rfl (Nat.succ_ne_zero _))) kv_X1_41 (q_tk (k' := 5) hI ha rfl (Nat.succ_ne_zero _)) ⟨Nat.le_of_ble_eq_true rfl, Nat.le_of_ble_eq_true rfl⟩ (Nat.le_of_ble_eq_true rfl) dX1_copyFrom_41) hI (Nat.le_of_ble_eq_true rfl) (fun σ_8 H locs hpσ_8 hkσ_8 hI => ?_)
  have ahpσ_8 := hpσ_8.1
  have bhpσ_8 := hpσ_8.2
  clear hpσ_8
  have fr_σ_8 := fr_σ_6.call bhpσ_8 rfl rfl
  replace hF := q_letX hF ahpσ_8
  refine lv_aload_n hx hb dX1_copyFrom_44 rfl (lv_at hl 0 rfl) ?_
  refine gs_X1_29_2 E hI ha dX1_copyFrom_45 ?_
  refine lv_aload_n hx hb dX1_copyFrom_48 rfl (lv_at hl 1 rfl) ?_
  refine gs_X1_29_2 E hI hr1 dX1_copyFrom_49 ?_
  refine q_cv (q_rV4_1 (rest := []) E (hml.trans hl.1.symm) hI (c_X5_copyFrom l X σ_8 (q_rf X a 4) (q_rf X r1 4) (q_tk (k' := 5) hI ha rfl (Nat.succ_ne_zero _)) (q_tk (k' := 5) hI hr1 rfl (Nat.succ_ne_zero _))) kv_X1_41 (q_tk (k' := 5) hI ha rfl (Nat.succ_ne_zero _)) ⟨Nat.le_of_ble_eq_true rfl, Nat.le_of_ble_eq_true rfl⟩ (Nat.le_of_ble_eq_true rfl) dX1_copyFrom_52) hI (Nat.le_of_ble_eq_true rfl) (fun σ_10 H locs hpσ_10 hkσ_10 hI => ?_)
  have ahpσ_10 := hpσ_10.1
  have bhpσ_10 := hpσ_10.2
  clear hpσ_10
  have fr_σ_10 := fr_σ_8.call bhpσ_10 rfl rfl
  replace hF := q_letX hF ahpσ_10
  refine lv_aload_n hx hb dX1_copyFrom_55 rfl (lv_at hl 0 rfl) ?_
  refine gs_X1_32_2 E hI ha dX1_copyFrom_56 ?_
  refine lv_aload_n hx hb dX1_copyFrom_59 rfl (lv_at hl 1 rfl) ?_
  refine gs_X1_32_2 E hI hr1 dX1_copyFrom_60 ?_
  refine q_cv (q_rV4_1 (rest := []) E (hml.trans hl.1.symm) hI (c_X5_copyFrom l X σ_10 (q_rf X a 5) (q_rf X r1 5) (q_tk (k' := 5) hI ha rfl (Nat.succ_ne_zero _)) (q_tk (k' := 5) hI hr1 rfl (Nat.succ_ne_zero _))) kv_X1_41 (q_tk (k' := 5) hI ha rfl (Nat.succ_ne_zero _)) ⟨Nat.le_of_ble_eq_true rfl, Nat.le_of_ble_eq_true rfl⟩ (Nat.le_of_ble_eq_true rfl) dX1_copyFrom_63) hI (Nat.le_of_ble_eq_true rfl) (fun σ_12 H locs hpσ_12 hkσ_12 hI => ?_)
  have ahpσ_12 := hpσ_12.1
  have bhpσ_12 := hpσ_12.2
  clear hpσ_12
  have fr_σ_12 := fr_σ_10.call bhpσ_12 rfl rfl
  replace hF := q_letX hF ahpσ_12
  refine lv_aload_n hx hb dX1_copyFrom_66 rfl (lv_at hl 0 rfl) ?_
  refine gs_X1_35_2 E hI ha dX1_copyFrom_67 ?_
  refine lv_aload_n hx hb dX1_copyFrom_70 rfl (lv_at hl 1 rfl) ?_
  refine gs_X1_35_2 E hI hr1 dX1_copyFrom_71 ?_
  refine q_cv (q_rV4_1 (rest := []) E (hml.trans hl.1.symm) hI (c_X5_copyFrom l X σ_12 (q_rf X a 6) (q_rf X r1 6) (q_tk (k' := 5) hI ha rfl (Nat.succ_ne_zero _)) (q_tk (k' := 5) hI hr1 rfl (Nat.succ_ne_zero _))) kv_X1_41 (q_tk (k' := 5) hI ha rfl (Nat.succ_ne_zero _)) ⟨Nat.le_of_ble_eq_true rfl, Nat.le_of_ble_eq_true rfl⟩ (Nat.le_of_ble_eq_true rfl) dX1_copyFrom_74) hI (Nat.le_of_ble_eq_true rfl) (fun σ_14 H locs hpσ_14 hkσ_14 hI => ?_)
  have ahpσ_14 := hpσ_14.1
  have bhpσ_14 := hpσ_14.2
  clear hpσ_14
  have fr_σ_14 := fr_σ_12.call bhpσ_14 rfl rfl
  replace hF := q_letX hF ahpσ_14
  exact q_retv E hr hlk hI ⟨(hF.trans hout), fr_σ_14⟩ dX1_copyFrom_77

set_option maxRecDepth 100000 in
set_option maxHeartbeats 4000000 in
theorem c_X2_copyFrom (l : Launch) (X : XW) (σ : ST) (a : Nat) (r1 : Nat) (ha : q_kd X a = 3) (hr1 : q_kd X r1 = 3) : Met l yX2_copyFrom (q_ws yX2_copyFrom cX2_copyFrom 2 none) (q_rm 1 22) (q_P X σ [.ref a, .ref r1]) (q_Qv X 8 σ (fun (σ' : ST) => σ' = F_X2_copyFrom X σ a r1 ∧ q_ow [(3, 0), (3, 1), (20, 99)] [] X σ σ')) 0 0 (q_reg X) := by
  refine q_met 8 (by first | exact rfl | decide +kernel) rfl (Nat.le_of_ble_eq_true rfl) (fun p e s m below meth c E hml hr hlk hI ls hl => ?_)
  have hx := E.1
  have hb := E.2.1
  have hl : lv_has ls 2 [(0, .ref a), (1, .ref r1)] := hl
  have fr_σ : q_ow [(3, 0), (3, 1), (20, 99)] [] X σ σ := q_ow.rf
  obtain ⟨out, hout⟩ : ∃ o, o = F_X2_copyFrom X σ a r1 := ⟨_, rfl⟩
  have hF := hout.symm
  unfold F_X2_copyFrom at hF
  refine lv_aload_n hx hb dX2_copyFrom_0 rfl (lv_at hl 0 rfl) ?_
  refine lv_aload_n hx hb dX2_copyFrom_1 rfl (lv_at hl 1 rfl) ?_
  refine gs_X2_9_3 E hI hr1 dX2_copyFrom_2 ?_
  refine lv_topi (fun f_1 ef_1 => ?_)
  replace hF := q_letX hF ef_1
  refine ps_X2_9_3 E hI ha (by decide) dX2_copyFrom_5 (fun H locs σ_2 hσ_2 hI => ?_)
  replace hF := q_letX hF hσ_2
  have fr_σ_2 := fr_σ.si hσ_2 ha rfl
  refine lv_aload_n hx hb dX2_copyFrom_8 rfl (lv_at hl 0 rfl) ?_
  refine lv_aload_n hx hb dX2_copyFrom_9 rfl (lv_at hl 1 rfl) ?_
  refine gs_X2_15_3 E hI hr1 dX2_copyFrom_10 ?_
  refine lv_topi (fun f_3 ef_3 => ?_)
  replace hF := q_letX hF ef_3
  refine ps_X2_15_3 E hI ha (by decide) dX2_copyFrom_13 (fun H locs σ_4 hσ_4 hI => ?_)
  replace hF := q_letX hF hσ_4
  have fr_σ_4 := fr_σ_2.si hσ_4 ha rfl
  refine lv_aload_n hx hb dX2_copyFrom_16 rfl (lv_at hl 0 rfl) ?_
  refine gs_X2_23_3 E hI ha dX2_copyFrom_17 ?_
  refine lv_aload_n hx hb dX2_copyFrom_20 rfl (lv_at hl 1 rfl) ?_
  refine gs_X2_23_3 E hI hr1 dX2_copyFrom_21 ?_
  refine q_cv (q_rV4_1 (rest := []) E (hml.trans hl.1.symm) hI (c_X5_copyFrom l X σ_4 (q_rf X a 2) (q_rf X r1 2) (q_tk (k' := 5) hI ha rfl (Nat.succ_ne_zero _)) (q_tk (k' := 5) hI hr1 rfl (Nat.succ_ne_zero _))) kv_X2_36 (q_tk (k' := 5) hI ha rfl (Nat.succ_ne_zero _)) ⟨Nat.le_of_ble_eq_true rfl, Nat.le_of_ble_eq_true rfl⟩ (Nat.le_of_ble_eq_true rfl) dX2_copyFrom_24) hI (Nat.le_of_ble_eq_true rfl) (fun σ_6 H locs hpσ_6 hkσ_6 hI => ?_)
  have ahpσ_6 := hpσ_6.1
  have bhpσ_6 := hpσ_6.2
  clear hpσ_6
  have fr_σ_6 := fr_σ_4.call bhpσ_6 rfl rfl
  replace hF := q_letX hF ahpσ_6
  refine lv_aload_n hx hb dX2_copyFrom_27 rfl (lv_at hl 0 rfl) ?_
  refine gs_X2_27_3 E hI ha dX2_copyFrom_28 ?_
  refine lv_aload_n hx hb dX2_copyFrom_31 rfl (lv_at hl 1 rfl) ?_
  refine gs_X2_27_3 E hI hr1 dX2_copyFrom_32 ?_
  refine q_cv (q_rV4_1 (rest := []) E (hml.trans hl.1.symm) hI (c_X5_copyFrom l X σ_6 (q_rf X a 3) (q_rf X r1 3) (q_tk (k' := 5) hI ha rfl (Nat.succ_ne_zero _)) (q_tk (k' := 5) hI hr1 rfl (Nat.succ_ne_zero _))) kv_X2_36 (q_tk (k' := 5) hI ha rfl (Nat.succ_ne_zero _)) ⟨Nat.le_of_ble_eq_true rfl, Nat.le_of_ble_eq_true rfl⟩ (Nat.le_of_ble_eq_true rfl) dX2_copyFrom_35) hI (Nat.le_of_ble_eq_true rfl) (fun σ_8 H locs hpσ_8 hkσ_8 hI => ?_)
  have ahpσ_8 := hpσ_8.1
  have bhpσ_8 := hpσ_8.2
  clear hpσ_8
  have fr_σ_8 := fr_σ_6.call bhpσ_8 rfl rfl
  replace hF := q_letX hF ahpσ_8
  refine lv_aload_n hx hb dX2_copyFrom_38 rfl (lv_at hl 0 rfl) ?_
  refine gs_X2_30_3 E hI ha dX2_copyFrom_39 ?_
  refine lv_aload_n hx hb dX2_copyFrom_42 rfl (lv_at hl 1 rfl) ?_
  refine gs_X2_30_3 E hI hr1 dX2_copyFrom_43 ?_
  refine q_cv (q_rV4_1 (rest := []) E (hml.trans hl.1.symm) hI (c_X5_copyFrom l X σ_8 (q_rf X a 4) (q_rf X r1 4) (q_tk (k' := 5) hI ha rfl (Nat.succ_ne_zero _)) (q_tk (k' := 5) hI hr1 rfl (Nat.succ_ne_zero _))) kv_X2_36 (q_tk (k' := 5) hI ha rfl (Nat.succ_ne_zero _)) ⟨Nat.le_of_ble_eq_true rfl, Nat.le_of_ble_eq_true rfl⟩ (Nat.le_of_ble_eq_true rfl) dX2_copyFrom_46) hI (Nat.le_of_ble_eq_true rfl) (fun σ_10 H locs hpσ_10 hkσ_10 hI => ?_)
  have ahpσ_10 := hpσ_10.1
  have bhpσ_10 := hpσ_10.2
  clear hpσ_10
  have fr_σ_10 := fr_σ_8.call bhpσ_10 rfl rfl
  replace hF := q_letX hF ahpσ_10
  refine lv_aload_n hx hb dX2_copyFrom_49 rfl (lv_at hl 0 rfl) ?_
  refine gs_X2_33_3 E hI ha dX2_copyFrom_50 ?_
  refine lv_aload_n hx hb dX2_copyFrom_53 rfl (lv_at hl 1 rfl) ?_
  refine gs_X2_33_3 E hI hr1 dX2_copyFrom_54 ?_
  refine q_cv (q_rV4_1 (rest := []) E (hml.trans hl.1.symm) hI (c_X5_copyFrom l X σ_10 (q_rf X a 5) (q_rf X r1 5) (q_tk (k' := 5) hI ha rfl (Nat.succ_ne_zero _)) (q_tk (k' := 5) hI hr1 rfl (Nat.succ_ne_zero _))) kv_X2_36 (q_tk (k' := 5) hI ha rfl (Nat.succ_ne_zero _)) ⟨Nat.le_of_ble_eq_true rfl, Nat.le_of_ble_eq_true rfl⟩ (Nat.le_of_ble_eq_true rfl) dX2_copyFrom_57) hI (Nat.le_of_ble_eq_true rfl) (fun σ_12 H locs hpσ_12 hkσ_12 hI => ?_)
  have ahpσ_12 := hpσ_12.1
  have bhpσ_12 := hpσ_12.2
  clear hpσ_12
  have fr_σ_12 := fr_σ_10.call bhpσ_12 rfl rfl
  replace hF := q_letX hF ahpσ_12
  exact q_retv E hr hlk hI ⟨(hF.trans hout), fr_σ_12⟩ dX2_copyFrom_60

set_option maxRecDepth 100000 in
set_option maxHeartbeats 4000000 in
theorem c_X8_copyFrom (l : Launch) (X : XW) (σ : ST) (a : Nat) (r1 : Nat) (ha : q_kd X a = 8) (hr1 : q_kd X r1 = 8) : Met l yX8_copyFrom (q_ws yX8_copyFrom cX8_copyFrom 2 none) (q_rm 1 22) (q_P X σ [.ref a, .ref r1]) (q_Qv X 8 σ (fun (σ' : ST) => σ' = F_X8_copyFrom X σ a r1 ∧ q_ow [(8, 0), (8, 1), (8, 2), (20, 99)] [] X σ σ')) 0 0 (q_reg X) := by
  refine q_met 8 (by first | exact rfl | decide +kernel) rfl (Nat.le_of_ble_eq_true rfl) (fun p e s m below meth c E hml hr hlk hI ls hl => ?_)
  have hx := E.1
  have hb := E.2.1
  have hl : lv_has ls 2 [(0, .ref a), (1, .ref r1)] := hl
  have fr_σ : q_ow [(8, 0), (8, 1), (8, 2), (20, 99)] [] X σ σ := q_ow.rf
  obtain ⟨out, hout⟩ : ∃ o, o = F_X8_copyFrom X σ a r1 := ⟨_, rfl⟩
  have hF := hout.symm
  unfold F_X8_copyFrom at hF
  refine lv_aload_n hx hb dX8_copyFrom_0 rfl (lv_at hl 0 rfl) ?_
  refine lv_aload_n hx hb dX8_copyFrom_1 rfl (lv_at hl 1 rfl) ?_
  refine gs_X8_11_8 E hI hr1 dX8_copyFrom_2 ?_
  refine lv_topi (fun f_1 ef_1 => ?_)
  replace hF := q_letX hF ef_1
  have bf_1 : 0 ≤ f_1.toInt ∧ f_1.toInt ≤ 1 := by rw [ef_1]; exact q_bd hI hr1 rfl
  refine ps_X8_11_8 E hI ha (by decide) (by omega) (by omega) dX8_copyFrom_5 (fun H locs σ_2 hσ_2 hI => ?_)
  replace hF := q_letX hF hσ_2
  have fr_σ_2 := fr_σ.si hσ_2 ha rfl
  refine lv_aload_n hx hb dX8_copyFrom_8 rfl (lv_at hl 0 rfl) ?_
  refine lv_aload_n hx hb dX8_copyFrom_9 rfl (lv_at hl 1 rfl) ?_
  refine gs_X8_15_8 E hI hr1 dX8_copyFrom_10 ?_
  refine lv_topi (fun f_3 ef_3 => ?_)
  replace hF := q_letX hF ef_3
  refine ps_X8_15_8 E hI ha (by decide) dX8_copyFrom_13 (fun H locs σ_4 hσ_4 hI => ?_)
  replace hF := q_letX hF hσ_4
  have fr_σ_4 := fr_σ_2.si hσ_4 ha rfl
  refine lv_aload_n hx hb dX8_copyFrom_16 rfl (lv_at hl 0 rfl) ?_
  refine lv_aload_n hx hb dX8_copyFrom_17 rfl (lv_at hl 1 rfl) ?_
  refine gs_X8_19_8 E hI hr1 dX8_copyFrom_18 ?_
  refine lv_topi (fun f_5 ef_5 => ?_)
  replace hF := q_letX hF ef_5
  refine ps_X8_19_8 E hI ha (by decide) dX8_copyFrom_21 (fun H locs σ_6 hσ_6 hI => ?_)
  replace hF := q_letX hF hσ_6
  have fr_σ_6 := fr_σ_4.si hσ_6 ha rfl
  refine lv_aload_n hx hb dX8_copyFrom_24 rfl (lv_at hl 0 rfl) ?_
  refine gs_X8_27_8 E hI ha dX8_copyFrom_25 ?_
  refine lv_aload_n hx hb dX8_copyFrom_28 rfl (lv_at hl 1 rfl) ?_
  refine gs_X8_27_8 E hI hr1 dX8_copyFrom_29 ?_
  refine q_cv (q_rV4_1 (rest := []) E (hml.trans hl.1.symm) hI (c_X5_copyFrom l X σ_6 (q_rf X a 3) (q_rf X r1 3) (q_tk (k' := 5) hI ha rfl (Nat.succ_ne_zero _)) (q_tk (k' := 5) hI hr1 rfl (Nat.succ_ne_zero _))) kv_X8_43 (q_tk (k' := 5) hI ha rfl (Nat.succ_ne_zero _)) ⟨Nat.le_of_ble_eq_true rfl, Nat.le_of_ble_eq_true rfl⟩ (Nat.le_of_ble_eq_true rfl) dX8_copyFrom_32) hI (Nat.le_of_ble_eq_true rfl) (fun σ_8 H locs hpσ_8 hkσ_8 hI => ?_)
  have ahpσ_8 := hpσ_8.1
  have bhpσ_8 := hpσ_8.2
  clear hpσ_8
  have fr_σ_8 := fr_σ_6.call bhpσ_8 rfl rfl
  replace hF := q_letX hF ahpσ_8
  refine lv_aload_n hx hb dX8_copyFrom_35 rfl (lv_at hl 0 rfl) ?_
  refine gs_X8_31_8 E hI ha dX8_copyFrom_36 ?_
  refine lv_aload_n hx hb dX8_copyFrom_39 rfl (lv_at hl 1 rfl) ?_
  refine gs_X8_31_8 E hI hr1 dX8_copyFrom_40 ?_
  refine q_cv (q_rV4_1 (rest := []) E (hml.trans hl.1.symm) hI (c_X5_copyFrom l X σ_8 (q_rf X a 4) (q_rf X r1 4) (q_tk (k' := 5) hI ha rfl (Nat.succ_ne_zero _)) (q_tk (k' := 5) hI hr1 rfl (Nat.succ_ne_zero _))) kv_X8_43 (q_tk (k' := 5) hI ha rfl (Nat.succ_ne_zero _)) ⟨Nat.le_of_ble_eq_true rfl, Nat.le_of_ble_eq_true rfl⟩ (Nat.le_of_ble_eq_true rfl) dX8_copyFrom_43) hI (Nat.le_of_ble_eq_true rfl) (fun σ_10 H locs hpσ_10 hkσ_10 hI => ?_)
  have ahpσ_10 := hpσ_10.1
  have bhpσ_10 := hpσ_10.2
  clear hpσ_10
  have fr_σ_10 := fr_σ_8.call bhpσ_10 rfl rfl
  replace hF := q_letX hF ahpσ_10
  refine lv_aload_n hx hb dX8_copyFrom_46 rfl (lv_at hl 0 rfl) ?_
  refine gs_X8_34_8 E hI ha dX8_copyFrom_47 ?_
  refine lv_aload_n hx hb dX8_copyFrom_50 rfl (lv_at hl 1 rfl) ?_
  refine gs_X8_34_8 E hI hr1 dX8_copyFrom_51 ?_
  refine q_cv (q_rV4_1 (rest := []) E (hml.trans hl.1.symm) hI (c_X5_copyFrom l X σ_10 (q_rf X a 5) (q_rf X r1 5) (q_tk (k' := 5) hI ha rfl (Nat.succ_ne_zero _)) (q_tk (k' := 5) hI hr1 rfl (Nat.succ_ne_zero _))) kv_X8_43 (q_tk (k' := 5) hI ha rfl (Nat.succ_ne_zero _)) ⟨Nat.le_of_ble_eq_true rfl, Nat.le_of_ble_eq_true rfl⟩ (Nat.le_of_ble_eq_true rfl) dX8_copyFrom_54) hI (Nat.le_of_ble_eq_true rfl) (fun σ_12 H locs hpσ_12 hkσ_12 hI => ?_)
  have ahpσ_12 := hpσ_12.1
  have bhpσ_12 := hpσ_12.2
  clear hpσ_12
  have fr_σ_12 := fr_σ_10.call bhpσ_12 rfl rfl
  replace hF := q_letX hF ahpσ_12
  refine lv_aload_n hx hb dX8_copyFrom_57 rfl (lv_at hl 0 rfl) ?_
  refine gs_X8_37_8 E hI ha dX8_copyFrom_58 ?_
  refine lv_aload_n hx hb dX8_copyFrom_61 rfl (lv_at hl 1 rfl) ?_
  refine gs_X8_37_8 E hI hr1 dX8_copyFrom_62 ?_
  refine q_cv (q_rV4_1 (rest := []) E (hml.trans hl.1.symm) hI (c_X5_copyFrom l X σ_12 (q_rf X a 6) (q_rf X r1 6) (q_tk (k' := 5) hI ha rfl (Nat.succ_ne_zero _)) (q_tk (k' := 5) hI hr1 rfl (Nat.succ_ne_zero _))) kv_X8_43 (q_tk (k' := 5) hI ha rfl (Nat.succ_ne_zero _)) ⟨Nat.le_of_ble_eq_true rfl, Nat.le_of_ble_eq_true rfl⟩ (Nat.le_of_ble_eq_true rfl) dX8_copyFrom_65) hI (Nat.le_of_ble_eq_true rfl) (fun σ_14 H locs hpσ_14 hkσ_14 hI => ?_)
  have ahpσ_14 := hpσ_14.1
  have bhpσ_14 := hpσ_14.2
  clear hpσ_14
  have fr_σ_14 := fr_σ_12.call bhpσ_14 rfl rfl
  replace hF := q_letX hF ahpσ_14
  refine lv_aload_n hx hb dX8_copyFrom_68 rfl (lv_at hl 0 rfl) ?_
  refine gs_X8_40_8 E hI ha dX8_copyFrom_69 ?_
  refine lv_aload_n hx hb dX8_copyFrom_72 rfl (lv_at hl 1 rfl) ?_
  refine gs_X8_40_8 E hI hr1 dX8_copyFrom_73 ?_
  refine q_cv (q_rV4_1 (rest := []) E (hml.trans hl.1.symm) hI (c_X5_copyFrom l X σ_14 (q_rf X a 7) (q_rf X r1 7) (q_tk (k' := 5) hI ha rfl (Nat.succ_ne_zero _)) (q_tk (k' := 5) hI hr1 rfl (Nat.succ_ne_zero _))) kv_X8_43 (q_tk (k' := 5) hI ha rfl (Nat.succ_ne_zero _)) ⟨Nat.le_of_ble_eq_true rfl, Nat.le_of_ble_eq_true rfl⟩ (Nat.le_of_ble_eq_true rfl) dX8_copyFrom_76) hI (Nat.le_of_ble_eq_true rfl) (fun σ_16 H locs hpσ_16 hkσ_16 hI => ?_)
  have ahpσ_16 := hpσ_16.1
  have bhpσ_16 := hpσ_16.2
  clear hpσ_16
  have fr_σ_16 := fr_σ_14.call bhpσ_16 rfl rfl
  replace hF := q_letX hF ahpσ_16
  exact q_retv E hr hlk hI ⟨(hF.trans hout), fr_σ_16⟩ dX8_copyFrom_79

set_option maxRecDepth 100000 in
set_option maxHeartbeats 4000000 in
theorem c_X8_add (l : Launch) (X : XW) (σ : ST) (a : Nat) (v1 : Int32) (ha : q_kd X a = 8) : Met l yX8_add (q_ws yX8_add cX8_add 2 (some .int)) (q_rm 1 22) (q_P X σ [.ref a, .int v1]) (q_Qi X 8 σ (fun (r : Int32) (σ' : ST) => (r, σ') = F_X8_add X σ a v1 ∧ q_ow [(8, 2), (20, 99)] [] X σ σ')) 0 0 (q_reg X) := by
  refine q_met 8 (by first | exact rfl | decide +kernel) rfl (Nat.le_of_ble_eq_true rfl) (fun p e s m below meth c E hml hr hlk hI ls hl => ?_)
  have hx := E.1
  have hb := E.2.1
  have hl : lv_has ls 2 [(0, .ref a), (1, .int v1)] := hl
  have fr_σ : q_ow [(8, 2), (20, 99)] [] X σ σ := q_ow.rf
  obtain ⟨out, hout⟩ : ∃ o, o = F_X8_add X σ a v1 := ⟨_, rfl⟩
  have hF := hout.symm
  unfold F_X8_add at hF
  refine lv_aload_n hx hb dX8_add_0 rfl (lv_at hl 0 rfl) ?_
  refine gs_X8_27_8 E hI ha dX8_add_1 ?_
  refine lv_aload_n hx hb dX8_add_4 rfl (lv_at hl 0 rfl) ?_
  refine gs_X8_19_8 E hI ha dX8_add_5 ?_
  refine lv_topi (fun f_1 ef_1 => ?_)
  replace hF := q_letX hF ef_1
  refine lv_iload_n hx hb dX8_add_8 rfl (lv_at hl 1 rfl) ?_
  refine q_cv (q_rV4_2 (rest := []) E (hml.trans hl.1.symm) hI (c_X5_set l X σ (q_rf X a 3) f_1 v1 (q_tk (k' := 5) hI ha rfl (Nat.succ_ne_zero _))) kv_X8_47 (q_tk (k' := 5) hI ha rfl (Nat.succ_ne_zero _)) ⟨Nat.le_of_ble_eq_true rfl, Nat.le_of_ble_eq_true rfl⟩ (Nat.le_of_ble_eq_true rfl) dX8_add_9) hI (Nat.le_of_ble_eq_true rfl) (fun σ_3 H locs hpσ_3 hkσ_3 hI => ?_)
  have ahpσ_3 := hpσ_3.1
  have bhpσ_3 := hpσ_3.2
  clear hpσ_3
  have fr_σ_3 := fr_σ.call bhpσ_3 rfl rfl
  replace hF := q_letX hF ahpσ_3
  refine lv_aload_n hx hb dX8_add_12 rfl (lv_at hl 0 rfl) ?_
  refine lv_dup hx hb dX8_add_13 rfl ?_
  refine gs_X8_19_8 E hI ha dX8_add_14 ?_
  refine lv_topi (fun f_4 ef_4 => ?_)
  replace hF := q_letX hF ef_4
  refine lv_iconst (v := 1) hx hb dX8_add_17 zki_1 ?_
  refine lv_iadd hx hb dX8_add_18 ?_
  refine lv_topi (fun z_5 ez_5 => ?_)
  replace hF := q_letX hF ez_5
  refine ps_X8_19_8 E hI ha (by decide) dX8_add_19 (fun H locs σ_6 hσ_6 hI => ?_)
  replace hF := q_letX hF hσ_6
  have fr_σ_6 := fr_σ_3.si hσ_6 ha rfl
  refine lv_aload_n hx hb dX8_add_22 rfl (lv_at hl 0 rfl) ?_
  refine gs_X8_19_8 E hI ha dX8_add_23 ?_
  refine lv_topi (fun f_7 ef_7 => ?_)
  replace hF := q_letX hF ef_7
  refine lv_iconst (v := 1) hx hb dX8_add_26 zki_1 ?_
  refine lv_isub hx hb dX8_add_27 ?_
  refine lv_topi (fun z_8 ez_8 => ?_)
  replace hF := q_letX hF ez_8
  exact q_reti E hr hlk hI ⟨(hF.trans hout), fr_σ_6⟩ dX8_add_28

set_option maxRecDepth 100000 in
set_option maxHeartbeats 4000000 in
theorem c_X8_isWhen (l : Launch) (X : XW) (σ : ST) (v0 : Int32) : Met l yX8_isWhen (q_ws yX8_isWhen cX8_isWhen 1 (some .boolean)) (q_rm 0 0) (q_P X σ [.int v0]) (q_Qi X 9 σ (fun (r : Int32) (σ' : ST) => σ' = σ ∧ (0 ≤ r.toInt ∧ r.toInt ≤ 1) ∧ r = F_X8_isWhen X σ v0)) 0 0 (q_reg X) := by
  refine q_met 9 (by first | exact rfl | decide +kernel) rfl (Nat.le_of_ble_eq_true rfl) (fun p e s m below meth c E hml hr hlk hI ls hl => ?_)
  have hx := E.1
  have hb := E.2.1
  have hl : lv_has ls 1 [(0, .int v0)] := hl
  obtain ⟨out, hout⟩ : ∃ o, o = F_X8_isWhen X σ v0 := ⟨_, rfl⟩
  have hF := hout.symm
  unfold F_X8_isWhen at hF
  refine lv_iload_n hx hb dX8_isWhen_0 rfl (lv_at hl 0 rfl) ?_
  refine lv_iconst (v := 5) hx hb dX8_isWhen_1 zki_5 ?_
  refine q_icmp_lt (A := v0.toInt) (B := 5) E rfl (by decide) (tgt := 15) dX8_isWhen_2 (by decide) (fun c_1 => ?_) (fun c_1 => ?_)
  · skip
    replace hF := q_ifp hF c_1
    refine lv_iconst (v := 0) hx hb dX8_isWhen_15 zki_0 ?_
    have hrv : (0 : Int32).toInt = 0 := zt_0
    exact q_retz E hr hlk hI ⟨by decide, by decide⟩ ⟨rfl, ⟨by decide, by decide⟩, (hF.trans hout)⟩ dX8_isWhen_16
  · skip
    replace hF := q_ifn hF (Int.not_lt.mpr c_1)
    refine lv_iload_n hx hb dX8_isWhen_5 rfl (lv_at hl 0 rfl) ?_
    refine lv_bipush (v := 8) hx hb dX8_isWhen_6 zkb_8 ?_
    refine q_icmp_gt (A := v0.toInt) (B := 8) E rfl (by decide) (tgt := 15) dX8_isWhen_8 (by decide) (fun c_2 => ?_) (fun c_2 => ?_)
    · skip
      replace hF := q_ifp hF c_2
      refine lv_iconst (v := 0) hx hb dX8_isWhen_15 zki_0 ?_
      have hrv : (0 : Int32).toInt = 0 := zt_0
      exact q_retz E hr hlk hI ⟨by decide, by decide⟩ ⟨rfl, ⟨by decide, by decide⟩, (hF.trans hout)⟩ dX8_isWhen_16
    · skip
      replace hF := q_ifn hF (Int.not_lt.mpr c_2)
      refine lv_iconst (v := 1) hx hb dX8_isWhen_11 zki_1 ?_
      refine lv_goto (tgt := 16) hx hb dX8_isWhen_12 (by decide) ?_
      have hrv : (1 : Int32).toInt = 1 := zt_1
      exact q_retz E hr hlk hI ⟨by decide, by decide⟩ ⟨rfl, ⟨by decide, by decide⟩, (hF.trans hout)⟩ dX8_isWhen_16

set_option maxRecDepth 100000 in
set_option maxHeartbeats 4000000 in
theorem c_X8_hasName (l : Launch) (X : XW) (σ : ST) (v0 : Int32) : Met l yX8_hasName (q_ws yX8_hasName cX8_hasName 1 (some .boolean)) (q_rm 0 0) (q_P X σ [.int v0]) (q_Qi X 9 σ (fun (r : Int32) (σ' : ST) => σ' = σ ∧ (0 ≤ r.toInt ∧ r.toInt ≤ 1) ∧ r = F_X8_hasName X σ v0)) 0 0 (q_reg X) := by
  refine q_met 9 (by first | exact rfl | decide +kernel) rfl (Nat.le_of_ble_eq_true rfl) (fun p e s m below meth c E hml hr hlk hI ls hl => ?_)
  have hx := E.1
  have hb := E.2.1
  have hl : lv_has ls 1 [(0, .int v0)] := hl
  obtain ⟨out, hout⟩ : ∃ o, o = F_X8_hasName X σ v0 := ⟨_, rfl⟩
  have hF := hout.symm
  unfold F_X8_hasName at hF
  refine lv_iload_n hx hb dX8_hasName_0 rfl (lv_at hl 0 rfl) ?_
  refine lv_iconst (v := 1) hx hb dX8_hasName_1 zki_1 ?_
  refine q_icmp_eq (A := v0.toInt) (B := 1) E rfl (by decide) (tgt := 21) dX8_hasName_2 (by decide) (fun c_1 => ?_) (fun c_1 => ?_)
  · skip
    replace hF := q_ifp hF c_1
    refine lv_iconst (v := 1) hx hb dX8_hasName_21 zki_1 ?_
    refine lv_goto (tgt := 26) hx hb dX8_hasName_22 (by decide) ?_
    have hrv : (1 : Int32).toInt = 1 := zt_1
    exact q_retz E hr hlk hI ⟨by decide, by decide⟩ ⟨rfl, ⟨by decide, by decide⟩, (hF.trans hout)⟩ dX8_hasName_26
  · skip
    replace hF := q_ifn hF c_1
    refine lv_iload_n hx hb dX8_hasName_5 rfl (lv_at hl 0 rfl) ?_
    refine lv_iconst (v := 2) hx hb dX8_hasName_6 zki_2 ?_
    refine q_icmp_eq (A := v0.toInt) (B := 2) E rfl (by decide) (tgt := 21) dX8_hasName_7 (by decide) (fun c_2 => ?_) (fun c_2 => ?_)
    · skip
      replace hF := q_ifp hF c_2
      refine lv_iconst (v := 1) hx hb dX8_hasName_21 zki_1 ?_
      refine lv_goto (tgt := 26) hx hb dX8_hasName_22 (by decide) ?_
      have hrv : (1 : Int32).toInt = 1 := zt_1
      exact q_retz E hr hlk hI ⟨by decide, by decide⟩ ⟨rfl, ⟨by decide, by decide⟩, (hF.trans hout)⟩ dX8_hasName_26
    · skip
      replace hF := q_ifn hF c_2
      refine lv_iload_n hx hb dX8_hasName_10 rfl (lv_at hl 0 rfl) ?_
      refine lv_iconst (v := 5) hx hb dX8_hasName_11 zki_5 ?_
      refine q_icmp_eq (A := v0.toInt) (B := 5) E rfl (by decide) (tgt := 21) dX8_hasName_12 (by decide) (fun c_3 => ?_) (fun c_3 => ?_)
      · skip
        replace hF := q_ifp hF c_3
        refine lv_iconst (v := 1) hx hb dX8_hasName_21 zki_1 ?_
        refine lv_goto (tgt := 26) hx hb dX8_hasName_22 (by decide) ?_
        have hrv : (1 : Int32).toInt = 1 := zt_1
        exact q_retz E hr hlk hI ⟨by decide, by decide⟩ ⟨rfl, ⟨by decide, by decide⟩, (hF.trans hout)⟩ dX8_hasName_26
      · skip
        replace hF := q_ifn hF c_3
        refine lv_iload_n hx hb dX8_hasName_15 rfl (lv_at hl 0 rfl) ?_
        refine lv_bipush (v := 7) hx hb dX8_hasName_16 zkb_7 ?_
        refine q_icmp_ne (A := v0.toInt) (B := 7) E rfl (by decide) (tgt := 25) dX8_hasName_18 (by decide) (fun c_4 => ?_) (fun c_4 => ?_)
        · skip
          replace hF := q_ifn hF c_4
          refine lv_iconst (v := 0) hx hb dX8_hasName_25 zki_0 ?_
          have hrv : (0 : Int32).toInt = 0 := zt_0
          exact q_retz E hr hlk hI ⟨by decide, by decide⟩ ⟨rfl, ⟨by decide, by decide⟩, (hF.trans hout)⟩ dX8_hasName_26
        · skip
          replace hF := q_ifp hF c_4
          refine lv_iconst (v := 1) hx hb dX8_hasName_21 zki_1 ?_
          refine lv_goto (tgt := 26) hx hb dX8_hasName_22 (by decide) ?_
          have hrv : (1 : Int32).toInt = 1 := zt_1
          exact q_retz E hr hlk hI ⟨by decide, by decide⟩ ⟨rfl, ⟨by decide, by decide⟩, (hF.trans hout)⟩ dX8_hasName_26

set_option maxRecDepth 100000 in
set_option maxHeartbeats 4000000 in
theorem c_X8_hasComparison (l : Launch) (X : XW) (σ : ST) (v0 : Int32) : Met l yX8_hasComparison (q_ws yX8_hasComparison cX8_hasComparison 1 (some .boolean)) (q_rm 1 20) (q_P X σ [.int v0]) (q_Qi X 9 σ (fun (r : Int32) (σ' : ST) => σ' = σ ∧ (0 ≤ r.toInt ∧ r.toInt ≤ 1) ∧ r = F_X8_hasComparison X σ v0)) 0 0 (q_reg X) := by
  refine q_met 9 (by first | exact rfl | decide +kernel) rfl (Nat.le_of_ble_eq_true rfl) (fun p e s m below meth c E hml hr hlk hI ls hl => ?_)
  have hx := E.1
  have hb := E.2.1
  have hl : lv_has ls 1 [(0, .int v0)] := hl
  obtain ⟨out, hout⟩ : ∃ o, o = F_X8_hasComparison X σ v0 := ⟨_, rfl⟩
  have hF := hout.symm
  unfold F_X8_hasComparison at hF
  refine lv_iload_n hx hb dX8_hasComparison_0 rfl (lv_at hl 0 rfl) ?_
  refine q_ci (q_runS (As := [.int v0]) (rest := []) E (hml.trans hl.1.symm) hI (c_X8_isWhen l X σ v0) ks_X8_55 rfl ⟨Nat.le_of_ble_eq_true rfl, Nat.le_of_ble_eq_true rfl⟩ ⟨Nat.le_refl _, Nat.le_refl _⟩ rfl (Nat.le_of_ble_eq_true rfl) dX8_hasComparison_1) hI (Nat.le_of_ble_eq_true rfl) (fun r_1 σ_2 H locs hpσ_2 hkσ_2 hI => ?_)
  have ahpσ_2 := hpσ_2.1
  have bhpσ_2 := hpσ_2.2.1
  have chpσ_2 := hpσ_2.2.2
  clear hpσ_2
  replace hI := q_Irw ahpσ_2 hI
  replace hF := q_letX hF chpσ_2
  refine q_if_eq (A := r_1.toInt) E rfl (tgt := 17) dX8_hasComparison_4 (by decide) (fun c_3 => ?_) (fun c_3 => ?_)
  · skip
    replace hF := q_ifp hF c_3
    refine lv_iconst (v := 0) hx hb dX8_hasComparison_17 zki_0 ?_
    have hrv : (0 : Int32).toInt = 0 := zt_0
    exact q_retz E hr hlk hI ⟨by decide, by decide⟩ ⟨rfl, ⟨by decide, by decide⟩, (hF.trans hout)⟩ dX8_hasComparison_18
  · skip
    replace hF := q_ifn hF c_3
    replace c_3 := q_ifOne bhpσ_2 c_3
    refine lv_iload_n hx hb dX8_hasComparison_7 rfl (lv_at hl 0 rfl) ?_
    refine lv_bipush (v := 8) hx hb dX8_hasComparison_8 zkb_8 ?_
    refine q_icmp_eq (A := v0.toInt) (B := 8) E rfl (by decide) (tgt := 17) dX8_hasComparison_10 (by decide) (fun c_4 => ?_) (fun c_4 => ?_)
    · skip
      replace hF := q_ifp hF c_4
      refine lv_iconst (v := 0) hx hb dX8_hasComparison_17 zki_0 ?_
      have hrv : (0 : Int32).toInt = 0 := zt_0
      exact q_retz E hr hlk hI ⟨by decide, by decide⟩ ⟨rfl, ⟨by decide, by decide⟩, (hF.trans hout)⟩ dX8_hasComparison_18
    · skip
      replace hF := q_ifn hF c_4
      refine lv_iconst (v := 1) hx hb dX8_hasComparison_13 zki_1 ?_
      refine lv_goto (tgt := 18) hx hb dX8_hasComparison_14 (by decide) ?_
      have hrv : (1 : Int32).toInt = 1 := zt_1
      exact q_retz E hr hlk hI ⟨by decide, by decide⟩ ⟨rfl, ⟨by decide, by decide⟩, (hF.trans hout)⟩ dX8_hasComparison_18

set_option maxRecDepth 100000 in
set_option maxHeartbeats 4000000 in
theorem c_X8_highest (l : Launch) (X : XW) (σ : ST) (v0 : Int32) : Met l yX8_highest (q_ws yX8_highest cX8_highest 1 (some .int)) (q_rm 0 0) (q_P X σ [.int v0]) (q_Qi X 9 σ (fun (r : Int32) (σ' : ST) => σ' = σ ∧ r = F_X8_highest X σ v0)) 0 0 (q_reg X) := by
  refine q_met 9 (by first | exact rfl | decide +kernel) rfl (Nat.le_of_ble_eq_true rfl) (fun p e s m below meth c E hml hr hlk hI ls hl => ?_)
  have hx := E.1
  have hb := E.2.1
  have hl : lv_has ls 1 [(0, .int v0)] := hl
  obtain ⟨out, hout⟩ : ∃ o, o = F_X8_highest X σ v0 := ⟨_, rfl⟩
  have hF := hout.symm
  unfold F_X8_highest at hF
  refine lv_iload_n hx hb dX8_highest_0 rfl (lv_at hl 0 rfl) ?_
  by_cases c_1 : v0.toInt = 1
  · refine lv_tableIn (off := 43) (tgt := 44) hx hb dX8_highest_1 (by omega) (by omega) (by rw [c_1]; rfl) (by decide) ?_
    replace hF := q_ifp hF c_1
    refine lv_bipush (v := 16) hx hb dX8_highest_44 zkb_16 ?_
    exact q_reti E hr hlk hI ⟨rfl, (hF.trans hout)⟩ dX8_highest_46
  replace hF := q_ifn hF c_1
  by_cases c_2 : v0.toInt = 2
  · refine lv_tableIn (off := 43) (tgt := 44) hx hb dX8_highest_1 (by omega) (by omega) (by rw [c_2]; rfl) (by decide) ?_
    replace hF := q_ifp hF c_2
    refine lv_bipush (v := 16) hx hb dX8_highest_44 zkb_16 ?_
    exact q_reti E hr hlk hI ⟨rfl, (hF.trans hout)⟩ dX8_highest_46
  replace hF := q_ifn hF c_2
  by_cases c_3 : v0.toInt = 3
  · refine lv_tableIn (off := 56) (tgt := 57) hx hb dX8_highest_1 (by omega) (by omega) (by rw [c_3]; rfl) (by decide) ?_
    replace hF := q_ifp hF c_3
    refine lv_iconst (v := (-1)) hx hb dX8_highest_57 zki_m1 ?_
    exact q_reti E hr hlk hI ⟨rfl, (hF.trans hout)⟩ dX8_highest_58
  replace hF := q_ifn hF c_3
  by_cases c_4 : v0.toInt = 4
  · refine lv_tableIn (off := 46) (tgt := 47) hx hb dX8_highest_1 (by omega) (by omega) (by rw [c_4]; rfl) (by decide) ?_
    replace hF := q_ifp hF c_4
    refine lv_bipush (v := 99) hx hb dX8_highest_47 zkb_99 ?_
    exact q_reti E hr hlk hI ⟨rfl, (hF.trans hout)⟩ dX8_highest_49
  replace hF := q_ifn hF c_4
  by_cases c_5 : v0.toInt = 5
  · refine lv_tableIn (off := 49) (tgt := 50) hx hb dX8_highest_1 (by omega) (by omega) (by rw [c_5]; rfl) (by decide) ?_
    replace hF := q_ifp hF c_5
    refine lv_bipush (v := 80) hx hb dX8_highest_50 zkb_80 ?_
    exact q_reti E hr hlk hI ⟨rfl, (hF.trans hout)⟩ dX8_highest_52
  replace hF := q_ifn hF c_5
  by_cases c_6 : v0.toInt = 6
  · refine lv_tableIn (off := 49) (tgt := 50) hx hb dX8_highest_1 (by omega) (by omega) (by rw [c_6]; rfl) (by decide) ?_
    replace hF := q_ifp hF c_6
    refine lv_bipush (v := 80) hx hb dX8_highest_50 zkb_80 ?_
    exact q_reti E hr hlk hI ⟨rfl, (hF.trans hout)⟩ dX8_highest_52
  replace hF := q_ifn hF c_6
  by_cases c_7 : v0.toInt = 7
  · refine lv_tableIn (off := 52) (tgt := 53) hx hb dX8_highest_1 (by omega) (by omega) (by rw [c_7]; rfl) (by decide) ?_
    replace hF := q_ifp hF c_7
    refine lv_sipush (v := 999) hx hb dX8_highest_53 zks_999 ?_
    exact q_reti E hr hlk hI ⟨rfl, (hF.trans hout)⟩ dX8_highest_56
  replace hF := q_ifn hF c_7
  refine lv_tableOut (tgt := 57) hx hb dX8_highest_1 (by omega) (by decide) ?_
  refine lv_iconst (v := (-1)) hx hb dX8_highest_57 zki_m1 ?_
  exact q_reti E hr hlk hI ⟨rfl, (hF.trans hout)⟩ dX8_highest_58

set_option maxRecDepth 100000 in
set_option maxHeartbeats 4000000 in
theorem c_X1_allLaidBy (l : Launch) (X : XW) (σ : ST) (a : Nat) (v1 : Int32) (ha : q_kd X a = 2) : Met l yX1_allLaidBy (q_ws yX1_allLaidBy cX1_allLaidBy 2 (some .int)) (q_rm 2 45) (q_P X σ [.ref a, .int v1]) (q_Qi X 9 σ (fun (r : Int32) (σ' : ST) => σ' = σ ∧ r = F_X1_allLaidBy X σ a v1)) 0 0 (q_reg X) := by
  refine q_met 9 (by first | exact rfl | decide +kernel) rfl (Nat.le_of_ble_eq_true rfl) (fun p e s m below meth c E hml hr hlk hI ls hl => ?_)
  have hx := E.1
  have hb := E.2.1
  have hl : lv_has ls 2 [(0, .ref a), (1, .int v1)] := hl
  obtain ⟨out, hout⟩ : ∃ o, o = F_X1_allLaidBy X σ a v1 := ⟨_, rfl⟩
  have hF := hout.symm
  unfold F_X1_allLaidBy at hF
  refine lv_aload_n hx hb dX1_allLaidBy_0 rfl (lv_at hl 0 rfl) ?_
  refine gs_X1_20_2 E hI ha dX1_allLaidBy_1 ?_
  refine lv_iload_n hx hb dX1_allLaidBy_4 rfl (lv_at hl 1 rfl) ?_
  refine lv_bipush (v := 10) hx hb dX1_allLaidBy_5 zkb_10 ?_
  refine lv_imul hx hb dX1_allLaidBy_7 ?_
  refine lv_topi (fun z_1 ez_1 => ?_)
  replace hF := q_letX hF ez_1
  refine lv_bipush (v := 10) hx hb dX1_allLaidBy_8 zkb_10 ?_
  have kc_2 : (10 : Int32).toInt = 10 := zt_10
  refine q_ci (q_rV4_2 (rest := []) E (hml.trans hl.1.symm) hI (c_X5_sum l X σ (q_rf X a 1) z_1 (10 : Int32) (q_tk (k' := 5) hI ha rfl (Nat.succ_ne_zero _))) kv_X1_49 (q_tk (k' := 5) hI ha rfl (Nat.succ_ne_zero _)) ⟨Nat.le_of_ble_eq_true rfl, Nat.le_of_ble_eq_true rfl⟩ (Nat.le_of_ble_eq_true rfl) dX1_allLaidBy_10) hI (Nat.le_of_ble_eq_true rfl) (fun r_3 σ_4 H locs hpσ_4 hkσ_4 hI => ?_)
  have ahpσ_4 := hpσ_4.1
  have bhpσ_4 := hpσ_4.2
  clear hpσ_4
  replace hI := q_Irw ahpσ_4 hI
  replace hF := q_letX hF bhpσ_4
  exact q_reti E hr hlk hI ⟨rfl, (hF.trans hout)⟩ dX1_allLaidBy_13

set_option maxRecDepth 100000 in
set_option maxHeartbeats 4000000 in
theorem c_X1_heldBy (l : Launch) (X : XW) (σ : ST) (a : Nat) (v1 : Int32) (v2 : Int32) (ha : q_kd X a = 2) : Met l yX1_heldBy (q_ws yX1_heldBy cX1_heldBy 3 (some .int)) (q_rm 1 21) (q_P X σ [.ref a, .int v1, .int v2]) (q_Qi X 9 σ (fun (r : Int32) (σ' : ST) => σ' = σ ∧ r = F_X1_heldBy X σ a v1 v2)) 0 0 (q_reg X) := by
  refine q_met 9 (by first | exact rfl | decide +kernel) rfl (Nat.le_of_ble_eq_true rfl) (fun p e s m below meth c E hml hr hlk hI ls hl => ?_)
  have hx := E.1
  have hb := E.2.1
  have hl : lv_has ls 3 [(0, .ref a), (1, .int v1), (2, .int v2)] := hl
  obtain ⟨out, hout⟩ : ∃ o, o = F_X1_heldBy X σ a v1 v2 := ⟨_, rfl⟩
  have hF := hout.symm
  unfold F_X1_heldBy at hF
  refine lv_aload_n hx hb dX1_heldBy_0 rfl (lv_at hl 0 rfl) ?_
  refine gs_X1_14_2 E hI ha dX1_heldBy_1 ?_
  refine lv_iload_n hx hb dX1_heldBy_4 rfl (lv_at hl 1 rfl) ?_
  refine lv_bipush (v := 10) hx hb dX1_heldBy_5 zkb_10 ?_
  refine lv_imul hx hb dX1_heldBy_7 ?_
  refine lv_topi (fun z_1 ez_1 => ?_)
  replace hF := q_letX hF ez_1
  refine lv_iload_n hx hb dX1_heldBy_8 rfl (lv_at hl 2 rfl) ?_
  refine lv_iadd hx hb dX1_heldBy_9 ?_
  refine lv_topi (fun z_2 ez_2 => ?_)
  replace hF := q_letX hF ez_2
  refine q_ci (q_rV4_1 (rest := []) E (hml.trans hl.1.symm) hI (c_X5_get l X σ (q_rf X a 0) z_2 (q_tk (k' := 5) hI ha rfl (Nat.succ_ne_zero _))) kv_X1_45 (q_tk (k' := 5) hI ha rfl (Nat.succ_ne_zero _)) ⟨Nat.le_of_ble_eq_true rfl, Nat.le_of_ble_eq_true rfl⟩ (Nat.le_of_ble_eq_true rfl) dX1_heldBy_10) hI (Nat.le_of_ble_eq_true rfl) (fun r_3 σ_4 H locs hpσ_4 hkσ_4 hI => ?_)
  have ahpσ_4 := hpσ_4.1
  have bhpσ_4 := hpσ_4.2
  clear hpσ_4
  replace hI := q_Irw ahpσ_4 hI
  replace hF := q_letX hF bhpσ_4
  exact q_reti E hr hlk hI ⟨rfl, (hF.trans hout)⟩ dX1_heldBy_13

set_option maxRecDepth 100000 in
set_option maxHeartbeats 4000000 in
theorem c_X2_truth (l : Launch) (X : XW) (σ : ST) (a : Nat) (v1 : Int32) (ha : q_kd X a = 3) : Met l yX2_truth (q_ws yX2_truth cX2_truth 4 (some .int)) (q_rm 1 21) (q_P X σ [.ref a, .int v1]) (q_Qi X 9 σ (fun (r : Int32) (σ' : ST) => σ' = σ ∧ r = F_X2_truth X σ a v1)) 0 0 (q_reg X) := by
  refine q_met 9 (by first | exact rfl | decide +kernel) rfl (Nat.le_of_ble_eq_true rfl) (fun p e s m below meth c E hml hr hlk hI ls hl => ?_)
  have hx := E.1
  have hb := E.2.1
  have hl : lv_has ls 4 [(0, .ref a), (1, .int v1)] := hl
  obtain ⟨out, hout⟩ : ∃ o, o = F_X2_truth X σ a v1 := ⟨_, rfl⟩
  have hF := hout.symm
  unfold F_X2_truth at hF
  refine lv_iconst (v := 0) hx hb dX2_truth_0 zki_0 ?_
  refine lv_istore_n (lv' := [(2, .int 0), (0, .ref a), (1, .int v1)]) hx hb dX2_truth_1 rfl hl (by decide) rfl (fun ls hl => ?_)
  refine lv_iconst (v := 0) hx hb dX2_truth_2 zki_0 ?_
  refine lv_istore_n (lv' := [(3, .int 0), (2, .int 0), (0, .ref a), (1, .int v1)]) hx hb dX2_truth_3 rfl hl (by decide) rfl (fun ls hl => ?_)
  have L_4_3 : ∀ (k_3 : Nat) (x_1 : Int32) (x_2 : Int32) (H : Heap) (locs : List Loc) (ls : Array Slot), (2147483647 - x_2.toInt).toNat < k_3 → (0 ≤ x_2.toInt) → (F_X2_truth_L4_1 X σ a v1 k_3 x_1 x_2 = out) → q_I X 9 σ s.heap locs σ H → lv_has ls 4 [(0, .ref a), (1, .int v1), (2, .int x_1), (3, .int x_2)] → W p l e (q_rm 1 21) s m ([.ref a, .int v1] : List Value).toArray below meth c H locs 0 0 (MQ below (q_Qi X 9 σ (fun (r : Int32) (σ' : ST) => σ' = σ ∧ r = F_X2_truth X σ a v1)) ([.ref a, .int v1] : List Value).toArray s 0 0 (q_reg X)) (F0 m 4 ls []) := by
    clear hF
    intro k_3
    induction k_3 with
    | zero =>
      intro x_1 x_2 H locs ls hms
      exact absurd hms (Nat.not_lt_zero _)
    | succ k_3 ih4 =>
      intro x_1 x_2 H locs ls hm4 hge4 hF hI hl
      replace hF := (F_X2_truth_L4_1_s).symm.trans hF
      unfold F_X2_truth_B4_1 at hF
      refine lv_iload_n hx hb dX2_truth_4 rfl (lv_at hl 3 rfl) ?_
      refine lv_aload_n hx hb dX2_truth_5 rfl (lv_at hl 0 rfl) ?_
      refine gs_X2_30_3 E hI ha dX2_truth_6 ?_
      refine lv_iload_n hx hb dX2_truth_9 rfl (lv_at hl 1 rfl) ?_
      refine q_ci (q_rV4_1 (rest := [.int x_2]) E (hml.trans hl.1.symm) hI (c_X5_get l X σ (q_rf X a 4) v1 (q_tk (k' := 5) hI ha rfl (Nat.succ_ne_zero _))) kv_X2_44 (q_tk (k' := 5) hI ha rfl (Nat.succ_ne_zero _)) ⟨Nat.le_of_ble_eq_true rfl, Nat.le_of_ble_eq_true rfl⟩ (Nat.le_of_ble_eq_true rfl) dX2_truth_10) hI (Nat.le_of_ble_eq_true rfl) (fun r_4 σ_5 H locs hpσ_5 hkσ_5 hI => ?_)
      have ahpσ_5 := hpσ_5.1
      have bhpσ_5 := hpσ_5.2
      clear hpσ_5
      replace hI := q_Irw ahpσ_5 hI
      replace hF := q_letX hF bhpσ_5
      have gc_6_x_2 := q_rng x_2
      have gc_6_r_4 := q_rng r_4
      refine q_icmp_ge (A := x_2.toInt) (B := r_4.toInt) E rfl rfl (tgt := 48) dX2_truth_13 (by decide) (fun c_6 => ?_) (fun c_6 => ?_)
      · skip
        replace hF := q_ifn hF (Int.not_lt.mpr c_6)
        unfold F_X2_truth_E48_2 at hF
        refine lv_iload_n hx hb dX2_truth_48 rfl (lv_at hl 2 rfl) ?_
        refine lv_aload_n hx hb dX2_truth_49 rfl (lv_at hl 0 rfl) ?_
        refine gs_X2_30_3 E hI ha dX2_truth_50 ?_
        refine lv_iload_n hx hb dX2_truth_53 rfl (lv_at hl 1 rfl) ?_
        refine q_ci (q_rV4_1 (rest := [.int x_1]) E (hml.trans hl.1.symm) hI (c_X5_get l X σ (q_rf X a 4) v1 (q_tk (k' := 5) hI ha rfl (Nat.succ_ne_zero _))) kv_X2_44 (q_tk (k' := 5) hI ha rfl (Nat.succ_ne_zero _)) ⟨Nat.le_of_ble_eq_true rfl, Nat.le_of_ble_eq_true rfl⟩ (Nat.le_of_ble_eq_true rfl) dX2_truth_54) hI (Nat.le_of_ble_eq_true rfl) (fun r_7 σ_8 H locs hpσ_8 hkσ_8 hI => ?_)
        have ahpσ_8 := hpσ_8.1
        have bhpσ_8 := hpσ_8.2
        clear hpσ_8
        replace hI := q_Irw ahpσ_8 hI
        replace hF := q_letX hF bhpσ_8
        have gc_9_x_1 := q_rng x_1
        have gc_9_r_7 := q_rng r_7
        refine q_icmp_ne (A := x_1.toInt) (B := r_7.toInt) E rfl rfl (tgt := 62) dX2_truth_57 (by decide) (fun c_9 => ?_) (fun c_9 => ?_)
        · skip
          replace hF := q_ifn hF c_9
          refine lv_iload_n hx hb dX2_truth_62 rfl (lv_at hl 2 rfl) ?_
          refine q_if_ne (A := x_1.toInt) E rfl (tgt := 70) dX2_truth_63 (by decide) (fun c_10 => ?_) (fun c_10 => ?_)
          · skip
            replace hF := q_ifn hF c_10
            refine lv_iconst (v := 1) hx hb dX2_truth_70 zki_1 ?_
            exact q_reti E hr hlk hI ⟨rfl, (hF.trans hout)⟩ dX2_truth_71
          · skip
            replace hF := q_ifp hF c_10
            refine lv_iconst (v := 2) hx hb dX2_truth_66 zki_2 ?_
            refine lv_goto (tgt := 71) hx hb dX2_truth_67 (by decide) ?_
            exact q_reti E hr hlk hI ⟨rfl, (hF.trans hout)⟩ dX2_truth_71
        · skip
          replace hF := q_ifp hF c_9
          refine lv_iconst (v := 0) hx hb dX2_truth_60 zki_0 ?_
          exact q_reti E hr hlk hI ⟨rfl, (hF.trans hout)⟩ dX2_truth_61
      · skip
        replace hF := q_ifp hF c_6
        refine lv_aload_n hx hb dX2_truth_16 rfl (lv_at hl 0 rfl) ?_
        refine gs_X2_33_3 E hI ha dX2_truth_17 ?_
        refine lv_iload_n hx hb dX2_truth_20 rfl (lv_at hl 1 rfl) ?_
        refine lv_iconst (v := 4) hx hb dX2_truth_21 zki_4 ?_
        refine lv_imul hx hb dX2_truth_22 ?_
        refine lv_topi (fun z_11 ez_11 => ?_)
        replace hF := q_letX hF ez_11
        refine lv_iload_n hx hb dX2_truth_23 rfl (lv_at hl 3 rfl) ?_
        refine lv_iadd hx hb dX2_truth_24 ?_
        refine lv_topi (fun z_12 ez_12 => ?_)
        replace hF := q_letX hF ez_12
        refine q_ci (q_rV4_1 (rest := []) E (hml.trans hl.1.symm) hI (c_X5_get l X σ (q_rf X a 5) z_12 (q_tk (k' := 5) hI ha rfl (Nat.succ_ne_zero _))) kv_X2_44 (q_tk (k' := 5) hI ha rfl (Nat.succ_ne_zero _)) ⟨Nat.le_of_ble_eq_true rfl, Nat.le_of_ble_eq_true rfl⟩ (Nat.le_of_ble_eq_true rfl) dX2_truth_25) hI (Nat.le_of_ble_eq_true rfl) (fun r_13 σ_14 H locs hpσ_14 hkσ_14 hI => ?_)
        have ahpσ_14 := hpσ_14.1
        have bhpσ_14 := hpσ_14.2
        clear hpσ_14
        replace hI := q_Irw ahpσ_14 hI
        replace hF := q_letX hF bhpσ_14
        refine lv_aload_n hx hb dX2_truth_28 rfl (lv_at hl 0 rfl) ?_
        refine gs_X2_27_3 E hI ha dX2_truth_29 ?_
        refine lv_iload_n hx hb dX2_truth_32 rfl (lv_at hl 1 rfl) ?_
        refine q_ci (q_rV4_1 (rest := [.int r_13]) E (hml.trans hl.1.symm) hI (c_X5_get l X σ (q_rf X a 3) v1 (q_tk (k' := 5) hI ha rfl (Nat.succ_ne_zero _))) kv_X2_44 (q_tk (k' := 5) hI ha rfl (Nat.succ_ne_zero _)) ⟨Nat.le_of_ble_eq_true rfl, Nat.le_of_ble_eq_true rfl⟩ (Nat.le_of_ble_eq_true rfl) dX2_truth_33) hI (Nat.le_of_ble_eq_true rfl) (fun r_15 σ_16 H locs hpσ_16 hkσ_16 hI => ?_)
        have ahpσ_16 := hpσ_16.1
        have bhpσ_16 := hpσ_16.2
        clear hpσ_16
        replace hI := q_Irw ahpσ_16 hI
        replace hF := q_letX hF bhpσ_16
        have gc_17_r_13 := q_rng r_13
        have gc_17_r_15 := q_rng r_15
        refine q_icmp_ne (A := r_13.toInt) (B := r_15.toInt) E rfl rfl (tgt := 42) dX2_truth_36 (by decide) (fun c_17 => ?_) (fun c_17 => ?_)
        · skip
          replace hF := q_ifn hF c_17
          obtain ⟨z_18, ez_18⟩ : ∃ y : Int32, y = x_2 + 1 := ⟨_, rfl⟩
          replace hF := q_letX hF ez_18
          refine lv_iinc (v := z_18) (lv' := [(3, .int z_18), (0, .ref a), (1, .int v1), (2, .int x_1)]) hx hb dX2_truth_42 hl (k := 3) rfl (by rw [ez_18]; rfl) (by decide) rfl (fun ls hl => ?_)
          have iz_18 : z_18.toInt = x_2.toInt + 1 := q_inc ez_18 (by first | (clear hm4 ahpσ_5 bhpσ_5 ahpσ_14 bhpσ_14 ahpσ_16 bhpσ_16 gc_17_r_13 gc_17_r_15 c_17; omega) | omega)
          refine lv_goto (tgt := 4) hx hb dX2_truth_45 (by decide) ?_
          exact ih4 x_1 z_18 _ _ ls (by first | (clear ahpσ_5 bhpσ_5 ahpσ_14 bhpσ_14 ahpσ_16 bhpσ_16 gc_17_r_13 gc_17_r_15; omega) | omega) (by first | (clear hm4 ahpσ_5 bhpσ_5 gc_6_r_4 c_6 ahpσ_14 bhpσ_14 ahpσ_16 bhpσ_16 gc_17_r_13 gc_17_r_15 c_17; omega) | omega) hF hI (lv_sub hl [1, 2, 3, 0] rfl)
        · skip
          replace hF := q_ifp hF c_17
          obtain ⟨z_19, ez_19⟩ : ∃ y : Int32, y = x_1 + 1 := ⟨_, rfl⟩
          replace hF := q_letX hF ez_19
          refine lv_iinc (v := z_19) (lv' := [(2, .int z_19), (0, .ref a), (1, .int v1), (3, .int x_2)]) hx hb dX2_truth_39 hl (k := 2) rfl (by rw [ez_19]; rfl) (by decide) rfl (fun ls hl => ?_)
          obtain ⟨z_20, ez_20⟩ : ∃ y : Int32, y = x_2 + 1 := ⟨_, rfl⟩
          replace hF := q_letX hF ez_20
          refine lv_iinc (v := z_20) (lv' := [(3, .int z_20), (2, .int z_19), (0, .ref a), (1, .int v1)]) hx hb dX2_truth_42 hl (k := 3) rfl (by rw [ez_20]; rfl) (by decide) rfl (fun ls hl => ?_)
          have iz_20 : z_20.toInt = x_2.toInt + 1 := q_inc ez_20 (by first | (clear hm4 ahpσ_5 bhpσ_5 ahpσ_14 bhpσ_14 ahpσ_16 bhpσ_16 gc_17_r_13 gc_17_r_15 c_17; omega) | omega)
          refine lv_goto (tgt := 4) hx hb dX2_truth_45 (by decide) ?_
          exact ih4 z_19 z_20 _ _ ls (by first | (clear ahpσ_5 bhpσ_5 ahpσ_14 bhpσ_14 ahpσ_16 bhpσ_16 gc_17_r_13 gc_17_r_15 c_17; omega) | omega) (by first | (clear hm4 ahpσ_5 bhpσ_5 gc_6_r_4 c_6 ahpσ_14 bhpσ_14 ahpσ_16 bhpσ_16 gc_17_r_13 gc_17_r_15 c_17; omega) | omega) hF hI (lv_sub hl [2, 3, 1, 0] rfl)
  exact L_4_3 ((2147483647 - (0 : Int32).toInt).toNat + 1) 0 0 _ _ ls (Nat.lt_succ_self _) (by decide) hF hI (lv_sub hl [2, 3, 1, 0] rfl)

set_option maxRecDepth 100000 in
set_option maxHeartbeats 4000000 in
theorem c_X2_kindOf (l : Launch) (X : XW) (σ : ST) (a : Nat) (v1 : Int32) (v2 : Int32) (ha : q_kd X a = 3) : Met l yX2_kindOf (q_ws yX2_kindOf cX2_kindOf 3 (some .int)) (q_rm 1 21) (q_P X σ [.ref a, .int v1, .int v2]) (q_Qi X 9 σ (fun (r : Int32) (σ' : ST) => σ' = σ ∧ r = F_X2_kindOf X σ a v1 v2)) 0 0 (q_reg X) := by
  refine q_met 9 (by first | exact rfl | decide +kernel) rfl (Nat.le_of_ble_eq_true rfl) (fun p e s m below meth c E hml hr hlk hI ls hl => ?_)
  have hx := E.1
  have hb := E.2.1
  have hl : lv_has ls 3 [(0, .ref a), (1, .int v1), (2, .int v2)] := hl
  obtain ⟨out, hout⟩ : ∃ o, o = F_X2_kindOf X σ a v1 v2 := ⟨_, rfl⟩
  have hF := hout.symm
  unfold F_X2_kindOf at hF
  refine lv_aload_n hx hb dX2_kindOf_0 rfl (lv_at hl 0 rfl) ?_
  refine gs_X2_33_3 E hI ha dX2_kindOf_1 ?_
  refine lv_iload_n hx hb dX2_kindOf_4 rfl (lv_at hl 1 rfl) ?_
  refine lv_iconst (v := 4) hx hb dX2_kindOf_5 zki_4 ?_
  refine lv_imul hx hb dX2_kindOf_6 ?_
  refine lv_topi (fun z_1 ez_1 => ?_)
  replace hF := q_letX hF ez_1
  refine lv_iload_n hx hb dX2_kindOf_7 rfl (lv_at hl 2 rfl) ?_
  refine lv_iadd hx hb dX2_kindOf_8 ?_
  refine lv_topi (fun z_2 ez_2 => ?_)
  replace hF := q_letX hF ez_2
  refine q_ci (q_rV4_1 (rest := []) E (hml.trans hl.1.symm) hI (c_X5_get l X σ (q_rf X a 5) z_2 (q_tk (k' := 5) hI ha rfl (Nat.succ_ne_zero _))) kv_X2_44 (q_tk (k' := 5) hI ha rfl (Nat.succ_ne_zero _)) ⟨Nat.le_of_ble_eq_true rfl, Nat.le_of_ble_eq_true rfl⟩ (Nat.le_of_ble_eq_true rfl) dX2_kindOf_9) hI (Nat.le_of_ble_eq_true rfl) (fun r_3 σ_4 H locs hpσ_4 hkσ_4 hI => ?_)
  have ahpσ_4 := hpσ_4.1
  have bhpσ_4 := hpσ_4.2
  clear hpσ_4
  replace hI := q_Irw ahpσ_4 hI
  replace hF := q_letX hF bhpσ_4
  exact q_reti E hr hlk hI ⟨rfl, (hF.trans hout)⟩ dX2_kindOf_12

set_option maxRecDepth 100000 in
set_option maxHeartbeats 4000000 in
theorem c_X2_begin (l : Launch) (X : XW) (σ : ST) (a : Nat) (v1 : Int32) (v2 : Int32) (ha : q_kd X a = 3) : Met l yX2_begin (q_ws yX2_begin cX2_begin 3 none) (q_rm 1 22) (q_P X σ [.ref a, .int v1, .int v2]) (q_Qv X 8 σ (fun (σ' : ST) => σ' = F_X2_begin X σ a v1 v2 ∧ q_ow [(3, 0), (20, 99)] [] X σ σ')) 0 0 (q_reg X) := by
  refine q_met 8 (by first | exact rfl | decide +kernel) rfl (Nat.le_of_ble_eq_true rfl) (fun p e s m below meth c E hml hr hlk hI ls hl => ?_)
  have hx := E.1
  have hb := E.2.1
  have hl : lv_has ls 3 [(0, .ref a), (1, .int v1), (2, .int v2)] := hl
  have fr_σ : q_ow [(3, 0), (20, 99)] [] X σ σ := q_ow.rf
  obtain ⟨out, hout⟩ : ∃ o, o = F_X2_begin X σ a v1 v2 := ⟨_, rfl⟩
  have hF := hout.symm
  unfold F_X2_begin at hF
  refine lv_aload_n hx hb dX2_begin_0 rfl (lv_at hl 0 rfl) ?_
  refine gs_X2_23_3 E hI ha dX2_begin_1 ?_
  refine lv_aload_n hx hb dX2_begin_4 rfl (lv_at hl 0 rfl) ?_
  refine gs_X2_9_3 E hI ha dX2_begin_5 ?_
  refine lv_topi (fun f_1 ef_1 => ?_)
  replace hF := q_letX hF ef_1
  refine lv_iload_n hx hb dX2_begin_8 rfl (lv_at hl 1 rfl) ?_
  refine q_cv (q_rV4_2 (rest := []) E (hml.trans hl.1.symm) hI (c_X5_set l X σ (q_rf X a 2) f_1 v1 (q_tk (k' := 5) hI ha rfl (Nat.succ_ne_zero _))) kv_X2_40 (q_tk (k' := 5) hI ha rfl (Nat.succ_ne_zero _)) ⟨Nat.le_of_ble_eq_true rfl, Nat.le_of_ble_eq_true rfl⟩ (Nat.le_of_ble_eq_true rfl) dX2_begin_9) hI (Nat.le_of_ble_eq_true rfl) (fun σ_3 H locs hpσ_3 hkσ_3 hI => ?_)
  have ahpσ_3 := hpσ_3.1
  have bhpσ_3 := hpσ_3.2
  clear hpσ_3
  have fr_σ_3 := fr_σ.call bhpσ_3 rfl rfl
  replace hF := q_letX hF ahpσ_3
  refine lv_aload_n hx hb dX2_begin_12 rfl (lv_at hl 0 rfl) ?_
  refine gs_X2_27_3 E hI ha dX2_begin_13 ?_
  refine lv_aload_n hx hb dX2_begin_16 rfl (lv_at hl 0 rfl) ?_
  refine gs_X2_9_3 E hI ha dX2_begin_17 ?_
  refine lv_topi (fun f_4 ef_4 => ?_)
  replace hF := q_letX hF ef_4
  refine lv_iload_n hx hb dX2_begin_20 rfl (lv_at hl 2 rfl) ?_
  refine q_cv (q_rV4_2 (rest := []) E (hml.trans hl.1.symm) hI (c_X5_set l X σ_3 (q_rf X a 3) f_4 v2 (q_tk (k' := 5) hI ha rfl (Nat.succ_ne_zero _))) kv_X2_40 (q_tk (k' := 5) hI ha rfl (Nat.succ_ne_zero _)) ⟨Nat.le_of_ble_eq_true rfl, Nat.le_of_ble_eq_true rfl⟩ (Nat.le_of_ble_eq_true rfl) dX2_begin_21) hI (Nat.le_of_ble_eq_true rfl) (fun σ_6 H locs hpσ_6 hkσ_6 hI => ?_)
  have ahpσ_6 := hpσ_6.1
  have bhpσ_6 := hpσ_6.2
  clear hpσ_6
  have fr_σ_6 := fr_σ_3.call bhpσ_6 rfl rfl
  replace hF := q_letX hF ahpσ_6
  refine lv_aload_n hx hb dX2_begin_24 rfl (lv_at hl 0 rfl) ?_
  refine gs_X2_30_3 E hI ha dX2_begin_25 ?_
  refine lv_aload_n hx hb dX2_begin_28 rfl (lv_at hl 0 rfl) ?_
  refine gs_X2_9_3 E hI ha dX2_begin_29 ?_
  refine lv_topi (fun f_7 ef_7 => ?_)
  replace hF := q_letX hF ef_7
  refine lv_iconst (v := 0) hx hb dX2_begin_32 zki_0 ?_
  have kc_8 : (0 : Int32).toInt = 0 := zt_0
  refine q_cv (q_rV4_2 (rest := []) E (hml.trans hl.1.symm) hI (c_X5_set l X σ_6 (q_rf X a 4) f_7 (0 : Int32) (q_tk (k' := 5) hI ha rfl (Nat.succ_ne_zero _))) kv_X2_40 (q_tk (k' := 5) hI ha rfl (Nat.succ_ne_zero _)) ⟨Nat.le_of_ble_eq_true rfl, Nat.le_of_ble_eq_true rfl⟩ (Nat.le_of_ble_eq_true rfl) dX2_begin_33) hI (Nat.le_of_ble_eq_true rfl) (fun σ_10 H locs hpσ_10 hkσ_10 hI => ?_)
  have ahpσ_10 := hpσ_10.1
  have bhpσ_10 := hpσ_10.2
  clear hpσ_10
  have fr_σ_10 := fr_σ_6.call bhpσ_10 rfl rfl
  replace hF := q_letX hF ahpσ_10
  refine lv_aload_n hx hb dX2_begin_36 rfl (lv_at hl 0 rfl) ?_
  refine lv_dup hx hb dX2_begin_37 rfl ?_
  refine gs_X2_9_3 E hI ha dX2_begin_38 ?_
  refine lv_topi (fun f_11 ef_11 => ?_)
  replace hF := q_letX hF ef_11
  refine lv_iconst (v := 1) hx hb dX2_begin_41 zki_1 ?_
  refine lv_iadd hx hb dX2_begin_42 ?_
  refine lv_topi (fun z_12 ez_12 => ?_)
  replace hF := q_letX hF ez_12
  refine ps_X2_9_3 E hI ha (by decide) dX2_begin_43 (fun H locs σ_13 hσ_13 hI => ?_)
  replace hF := q_letX hF hσ_13
  have fr_σ_13 := fr_σ_10.si hσ_13 ha rfl
  exact q_retv E hr hlk hI ⟨(hF.trans hout), fr_σ_13⟩ dX2_begin_46

set_option maxRecDepth 100000 in
set_option maxHeartbeats 4000000 in
theorem c_X1_moveToHeap (l : Launch) (X : XW) (σ : ST) (a : Nat) (v1 : Int32) (v2 : Int32) (v3 : Int32) (ha : q_kd X a = 2) : Met l yX1_moveToHeap (q_ws yX1_moveToHeap cX1_moveToHeap 4 none) (q_rm 2 45) (q_P X σ [.ref a, .int v1, .int v2, .int v3]) (q_Qv X 8 σ (fun (σ' : ST) => σ' = F_X1_moveToHeap X σ a v1 v2 v3 ∧ q_ow [(20, 99)] [] X σ σ')) 0 0 (q_reg X) := by
  refine q_met 8 (by first | exact rfl | decide +kernel) rfl (Nat.le_of_ble_eq_true rfl) (fun p e s m below meth c E hml hr hlk hI ls hl => ?_)
  have hx := E.1
  have hb := E.2.1
  have hl : lv_has ls 4 [(0, .ref a), (1, .int v1), (2, .int v2), (3, .int v3)] := hl
  have fr_σ : q_ow [(20, 99)] [] X σ σ := q_ow.rf
  obtain ⟨out, hout⟩ : ∃ o, o = F_X1_moveToHeap X σ a v1 v2 v3 := ⟨_, rfl⟩
  have hF := hout.symm
  unfold F_X1_moveToHeap at hF
  refine lv_aload_n hx hb dX1_moveToHeap_0 rfl (lv_at hl 0 rfl) ?_
  refine lv_iload_n hx hb dX1_moveToHeap_1 rfl (lv_at hl 1 rfl) ?_
  refine lv_iload_n hx hb dX1_moveToHeap_2 rfl (lv_at hl 2 rfl) ?_
  refine lv_iload_n hx hb dX1_moveToHeap_3 rfl (lv_at hl 3 rfl) ?_
  refine lv_ineg hx hb dX1_moveToHeap_4 ?_
  refine lv_topi (fun z_1 ez_1 => ?_)
  replace hF := q_letX hF ez_1
  refine q_cv (q_rV1_3 (rest := []) E (hml.trans hl.1.symm) hI (c_X1_deal l X σ a v1 v2 z_1 ha) kv_X1_57 ha ⟨Nat.le_of_ble_eq_true rfl, Nat.le_of_ble_eq_true rfl⟩ (Nat.le_of_ble_eq_true rfl) dX1_moveToHeap_5) hI (Nat.le_of_ble_eq_true rfl) (fun σ_3 H locs hpσ_3 hkσ_3 hI => ?_)
  have ahpσ_3 := hpσ_3.1
  have bhpσ_3 := hpσ_3.2
  clear hpσ_3
  have fr_σ_3 := fr_σ.call bhpσ_3 rfl rfl
  replace hF := q_letX hF ahpσ_3
  refine lv_aload_n hx hb dX1_moveToHeap_8 rfl (lv_at hl 0 rfl) ?_
  refine gs_X1_20_2 E hI ha dX1_moveToHeap_9 ?_
  refine lv_iload_n hx hb dX1_moveToHeap_12 rfl (lv_at hl 1 rfl) ?_
  refine lv_bipush (v := 10) hx hb dX1_moveToHeap_13 zkb_10 ?_
  refine lv_imul hx hb dX1_moveToHeap_15 ?_
  refine lv_topi (fun z_4 ez_4 => ?_)
  replace hF := q_letX hF ez_4
  refine lv_iload_n hx hb dX1_moveToHeap_16 rfl (lv_at hl 2 rfl) ?_
  refine lv_iadd hx hb dX1_moveToHeap_17 ?_
  refine lv_topi (fun z_5 ez_5 => ?_)
  replace hF := q_letX hF ez_5
  refine lv_iload_n hx hb dX1_moveToHeap_18 rfl (lv_at hl 3 rfl) ?_
  refine q_cv (q_rV4_2 (rest := []) E (hml.trans hl.1.symm) hI (c_X5_add l X σ_3 (q_rf X a 1) z_5 v3 (q_tk (k' := 5) hI ha rfl (Nat.succ_ne_zero _))) kv_X1_53 (q_tk (k' := 5) hI ha rfl (Nat.succ_ne_zero _)) ⟨Nat.le_of_ble_eq_true rfl, Nat.le_of_ble_eq_true rfl⟩ (Nat.le_of_ble_eq_true rfl) dX1_moveToHeap_19) hI (Nat.le_of_ble_eq_true rfl) (fun σ_7 H locs hpσ_7 hkσ_7 hI => ?_)
  have ahpσ_7 := hpσ_7.1
  have bhpσ_7 := hpσ_7.2
  clear hpσ_7
  have fr_σ_7 := fr_σ_3.call bhpσ_7 rfl rfl
  replace hF := q_letX hF ahpσ_7
  exact q_retv E hr hlk hI ⟨(hF.trans hout), fr_σ_7⟩ dX1_moveToHeap_22

set_option maxRecDepth 100000 in
set_option maxHeartbeats 4000000 in
theorem c_X2_add (l : Launch) (X : XW) (σ : ST) (a : Nat) (v1 : Int32) (v2 : Int32) (ha : q_kd X a = 3) : Met l yX2_add (q_ws yX2_add cX2_add 5 none) (q_rm 1 22) (q_P X σ [.ref a, .int v1, .int v2]) (q_Qv X 8 σ (fun (σ' : ST) => σ' = F_X2_add X σ a v1 v2 ∧ q_ow [(3, 1), (20, 99)] [] X σ σ')) 0 0 (q_reg X) := by
  refine q_met 8 (by first | exact rfl | decide +kernel) rfl (Nat.le_of_ble_eq_true rfl) (fun p e s m below meth c E hml hr hlk hI ls hl => ?_)
  have hx := E.1
  have hb := E.2.1
  have hl : lv_has ls 5 [(0, .ref a), (1, .int v1), (2, .int v2)] := hl
  have fr_σ : q_ow [(3, 1), (20, 99)] [] X σ σ := q_ow.rf
  obtain ⟨out, hout⟩ : ∃ o, o = F_X2_add X σ a v1 v2 := ⟨_, rfl⟩
  have hF := hout.symm
  unfold F_X2_add at hF
  refine lv_aload_n hx hb dX2_add_0 rfl (lv_at hl 0 rfl) ?_
  refine gs_X2_9_3 E hI ha dX2_add_1 ?_
  refine lv_topi (fun f_1 ef_1 => ?_)
  replace hF := q_letX hF ef_1
  refine lv_iconst (v := 1) hx hb dX2_add_4 zki_1 ?_
  refine lv_isub hx hb dX2_add_5 ?_
  refine lv_topi (fun z_2 ez_2 => ?_)
  replace hF := q_letX hF ez_2
  refine lv_istore_n (lv' := [(3, .int z_2), (0, .ref a), (1, .int v1), (2, .int v2)]) hx hb dX2_add_6 rfl hl (by decide) rfl (fun ls hl => ?_)
  refine lv_iconst (v := 0) hx hb dX2_add_7 zki_0 ?_
  refine lv_istore (lv' := [(4, .int 0), (3, .int z_2), (0, .ref a), (1, .int v1), (2, .int v2)]) hx hb dX2_add_8 hl (by decide) rfl (fun ls hl => ?_)
  have L_10_5 : ∀ (k_5 : Nat) (x_3 : Int32) (σ_4 : ST) (H : Heap) (locs : List Loc) (ls : Array Slot), (2147483647 - x_3.toInt).toNat < k_5 → (0 ≤ x_3.toInt) → (q_ow [(3, 1), (20, 99)] [] X σ σ_4) → (F_X2_add_L10_1 X v2 z_2 a v1 k_5 x_3 σ_4 = out) → q_I X 8 σ s.heap locs σ_4 H → lv_has ls 5 [(0, .ref a), (1, .int v1), (2, .int v2), (3, .int z_2), (4, .int x_3)] → W p l e (q_rm 1 22) s m ([.ref a, .int v1, .int v2] : List Value).toArray below meth c H locs 0 0 (MQ below (q_Qv X 8 σ (fun (σ' : ST) => σ' = F_X2_add X σ a v1 v2 ∧ q_ow [(3, 1), (20, 99)] [] X σ σ')) ([.ref a, .int v1, .int v2] : List Value).toArray s 0 0 (q_reg X)) (F0 m 10 ls []) := by
    clear hF
    intro k_5
    induction k_5 with
    | zero =>
      intro x_3 σ_4 H locs ls hms
      exact absurd hms (Nat.not_lt_zero _)
    | succ k_5 ih10 =>
      intro x_3 σ_4 H locs ls hm10 hge10 fr_σ_4 hF hI hl
      replace hF := (F_X2_add_L10_1_s).symm.trans hF
      unfold F_X2_add_B10_1 at hF
      refine lv_iload hx hb dX2_add_10 (lv_at hl 4 rfl) ?_
      refine lv_iload_n hx hb dX2_add_12 rfl (lv_at hl 2 rfl) ?_
      have gc_6_x_3 := q_rng x_3
      have gc_6_v2 := q_rng v2
      refine q_icmp_ge (A := x_3.toInt) (B := v2.toInt) E rfl rfl (tgt := 61) dX2_add_13 (by decide) (fun c_6 => ?_) (fun c_6 => ?_)
      · skip
        replace hF := q_ifn hF (Int.not_lt.mpr c_6)
        skip
        exact q_retv E hr hlk hI ⟨(hF.trans hout), fr_σ_4⟩ dX2_add_61
      · skip
        replace hF := q_ifp hF c_6
        refine lv_aload_n hx hb dX2_add_16 rfl (lv_at hl 0 rfl) ?_
        refine gs_X2_33_3 E hI ha dX2_add_17 ?_
        refine lv_iload_n hx hb dX2_add_20 rfl (lv_at hl 3 rfl) ?_
        refine lv_iconst (v := 4) hx hb dX2_add_21 zki_4 ?_
        refine lv_imul hx hb dX2_add_22 ?_
        refine lv_topi (fun z_7 ez_7 => ?_)
        replace hF := q_letX hF ez_7
        refine lv_aload_n hx hb dX2_add_23 rfl (lv_at hl 0 rfl) ?_
        refine gs_X2_30_3 E hI ha dX2_add_24 ?_
        refine lv_iload_n hx hb dX2_add_27 rfl (lv_at hl 3 rfl) ?_
        refine q_ci (q_rV4_1 (rest := [.int z_7, .ref (q_rf X a 5)]) E (hml.trans hl.1.symm) hI (c_X5_get l X σ_4 (q_rf X a 4) z_2 (q_tk (k' := 5) hI ha rfl (Nat.succ_ne_zero _))) kv_X2_44 (q_tk (k' := 5) hI ha rfl (Nat.succ_ne_zero _)) ⟨Nat.le_of_ble_eq_true rfl, Nat.le_of_ble_eq_true rfl⟩ (Nat.le_of_ble_eq_true rfl) dX2_add_28) hI (Nat.le_of_ble_eq_true rfl) (fun r_8 σ_9 H locs hpσ_9 hkσ_9 hI => ?_)
        have ahpσ_9 := hpσ_9.1
        have bhpσ_9 := hpσ_9.2
        clear hpσ_9
        replace hI := q_Irw ahpσ_9 hI
        replace hF := q_letX hF bhpσ_9
        refine lv_iadd hx hb dX2_add_31 ?_
        refine lv_topi (fun z_10 ez_10 => ?_)
        replace hF := q_letX hF ez_10
        refine lv_iload_n hx hb dX2_add_32 rfl (lv_at hl 1 rfl) ?_
        refine q_cv (q_rV4_2 (rest := []) E (hml.trans hl.1.symm) hI (c_X5_set l X σ_4 (q_rf X a 5) z_10 v1 (q_tk (k' := 5) hI ha rfl (Nat.succ_ne_zero _))) kv_X2_40 (q_tk (k' := 5) hI ha rfl (Nat.succ_ne_zero _)) ⟨Nat.le_of_ble_eq_true rfl, Nat.le_of_ble_eq_true rfl⟩ (Nat.le_of_ble_eq_true rfl) dX2_add_33) hI (Nat.le_of_ble_eq_true rfl) (fun σ_12 H locs hpσ_12 hkσ_12 hI => ?_)
        have ahpσ_12 := hpσ_12.1
        have bhpσ_12 := hpσ_12.2
        clear hpσ_12
        have fr_σ_12 := fr_σ_4.call bhpσ_12 rfl rfl
        replace hF := q_letX hF ahpσ_12
        refine lv_aload_n hx hb dX2_add_36 rfl (lv_at hl 0 rfl) ?_
        refine gs_X2_30_3 E hI ha dX2_add_37 ?_
        refine lv_iload_n hx hb dX2_add_40 rfl (lv_at hl 3 rfl) ?_
        refine lv_iconst (v := 1) hx hb dX2_add_41 zki_1 ?_
        have kc_13 : (1 : Int32).toInt = 1 := zt_1
        refine q_cv (q_rV4_2 (rest := []) E (hml.trans hl.1.symm) hI (c_X5_add l X σ_12 (q_rf X a 4) z_2 (1 : Int32) (q_tk (k' := 5) hI ha rfl (Nat.succ_ne_zero _))) kv_X2_48 (q_tk (k' := 5) hI ha rfl (Nat.succ_ne_zero _)) ⟨Nat.le_of_ble_eq_true rfl, Nat.le_of_ble_eq_true rfl⟩ (Nat.le_of_ble_eq_true rfl) dX2_add_42) hI (Nat.le_of_ble_eq_true rfl) (fun σ_15 H locs hpσ_15 hkσ_15 hI => ?_)
        have ahpσ_15 := hpσ_15.1
        have bhpσ_15 := hpσ_15.2
        clear hpσ_15
        have fr_σ_15 := fr_σ_12.call bhpσ_15 rfl rfl
        replace hF := q_letX hF ahpσ_15
        refine lv_aload_n hx hb dX2_add_45 rfl (lv_at hl 0 rfl) ?_
        refine lv_dup hx hb dX2_add_46 rfl ?_
        refine gs_X2_15_3 E hI ha dX2_add_47 ?_
        refine lv_topi (fun f_16 ef_16 => ?_)
        replace hF := q_letX hF ef_16
        refine lv_iconst (v := 1) hx hb dX2_add_50 zki_1 ?_
        refine lv_iadd hx hb dX2_add_51 ?_
        refine lv_topi (fun z_17 ez_17 => ?_)
        replace hF := q_letX hF ez_17
        refine ps_X2_15_3 E hI ha (by decide) dX2_add_52 (fun H locs σ_18 hσ_18 hI => ?_)
        replace hF := q_letX hF hσ_18
        have fr_σ_18 := fr_σ_15.si hσ_18 ha rfl
        obtain ⟨z_19, ez_19⟩ : ∃ y : Int32, y = x_3 + 1 := ⟨_, rfl⟩
        replace hF := q_letX hF ez_19
        refine lv_iinc (v := z_19) (lv' := [(4, .int z_19), (0, .ref a), (1, .int v1), (2, .int v2), (3, .int z_2)]) hx hb dX2_add_55 hl (k := 4) rfl (by rw [ez_19]; rfl) (by decide) rfl (fun ls hl => ?_)
        have iz_19 : z_19.toInt = x_3.toInt + 1 := q_inc ez_19 (by first | (clear hm10 ahpσ_9 bhpσ_9 ahpσ_12 bhpσ_12 kc_13 ahpσ_15 bhpσ_15; omega) | omega)
        refine lv_goto (tgt := 10) hx hb dX2_add_58 (by decide) ?_
        exact ih10 z_19 σ_18 _ _ ls (by first | (clear ahpσ_9 bhpσ_9 ahpσ_12 bhpσ_12 kc_13 ahpσ_15 bhpσ_15; omega) | omega) (by first | (clear hm10 gc_6_v2 c_6 ahpσ_9 bhpσ_9 ahpσ_12 bhpσ_12 kc_13 ahpσ_15 bhpσ_15; omega) | omega) fr_σ_18 hF hI (lv_sub hl [1, 2, 3, 4, 0] rfl)
  exact L_10_5 ((2147483647 - (0 : Int32).toInt).toNat + 1) 0 σ _ _ ls (Nat.lt_succ_self _) (by decide) fr_σ hF hI (lv_sub hl [2, 3, 4, 1, 0] rfl)

set_option maxRecDepth 100000 in
set_option maxHeartbeats 4000000 in
theorem c_X2_topTruth (l : Launch) (X : XW) (σ : ST) (a : Nat) (ha : q_kd X a = 3) : Met l yX2_topTruth (q_ws yX2_topTruth cX2_topTruth 1 (some .int)) (q_rm 2 44) (q_P X σ [.ref a]) (q_Qi X 9 σ (fun (r : Int32) (σ' : ST) => σ' = σ ∧ r = F_X2_topTruth X σ a)) 0 0 (q_reg X) := by
  refine q_met 9 (by first | exact rfl | decide +kernel) rfl (Nat.le_of_ble_eq_true rfl) (fun p e s m below meth c E hml hr hlk hI ls hl => ?_)
  have hx := E.1
  have hb := E.2.1
  have hl : lv_has ls 1 [(0, .ref a)] := hl
  obtain ⟨out, hout⟩ : ∃ o, o = F_X2_topTruth X σ a := ⟨_, rfl⟩
  have hF := hout.symm
  unfold F_X2_topTruth at hF
  refine lv_aload_n hx hb dX2_topTruth_0 rfl (lv_at hl 0 rfl) ?_
  refine lv_aload_n hx hb dX2_topTruth_1 rfl (lv_at hl 0 rfl) ?_
  refine gs_X2_9_3 E hI ha dX2_topTruth_2 ?_
  refine lv_topi (fun f_1 ef_1 => ?_)
  replace hF := q_letX hF ef_1
  refine lv_iconst (v := 1) hx hb dX2_topTruth_5 zki_1 ?_
  refine lv_isub hx hb dX2_topTruth_6 ?_
  refine lv_topi (fun z_2 ez_2 => ?_)
  replace hF := q_letX hF ez_2
  refine q_ci (q_rV2_1 (rest := []) E (hml.trans hl.1.symm) hI (c_X2_truth l X σ a z_2 ha) kv_X2_51 ha ⟨Nat.le_of_ble_eq_true rfl, Nat.le_of_ble_eq_true rfl⟩ (Nat.le_of_ble_eq_true rfl) dX2_topTruth_7) hI (Nat.le_of_ble_eq_true rfl) (fun r_3 σ_4 H locs hpσ_4 hkσ_4 hI => ?_)
  have ahpσ_4 := hpσ_4.1
  have bhpσ_4 := hpσ_4.2
  clear hpσ_4
  replace hI := q_Irw ahpσ_4 hI
  replace hF := q_letX hF bhpσ_4
  exact q_reti E hr hlk hI ⟨rfl, (hF.trans hout)⟩ dX2_topTruth_10

set_option maxRecDepth 100000 in
set_option maxHeartbeats 4000000 in
theorem c_X1_laidBy (l : Launch) (X : XW) (σ : ST) (a : Nat) (v1 : Int32) (v2 : Int32) (ha : q_kd X a = 2) : Met l yX1_laidBy (q_ws yX1_laidBy cX1_laidBy 3 (some .int)) (q_rm 1 21) (q_P X σ [.ref a, .int v1, .int v2]) (q_Qi X 9 σ (fun (r : Int32) (σ' : ST) => σ' = σ ∧ r = F_X1_laidBy X σ a v1 v2)) 0 0 (q_reg X) := by
  refine q_met 9 (by first | exact rfl | decide +kernel) rfl (Nat.le_of_ble_eq_true rfl) (fun p e s m below meth c E hml hr hlk hI ls hl => ?_)
  have hx := E.1
  have hb := E.2.1
  have hl : lv_has ls 3 [(0, .ref a), (1, .int v1), (2, .int v2)] := hl
  obtain ⟨out, hout⟩ : ∃ o, o = F_X1_laidBy X σ a v1 v2 := ⟨_, rfl⟩
  have hF := hout.symm
  unfold F_X1_laidBy at hF
  refine lv_aload_n hx hb dX1_laidBy_0 rfl (lv_at hl 0 rfl) ?_
  refine gs_X1_20_2 E hI ha dX1_laidBy_1 ?_
  refine lv_iload_n hx hb dX1_laidBy_4 rfl (lv_at hl 1 rfl) ?_
  refine lv_bipush (v := 10) hx hb dX1_laidBy_5 zkb_10 ?_
  refine lv_imul hx hb dX1_laidBy_7 ?_
  refine lv_topi (fun z_1 ez_1 => ?_)
  replace hF := q_letX hF ez_1
  refine lv_iload_n hx hb dX1_laidBy_8 rfl (lv_at hl 2 rfl) ?_
  refine lv_iadd hx hb dX1_laidBy_9 ?_
  refine lv_topi (fun z_2 ez_2 => ?_)
  replace hF := q_letX hF ez_2
  refine q_ci (q_rV4_1 (rest := []) E (hml.trans hl.1.symm) hI (c_X5_get l X σ (q_rf X a 1) z_2 (q_tk (k' := 5) hI ha rfl (Nat.succ_ne_zero _))) kv_X1_45 (q_tk (k' := 5) hI ha rfl (Nat.succ_ne_zero _)) ⟨Nat.le_of_ble_eq_true rfl, Nat.le_of_ble_eq_true rfl⟩ (Nat.le_of_ble_eq_true rfl) dX1_laidBy_10) hI (Nat.le_of_ble_eq_true rfl) (fun r_3 σ_4 H locs hpσ_4 hkσ_4 hI => ?_)
  have ahpσ_4 := hpσ_4.1
  have bhpσ_4 := hpσ_4.2
  clear hpσ_4
  replace hI := q_Irw ahpσ_4 hI
  replace hF := q_letX hF bhpσ_4
  exact q_reti E hr hlk hI ⟨rfl, (hF.trans hout)⟩ dX1_laidBy_13

set_option maxRecDepth 100000 in
set_option maxHeartbeats 4000000 in
theorem c_X1_takeHeap (l : Launch) (X : XW) (σ : ST) (a : Nat) (v1 : Int32) (ha : q_kd X a = 2) : Met l yX1_takeHeap (q_ws yX1_takeHeap cX1_takeHeap 4 none) (q_rm 2 45) (q_P X σ [.ref a, .int v1]) (q_Qv X 8 σ (fun (σ' : ST) => σ' = F_X1_takeHeap X σ a v1 ∧ q_ow [(20, 99)] [] X σ σ')) 0 0 (q_reg X) := by
  refine q_met 8 (by first | exact rfl | decide +kernel) rfl (Nat.le_of_ble_eq_true rfl) (fun p e s m below meth c E hml hr hlk hI ls hl => ?_)
  have hx := E.1
  have hb := E.2.1
  have hl : lv_has ls 4 [(0, .ref a), (1, .int v1)] := hl
  have fr_σ : q_ow [(20, 99)] [] X σ σ := q_ow.rf
  obtain ⟨out, hout⟩ : ∃ o, o = F_X1_takeHeap X σ a v1 := ⟨_, rfl⟩
  have hF := hout.symm
  unfold F_X1_takeHeap at hF
  refine lv_iconst (v := 0) hx hb dX1_takeHeap_0 zki_0 ?_
  refine lv_istore_n (lv' := [(2, .int 0), (0, .ref a), (1, .int v1)]) hx hb dX1_takeHeap_1 rfl hl (by decide) rfl (fun ls hl => ?_)
  have L_2_3 : ∀ (k_3 : Nat) (x_1 : Int32) (σ_2 : ST) (H : Heap) (locs : List Loc) (ls : Array Slot), (2147483647 - x_1.toInt).toNat < k_3 → (0 ≤ x_1.toInt) → (q_ow [(20, 99)] [] X σ σ_2) → (F_X1_takeHeap_L2_1 X a v1 k_3 x_1 σ_2 = out) → q_I X 8 σ s.heap locs σ_2 H → lv_has ls 4 [(0, .ref a), (1, .int v1), (2, .int x_1)] → W p l e (q_rm 2 45) s m ([.ref a, .int v1] : List Value).toArray below meth c H locs 0 0 (MQ below (q_Qv X 8 σ (fun (σ' : ST) => σ' = F_X1_takeHeap X σ a v1 ∧ q_ow [(20, 99)] [] X σ σ')) ([.ref a, .int v1] : List Value).toArray s 0 0 (q_reg X)) (F0 m 2 ls []) := by
    clear hF
    intro k_3
    induction k_3 with
    | zero =>
      intro x_1 σ_2 H locs ls hms
      exact absurd hms (Nat.not_lt_zero _)
    | succ k_3 ih2 =>
      intro x_1 σ_2 H locs ls hm2 hge2 fr_σ_2 hF hI hl
      replace hF := (F_X1_takeHeap_L2_1_s).symm.trans hF
      unfold F_X1_takeHeap_B2_1 at hF
      refine lv_iload_n hx hb dX1_takeHeap_2 rfl (lv_at hl 2 rfl) ?_
      refine lv_bipush (v := 6) hx hb dX1_takeHeap_3 zkb_6 ?_
      have gc_4_x_1 := q_rng x_1
      refine q_icmp_ge (A := x_1.toInt) (B := 6) E rfl (by decide) (tgt := 40) dX1_takeHeap_5 (by decide) (fun c_4 => ?_) (fun c_4 => ?_)
      · skip
        replace hF := q_ifn hF (Int.not_lt.mpr c_4)
        unfold F_X1_takeHeap_E40_2 at hF
        refine lv_aload_n hx hb dX1_takeHeap_40 rfl (lv_at hl 0 rfl) ?_
        refine gs_X1_20_2 E hI ha dX1_takeHeap_41 ?_
        refine q_cv (q_rV4_0 (rest := []) E (hml.trans hl.1.symm) hI (c_X5_clear l X σ_2 (q_rf X a 1) (q_tk (k' := 5) hI ha rfl (Nat.succ_ne_zero _))) kv_X1_38 (q_tk (k' := 5) hI ha rfl (Nat.succ_ne_zero _)) ⟨Nat.le_of_ble_eq_true rfl, Nat.le_of_ble_eq_true rfl⟩ (Nat.le_of_ble_eq_true rfl) dX1_takeHeap_44) hI (Nat.le_of_ble_eq_true rfl) (fun σ_6 H locs hpσ_6 hkσ_6 hI => ?_)
        have ahpσ_6 := hpσ_6.1
        have bhpσ_6 := hpσ_6.2
        clear hpσ_6
        have fr_σ_6 := fr_σ_2.call bhpσ_6 rfl rfl
        replace hF := q_letX hF ahpσ_6
        exact q_retv E hr hlk hI ⟨(hF.trans hout), fr_σ_6⟩ dX1_takeHeap_47
      · skip
        replace hF := q_ifp hF c_4
        refine lv_iconst (v := 0) hx hb dX1_takeHeap_8 zki_0 ?_
        refine lv_istore_n (lv' := [(3, .int 0), (0, .ref a), (1, .int v1), (2, .int x_1)]) hx hb dX1_takeHeap_9 rfl hl (by decide) rfl (fun ls hl => ?_)
        have L_10_9 : ∀ (k_9 : Nat) (x_7 : Int32) (σ_8 : ST) (H : Heap) (locs : List Loc) (ls : Array Slot), (2147483647 - x_7.toInt).toNat < k_9 → (0 ≤ x_7.toInt) → (q_ow [(20, 99)] [] X σ σ_8) → (F_X1_takeHeap_L10_3 X a x_1 v1 (F_X1_takeHeap_L2_1 X a v1 k_3) k_9 x_7 σ_8 = out) → q_I X 8 σ s.heap locs σ_8 H → lv_has ls 4 [(0, .ref a), (1, .int v1), (2, .int x_1), (3, .int x_7)] → W p l e (q_rm 2 45) s m ([.ref a, .int v1] : List Value).toArray below meth c H locs 0 0 (MQ below (q_Qv X 8 σ (fun (σ' : ST) => σ' = F_X1_takeHeap X σ a v1 ∧ q_ow [(20, 99)] [] X σ σ')) ([.ref a, .int v1] : List Value).toArray s 0 0 (q_reg X)) (F0 m 10 ls []) := by
          clear hF
          intro k_9
          induction k_9 with
          | zero =>
            intro x_7 σ_8 H locs ls hms
            exact absurd hms (Nat.not_lt_zero _)
          | succ k_9 ih10 =>
            intro x_7 σ_8 H locs ls hm10 hge10 fr_σ_8 hF hI hl
            replace hF := (F_X1_takeHeap_L10_3_s).symm.trans hF
            unfold F_X1_takeHeap_B10_3 at hF
            refine lv_iload_n hx hb dX1_takeHeap_10 rfl (lv_at hl 3 rfl) ?_
            refine lv_bipush (v := 10) hx hb dX1_takeHeap_11 zkb_10 ?_
            have gc_10_x_7 := q_rng x_7
            refine q_icmp_ge (A := x_7.toInt) (B := 10) E rfl (by decide) (tgt := 34) dX1_takeHeap_13 (by decide) (fun c_10 => ?_) (fun c_10 => ?_)
            · skip
              replace hF := q_ifn hF (Int.not_lt.mpr c_10)
              unfold F_X1_takeHeap_E34_4 at hF
              obtain ⟨z_11, ez_11⟩ : ∃ y : Int32, y = x_1 + 1 := ⟨_, rfl⟩
              replace hF := q_letX hF ez_11
              refine lv_iinc (v := z_11) (lv' := [(2, .int z_11), (0, .ref a), (1, .int v1), (3, .int x_7)]) hx hb dX1_takeHeap_34 hl (k := 2) rfl (by rw [ez_11]; rfl) (by decide) rfl (fun ls hl => ?_)
              have iz_11 : z_11.toInt = x_1.toInt + 1 := q_inc ez_11 (by first | (clear hm2 hm10 hge10 gc_10_x_7 c_10; omega) | omega)
              refine lv_goto (tgt := 2) hx hb dX1_takeHeap_37 (by decide) ?_
              exact ih2 z_11 σ_8 _ _ ls (by first | (clear hm10 hge10 gc_10_x_7 c_10; omega) | omega) (by first | (clear hm2 hm10 hge10 gc_10_x_7 c_10; omega) | omega) fr_σ_8 hF hI (lv_sub hl [1, 2, 0] rfl)
            · skip
              replace hF := q_ifp hF c_10
              refine lv_aload_n hx hb dX1_takeHeap_16 rfl (lv_at hl 0 rfl) ?_
              refine lv_iload_n hx hb dX1_takeHeap_17 rfl (lv_at hl 1 rfl) ?_
              refine lv_iload_n hx hb dX1_takeHeap_18 rfl (lv_at hl 3 rfl) ?_
              refine lv_aload_n hx hb dX1_takeHeap_19 rfl (lv_at hl 0 rfl) ?_
              refine lv_iload_n hx hb dX1_takeHeap_20 rfl (lv_at hl 2 rfl) ?_
              refine lv_iload_n hx hb dX1_takeHeap_21 rfl (lv_at hl 3 rfl) ?_
              refine q_ci (q_rV1_2 (rest := [.int x_7, .int v1, .ref a]) E (hml.trans hl.1.symm) hI (c_X1_laidBy l X σ_8 a x_1 x_7 ha) kv_X1_61 ha ⟨Nat.le_of_ble_eq_true rfl, Nat.le_of_ble_eq_true rfl⟩ (Nat.le_of_ble_eq_true rfl) dX1_takeHeap_22) hI (Nat.le_of_ble_eq_true rfl) (fun r_12 σ_13 H locs hpσ_13 hkσ_13 hI => ?_)
              have ahpσ_13 := hpσ_13.1
              have bhpσ_13 := hpσ_13.2
              clear hpσ_13
              replace hI := q_Irw ahpσ_13 hI
              replace hF := q_letX hF bhpσ_13
              refine q_cv (q_rV1_3 (rest := []) E (hml.trans hl.1.symm) hI (c_X1_deal l X σ_8 a v1 x_7 r_12 ha) kv_X1_57 ha ⟨Nat.le_of_ble_eq_true rfl, Nat.le_of_ble_eq_true rfl⟩ (Nat.le_of_ble_eq_true rfl) dX1_takeHeap_25) hI (Nat.le_of_ble_eq_true rfl) (fun σ_15 H locs hpσ_15 hkσ_15 hI => ?_)
              have ahpσ_15 := hpσ_15.1
              have bhpσ_15 := hpσ_15.2
              clear hpσ_15
              have fr_σ_15 := fr_σ_8.call bhpσ_15 rfl rfl
              replace hF := q_letX hF ahpσ_15
              obtain ⟨z_16, ez_16⟩ : ∃ y : Int32, y = x_7 + 1 := ⟨_, rfl⟩
              replace hF := q_letX hF ez_16
              refine lv_iinc (v := z_16) (lv' := [(3, .int z_16), (0, .ref a), (1, .int v1), (2, .int x_1)]) hx hb dX1_takeHeap_28 hl (k := 3) rfl (by rw [ez_16]; rfl) (by decide) rfl (fun ls hl => ?_)
              have iz_16 : z_16.toInt = x_7.toInt + 1 := q_inc ez_16 (by first | (clear hm2 hge2 gc_4_x_1 c_4 hm10 ahpσ_13 bhpσ_13 ahpσ_15 bhpσ_15; omega) | omega)
              refine lv_goto (tgt := 10) hx hb dX1_takeHeap_31 (by decide) ?_
              exact ih10 z_16 σ_15 _ _ ls (by first | (clear hm2 hge2 gc_4_x_1 c_4 ahpσ_13 bhpσ_13 ahpσ_15 bhpσ_15; omega) | omega) (by first | (clear hm2 hge2 gc_4_x_1 c_4 hm10 ahpσ_13 bhpσ_13 ahpσ_15 bhpσ_15; omega) | omega) fr_σ_15 hF hI (lv_sub hl [1, 2, 3, 0] rfl)
        exact L_10_9 ((2147483647 - (0 : Int32).toInt).toNat + 1) 0 σ_2 _ _ ls (Nat.lt_succ_self _) (by decide) fr_σ_2 hF hI (lv_sub hl [1, 2, 3, 0] rfl)
  exact L_2_3 ((2147483647 - (0 : Int32).toInt).toNat + 1) 0 σ _ _ ls (Nat.lt_succ_self _) (by decide) fr_σ hF hI (lv_sub hl [1, 2, 0] rfl)

set_option maxRecDepth 100000 in
set_option maxHeartbeats 4000000 in
theorem c_X1_knownTo (l : Launch) (X : XW) (σ : ST) (a : Nat) (v1 : Int32) (v2 : Int32) (ha : q_kd X a = 2) : Met l yX1_knownTo (q_ws yX1_knownTo cX1_knownTo 4 (some .int)) (q_rm 1 21) (q_P X σ [.ref a, .int v1, .int v2]) (q_Qi X 9 σ (fun (r : Int32) (σ' : ST) => σ' = σ ∧ r = F_X1_knownTo X σ a v1 v2)) 0 0 (q_reg X) := by
  refine q_met 9 (by first | exact rfl | decide +kernel) rfl (Nat.le_of_ble_eq_true rfl) (fun p e s m below meth c E hml hr hlk hI ls hl => ?_)
  have hx := E.1
  have hb := E.2.1
  have hl : lv_has ls 4 [(0, .ref a), (1, .int v1), (2, .int v2)] := hl
  obtain ⟨out, hout⟩ : ∃ o, o = F_X1_knownTo X σ a v1 v2 := ⟨_, rfl⟩
  have hF := hout.symm
  unfold F_X1_knownTo at hF
  refine lv_iload_n hx hb dX1_knownTo_0 rfl (lv_at hl 1 rfl) ?_
  refine lv_bipush (v := 10) hx hb dX1_knownTo_1 zkb_10 ?_
  refine lv_imul hx hb dX1_knownTo_3 ?_
  refine lv_topi (fun z_1 ez_1 => ?_)
  replace hF := q_letX hF ez_1
  refine lv_iload_n hx hb dX1_knownTo_4 rfl (lv_at hl 2 rfl) ?_
  refine lv_iadd hx hb dX1_knownTo_5 ?_
  refine lv_topi (fun z_2 ez_2 => ?_)
  replace hF := q_letX hF ez_2
  refine lv_istore_n (lv' := [(3, .int z_2), (0, .ref a), (1, .int v1), (2, .int v2)]) hx hb dX1_knownTo_6 rfl hl (by decide) rfl (fun ls hl => ?_)
  refine lv_aload_n hx hb dX1_knownTo_7 rfl (lv_at hl 1 rfl) ?_
  refine gs_X1_14_2 E hI ha dX1_knownTo_8 ?_
  refine lv_iload_n hx hb dX1_knownTo_11 rfl (lv_at hl 0 rfl) ?_
  refine q_ci (q_rV4_1 (rest := []) E (hml.trans hl.1.symm) hI (c_X5_get l X σ (q_rf X a 0) z_2 (q_tk (k' := 5) hI ha rfl (Nat.succ_ne_zero _))) kv_X1_45 (q_tk (k' := 5) hI ha rfl (Nat.succ_ne_zero _)) ⟨Nat.le_of_ble_eq_true rfl, Nat.le_of_ble_eq_true rfl⟩ (Nat.le_of_ble_eq_true rfl) dX1_knownTo_12) hI (Nat.le_of_ble_eq_true rfl) (fun r_3 σ_4 H locs hpσ_4 hkσ_4 hI => ?_)
  have ahpσ_4 := hpσ_4.1
  have bhpσ_4 := hpσ_4.2
  clear hpσ_4
  replace hI := q_Irw ahpσ_4 hI
  replace hF := q_letX hF bhpσ_4
  refine lv_aload_n hx hb dX1_knownTo_15 rfl (lv_at hl 1 rfl) ?_
  refine gs_X1_20_2 E hI ha dX1_knownTo_16 ?_
  refine lv_iload_n hx hb dX1_knownTo_19 rfl (lv_at hl 0 rfl) ?_
  refine q_ci (q_rV4_1 (rest := [.int r_3]) E (hml.trans hl.1.symm) hI (c_X5_get l X σ (q_rf X a 1) z_2 (q_tk (k' := 5) hI ha rfl (Nat.succ_ne_zero _))) kv_X1_45 (q_tk (k' := 5) hI ha rfl (Nat.succ_ne_zero _)) ⟨Nat.le_of_ble_eq_true rfl, Nat.le_of_ble_eq_true rfl⟩ (Nat.le_of_ble_eq_true rfl) dX1_knownTo_20) hI (Nat.le_of_ble_eq_true rfl) (fun r_5 σ_6 H locs hpσ_6 hkσ_6 hI => ?_)
  have ahpσ_6 := hpσ_6.1
  have bhpσ_6 := hpσ_6.2
  clear hpσ_6
  replace hI := q_Irw ahpσ_6 hI
  replace hF := q_letX hF bhpσ_6
  refine lv_iadd hx hb dX1_knownTo_23 ?_
  refine lv_topi (fun z_7 ez_7 => ?_)
  replace hF := q_letX hF ez_7
  exact q_reti E hr hlk hI ⟨rfl, (hF.trans hout)⟩ dX1_knownTo_24

set_option maxRecDepth 100000 in
set_option maxHeartbeats 4000000 in
theorem c_X2_topSize (l : Launch) (X : XW) (σ : ST) (a : Nat) (ha : q_kd X a = 3) : Met l yX2_topSize (q_ws yX2_topSize cX2_topSize 1 (some .int)) (q_rm 1 21) (q_P X σ [.ref a]) (q_Qi X 9 σ (fun (r : Int32) (σ' : ST) => σ' = σ ∧ r = F_X2_topSize X σ a)) 0 0 (q_reg X) := by
  refine q_met 9 (by first | exact rfl | decide +kernel) rfl (Nat.le_of_ble_eq_true rfl) (fun p e s m below meth c E hml hr hlk hI ls hl => ?_)
  have hx := E.1
  have hb := E.2.1
  have hl : lv_has ls 1 [(0, .ref a)] := hl
  obtain ⟨out, hout⟩ : ∃ o, o = F_X2_topSize X σ a := ⟨_, rfl⟩
  have hF := hout.symm
  unfold F_X2_topSize at hF
  refine lv_aload_n hx hb dX2_topSize_0 rfl (lv_at hl 0 rfl) ?_
  refine gs_X2_30_3 E hI ha dX2_topSize_1 ?_
  refine lv_aload_n hx hb dX2_topSize_4 rfl (lv_at hl 0 rfl) ?_
  refine gs_X2_9_3 E hI ha dX2_topSize_5 ?_
  refine lv_topi (fun f_1 ef_1 => ?_)
  replace hF := q_letX hF ef_1
  refine lv_iconst (v := 1) hx hb dX2_topSize_8 zki_1 ?_
  refine lv_isub hx hb dX2_topSize_9 ?_
  refine lv_topi (fun z_2 ez_2 => ?_)
  replace hF := q_letX hF ez_2
  refine q_ci (q_rV4_1 (rest := []) E (hml.trans hl.1.symm) hI (c_X5_get l X σ (q_rf X a 4) z_2 (q_tk (k' := 5) hI ha rfl (Nat.succ_ne_zero _))) kv_X2_44 (q_tk (k' := 5) hI ha rfl (Nat.succ_ne_zero _)) ⟨Nat.le_of_ble_eq_true rfl, Nat.le_of_ble_eq_true rfl⟩ (Nat.le_of_ble_eq_true rfl) dX2_topSize_10) hI (Nat.le_of_ble_eq_true rfl) (fun r_3 σ_4 H locs hpσ_4 hkσ_4 hI => ?_)
  have ahpσ_4 := hpσ_4.1
  have bhpσ_4 := hpσ_4.2
  clear hpσ_4
  replace hI := q_Irw ahpσ_4 hI
  replace hF := q_letX hF bhpσ_4
  exact q_reti E hr hlk hI ⟨rfl, (hF.trans hout)⟩ dX2_topSize_13

set_option maxRecDepth 100000 in
set_option maxHeartbeats 4000000 in
theorem c_X1_honestTop (l : Launch) (X : XW) (σ : ST) (a : Nat) (v1 : Int32) (ha : q_kd X a = 2) : Met l yX1_honestTop (q_ws yX1_honestTop cX1_honestTop 2 (some .long)) (q_rm 1 21) (q_P X σ [.ref a, .int v1]) (q_Ql X 9 σ (fun (r : Int64) (σ' : ST) => σ' = σ ∧ r = F_X1_honestTop X σ a v1)) 0 0 (q_reg X) := by
  refine q_met 9 (by first | exact rfl | decide +kernel) rfl (Nat.le_of_ble_eq_true rfl) (fun p e s m below meth c E hml hr hlk hI ls hl => ?_)
  have hx := E.1
  have hb := E.2.1
  have hl : lv_has ls 2 [(0, .ref a), (1, .int v1)] := hl
  obtain ⟨out, hout⟩ : ∃ o, o = F_X1_honestTop X σ a v1 := ⟨_, rfl⟩
  have hF := hout.symm
  unfold F_X1_honestTop at hF
  refine lv_aload_n hx hb dX1_honestTop_0 rfl (lv_at hl 0 rfl) ?_
  refine gs_X1_32_2 E hI ha dX1_honestTop_1 ?_
  refine lv_iload_n hx hb dX1_honestTop_4 rfl (lv_at hl 1 rfl) ?_
  refine q_ci (q_rV4_1 (rest := []) E (hml.trans hl.1.symm) hI (c_X5_get l X σ (q_rf X a 5) v1 (q_tk (k' := 5) hI ha rfl (Nat.succ_ne_zero _))) kv_X1_45 (q_tk (k' := 5) hI ha rfl (Nat.succ_ne_zero _)) ⟨Nat.le_of_ble_eq_true rfl, Nat.le_of_ble_eq_true rfl⟩ (Nat.le_of_ble_eq_true rfl) dX1_honestTop_5) hI (Nat.le_of_ble_eq_true rfl) (fun r_1 σ_2 H locs hpσ_2 hkσ_2 hI => ?_)
  have ahpσ_2 := hpσ_2.1
  have bhpσ_2 := hpσ_2.2
  clear hpσ_2
  replace hI := q_Irw ahpσ_2 hI
  replace hF := q_letX hF bhpσ_2
  refine lv_aload_n hx hb dX1_honestTop_8 rfl (lv_at hl 0 rfl) ?_
  refine gs_X1_35_2 E hI ha dX1_honestTop_9 ?_
  refine lv_iload_n hx hb dX1_honestTop_12 rfl (lv_at hl 1 rfl) ?_
  refine q_ci (q_rV4_1 (rest := [.int r_1]) E (hml.trans hl.1.symm) hI (c_X5_get l X σ (q_rf X a 6) v1 (q_tk (k' := 5) hI ha rfl (Nat.succ_ne_zero _))) kv_X1_45 (q_tk (k' := 5) hI ha rfl (Nat.succ_ne_zero _)) ⟨Nat.le_of_ble_eq_true rfl, Nat.le_of_ble_eq_true rfl⟩ (Nat.le_of_ble_eq_true rfl) dX1_honestTop_13) hI (Nat.le_of_ble_eq_true rfl) (fun r_3 σ_4 H locs hpσ_4 hkσ_4 hI => ?_)
  have ahpσ_4 := hpσ_4.1
  have bhpσ_4 := hpσ_4.2
  clear hpσ_4
  replace hI := q_Irw ahpσ_4 hI
  replace hF := q_letX hF bhpσ_4
  refine lv_isub hx hb dX1_honestTop_16 ?_
  refine lv_topi (fun z_5 ez_5 => ?_)
  replace hF := q_letX hF ez_5
  refine lv_i2l hx hb dX1_honestTop_17 rfl ?_
  refine lv_topl (fun y_6 ey_6 => ?_)
  replace hF := q_letX hF ey_6
  refine lv_lconst (v := 1) hx hb dX1_honestTop_18 (by decide) ?_
  refine lv_ladd hx hb dX1_honestTop_19 ?_
  refine lv_topl (fun y_7 ey_7 => ?_)
  replace hF := q_letX hF ey_7
  exact q_retl E hr hlk hI ⟨rfl, (hF.trans hout)⟩ dX1_honestTop_20

set_option maxRecDepth 100000 in
set_option maxHeartbeats 4000000 in
theorem c_X1_honestBottom (l : Launch) (X : XW) (σ : ST) (a : Nat) (v1 : Int32) (ha : q_kd X a = 2) : Met l yX1_honestBottom (q_ws yX1_honestBottom cX1_honestBottom 2 (some .long)) (q_rm 1 21) (q_P X σ [.ref a, .int v1]) (q_Ql X 9 σ (fun (r : Int64) (σ' : ST) => σ' = σ ∧ r = F_X1_honestBottom X σ a v1)) 0 0 (q_reg X) := by
  refine q_met 9 (by first | exact rfl | decide +kernel) rfl (Nat.le_of_ble_eq_true rfl) (fun p e s m below meth c E hml hr hlk hI ls hl => ?_)
  have hx := E.1
  have hb := E.2.1
  have hl : lv_has ls 2 [(0, .ref a), (1, .int v1)] := hl
  obtain ⟨out, hout⟩ : ∃ o, o = F_X1_honestBottom X σ a v1 := ⟨_, rfl⟩
  have hF := hout.symm
  unfold F_X1_honestBottom at hF
  refine lv_aload_n hx hb dX1_honestBottom_0 rfl (lv_at hl 0 rfl) ?_
  refine gs_X1_32_2 E hI ha dX1_honestBottom_1 ?_
  refine lv_iload_n hx hb dX1_honestBottom_4 rfl (lv_at hl 1 rfl) ?_
  refine q_ci (q_rV4_1 (rest := []) E (hml.trans hl.1.symm) hI (c_X5_get l X σ (q_rf X a 5) v1 (q_tk (k' := 5) hI ha rfl (Nat.succ_ne_zero _))) kv_X1_45 (q_tk (k' := 5) hI ha rfl (Nat.succ_ne_zero _)) ⟨Nat.le_of_ble_eq_true rfl, Nat.le_of_ble_eq_true rfl⟩ (Nat.le_of_ble_eq_true rfl) dX1_honestBottom_5) hI (Nat.le_of_ble_eq_true rfl) (fun r_1 σ_2 H locs hpσ_2 hkσ_2 hI => ?_)
  have ahpσ_2 := hpσ_2.1
  have bhpσ_2 := hpσ_2.2
  clear hpσ_2
  replace hI := q_Irw ahpσ_2 hI
  replace hF := q_letX hF bhpσ_2
  refine lv_i2l hx hb dX1_honestBottom_8 rfl ?_
  refine lv_topl (fun y_3 ey_3 => ?_)
  replace hF := q_letX hF ey_3
  refine lv_ldc2 (v := 2) hx hb E.2.2.1 (E.2.2.2.1 _ (q_in_t6 (i := 1) (by first | rfl | decide +kernel) rfl)) dX1_honestBottom_9 ?_
  refine lv_ladd hx hb dX1_honestBottom_12 ?_
  refine lv_topl (fun y_4 ey_4 => ?_)
  replace hF := q_letX hF ey_4
  exact q_retl E hr hlk hI ⟨rfl, (hF.trans hout)⟩ dX1_honestBottom_13

set_option maxRecDepth 100000 in
set_option maxHeartbeats 4000000 in
theorem c_X2_timesSaid (l : Launch) (X : XW) (σ : ST) (a : Nat) (v1 : Int32) (v2 : Int32) (ha : q_kd X a = 3) : Met l yX2_timesSaid (q_ws yX2_timesSaid cX2_timesSaid 5 (some .int)) (q_rm 1 21) (q_P X σ [.ref a, .int v1, .int v2]) (q_Qi X 9 σ (fun (r : Int32) (σ' : ST) => σ' = σ ∧ r = F_X2_timesSaid X σ a v1 v2)) 0 0 (q_reg X) := by
  refine q_met 9 (by first | exact rfl | decide +kernel) rfl (Nat.le_of_ble_eq_true rfl) (fun p e s m below meth c E hml hr hlk hI ls hl => ?_)
  have hx := E.1
  have hb := E.2.1
  have hl : lv_has ls 5 [(0, .ref a), (1, .int v1), (2, .int v2)] := hl
  obtain ⟨out, hout⟩ : ∃ o, o = F_X2_timesSaid X σ a v1 v2 := ⟨_, rfl⟩
  have hF := hout.symm
  unfold F_X2_timesSaid at hF
  refine lv_iconst (v := 0) hx hb dX2_timesSaid_0 zki_0 ?_
  refine lv_istore_n (lv' := [(3, .int 0), (0, .ref a), (1, .int v1), (2, .int v2)]) hx hb dX2_timesSaid_1 rfl hl (by decide) rfl (fun ls hl => ?_)
  refine lv_iconst (v := 0) hx hb dX2_timesSaid_2 zki_0 ?_
  refine lv_istore (lv' := [(4, .int 0), (3, .int 0), (0, .ref a), (1, .int v1), (2, .int v2)]) hx hb dX2_timesSaid_3 hl (by decide) rfl (fun ls hl => ?_)
  have L_5_3 : ∀ (k_3 : Nat) (x_1 : Int32) (x_2 : Int32) (H : Heap) (locs : List Loc) (ls : Array Slot), (2147483647 - x_2.toInt).toNat < k_3 → (0 ≤ x_2.toInt) → (F_X2_timesSaid_L5_1 X σ a v1 v2 k_3 x_1 x_2 = out) → q_I X 9 σ s.heap locs σ H → lv_has ls 5 [(0, .ref a), (1, .int v1), (2, .int v2), (3, .int x_1), (4, .int x_2)] → W p l e (q_rm 1 21) s m ([.ref a, .int v1, .int v2] : List Value).toArray below meth c H locs 0 0 (MQ below (q_Qi X 9 σ (fun (r : Int32) (σ' : ST) => σ' = σ ∧ r = F_X2_timesSaid X σ a v1 v2)) ([.ref a, .int v1, .int v2] : List Value).toArray s 0 0 (q_reg X)) (F0 m 5 ls []) := by
    clear hF
    intro k_3
    induction k_3 with
    | zero =>
      intro x_1 x_2 H locs ls hms
      exact absurd hms (Nat.not_lt_zero _)
    | succ k_3 ih5 =>
      intro x_1 x_2 H locs ls hm5 hge5 hF hI hl
      replace hF := (F_X2_timesSaid_L5_1_s).symm.trans hF
      unfold F_X2_timesSaid_B5_1 at hF
      refine lv_iload hx hb dX2_timesSaid_5 (lv_at hl 4 rfl) ?_
      refine lv_aload_n hx hb dX2_timesSaid_7 rfl (lv_at hl 0 rfl) ?_
      refine gs_X2_9_3 E hI ha dX2_timesSaid_8 ?_
      refine lv_topi (fun f_4 ef_4 => ?_)
      replace hF := q_letX hF ef_4
      have gc_5_x_2 := q_rng x_2
      have gc_5_f_4 := q_rng f_4
      refine q_icmp_ge (A := x_2.toInt) (B := f_4.toInt) E rfl rfl (tgt := 49) dX2_timesSaid_11 (by decide) (fun c_5 => ?_) (fun c_5 => ?_)
      · skip
        replace hF := q_ifn hF (Int.not_lt.mpr c_5)
        skip
        refine lv_iload_n hx hb dX2_timesSaid_49 rfl (lv_at hl 3 rfl) ?_
        exact q_reti E hr hlk hI ⟨rfl, (hF.trans hout)⟩ dX2_timesSaid_50
      · skip
        replace hF := q_ifp hF c_5
        refine lv_aload_n hx hb dX2_timesSaid_14 rfl (lv_at hl 0 rfl) ?_
        refine gs_X2_23_3 E hI ha dX2_timesSaid_15 ?_
        refine lv_iload hx hb dX2_timesSaid_18 (lv_at hl 4 rfl) ?_
        refine q_ci (q_rV4_1 (rest := []) E (hml.trans hl.1.symm) hI (c_X5_get l X σ (q_rf X a 2) x_2 (q_tk (k' := 5) hI ha rfl (Nat.succ_ne_zero _))) kv_X2_44 (q_tk (k' := 5) hI ha rfl (Nat.succ_ne_zero _)) ⟨Nat.le_of_ble_eq_true rfl, Nat.le_of_ble_eq_true rfl⟩ (Nat.le_of_ble_eq_true rfl) dX2_timesSaid_20) hI (Nat.le_of_ble_eq_true rfl) (fun r_6 σ_7 H locs hpσ_7 hkσ_7 hI => ?_)
        have ahpσ_7 := hpσ_7.1
        have bhpσ_7 := hpσ_7.2
        clear hpσ_7
        replace hI := q_Irw ahpσ_7 hI
        replace hF := q_letX hF bhpσ_7
        refine lv_iload_n hx hb dX2_timesSaid_23 rfl (lv_at hl 1 rfl) ?_
        have gc_8_r_6 := q_rng r_6
        have gc_8_v1 := q_rng v1
        refine q_icmp_ne (A := r_6.toInt) (B := v1.toInt) E rfl rfl (tgt := 43) dX2_timesSaid_24 (by decide) (fun c_8 => ?_) (fun c_8 => ?_)
        · skip
          replace hF := q_ifn hF c_8
          obtain ⟨z_9, ez_9⟩ : ∃ y : Int32, y = x_2 + 1 := ⟨_, rfl⟩
          replace hF := q_letX hF ez_9
          refine lv_iinc (v := z_9) (lv' := [(4, .int z_9), (0, .ref a), (1, .int v1), (2, .int v2), (3, .int x_1)]) hx hb dX2_timesSaid_43 hl (k := 4) rfl (by rw [ez_9]; rfl) (by decide) rfl (fun ls hl => ?_)
          have iz_9 : z_9.toInt = x_2.toInt + 1 := q_inc ez_9 (by first | (clear hm5 ahpσ_7 bhpσ_7 gc_8_r_6 gc_8_v1 c_8; omega) | omega)
          refine lv_goto (tgt := 5) hx hb dX2_timesSaid_46 (by decide) ?_
          exact ih5 x_1 z_9 _ _ ls (by first | (clear ahpσ_7 bhpσ_7 gc_8_r_6 gc_8_v1; omega) | omega) (by first | (clear hm5 gc_5_f_4 c_5 ahpσ_7 bhpσ_7 gc_8_r_6 gc_8_v1 c_8; omega) | omega) hF hI (lv_sub hl [1, 2, 3, 4, 0] rfl)
        · skip
          replace hF := q_ifp hF c_8
          refine lv_aload_n hx hb dX2_timesSaid_27 rfl (lv_at hl 0 rfl) ?_
          refine gs_X2_27_3 E hI ha dX2_timesSaid_28 ?_
          refine lv_iload hx hb dX2_timesSaid_31 (lv_at hl 4 rfl) ?_
          refine q_ci (q_rV4_1 (rest := []) E (hml.trans hl.1.symm) hI (c_X5_get l X σ (q_rf X a 3) x_2 (q_tk (k' := 5) hI ha rfl (Nat.succ_ne_zero _))) kv_X2_44 (q_tk (k' := 5) hI ha rfl (Nat.succ_ne_zero _)) ⟨Nat.le_of_ble_eq_true rfl, Nat.le_of_ble_eq_true rfl⟩ (Nat.le_of_ble_eq_true rfl) dX2_timesSaid_33) hI (Nat.le_of_ble_eq_true rfl) (fun r_10 σ_11 H locs hpσ_11 hkσ_11 hI => ?_)
          have ahpσ_11 := hpσ_11.1
          have bhpσ_11 := hpσ_11.2
          clear hpσ_11
          replace hI := q_Irw ahpσ_11 hI
          replace hF := q_letX hF bhpσ_11
          refine lv_iload_n hx hb dX2_timesSaid_36 rfl (lv_at hl 2 rfl) ?_
          have gc_12_r_10 := q_rng r_10
          have gc_12_v2 := q_rng v2
          refine q_icmp_ne (A := r_10.toInt) (B := v2.toInt) E rfl rfl (tgt := 43) dX2_timesSaid_37 (by decide) (fun c_12 => ?_) (fun c_12 => ?_)
          · skip
            replace hF := q_ifn hF c_12
            obtain ⟨z_13, ez_13⟩ : ∃ y : Int32, y = x_2 + 1 := ⟨_, rfl⟩
            replace hF := q_letX hF ez_13
            refine lv_iinc (v := z_13) (lv' := [(4, .int z_13), (0, .ref a), (1, .int v1), (2, .int v2), (3, .int x_1)]) hx hb dX2_timesSaid_43 hl (k := 4) rfl (by rw [ez_13]; rfl) (by decide) rfl (fun ls hl => ?_)
            have iz_13 : z_13.toInt = x_2.toInt + 1 := q_inc ez_13 (by first | (clear hm5 ahpσ_7 bhpσ_7 gc_8_r_6 gc_8_v1 c_8 ahpσ_11 bhpσ_11 gc_12_r_10 gc_12_v2 c_12; omega) | omega)
            refine lv_goto (tgt := 5) hx hb dX2_timesSaid_46 (by decide) ?_
            exact ih5 x_1 z_13 _ _ ls (by first | (clear ahpσ_7 bhpσ_7 gc_8_r_6 gc_8_v1 c_8 ahpσ_11 bhpσ_11 gc_12_r_10 gc_12_v2; omega) | omega) (by first | (clear hm5 gc_5_f_4 c_5 ahpσ_7 bhpσ_7 gc_8_r_6 gc_8_v1 c_8 ahpσ_11 bhpσ_11 gc_12_r_10 gc_12_v2 c_12; omega) | omega) hF hI (lv_sub hl [1, 2, 3, 4, 0] rfl)
          · skip
            replace hF := q_ifp hF c_12
            obtain ⟨z_14, ez_14⟩ : ∃ y : Int32, y = x_1 + 1 := ⟨_, rfl⟩
            replace hF := q_letX hF ez_14
            refine lv_iinc (v := z_14) (lv' := [(3, .int z_14), (0, .ref a), (1, .int v1), (2, .int v2), (4, .int x_2)]) hx hb dX2_timesSaid_40 hl (k := 3) rfl (by rw [ez_14]; rfl) (by decide) rfl (fun ls hl => ?_)
            obtain ⟨z_15, ez_15⟩ : ∃ y : Int32, y = x_2 + 1 := ⟨_, rfl⟩
            replace hF := q_letX hF ez_15
            refine lv_iinc (v := z_15) (lv' := [(4, .int z_15), (3, .int z_14), (0, .ref a), (1, .int v1), (2, .int v2)]) hx hb dX2_timesSaid_43 hl (k := 4) rfl (by rw [ez_15]; rfl) (by decide) rfl (fun ls hl => ?_)
            have iz_15 : z_15.toInt = x_2.toInt + 1 := q_inc ez_15 (by first | (clear hm5 ahpσ_7 bhpσ_7 gc_8_r_6 gc_8_v1 c_8 ahpσ_11 bhpσ_11 gc_12_r_10 gc_12_v2 c_12; omega) | omega)
            refine lv_goto (tgt := 5) hx hb dX2_timesSaid_46 (by decide) ?_
            exact ih5 z_14 z_15 _ _ ls (by first | (clear ahpσ_7 bhpσ_7 gc_8_r_6 gc_8_v1 c_8 ahpσ_11 bhpσ_11 gc_12_r_10 gc_12_v2 c_12; omega) | omega) (by first | (clear hm5 gc_5_f_4 c_5 ahpσ_7 bhpσ_7 gc_8_r_6 gc_8_v1 c_8 ahpσ_11 bhpσ_11 gc_12_r_10 gc_12_v2 c_12; omega) | omega) hF hI (lv_sub hl [2, 3, 4, 1, 0] rfl)
  exact L_5_3 ((2147483647 - (0 : Int32).toInt).toNat + 1) 0 0 _ _ ls (Nat.lt_succ_self _) (by decide) hF hI (lv_sub hl [2, 3, 4, 1, 0] rfl)

set_option maxRecDepth 100000 in
set_option maxHeartbeats 4000000 in
theorem c_X8_meets (l : Launch) (X : XW) (σ : ST) (a : Nat) (v1 : Int32) (v2 : Int32) (ha : q_kd X a = 8) : Met l yX8_meets (q_ws yX8_meets cX8_meets 5 (some .boolean)) (q_rm 1 21) (q_P X σ [.ref a, .int v1, .int v2]) (q_Qi X 9 σ (fun (r : Int32) (σ' : ST) => σ' = σ ∧ (0 ≤ r.toInt ∧ r.toInt ≤ 1) ∧ r = F_X8_meets X σ a v1 v2)) 0 0 (q_reg X) := by
  refine q_met 9 (by first | exact rfl | decide +kernel) rfl (Nat.le_of_ble_eq_true rfl) (fun p e s m below meth c E hml hr hlk hI ls hl => ?_)
  have hx := E.1
  have hb := E.2.1
  have hl : lv_has ls 5 [(0, .ref a), (1, .int v1), (2, .int v2)] := hl
  obtain ⟨out, hout⟩ : ∃ o, o = F_X8_meets X σ a v1 v2 := ⟨_, rfl⟩
  have hF := hout.symm
  unfold F_X8_meets at hF
  refine lv_aload_n hx hb dX8_meets_0 rfl (lv_at hl 0 rfl) ?_
  refine gs_X8_40_8 E hI ha dX8_meets_1 ?_
  refine lv_iload_n hx hb dX8_meets_4 rfl (lv_at hl 1 rfl) ?_
  refine q_ci (q_rV4_1 (rest := []) E (hml.trans hl.1.symm) hI (c_X5_get l X σ (q_rf X a 7) v1 (q_tk (k' := 5) hI ha rfl (Nat.succ_ne_zero _))) kv_X8_51 (q_tk (k' := 5) hI ha rfl (Nat.succ_ne_zero _)) ⟨Nat.le_of_ble_eq_true rfl, Nat.le_of_ble_eq_true rfl⟩ (Nat.le_of_ble_eq_true rfl) dX8_meets_5) hI (Nat.le_of_ble_eq_true rfl) (fun r_1 σ_2 H locs hpσ_2 hkσ_2 hI => ?_)
  have ahpσ_2 := hpσ_2.1
  have bhpσ_2 := hpσ_2.2
  clear hpσ_2
  replace hI := q_Irw ahpσ_2 hI
  replace hF := q_letX hF bhpσ_2
  refine lv_istore_n (lv' := [(3, .int r_1), (0, .ref a), (1, .int v1), (2, .int v2)]) hx hb dX8_meets_8 rfl hl (by decide) rfl (fun ls hl => ?_)
  refine lv_aload_n hx hb dX8_meets_9 rfl (lv_at hl 1 rfl) ?_
  refine gs_X8_37_8 E hI ha dX8_meets_10 ?_
  refine lv_iload_n hx hb dX8_meets_13 rfl (lv_at hl 2 rfl) ?_
  refine q_ci (q_rV4_1 (rest := []) E (hml.trans hl.1.symm) hI (c_X5_get l X σ (q_rf X a 6) v1 (q_tk (k' := 5) hI ha rfl (Nat.succ_ne_zero _))) kv_X8_51 (q_tk (k' := 5) hI ha rfl (Nat.succ_ne_zero _)) ⟨Nat.le_of_ble_eq_true rfl, Nat.le_of_ble_eq_true rfl⟩ (Nat.le_of_ble_eq_true rfl) dX8_meets_14) hI (Nat.le_of_ble_eq_true rfl) (fun r_3 σ_4 H locs hpσ_4 hkσ_4 hI => ?_)
  have ahpσ_4 := hpσ_4.1
  have bhpσ_4 := hpσ_4.2
  clear hpσ_4
  replace hI := q_Irw ahpσ_4 hI
  replace hF := q_letX hF bhpσ_4
  refine lv_istore (lv' := [(4, .int r_3), (3, .int r_1), (0, .ref a), (1, .int v1), (2, .int v2)]) hx hb dX8_meets_17 hl (by decide) rfl (fun ls hl => ?_)
  refine lv_iload hx hb dX8_meets_19 (lv_at hl 0 rfl) ?_
  refine lv_bipush (v := 60) hx hb dX8_meets_21 zkb_60 ?_
  refine q_icmp_ne (A := r_3.toInt) (B := 60) E rfl (by decide) (tgt := 37) dX8_meets_23 (by decide) (fun c_5 => ?_) (fun c_5 => ?_)
  · skip
    replace hF := q_ifn hF c_5
    refine lv_iload hx hb dX8_meets_37 (lv_at hl 0 rfl) ?_
    refine lv_bipush (v := 62) hx hb dX8_meets_39 zkb_62 ?_
    refine q_icmp_ne (A := r_3.toInt) (B := 62) E rfl (by decide) (tgt := 57) dX8_meets_41 (by decide) (fun c_6 => ?_) (fun c_6 => ?_)
    · skip
      replace hF := q_ifn hF c_6
      refine lv_iload_n hx hb dX8_meets_57 rfl (lv_at hl 4 rfl) ?_
      refine lv_iload_n hx hb dX8_meets_58 rfl (lv_at hl 1 rfl) ?_
      refine q_icmp_ne (A := v2.toInt) (B := r_1.toInt) E rfl rfl (tgt := 66) dX8_meets_59 (by decide) (fun c_7 => ?_) (fun c_7 => ?_)
      · skip
        replace hF := q_ifn hF c_7
        refine lv_iconst (v := 0) hx hb dX8_meets_66 zki_0 ?_
        have hrv : (0 : Int32).toInt = 0 := zt_0
        exact q_retz E hr hlk hI ⟨by decide, by decide⟩ ⟨rfl, ⟨by decide, by decide⟩, (hF.trans hout)⟩ dX8_meets_67
      · skip
        replace hF := q_ifp hF c_7
        refine lv_iconst (v := 1) hx hb dX8_meets_62 zki_1 ?_
        refine lv_goto (tgt := 67) hx hb dX8_meets_63 (by decide) ?_
        have hrv : (1 : Int32).toInt = 1 := zt_1
        exact q_retz E hr hlk hI ⟨by decide, by decide⟩ ⟨rfl, ⟨by decide, by decide⟩, (hF.trans hout)⟩ dX8_meets_67
    · skip
      replace hF := q_ifp hF c_6
      refine lv_iload_n hx hb dX8_meets_44 rfl (lv_at hl 4 rfl) ?_
      refine lv_iload_n hx hb dX8_meets_45 rfl (lv_at hl 1 rfl) ?_
      refine q_icmp_le (A := v2.toInt) (B := r_1.toInt) E rfl rfl (tgt := 53) dX8_meets_46 (by decide) (fun c_8 => ?_) (fun c_8 => ?_)
      · skip
        replace hF := q_ifn hF (Int.not_lt.mpr c_8)
        refine lv_iconst (v := 0) hx hb dX8_meets_53 zki_0 ?_
        refine lv_goto (tgt := 67) hx hb dX8_meets_54 (by decide) ?_
        have hrv : (0 : Int32).toInt = 0 := zt_0
        exact q_retz E hr hlk hI ⟨by decide, by decide⟩ ⟨rfl, ⟨by decide, by decide⟩, (hF.trans hout)⟩ dX8_meets_67
      · skip
        replace hF := q_ifp hF c_8
        refine lv_iconst (v := 1) hx hb dX8_meets_49 zki_1 ?_
        refine lv_goto (tgt := 67) hx hb dX8_meets_50 (by decide) ?_
        have hrv : (1 : Int32).toInt = 1 := zt_1
        exact q_retz E hr hlk hI ⟨by decide, by decide⟩ ⟨rfl, ⟨by decide, by decide⟩, (hF.trans hout)⟩ dX8_meets_67
  · skip
    replace hF := q_ifp hF c_5
    refine lv_iload_n hx hb dX8_meets_26 rfl (lv_at hl 4 rfl) ?_
    refine lv_iload_n hx hb dX8_meets_27 rfl (lv_at hl 1 rfl) ?_
    refine q_icmp_ge (A := v2.toInt) (B := r_1.toInt) E rfl rfl (tgt := 35) dX8_meets_28 (by decide) (fun c_9 => ?_) (fun c_9 => ?_)
    · skip
      replace hF := q_ifn hF (Int.not_lt.mpr c_9)
      refine lv_iconst (v := 0) hx hb dX8_meets_35 zki_0 ?_
      have hrv : (0 : Int32).toInt = 0 := zt_0
      exact q_retz E hr hlk hI ⟨by decide, by decide⟩ ⟨rfl, ⟨by decide, by decide⟩, (hF.trans hout)⟩ dX8_meets_36
    · skip
      replace hF := q_ifp hF c_9
      refine lv_iconst (v := 1) hx hb dX8_meets_31 zki_1 ?_
      refine lv_goto (tgt := 36) hx hb dX8_meets_32 (by decide) ?_
      have hrv : (1 : Int32).toInt = 1 := zt_1
      exact q_retz E hr hlk hI ⟨by decide, by decide⟩ ⟨rfl, ⟨by decide, by decide⟩, (hF.trans hout)⟩ dX8_meets_36
end
/-! FROM 12.reader.a.lean.txt -/
section
section QS
variable {p : Program} {l : Launch} {e : Env} {R : Room} {s : State} {m : MethodId} {args : Array Value} {below : List Frame} {meth : Method} {c : Code} {H : Heap} {locs : List Loc} {cells slots : Nat} {Q : State → Prop} {cc : ByteArray} {X : XW} {n : Nat} {σ0 σ : ST} {H0 : Heap} {pc : Nat} {ls : Array Slot} {rest : List Value} {a : Nat}
theorem ps_X6_9_6 (E : q_E p c cc s m args RX6 X) (hI : q_I X n σ0 H0 locs σ H) (ha : q_kd X a = 6) {v : Int32} (hcl : n < 9) (h1 : -2147483648 ≤ v.toInt) (h2 : v.toInt ≤ 10) (hdg : decode cc pc = .ok (.putfield 9, 3)) (kk : ∀ (H1 : Heap) (locs1 : List Loc) (σ1 : ST), σ1 = q_si σ a 0 v → q_I X n σ0 H0 locs1 σ1 H1 → W p l e R s m args below meth c H1 locs1 cells slots Q (F0 m (pc + 3) ls rest)) : W p l e R s m args below meth c H locs cells slots Q (F0 m pc ls (.int v :: .ref a :: rest)) :=
  q_puti (ref := "CheatHeap$Rules") E hI ha ⟨rfl, by decide⟩ (show vwCl[5]? = some (RX6, TX6, 8) from rfl) q_inX6 tyX6_ok nmX6 (f := 0) (by decide) (q_in_t1 (i := 57) (by first | rfl | decide +kernel) rfl) (Or.inl rfl) rfl rfl hcl hdg (q_inB rfl h1 h2) (Or.inl rfl) (fun H1 l1 h => kk H1 l1 _ rfl h)
theorem ps_X6_15_6 (E : q_E p c cc s m args RX6 X) (hI : q_I X n σ0 H0 locs σ H) (ha : q_kd X a = 6) {v : Int32} (hcl : n < 9) (hdg : decode cc pc = .ok (.putfield 15, 3)) (kk : ∀ (H1 : Heap) (locs1 : List Loc) (σ1 : ST), σ1 = q_si σ a 1 v → q_I X n σ0 H0 locs1 σ1 H1 → W p l e R s m args below meth c H1 locs1 cells slots Q (F0 m (pc + 3) ls rest)) : W p l e R s m args below meth c H locs cells slots Q (F0 m pc ls (.int v :: .ref a :: rest)) :=
  q_puti (ref := "CheatHeap$Rules") E hI ha ⟨rfl, by decide⟩ (show vwCl[5]? = some (RX6, TX6, 8) from rfl) q_inX6 tyX6_ok nmX6 (f := 1) (by decide) (q_in_t1 (i := 62) (by first | rfl | decide +kernel) rfl) (Or.inl rfl) rfl rfl hcl hdg (q_inU rfl) (Or.inl rfl) (fun H1 l1 h => kk H1 l1 _ rfl h)
theorem ps_X6_18_6 (E : q_E p c cc s m args RX6 X) (hI : q_I X n σ0 H0 locs σ H) (ha : q_kd X a = 6) {v : Int32} (hcl : n < 9) (hdg : decode cc pc = .ok (.putfield 18, 3)) (kk : ∀ (H1 : Heap) (locs1 : List Loc) (σ1 : ST), σ1 = q_si σ a 2 v → q_I X n σ0 H0 locs1 σ1 H1 → W p l e R s m args below meth c H1 locs1 cells slots Q (F0 m (pc + 3) ls rest)) : W p l e R s m args below meth c H locs cells slots Q (F0 m pc ls (.int v :: .ref a :: rest)) :=
  q_puti (ref := "CheatHeap$Rules") E hI ha ⟨rfl, by decide⟩ (show vwCl[5]? = some (RX6, TX6, 8) from rfl) q_inX6 tyX6_ok nmX6 (f := 2) (by decide) (q_in_t1 (i := 65) (by first | rfl | decide +kernel) rfl) (Or.inl rfl) rfl rfl hcl hdg (q_inU rfl) (Or.inl rfl) (fun H1 l1 h => kk H1 l1 _ rfl h)
theorem ps_X6_21_6 (E : q_E p c cc s m args RX6 X) (hI : q_I X n σ0 H0 locs σ H) (ha : q_kd X a = 6) {v : Int32} (hcl : n < 9) (h1 : -2147483648 ≤ v.toInt) (h2 : v.toInt ≤ 4) (hdg : decode cc pc = .ok (.putfield 21, 3)) (kk : ∀ (H1 : Heap) (locs1 : List Loc) (σ1 : ST), σ1 = q_si σ a 3 v → q_I X n σ0 H0 locs1 σ1 H1 → W p l e R s m args below meth c H1 locs1 cells slots Q (F0 m (pc + 3) ls rest)) : W p l e R s m args below meth c H locs cells slots Q (F0 m pc ls (.int v :: .ref a :: rest)) :=
  q_puti (ref := "CheatHeap$Rules") E hI ha ⟨rfl, by decide⟩ (show vwCl[5]? = some (RX6, TX6, 8) from rfl) q_inX6 tyX6_ok nmX6 (f := 3) (by decide) (q_in_t1 (i := 68) (by first | rfl | decide +kernel) rfl) (Or.inl rfl) rfl rfl hcl hdg (q_inB rfl h1 h2) (Or.inl rfl) (fun H1 l1 h => kk H1 l1 _ rfl h)
theorem ps_X6_24_6 (E : q_E p c cc s m args RX6 X) (hI : q_I X n σ0 H0 locs σ H) (ha : q_kd X a = 6) {v : Int32} (hcl : n < 9) (hdg : decode cc pc = .ok (.putfield 24, 3)) (kk : ∀ (H1 : Heap) (locs1 : List Loc) (σ1 : ST), σ1 = q_si σ a 4 v → q_I X n σ0 H0 locs1 σ1 H1 → W p l e R s m args below meth c H1 locs1 cells slots Q (F0 m (pc + 3) ls rest)) : W p l e R s m args below meth c H locs cells slots Q (F0 m pc ls (.int v :: .ref a :: rest)) :=
  q_puti (ref := "CheatHeap$Rules") E hI ha ⟨rfl, by decide⟩ (show vwCl[5]? = some (RX6, TX6, 8) from rfl) q_inX6 tyX6_ok nmX6 (f := 4) (by decide) (q_in_t1 (i := 73) (by first | rfl | decide +kernel) rfl) (Or.inl rfl) rfl rfl hcl hdg (q_inU rfl) (Or.inl rfl) (fun H1 l1 h => kk H1 l1 _ rfl h)
theorem gs_X6_32_6 (E : q_E p c cc s m args RX6 X) (hI : q_I X n σ0 H0 locs σ H) (ha : q_kd X a = 6) (hdg : decode cc pc = .ok (.getfield 32, 3)) (kk : W p l e R s m args below meth c H locs cells slots Q (F0 m (pc + 3) ls (.ref (q_rf X a 5) :: rest))) : W p l e R s m args below meth c H locs cells slots Q (F0 m pc ls (.ref a :: rest)) :=
  q_getf (ref := "CheatHeap$Rules") E hI ha ⟨rfl, by decide⟩ (show vwCl[5]? = some (RX6, TX6, 8) from rfl) q_inX6 (f := 5) (by decide) (q_in_t1 (i := 78) (by first | rfl | decide +kernel) rfl) (Or.inl rfl) rfl hdg kk
theorem kv_X6_42 : q_okV RX6 42 RX5 yX5_clear cX5_clear 2 none 0 := ⟨(q_in_t3 (i := 121) (by first | rfl | decide +kernel) rfl), (q_in_t3 (i := 122) (by first | rfl | decide +kernel) rfl), (q_in_t3 (i := 123) (by first | rfl | decide +kernel) rfl), (q_in_t1 (i := 4) (by first | rfl | decide +kernel) rfl), (q_in_t3 (i := 124) (by first | rfl | decide +kernel) rfl), ⟨rfl, by decide, by decide, rfl⟩⟩
theorem gs_X3_19_4 (E : q_E p c cc s m args RX3 X) (hI : q_I X n σ0 H0 locs σ H) (ha : q_kd X a = 4) (hdg : decode cc pc = .ok (.getfield 19, 3)) (kk : W p l e R s m args below meth c H locs cells slots Q (F0 m (pc + 3) ls (.int (σ.1 a 2) :: rest))) : W p l e R s m args below meth c H locs cells slots Q (F0 m pc ls (.ref a :: rest)) :=
  q_getf (ref := "CheatHeap$Reader") E hI ha ⟨rfl, by decide⟩ (show vwCl[3]? = some (RX4, TX4, 11) from rfl) q_inX4 (f := 2) (by decide) (q_in_t2 (i := 78) (by first | rfl | decide +kernel) rfl) (Or.inl rfl) rfl hdg kk
theorem gs_X3_19_9 (E : q_E p c cc s m args RX3 X) (hI : q_I X n σ0 H0 locs σ H) (ha : q_kd X a = 9) (hdg : decode cc pc = .ok (.getfield 19, 3)) (kk : W p l e R s m args below meth c H locs cells slots Q (F0 m (pc + 3) ls (.int (σ.1 a 2) :: rest))) : W p l e R s m args below meth c H locs cells slots Q (F0 m pc ls (.ref a :: rest)) :=
  q_getf (ref := "CheatHeap$Reader") E hI ha ⟨rfl, by decide⟩ (show vwCl[8]? = some (RX9, TX9, 12) from rfl) q_inX9 (f := 2) (by decide) (q_in_t2 (i := 78) (by first | rfl | decide +kernel) rfl) (Or.inl rfl) rfl hdg kk
theorem gsr_X3_19 (E : q_E p c cc s m args RX3 X) (hI : q_I X n σ0 H0 locs σ H) (ha : q_kd X a = 4 ∨ q_kd X a = 9) (hdg : decode cc pc = .ok (.getfield 19, 3)) (kk : W p l e R s m args below meth c H locs cells slots Q (F0 m (pc + 3) ls (.int (σ.1 a 2) :: rest))) : W p l e R s m args below meth c H locs cells slots Q (F0 m pc ls (.ref a :: rest)) := by
  rcases ha with ha | ha
  · exact gs_X3_19_4 E hI ha hdg kk
  · exact gs_X3_19_9 E hI ha hdg kk
theorem gs_X3_15_4 (E : q_E p c cc s m args RX3 X) (hI : q_I X n σ0 H0 locs σ H) (ha : q_kd X a = 4) (hdg : decode cc pc = .ok (.getfield 15, 3)) (kk : W p l e R s m args below meth c H locs cells slots Q (F0 m (pc + 3) ls (.int (σ.1 a 1) :: rest))) : W p l e R s m args below meth c H locs cells slots Q (F0 m pc ls (.ref a :: rest)) :=
  q_getf (ref := "CheatHeap$Reader") E hI ha ⟨rfl, by decide⟩ (show vwCl[3]? = some (RX4, TX4, 11) from rfl) q_inX4 (f := 1) (by decide) (q_in_t2 (i := 77) (by first | rfl | decide +kernel) rfl) (Or.inl rfl) rfl hdg kk
theorem gs_X3_15_9 (E : q_E p c cc s m args RX3 X) (hI : q_I X n σ0 H0 locs σ H) (ha : q_kd X a = 9) (hdg : decode cc pc = .ok (.getfield 15, 3)) (kk : W p l e R s m args below meth c H locs cells slots Q (F0 m (pc + 3) ls (.int (σ.1 a 1) :: rest))) : W p l e R s m args below meth c H locs cells slots Q (F0 m pc ls (.ref a :: rest)) :=
  q_getf (ref := "CheatHeap$Reader") E hI ha ⟨rfl, by decide⟩ (show vwCl[8]? = some (RX9, TX9, 12) from rfl) q_inX9 (f := 1) (by decide) (q_in_t2 (i := 77) (by first | rfl | decide +kernel) rfl) (Or.inl rfl) rfl hdg kk
theorem gsr_X3_15 (E : q_E p c cc s m args RX3 X) (hI : q_I X n σ0 H0 locs σ H) (ha : q_kd X a = 4 ∨ q_kd X a = 9) (hdg : decode cc pc = .ok (.getfield 15, 3)) (kk : W p l e R s m args below meth c H locs cells slots Q (F0 m (pc + 3) ls (.int (σ.1 a 1) :: rest))) : W p l e R s m args below meth c H locs cells slots Q (F0 m pc ls (.ref a :: rest)) := by
  rcases ha with ha | ha
  · exact gs_X3_15_4 E hI ha hdg kk
  · exact gs_X3_15_9 E hI ha hdg kk
theorem gs_X3_9_4 (E : q_E p c cc s m args RX3 X) (hI : q_I X n σ0 H0 locs σ H) (ha : q_kd X a = 4) (hdg : decode cc pc = .ok (.getfield 9, 3)) (kk : W p l e R s m args below meth c H locs cells slots Q (F0 m (pc + 3) ls (.ref (σ.2.2 a) :: rest))) : W p l e R s m args below meth c H locs cells slots Q (F0 m pc ls (.ref a :: rest)) :=
  q_getf (ref := "CheatHeap$Reader") E hI ha ⟨rfl, by decide⟩ (show vwCl[3]? = some (RX4, TX4, 11) from rfl) q_inX4 (f := 0) (by decide) (q_in_t2 (i := 76) (by first | rfl | decide +kernel) rfl) (Or.inl rfl) rfl hdg kk
theorem gs_X3_9_9 (E : q_E p c cc s m args RX3 X) (hI : q_I X n σ0 H0 locs σ H) (ha : q_kd X a = 9) (hdg : decode cc pc = .ok (.getfield 9, 3)) (kk : W p l e R s m args below meth c H locs cells slots Q (F0 m (pc + 3) ls (.ref (σ.2.2 a) :: rest))) : W p l e R s m args below meth c H locs cells slots Q (F0 m pc ls (.ref a :: rest)) :=
  q_getf (ref := "CheatHeap$Reader") E hI ha ⟨rfl, by decide⟩ (show vwCl[8]? = some (RX9, TX9, 12) from rfl) q_inX9 (f := 0) (by decide) (q_in_t2 (i := 76) (by first | rfl | decide +kernel) rfl) (Or.inl rfl) rfl hdg kk
theorem gsr_X3_9 (E : q_E p c cc s m args RX3 X) (hI : q_I X n σ0 H0 locs σ H) (ha : q_kd X a = 4 ∨ q_kd X a = 9) (hdg : decode cc pc = .ok (.getfield 9, 3)) (kk : W p l e R s m args below meth c H locs cells slots Q (F0 m (pc + 3) ls (.ref (σ.2.2 a) :: rest))) : W p l e R s m args below meth c H locs cells slots Q (F0 m pc ls (.ref a :: rest)) := by
  rcases ha with ha | ha
  · exact gs_X3_9_4 E hI ha hdg kk
  · exact gs_X3_9_9 E hI ha hdg kk
theorem gs_X3_22_4 (E : q_E p c cc s m args RX3 X) (hI : q_I X n σ0 H0 locs σ H) (ha : q_kd X a = 4) (hdg : decode cc pc = .ok (.getfield 22, 3)) (kk : W p l e R s m args below meth c H locs cells slots Q (F0 m (pc + 3) ls (.int (σ.1 a 3) :: rest))) : W p l e R s m args below meth c H locs cells slots Q (F0 m pc ls (.ref a :: rest)) :=
  q_getf (ref := "CheatHeap$Reader") E hI ha ⟨rfl, by decide⟩ (show vwCl[3]? = some (RX4, TX4, 11) from rfl) q_inX4 (f := 3) (by decide) (q_in_t2 (i := 79) (by first | rfl | decide +kernel) rfl) (Or.inl rfl) rfl hdg kk
theorem gs_X3_22_9 (E : q_E p c cc s m args RX3 X) (hI : q_I X n σ0 H0 locs σ H) (ha : q_kd X a = 9) (hdg : decode cc pc = .ok (.getfield 22, 3)) (kk : W p l e R s m args below meth c H locs cells slots Q (F0 m (pc + 3) ls (.int (σ.1 a 3) :: rest))) : W p l e R s m args below meth c H locs cells slots Q (F0 m pc ls (.ref a :: rest)) :=
  q_getf (ref := "CheatHeap$Reader") E hI ha ⟨rfl, by decide⟩ (show vwCl[8]? = some (RX9, TX9, 12) from rfl) q_inX9 (f := 3) (by decide) (q_in_t2 (i := 79) (by first | rfl | decide +kernel) rfl) (Or.inl rfl) rfl hdg kk
theorem gsr_X3_22 (E : q_E p c cc s m args RX3 X) (hI : q_I X n σ0 H0 locs σ H) (ha : q_kd X a = 4 ∨ q_kd X a = 9) (hdg : decode cc pc = .ok (.getfield 22, 3)) (kk : W p l e R s m args below meth c H locs cells slots Q (F0 m (pc + 3) ls (.int (σ.1 a 3) :: rest))) : W p l e R s m args below meth c H locs cells slots Q (F0 m pc ls (.ref a :: rest)) := by
  rcases ha with ha | ha
  · exact gs_X3_22_4 E hI ha hdg kk
  · exact gs_X3_22_9 E hI ha hdg kk
theorem ps_X3_19_4 (E : q_E p c cc s m args RX3 X) (hI : q_I X n σ0 H0 locs σ H) (ha : q_kd X a = 4) {v : Int32} (hcl : n < 9) (h1 : 0 ≤ v.toInt) (h2 : v.toInt ≤ 2147483647) (hdg : decode cc pc = .ok (.putfield 19, 3)) (kk : ∀ (H1 : Heap) (locs1 : List Loc) (σ1 : ST), σ1 = q_si σ a 2 v → q_I X n σ0 H0 locs1 σ1 H1 → W p l e R s m args below meth c H1 locs1 cells slots Q (F0 m (pc + 3) ls rest)) : W p l e R s m args below meth c H locs cells slots Q (F0 m pc ls (.int v :: .ref a :: rest)) :=
  q_puti (ref := "CheatHeap$Reader") E hI ha ⟨rfl, by decide⟩ (show vwCl[3]? = some (RX4, TX4, 11) from rfl) q_inX4 tyX4_ok nmX4 (f := 2) (by decide) (q_in_t2 (i := 78) (by first | rfl | decide +kernel) rfl) (Or.inl rfl) rfl rfl hcl hdg (q_inB rfl h1 h2) (Or.inl rfl) (fun H1 l1 h => kk H1 l1 _ rfl h)
theorem ps_X3_19_9 (E : q_E p c cc s m args RX3 X) (hI : q_I X n σ0 H0 locs σ H) (ha : q_kd X a = 9) {v : Int32} (hcl : n < 9) (h1 : 0 ≤ v.toInt) (h2 : v.toInt ≤ 2147483647) (hdg : decode cc pc = .ok (.putfield 19, 3)) (kk : ∀ (H1 : Heap) (locs1 : List Loc) (σ1 : ST), σ1 = q_si σ a 2 v → q_I X n σ0 H0 locs1 σ1 H1 → W p l e R s m args below meth c H1 locs1 cells slots Q (F0 m (pc + 3) ls rest)) : W p l e R s m args below meth c H locs cells slots Q (F0 m pc ls (.int v :: .ref a :: rest)) :=
  q_puti (ref := "CheatHeap$Reader") E hI ha ⟨rfl, by decide⟩ (show vwCl[8]? = some (RX9, TX9, 12) from rfl) q_inX9 tyX9_ok nmX9 (f := 2) (by decide) (q_in_t2 (i := 78) (by first | rfl | decide +kernel) rfl) (Or.inl rfl) rfl rfl hcl hdg (q_inB rfl h1 h2) (Or.inl rfl) (fun H1 l1 h => kk H1 l1 _ rfl h)
theorem psr_X3_19 (E : q_E p c cc s m args RX3 X) (hI : q_I X n σ0 H0 locs σ H) (ha : q_kd X a = 4 ∨ q_kd X a = 9) {v : Int32} (hcl : n < 9) (h1 : 0 ≤ v.toInt) (h2 : v.toInt ≤ 2147483647) (hdg : decode cc pc = .ok (.putfield 19, 3)) (kk : ∀ (H1 : Heap) (locs1 : List Loc) (σ1 : ST), σ1 = q_si σ a 2 v → q_I X n σ0 H0 locs1 σ1 H1 → W p l e R s m args below meth c H1 locs1 cells slots Q (F0 m (pc + 3) ls rest)) : W p l e R s m args below meth c H locs cells slots Q (F0 m pc ls (.int v :: .ref a :: rest)) := by
  rcases ha with ha | ha
  · exact ps_X3_19_4 E hI ha hcl h1 h2 hdg kk
  · exact ps_X3_19_9 E hI ha hcl h1 h2 hdg kk
theorem ps_X3_22_4 (E : q_E p c cc s m args RX3 X) (hI : q_I X n σ0 H0 locs σ H) (ha : q_kd X a = 4) {v : Int32} (hcl : n < 9) (h1 : 0 ≤ v.toInt) (h2 : v.toInt ≤ 2147483647) (hdg : decode cc pc = .ok (.putfield 22, 3)) (kk : ∀ (H1 : Heap) (locs1 : List Loc) (σ1 : ST), σ1 = q_si σ a 3 v → q_I X n σ0 H0 locs1 σ1 H1 → W p l e R s m args below meth c H1 locs1 cells slots Q (F0 m (pc + 3) ls rest)) : W p l e R s m args below meth c H locs cells slots Q (F0 m pc ls (.int v :: .ref a :: rest)) :=
  q_puti (ref := "CheatHeap$Reader") E hI ha ⟨rfl, by decide⟩ (show vwCl[3]? = some (RX4, TX4, 11) from rfl) q_inX4 tyX4_ok nmX4 (f := 3) (by decide) (q_in_t2 (i := 79) (by first | rfl | decide +kernel) rfl) (Or.inl rfl) rfl rfl hcl hdg (q_inB rfl h1 h2) (Or.inl rfl) (fun H1 l1 h => kk H1 l1 _ rfl h)
theorem ps_X3_22_9 (E : q_E p c cc s m args RX3 X) (hI : q_I X n σ0 H0 locs σ H) (ha : q_kd X a = 9) {v : Int32} (hcl : n < 9) (h1 : 0 ≤ v.toInt) (h2 : v.toInt ≤ 2147483647) (hdg : decode cc pc = .ok (.putfield 22, 3)) (kk : ∀ (H1 : Heap) (locs1 : List Loc) (σ1 : ST), σ1 = q_si σ a 3 v → q_I X n σ0 H0 locs1 σ1 H1 → W p l e R s m args below meth c H1 locs1 cells slots Q (F0 m (pc + 3) ls rest)) : W p l e R s m args below meth c H locs cells slots Q (F0 m pc ls (.int v :: .ref a :: rest)) :=
  q_puti (ref := "CheatHeap$Reader") E hI ha ⟨rfl, by decide⟩ (show vwCl[8]? = some (RX9, TX9, 12) from rfl) q_inX9 tyX9_ok nmX9 (f := 3) (by decide) (q_in_t2 (i := 79) (by first | rfl | decide +kernel) rfl) (Or.inl rfl) rfl rfl hcl hdg (q_inB rfl h1 h2) (Or.inl rfl) (fun H1 l1 h => kk H1 l1 _ rfl h)
theorem psr_X3_22 (E : q_E p c cc s m args RX3 X) (hI : q_I X n σ0 H0 locs σ H) (ha : q_kd X a = 4 ∨ q_kd X a = 9) {v : Int32} (hcl : n < 9) (h1 : 0 ≤ v.toInt) (h2 : v.toInt ≤ 2147483647) (hdg : decode cc pc = .ok (.putfield 22, 3)) (kk : ∀ (H1 : Heap) (locs1 : List Loc) (σ1 : ST), σ1 = q_si σ a 3 v → q_I X n σ0 H0 locs1 σ1 H1 → W p l e R s m args below meth c H1 locs1 cells slots Q (F0 m (pc + 3) ls rest)) : W p l e R s m args below meth c H locs cells slots Q (F0 m pc ls (.int v :: .ref a :: rest)) := by
  rcases ha with ha | ha
  · exact ps_X3_22_4 E hI ha hcl h1 h2 hdg kk
  · exact ps_X3_22_9 E hI ha hcl h1 h2 hdg kk
theorem kr_X3_49 : q_okU2 RX3 49 RX4 "CheatHeap$Reader" ⟨"CheatHeap$Reader", "signAt", "(I)I"⟩ yX3_signAt cX3_signAt 3 (some .int) 1 ∧ q_okU2 RX3 49 RX9 "CheatHeap$Reader" ⟨"CheatHeap$Reader", "signAt", "(I)I"⟩ yX3_signAt cX3_signAt 3 (some .int) 1 := ⟨⟨(q_in_t3 (i := 153) (by first | rfl | decide +kernel) rfl), (q_in_t3 (i := 155) (by first | rfl | decide +kernel) rfl), (q_in_t3 (i := 156) (by first | rfl | decide +kernel) rfl), (q_in_t3 (i := 154) (by first | rfl | decide +kernel) rfl), (q_in_t1 (i := 9) (by first | rfl | decide +kernel) rfl), (q_in_t3 (i := 158) (by first | rfl | decide +kernel) rfl), ⟨by decide, by decide, rfl⟩, rfl⟩, ⟨(q_in_t3 (i := 153) (by first | rfl | decide +kernel) rfl), (q_in_t3 (i := 155) (by first | rfl | decide +kernel) rfl), (q_in_t3 (i := 157) (by first | rfl | decide +kernel) rfl), (q_in_t3 (i := 154) (by first | rfl | decide +kernel) rfl), (q_in_t1 (i := 9) (by first | rfl | decide +kernel) rfl), (q_in_t3 (i := 158) (by first | rfl | decide +kernel) rfl), ⟨by decide, by decide, rfl⟩, rfl⟩⟩
theorem ps_X3_25_4 (E : q_E p c cc s m args RX3 X) (hI : q_I X n σ0 H0 locs σ H) (ha : q_kd X a = 4) {v : Int32} (hcl : n < 9) (hdg : decode cc pc = .ok (.putfield 25, 3)) (kk : ∀ (H1 : Heap) (locs1 : List Loc) (σ1 : ST), σ1 = q_si σ a 4 v → q_I X n σ0 H0 locs1 σ1 H1 → W p l e R s m args below meth c H1 locs1 cells slots Q (F0 m (pc + 3) ls rest)) : W p l e R s m args below meth c H locs cells slots Q (F0 m pc ls (.int v :: .ref a :: rest)) :=
  q_puti (ref := "CheatHeap$Reader") E hI ha ⟨rfl, by decide⟩ (show vwCl[3]? = some (RX4, TX4, 11) from rfl) q_inX4 tyX4_ok nmX4 (f := 4) (by decide) (q_in_t2 (i := 80) (by first | rfl | decide +kernel) rfl) (Or.inl rfl) rfl rfl hcl hdg (q_inU rfl) (Or.inl rfl) (fun H1 l1 h => kk H1 l1 _ rfl h)
theorem ps_X3_25_9 (E : q_E p c cc s m args RX3 X) (hI : q_I X n σ0 H0 locs σ H) (ha : q_kd X a = 9) {v : Int32} (hcl : n < 9) (hdg : decode cc pc = .ok (.putfield 25, 3)) (kk : ∀ (H1 : Heap) (locs1 : List Loc) (σ1 : ST), σ1 = q_si σ a 4 v → q_I X n σ0 H0 locs1 σ1 H1 → W p l e R s m args below meth c H1 locs1 cells slots Q (F0 m (pc + 3) ls rest)) : W p l e R s m args below meth c H locs cells slots Q (F0 m pc ls (.int v :: .ref a :: rest)) :=
  q_puti (ref := "CheatHeap$Reader") E hI ha ⟨rfl, by decide⟩ (show vwCl[8]? = some (RX9, TX9, 12) from rfl) q_inX9 tyX9_ok nmX9 (f := 4) (by decide) (q_in_t2 (i := 80) (by first | rfl | decide +kernel) rfl) (Or.inl rfl) rfl rfl hcl hdg (q_inU rfl) (Or.inl rfl) (fun H1 l1 h => kk H1 l1 _ rfl h)
theorem psr_X3_25 (E : q_E p c cc s m args RX3 X) (hI : q_I X n σ0 H0 locs σ H) (ha : q_kd X a = 4 ∨ q_kd X a = 9) {v : Int32} (hcl : n < 9) (hdg : decode cc pc = .ok (.putfield 25, 3)) (kk : ∀ (H1 : Heap) (locs1 : List Loc) (σ1 : ST), σ1 = q_si σ a 4 v → q_I X n σ0 H0 locs1 σ1 H1 → W p l e R s m args below meth c H1 locs1 cells slots Q (F0 m (pc + 3) ls rest)) : W p l e R s m args below meth c H locs cells slots Q (F0 m pc ls (.int v :: .ref a :: rest)) := by
  rcases ha with ha | ha
  · exact ps_X3_25_4 E hI ha hcl hdg kk
  · exact ps_X3_25_9 E hI ha hcl hdg kk
theorem kr_X3_53 : q_okU2 RX3 53 RX4 "CheatHeap$Reader" ⟨"CheatHeap$Reader", "endOfRun", "(II)I"⟩ yX3_endOfRun cX3_endOfRun 4 (some .int) 2 ∧ q_okU2 RX3 53 RX9 "CheatHeap$Reader" ⟨"CheatHeap$Reader", "endOfRun", "(II)I"⟩ yX3_endOfRun cX3_endOfRun 4 (some .int) 2 := ⟨⟨(q_in_t3 (i := 159) (by first | rfl | decide +kernel) rfl), (q_in_t9 (i := 205) (by first | rfl | decide +kernel) rfl), (q_in_x (i := 0) rfl), (q_in_t3 (i := 161) (by first | rfl | decide +kernel) rfl), (q_in_t1 (i := 9) (by first | rfl | decide +kernel) rfl), (q_in_t3 (i := 162) (by first | rfl | decide +kernel) rfl), ⟨by decide, by decide, rfl⟩, rfl⟩, ⟨(q_in_t3 (i := 159) (by first | rfl | decide +kernel) rfl), (q_in_t9 (i := 205) (by first | rfl | decide +kernel) rfl), (q_in_x (i := 1) rfl), (q_in_t3 (i := 161) (by first | rfl | decide +kernel) rfl), (q_in_t1 (i := 9) (by first | rfl | decide +kernel) rfl), (q_in_t3 (i := 162) (by first | rfl | decide +kernel) rfl), ⟨by decide, by decide, rfl⟩, rfl⟩⟩
theorem kr_X3_56 : q_okU2 RX3 56 RX4 "CheatHeap$Reader" ⟨"CheatHeap$Reader", "size", "()I"⟩ yX3_size cX3_size 1 (some .int) 0 ∧ q_okU2 RX3 56 RX9 "CheatHeap$Reader" ⟨"CheatHeap$Reader", "size", "()I"⟩ yX3_size cX3_size 1 (some .int) 0 := ⟨⟨(q_in_t3 (i := 163) (by first | rfl | decide +kernel) rfl), (q_in_t3 (i := 165) (by first | rfl | decide +kernel) rfl), (q_in_t3 (i := 166) (by first | rfl | decide +kernel) rfl), (q_in_t3 (i := 164) (by first | rfl | decide +kernel) rfl), (q_in_t1 (i := 9) (by first | rfl | decide +kernel) rfl), (q_in_t3 (i := 168) (by first | rfl | decide +kernel) rfl), ⟨by decide, by decide, rfl⟩, rfl⟩, ⟨(q_in_t3 (i := 163) (by first | rfl | decide +kernel) rfl), (q_in_t3 (i := 165) (by first | rfl | decide +kernel) rfl), (q_in_t3 (i := 167) (by first | rfl | decide +kernel) rfl), (q_in_t3 (i := 164) (by first | rfl | decide +kernel) rfl), (q_in_t1 (i := 9) (by first | rfl | decide +kernel) rfl), (q_in_t3 (i := 168) (by first | rfl | decide +kernel) rfl), ⟨by decide, by decide, rfl⟩, rfl⟩⟩
theorem ps_X3_28_4 (E : q_E p c cc s m args RX3 X) (hI : q_I X n σ0 H0 locs σ H) (ha : q_kd X a = 4) {v : Int32} (hcl : n < 9) (hdg : decode cc pc = .ok (.putfield 28, 3)) (kk : ∀ (H1 : Heap) (locs1 : List Loc) (σ1 : ST), σ1 = q_si σ a 5 v → q_I X n σ0 H0 locs1 σ1 H1 → W p l e R s m args below meth c H1 locs1 cells slots Q (F0 m (pc + 3) ls rest)) : W p l e R s m args below meth c H locs cells slots Q (F0 m pc ls (.int v :: .ref a :: rest)) :=
  q_puti (ref := "CheatHeap$Reader") E hI ha ⟨rfl, by decide⟩ (show vwCl[3]? = some (RX4, TX4, 11) from rfl) q_inX4 tyX4_ok nmX4 (f := 5) (by decide) (q_in_t2 (i := 85) (by first | rfl | decide +kernel) rfl) (Or.inl rfl) rfl rfl hcl hdg (q_inU rfl) (Or.inl rfl) (fun H1 l1 h => kk H1 l1 _ rfl h)
theorem ps_X3_28_9 (E : q_E p c cc s m args RX3 X) (hI : q_I X n σ0 H0 locs σ H) (ha : q_kd X a = 9) {v : Int32} (hcl : n < 9) (hdg : decode cc pc = .ok (.putfield 28, 3)) (kk : ∀ (H1 : Heap) (locs1 : List Loc) (σ1 : ST), σ1 = q_si σ a 5 v → q_I X n σ0 H0 locs1 σ1 H1 → W p l e R s m args below meth c H1 locs1 cells slots Q (F0 m (pc + 3) ls rest)) : W p l e R s m args below meth c H locs cells slots Q (F0 m pc ls (.int v :: .ref a :: rest)) :=
  q_puti (ref := "CheatHeap$Reader") E hI ha ⟨rfl, by decide⟩ (show vwCl[8]? = some (RX9, TX9, 12) from rfl) q_inX9 tyX9_ok nmX9 (f := 5) (by decide) (q_in_t2 (i := 85) (by first | rfl | decide +kernel) rfl) (Or.inl rfl) rfl rfl hcl hdg (q_inU rfl) (Or.inl rfl) (fun H1 l1 h => kk H1 l1 _ rfl h)
theorem psr_X3_28 (E : q_E p c cc s m args RX3 X) (hI : q_I X n σ0 H0 locs σ H) (ha : q_kd X a = 4 ∨ q_kd X a = 9) {v : Int32} (hcl : n < 9) (hdg : decode cc pc = .ok (.putfield 28, 3)) (kk : ∀ (H1 : Heap) (locs1 : List Loc) (σ1 : ST), σ1 = q_si σ a 5 v → q_I X n σ0 H0 locs1 σ1 H1 → W p l e R s m args below meth c H1 locs1 cells slots Q (F0 m (pc + 3) ls rest)) : W p l e R s m args below meth c H locs cells slots Q (F0 m pc ls (.int v :: .ref a :: rest)) := by
  rcases ha with ha | ha
  · exact ps_X3_28_4 E hI ha hcl hdg kk
  · exact ps_X3_28_9 E hI ha hcl hdg kk
theorem gs_X3_28_4 (E : q_E p c cc s m args RX3 X) (hI : q_I X n σ0 H0 locs σ H) (ha : q_kd X a = 4) (hdg : decode cc pc = .ok (.getfield 28, 3)) (kk : W p l e R s m args below meth c H locs cells slots Q (F0 m (pc + 3) ls (.int (σ.1 a 5) :: rest))) : W p l e R s m args below meth c H locs cells slots Q (F0 m pc ls (.ref a :: rest)) :=
  q_getf (ref := "CheatHeap$Reader") E hI ha ⟨rfl, by decide⟩ (show vwCl[3]? = some (RX4, TX4, 11) from rfl) q_inX4 (f := 5) (by decide) (q_in_t2 (i := 85) (by first | rfl | decide +kernel) rfl) (Or.inl rfl) rfl hdg kk
theorem gs_X3_28_9 (E : q_E p c cc s m args RX3 X) (hI : q_I X n σ0 H0 locs σ H) (ha : q_kd X a = 9) (hdg : decode cc pc = .ok (.getfield 28, 3)) (kk : W p l e R s m args below meth c H locs cells slots Q (F0 m (pc + 3) ls (.int (σ.1 a 5) :: rest))) : W p l e R s m args below meth c H locs cells slots Q (F0 m pc ls (.ref a :: rest)) :=
  q_getf (ref := "CheatHeap$Reader") E hI ha ⟨rfl, by decide⟩ (show vwCl[8]? = some (RX9, TX9, 12) from rfl) q_inX9 (f := 5) (by decide) (q_in_t2 (i := 85) (by first | rfl | decide +kernel) rfl) (Or.inl rfl) rfl hdg kk
theorem gsr_X3_28 (E : q_E p c cc s m args RX3 X) (hI : q_I X n σ0 H0 locs σ H) (ha : q_kd X a = 4 ∨ q_kd X a = 9) (hdg : decode cc pc = .ok (.getfield 28, 3)) (kk : W p l e R s m args below meth c H locs cells slots Q (F0 m (pc + 3) ls (.int (σ.1 a 5) :: rest))) : W p l e R s m args below meth c H locs cells slots Q (F0 m pc ls (.ref a :: rest)) := by
  rcases ha with ha | ha
  · exact gs_X3_28_4 E hI ha hdg kk
  · exact gs_X3_28_9 E hI ha hdg kk
theorem ps_X3_9_4 (E : q_E p c cc s m args RX3 X) (hI : q_I X n σ0 H0 locs σ H) (ha : q_kd X a = 4) {v : Nat} (hv : q_kd X v = 22) (hdg : decode cc pc = .ok (.putfield 9, 3)) (kk : ∀ (H1 : Heap) (locs1 : List Loc) (σ1 : ST), σ1 = q_st σ a v → q_I X n σ0 H0 locs1 σ1 H1 → W p l e R s m args below meth c H1 locs1 cells slots Q (F0 m (pc + 3) ls rest)) : W p l e R s m args below meth c H locs cells slots Q (F0 m pc ls (.ref v :: .ref a :: rest)) :=
  q_putt E hI ha ⟨rfl, by decide⟩ (by decide) (show vwCl[3]? = some (RX4, TX4, 11) from rfl) q_inX4 tyX4_ok nmX4 (by decide) (q_in_t2 (i := 76) (by first | rfl | decide +kernel) rfl) (Or.inl rfl) rfl rfl hv hdg (fun H1 l1 h => kk H1 l1 _ rfl h)
theorem ps_X3_9_9 (E : q_E p c cc s m args RX3 X) (hI : q_I X n σ0 H0 locs σ H) (ha : q_kd X a = 9) {v : Nat} (hv : q_kd X v = 22) (hdg : decode cc pc = .ok (.putfield 9, 3)) (kk : ∀ (H1 : Heap) (locs1 : List Loc) (σ1 : ST), σ1 = q_st σ a v → q_I X n σ0 H0 locs1 σ1 H1 → W p l e R s m args below meth c H1 locs1 cells slots Q (F0 m (pc + 3) ls rest)) : W p l e R s m args below meth c H locs cells slots Q (F0 m pc ls (.ref v :: .ref a :: rest)) :=
  q_putt E hI ha ⟨rfl, by decide⟩ (by decide) (show vwCl[8]? = some (RX9, TX9, 12) from rfl) q_inX9 tyX9_ok nmX9 (by decide) (q_in_t2 (i := 76) (by first | rfl | decide +kernel) rfl) (Or.inl rfl) rfl rfl hv hdg (fun H1 l1 h => kk H1 l1 _ rfl h)
theorem psr_X3_9 (E : q_E p c cc s m args RX3 X) (hI : q_I X n σ0 H0 locs σ H) (ha : q_kd X a = 4 ∨ q_kd X a = 9) {v : Nat} (hv : q_kd X v = 22) (hdg : decode cc pc = .ok (.putfield 9, 3)) (kk : ∀ (H1 : Heap) (locs1 : List Loc) (σ1 : ST), σ1 = q_st σ a v → q_I X n σ0 H0 locs1 σ1 H1 → W p l e R s m args below meth c H1 locs1 cells slots Q (F0 m (pc + 3) ls rest)) : W p l e R s m args below meth c H locs cells slots Q (F0 m pc ls (.ref v :: .ref a :: rest)) := by
  rcases ha with ha | ha
  · exact ps_X3_9_4 E hI ha hv hdg kk
  · exact ps_X3_9_9 E hI ha hv hdg kk
theorem ks_X3_37 : q_okS RX3 37 yJ9_min_7cf53 cJ9_min_7cf53 2 (some .int) 2 := ⟨(q_in_t3 (i := 145) (by first | rfl | decide +kernel) rfl), (q_in_t3 (i := 43) (by first | rfl | decide +kernel) rfl), (q_in_t1 (i := 5) (by first | rfl | decide +kernel) rfl), (q_in_t3 (i := 44) (by first | rfl | decide +kernel) rfl), ⟨by decide, by decide, rfl⟩⟩
theorem ks_X3_43 : q_okS RX3 43 yJ9_max_7cf53 cJ9_max_7cf53 2 (some .int) 2 := ⟨(q_in_t3 (i := 146) (by first | rfl | decide +kernel) rfl), (q_in_t1 (i := 49) (by first | rfl | decide +kernel) rfl), (q_in_t1 (i := 5) (by first | rfl | decide +kernel) rfl), (q_in_t1 (i := 50) (by first | rfl | decide +kernel) rfl), ⟨by decide, by decide, rfl⟩⟩
theorem ps_X3_15_4 (E : q_E p c cc s m args RX3 X) (hI : q_I X n σ0 H0 locs σ H) (ha : q_kd X a = 4) {v : Int32} (hcl : n < 9) (hdg : decode cc pc = .ok (.putfield 15, 3)) (kk : ∀ (H1 : Heap) (locs1 : List Loc) (σ1 : ST), σ1 = q_si σ a 1 v → q_I X n σ0 H0 locs1 σ1 H1 → W p l e R s m args below meth c H1 locs1 cells slots Q (F0 m (pc + 3) ls rest)) : W p l e R s m args below meth c H locs cells slots Q (F0 m pc ls (.int v :: .ref a :: rest)) :=
  q_puti (ref := "CheatHeap$Reader") E hI ha ⟨rfl, by decide⟩ (show vwCl[3]? = some (RX4, TX4, 11) from rfl) q_inX4 tyX4_ok nmX4 (f := 1) (by decide) (q_in_t2 (i := 77) (by first | rfl | decide +kernel) rfl) (Or.inl rfl) rfl rfl hcl hdg (q_inU rfl) (Or.inl rfl) (fun H1 l1 h => kk H1 l1 _ rfl h)
theorem ps_X3_15_9 (E : q_E p c cc s m args RX3 X) (hI : q_I X n σ0 H0 locs σ H) (ha : q_kd X a = 9) {v : Int32} (hcl : n < 9) (hdg : decode cc pc = .ok (.putfield 15, 3)) (kk : ∀ (H1 : Heap) (locs1 : List Loc) (σ1 : ST), σ1 = q_si σ a 1 v → q_I X n σ0 H0 locs1 σ1 H1 → W p l e R s m args below meth c H1 locs1 cells slots Q (F0 m (pc + 3) ls rest)) : W p l e R s m args below meth c H locs cells slots Q (F0 m pc ls (.int v :: .ref a :: rest)) :=
  q_puti (ref := "CheatHeap$Reader") E hI ha ⟨rfl, by decide⟩ (show vwCl[8]? = some (RX9, TX9, 12) from rfl) q_inX9 tyX9_ok nmX9 (f := 1) (by decide) (q_in_t2 (i := 77) (by first | rfl | decide +kernel) rfl) (Or.inl rfl) rfl rfl hcl hdg (q_inU rfl) (Or.inl rfl) (fun H1 l1 h => kk H1 l1 _ rfl h)
theorem psr_X3_15 (E : q_E p c cc s m args RX3 X) (hI : q_I X n σ0 H0 locs σ H) (ha : q_kd X a = 4 ∨ q_kd X a = 9) {v : Int32} (hcl : n < 9) (hdg : decode cc pc = .ok (.putfield 15, 3)) (kk : ∀ (H1 : Heap) (locs1 : List Loc) (σ1 : ST), σ1 = q_si σ a 1 v → q_I X n σ0 H0 locs1 σ1 H1 → W p l e R s m args below meth c H1 locs1 cells slots Q (F0 m (pc + 3) ls rest)) : W p l e R s m args below meth c H locs cells slots Q (F0 m pc ls (.int v :: .ref a :: rest)) := by
  rcases ha with ha | ha
  · exact ps_X3_15_4 E hI ha hcl hdg kk
  · exact ps_X3_15_9 E hI ha hcl hdg kk
theorem ps_X3_31_4 (E : q_E p c cc s m args RX3 X) (hI : q_I X n σ0 H0 locs σ H) (ha : q_kd X a = 4) {v : Int32} (hcl : n < 9) (hdg : decode cc pc = .ok (.putfield 31, 3)) (kk : ∀ (H1 : Heap) (locs1 : List Loc) (σ1 : ST), σ1 = q_si σ a 6 v → q_I X n σ0 H0 locs1 σ1 H1 → W p l e R s m args below meth c H1 locs1 cells slots Q (F0 m (pc + 3) ls rest)) : W p l e R s m args below meth c H locs cells slots Q (F0 m pc ls (.int v :: .ref a :: rest)) :=
  q_puti (ref := "CheatHeap$Reader") E hI ha ⟨rfl, by decide⟩ (show vwCl[3]? = some (RX4, TX4, 11) from rfl) q_inX4 tyX4_ok nmX4 (f := 6) (by decide) (q_in_t2 (i := 88) (by first | rfl | decide +kernel) rfl) (Or.inl rfl) rfl rfl hcl hdg (q_inU rfl) (Or.inl rfl) (fun H1 l1 h => kk H1 l1 _ rfl h)
theorem ps_X3_31_9 (E : q_E p c cc s m args RX3 X) (hI : q_I X n σ0 H0 locs σ H) (ha : q_kd X a = 9) {v : Int32} (hcl : n < 9) (hdg : decode cc pc = .ok (.putfield 31, 3)) (kk : ∀ (H1 : Heap) (locs1 : List Loc) (σ1 : ST), σ1 = q_si σ a 6 v → q_I X n σ0 H0 locs1 σ1 H1 → W p l e R s m args below meth c H1 locs1 cells slots Q (F0 m (pc + 3) ls rest)) : W p l e R s m args below meth c H locs cells slots Q (F0 m pc ls (.int v :: .ref a :: rest)) :=
  q_puti (ref := "CheatHeap$Reader") E hI ha ⟨rfl, by decide⟩ (show vwCl[8]? = some (RX9, TX9, 12) from rfl) q_inX9 tyX9_ok nmX9 (f := 6) (by decide) (q_in_t2 (i := 88) (by first | rfl | decide +kernel) rfl) (Or.inl rfl) rfl rfl hcl hdg (q_inU rfl) (Or.inl rfl) (fun H1 l1 h => kk H1 l1 _ rfl h)
theorem psr_X3_31 (E : q_E p c cc s m args RX3 X) (hI : q_I X n σ0 H0 locs σ H) (ha : q_kd X a = 4 ∨ q_kd X a = 9) {v : Int32} (hcl : n < 9) (hdg : decode cc pc = .ok (.putfield 31, 3)) (kk : ∀ (H1 : Heap) (locs1 : List Loc) (σ1 : ST), σ1 = q_si σ a 6 v → q_I X n σ0 H0 locs1 σ1 H1 → W p l e R s m args below meth c H1 locs1 cells slots Q (F0 m (pc + 3) ls rest)) : W p l e R s m args below meth c H locs cells slots Q (F0 m pc ls (.int v :: .ref a :: rest)) := by
  rcases ha with ha | ha
  · exact ps_X3_31_4 E hI ha hcl hdg kk
  · exact ps_X3_31_9 E hI ha hcl hdg kk
theorem ps_X3_34_4 (E : q_E p c cc s m args RX3 X) (hI : q_I X n σ0 H0 locs σ H) (ha : q_kd X a = 4) {v : Int32} (hcl : n < 9) (hdg : decode cc pc = .ok (.putfield 34, 3)) (kk : ∀ (H1 : Heap) (locs1 : List Loc) (σ1 : ST), σ1 = q_si σ a 7 v → q_I X n σ0 H0 locs1 σ1 H1 → W p l e R s m args below meth c H1 locs1 cells slots Q (F0 m (pc + 3) ls rest)) : W p l e R s m args below meth c H locs cells slots Q (F0 m pc ls (.int v :: .ref a :: rest)) :=
  q_puti (ref := "CheatHeap$Reader") E hI ha ⟨rfl, by decide⟩ (show vwCl[3]? = some (RX4, TX4, 11) from rfl) q_inX4 tyX4_ok nmX4 (f := 7) (by decide) (q_in_t2 (i := 90) (by first | rfl | decide +kernel) rfl) (Or.inl rfl) rfl rfl hcl hdg (q_inU rfl) (Or.inl rfl) (fun H1 l1 h => kk H1 l1 _ rfl h)
theorem ps_X3_34_9 (E : q_E p c cc s m args RX3 X) (hI : q_I X n σ0 H0 locs σ H) (ha : q_kd X a = 9) {v : Int32} (hcl : n < 9) (hdg : decode cc pc = .ok (.putfield 34, 3)) (kk : ∀ (H1 : Heap) (locs1 : List Loc) (σ1 : ST), σ1 = q_si σ a 7 v → q_I X n σ0 H0 locs1 σ1 H1 → W p l e R s m args below meth c H1 locs1 cells slots Q (F0 m (pc + 3) ls rest)) : W p l e R s m args below meth c H locs cells slots Q (F0 m pc ls (.int v :: .ref a :: rest)) :=
  q_puti (ref := "CheatHeap$Reader") E hI ha ⟨rfl, by decide⟩ (show vwCl[8]? = some (RX9, TX9, 12) from rfl) q_inX9 tyX9_ok nmX9 (f := 7) (by decide) (q_in_t2 (i := 90) (by first | rfl | decide +kernel) rfl) (Or.inl rfl) rfl rfl hcl hdg (q_inU rfl) (Or.inl rfl) (fun H1 l1 h => kk H1 l1 _ rfl h)
theorem psr_X3_34 (E : q_E p c cc s m args RX3 X) (hI : q_I X n σ0 H0 locs σ H) (ha : q_kd X a = 4 ∨ q_kd X a = 9) {v : Int32} (hcl : n < 9) (hdg : decode cc pc = .ok (.putfield 34, 3)) (kk : ∀ (H1 : Heap) (locs1 : List Loc) (σ1 : ST), σ1 = q_si σ a 7 v → q_I X n σ0 H0 locs1 σ1 H1 → W p l e R s m args below meth c H1 locs1 cells slots Q (F0 m (pc + 3) ls rest)) : W p l e R s m args below meth c H locs cells slots Q (F0 m pc ls (.int v :: .ref a :: rest)) := by
  rcases ha with ha | ha
  · exact ps_X3_34_4 E hI ha hcl hdg kk
  · exact ps_X3_34_9 E hI ha hcl hdg kk
theorem kr_X3_46 : q_okU2 RX3 46 RX4 "CheatHeap$Reader" ⟨"CheatHeap$Reader", "advance", "()V"⟩ yX3_advance cX3_advance 3 none 0 ∧ q_okU2 RX3 46 RX9 "CheatHeap$Reader" ⟨"CheatHeap$Reader", "advance", "()V"⟩ yX3_advance cX3_advance 3 none 0 := ⟨⟨(q_in_t3 (i := 147) (by first | rfl | decide +kernel) rfl), (q_in_t3 (i := 149) (by first | rfl | decide +kernel) rfl), (q_in_t3 (i := 150) (by first | rfl | decide +kernel) rfl), (q_in_t3 (i := 148) (by first | rfl | decide +kernel) rfl), (q_in_t1 (i := 9) (by first | rfl | decide +kernel) rfl), (q_in_t3 (i := 152) (by first | rfl | decide +kernel) rfl), ⟨by decide, by decide, rfl⟩, rfl⟩, ⟨(q_in_t3 (i := 147) (by first | rfl | decide +kernel) rfl), (q_in_t3 (i := 149) (by first | rfl | decide +kernel) rfl), (q_in_t3 (i := 151) (by first | rfl | decide +kernel) rfl), (q_in_t3 (i := 148) (by first | rfl | decide +kernel) rfl), (q_in_t1 (i := 9) (by first | rfl | decide +kernel) rfl), (q_in_t3 (i := 152) (by first | rfl | decide +kernel) rfl), ⟨by decide, by decide, rfl⟩, rfl⟩⟩
theorem gs_X3_25_4 (E : q_E p c cc s m args RX3 X) (hI : q_I X n σ0 H0 locs σ H) (ha : q_kd X a = 4) (hdg : decode cc pc = .ok (.getfield 25, 3)) (kk : W p l e R s m args below meth c H locs cells slots Q (F0 m (pc + 3) ls (.int (σ.1 a 4) :: rest))) : W p l e R s m args below meth c H locs cells slots Q (F0 m pc ls (.ref a :: rest)) :=
  q_getf (ref := "CheatHeap$Reader") E hI ha ⟨rfl, by decide⟩ (show vwCl[3]? = some (RX4, TX4, 11) from rfl) q_inX4 (f := 4) (by decide) (q_in_t2 (i := 80) (by first | rfl | decide +kernel) rfl) (Or.inl rfl) rfl hdg kk
theorem gs_X3_25_9 (E : q_E p c cc s m args RX3 X) (hI : q_I X n σ0 H0 locs σ H) (ha : q_kd X a = 9) (hdg : decode cc pc = .ok (.getfield 25, 3)) (kk : W p l e R s m args below meth c H locs cells slots Q (F0 m (pc + 3) ls (.int (σ.1 a 4) :: rest))) : W p l e R s m args below meth c H locs cells slots Q (F0 m pc ls (.ref a :: rest)) :=
  q_getf (ref := "CheatHeap$Reader") E hI ha ⟨rfl, by decide⟩ (show vwCl[8]? = some (RX9, TX9, 12) from rfl) q_inX9 (f := 4) (by decide) (q_in_t2 (i := 80) (by first | rfl | decide +kernel) rfl) (Or.inl rfl) rfl hdg kk
theorem gsr_X3_25 (E : q_E p c cc s m args RX3 X) (hI : q_I X n σ0 H0 locs σ H) (ha : q_kd X a = 4 ∨ q_kd X a = 9) (hdg : decode cc pc = .ok (.getfield 25, 3)) (kk : W p l e R s m args below meth c H locs cells slots Q (F0 m (pc + 3) ls (.int (σ.1 a 4) :: rest))) : W p l e R s m args below meth c H locs cells slots Q (F0 m pc ls (.ref a :: rest)) := by
  rcases ha with ha | ha
  · exact gs_X3_25_4 E hI ha hdg kk
  · exact gs_X3_25_9 E hI ha hdg kk
theorem kt_X3_60 : q_okV RX3 60 "java/lang/String" yJ0_length_8abf5 cJ0_length_8abf5 1 (some .int) 0 := ⟨(q_in_t3 (i := 186) (by first | rfl | decide +kernel) rfl), (q_in_t3 (i := 187) (by first | rfl | decide +kernel) rfl), (q_in_t3 (i := 188) (by first | rfl | decide +kernel) rfl), (q_in_t1 (i := 16) (by first | rfl | decide +kernel) rfl), (q_in_t3 (i := 189) (by first | rfl | decide +kernel) rfl), ⟨rfl, by decide, by decide, rfl⟩⟩
theorem kt_X3_64 : q_okV RX3 64 "java/lang/String" yJ0_charAt_5068e cJ0_charAt_5068e 2 (some .char) 1 := ⟨(q_in_t3 (i := 196) (by first | rfl | decide +kernel) rfl), (q_in_t3 (i := 197) (by first | rfl | decide +kernel) rfl), (q_in_t3 (i := 198) (by first | rfl | decide +kernel) rfl), (q_in_t1 (i := 16) (by first | rfl | decide +kernel) rfl), (q_in_t3 (i := 199) (by first | rfl | decide +kernel) rfl), ⟨rfl, by decide, by decide, rfl⟩⟩
theorem kr_X3_91 : q_okU2 RX3 91 RX4 "CheatHeap$Reader" ⟨"CheatHeap$Reader", "isWord", "(Ljava/lang/String;)Z"⟩ yX3_isWord cX3_isWord 3 (some .boolean) 1 ∧ q_okU2 RX3 91 RX9 "CheatHeap$Reader" ⟨"CheatHeap$Reader", "isWord", "(Ljava/lang/String;)Z"⟩ yX3_isWord cX3_isWord 3 (some .boolean) 1 := ⟨⟨(q_in_t3 (i := 180) (by first | rfl | decide +kernel) rfl), (q_in_t3 (i := 182) (by first | rfl | decide +kernel) rfl), (q_in_t3 (i := 183) (by first | rfl | decide +kernel) rfl), (q_in_t3 (i := 181) (by first | rfl | decide +kernel) rfl), (q_in_t1 (i := 9) (by first | rfl | decide +kernel) rfl), (q_in_t3 (i := 185) (by first | rfl | decide +kernel) rfl), ⟨by decide, by decide, rfl⟩, rfl⟩, ⟨(q_in_t3 (i := 180) (by first | rfl | decide +kernel) rfl), (q_in_t3 (i := 182) (by first | rfl | decide +kernel) rfl), (q_in_t3 (i := 184) (by first | rfl | decide +kernel) rfl), (q_in_t3 (i := 181) (by first | rfl | decide +kernel) rfl), (q_in_t1 (i := 9) (by first | rfl | decide +kernel) rfl), (q_in_t3 (i := 185) (by first | rfl | decide +kernel) rfl), ⟨by decide, by decide, rfl⟩, rfl⟩⟩
theorem kr_X3_74 : q_okU2 RX3 74 RX4 "CheatHeap$Reader" ⟨"CheatHeap$Reader", "fails", "(I)Z"⟩ yX3_fails cX3_fails 2 (some .boolean) 1 ∧ q_okU2 RX3 74 RX9 "CheatHeap$Reader" ⟨"CheatHeap$Reader", "fails", "(I)Z"⟩ yX3_fails cX3_fails 2 (some .boolean) 1 := ⟨⟨(q_in_t3 (i := 234) (by first | rfl | decide +kernel) rfl), (q_in_t3 (i := 236) (by first | rfl | decide +kernel) rfl), (q_in_t3 (i := 237) (by first | rfl | decide +kernel) rfl), (q_in_t3 (i := 235) (by first | rfl | decide +kernel) rfl), (q_in_t1 (i := 9) (by first | rfl | decide +kernel) rfl), (q_in_t3 (i := 239) (by first | rfl | decide +kernel) rfl), ⟨by decide, by decide, rfl⟩, rfl⟩, ⟨(q_in_t3 (i := 234) (by first | rfl | decide +kernel) rfl), (q_in_t3 (i := 236) (by first | rfl | decide +kernel) rfl), (q_in_t3 (i := 238) (by first | rfl | decide +kernel) rfl), (q_in_t3 (i := 235) (by first | rfl | decide +kernel) rfl), (q_in_t1 (i := 9) (by first | rfl | decide +kernel) rfl), (q_in_t3 (i := 239) (by first | rfl | decide +kernel) rfl), ⟨by decide, by decide, rfl⟩, rfl⟩⟩
theorem kr_X3_87 : q_okU2 RX3 87 RX4 "CheatHeap$Reader" ⟨"CheatHeap$Reader", "mustBeNumber", "(II)Z"⟩ yX3_mustBeNumber cX3_mustBeNumber 3 (some .boolean) 2 ∧ q_okU2 RX3 87 RX9 "CheatHeap$Reader" ⟨"CheatHeap$Reader", "mustBeNumber", "(II)Z"⟩ yX3_mustBeNumber cX3_mustBeNumber 3 (some .boolean) 2 := ⟨⟨(q_in_t4 (i := 6) (by first | rfl | decide +kernel) rfl), (q_in_t4 (i := 8) (by first | rfl | decide +kernel) rfl), (q_in_t4 (i := 9) (by first | rfl | decide +kernel) rfl), (q_in_t4 (i := 7) (by first | rfl | decide +kernel) rfl), (q_in_t1 (i := 9) (by first | rfl | decide +kernel) rfl), (q_in_t4 (i := 11) (by first | rfl | decide +kernel) rfl), ⟨by decide, by decide, rfl⟩, rfl⟩, ⟨(q_in_t4 (i := 6) (by first | rfl | decide +kernel) rfl), (q_in_t4 (i := 8) (by first | rfl | decide +kernel) rfl), (q_in_t4 (i := 10) (by first | rfl | decide +kernel) rfl), (q_in_t4 (i := 7) (by first | rfl | decide +kernel) rfl), (q_in_t1 (i := 9) (by first | rfl | decide +kernel) rfl), (q_in_t4 (i := 11) (by first | rfl | decide +kernel) rfl), ⟨by decide, by decide, rfl⟩, rfl⟩⟩
theorem kz_X3_68 (E : q_E p c cc s m args RX3 X) : vk_R RX3 68 "kinds each law most player lies doubts hand of up down same turn when cards heap won shown loop end stop " (q_sk X 8) s := E.2.2.2.2.1.2.2 (RX3, 68, "kinds each law most player lies doubts hand of up down same turn when cards heap won shown loop end stop ", 8) (List.mem_of_getElem? (i := 8) (by first | rfl | decide +kernel))
theorem kr_X3_70 : q_okU2 RX3 70 RX4 "CheatHeap$Reader" ⟨"CheatHeap$Reader", "isReserved", "()Z"⟩ yX3_isReserved cX3_isReserved 4 (some .boolean) 0 ∧ q_okU2 RX3 70 RX9 "CheatHeap$Reader" ⟨"CheatHeap$Reader", "isReserved", "()Z"⟩ yX3_isReserved cX3_isReserved 4 (some .boolean) 0 := ⟨⟨(q_in_t4 (i := 59) (by first | rfl | decide +kernel) rfl), (q_in_t9 (i := 206) (by first | rfl | decide +kernel) rfl), (q_in_x (i := 2) rfl), (q_in_t4 (i := 61) (by first | rfl | decide +kernel) rfl), (q_in_t1 (i := 9) (by first | rfl | decide +kernel) rfl), (q_in_t4 (i := 62) (by first | rfl | decide +kernel) rfl), ⟨by decide, by decide, rfl⟩, rfl⟩, ⟨(q_in_t4 (i := 59) (by first | rfl | decide +kernel) rfl), (q_in_t9 (i := 206) (by first | rfl | decide +kernel) rfl), (q_in_x (i := 3) rfl), (q_in_t4 (i := 61) (by first | rfl | decide +kernel) rfl), (q_in_t1 (i := 9) (by first | rfl | decide +kernel) rfl), (q_in_t4 (i := 62) (by first | rfl | decide +kernel) rfl), ⟨by decide, by decide, rfl⟩, rfl⟩⟩
theorem gs_X6_39_6 (E : q_E p c cc s m args RX6 X) (hI : q_I X n σ0 H0 locs σ H) (ha : q_kd X a = 6) (hdg : decode cc pc = .ok (.getfield 39, 3)) (kk : W p l e R s m args below meth c H locs cells slots Q (F0 m (pc + 3) ls (.ref (q_rf X a 7) :: rest))) : W p l e R s m args below meth c H locs cells slots Q (F0 m pc ls (.ref a :: rest)) :=
  q_getf (ref := "CheatHeap$Rules") E hI ha ⟨rfl, by decide⟩ (show vwCl[5]? = some (RX6, TX6, 8) from rfl) q_inX6 (f := 7) (by decide) (q_in_t1 (i := 83) (by first | rfl | decide +kernel) rfl) (Or.inl rfl) rfl hdg kk
theorem kv_X6_73 : q_okV RX6 73 RX5 yX5_get cX5_get 2 (some .int) 1 := ⟨(q_in_t4 (i := 72) (by first | rfl | decide +kernel) rfl), (q_in_t4 (i := 73) (by first | rfl | decide +kernel) rfl), (q_in_t4 (i := 74) (by first | rfl | decide +kernel) rfl), (q_in_t1 (i := 4) (by first | rfl | decide +kernel) rfl), (q_in_t4 (i := 75) (by first | rfl | decide +kernel) rfl), ⟨rfl, by decide, by decide, rfl⟩⟩
theorem kr_X6_55 : q_okU2 RX6 55 RX4 "CheatHeap$Reader" ⟨"CheatHeap$Reader", "size", "()I"⟩ yX3_size cX3_size 1 (some .int) 0 ∧ q_okU2 RX6 55 RX9 "CheatHeap$Reader" ⟨"CheatHeap$Reader", "size", "()I"⟩ yX3_size cX3_size 1 (some .int) 0 := ⟨⟨(q_in_t4 (i := 76) (by first | rfl | decide +kernel) rfl), (q_in_t3 (i := 165) (by first | rfl | decide +kernel) rfl), (q_in_t3 (i := 166) (by first | rfl | decide +kernel) rfl), (q_in_t3 (i := 164) (by first | rfl | decide +kernel) rfl), (q_in_t1 (i := 9) (by first | rfl | decide +kernel) rfl), (q_in_t3 (i := 168) (by first | rfl | decide +kernel) rfl), ⟨by decide, by decide, rfl⟩, rfl⟩, ⟨(q_in_t4 (i := 76) (by first | rfl | decide +kernel) rfl), (q_in_t3 (i := 165) (by first | rfl | decide +kernel) rfl), (q_in_t3 (i := 167) (by first | rfl | decide +kernel) rfl), (q_in_t3 (i := 164) (by first | rfl | decide +kernel) rfl), (q_in_t1 (i := 9) (by first | rfl | decide +kernel) rfl), (q_in_t3 (i := 168) (by first | rfl | decide +kernel) rfl), ⟨by decide, by decide, rfl⟩, rfl⟩⟩
theorem gs_X6_36_6 (E : q_E p c cc s m args RX6 X) (hI : q_I X n σ0 H0 locs σ H) (ha : q_kd X a = 6) (hdg : decode cc pc = .ok (.getfield 36, 3)) (kk : W p l e R s m args below meth c H locs cells slots Q (F0 m (pc + 3) ls (.ref (q_rf X a 6) :: rest))) : W p l e R s m args below meth c H locs cells slots Q (F0 m pc ls (.ref a :: rest)) :=
  q_getf (ref := "CheatHeap$Rules") E hI ha ⟨rfl, by decide⟩ (show vwCl[5]? = some (RX6, TX6, 8) from rfl) q_inX6 (f := 6) (by decide) (q_in_t1 (i := 82) (by first | rfl | decide +kernel) rfl) (Or.inl rfl) rfl hdg kk
theorem kr_X6_61 : q_okU2 RX6 61 RX4 "CheatHeap$Reader" ⟨"CheatHeap$Reader", "signAt", "(I)I"⟩ yX3_signAt cX3_signAt 3 (some .int) 1 ∧ q_okU2 RX6 61 RX9 "CheatHeap$Reader" ⟨"CheatHeap$Reader", "signAt", "(I)I"⟩ yX3_signAt cX3_signAt 3 (some .int) 1 := ⟨⟨(q_in_t4 (i := 77) (by first | rfl | decide +kernel) rfl), (q_in_t3 (i := 155) (by first | rfl | decide +kernel) rfl), (q_in_t3 (i := 156) (by first | rfl | decide +kernel) rfl), (q_in_t3 (i := 154) (by first | rfl | decide +kernel) rfl), (q_in_t1 (i := 9) (by first | rfl | decide +kernel) rfl), (q_in_t3 (i := 158) (by first | rfl | decide +kernel) rfl), ⟨by decide, by decide, rfl⟩, rfl⟩, ⟨(q_in_t4 (i := 77) (by first | rfl | decide +kernel) rfl), (q_in_t3 (i := 155) (by first | rfl | decide +kernel) rfl), (q_in_t3 (i := 157) (by first | rfl | decide +kernel) rfl), (q_in_t3 (i := 154) (by first | rfl | decide +kernel) rfl), (q_in_t1 (i := 9) (by first | rfl | decide +kernel) rfl), (q_in_t3 (i := 158) (by first | rfl | decide +kernel) rfl), ⟨by decide, by decide, rfl⟩, rfl⟩⟩
theorem gs_X6_24_6 (E : q_E p c cc s m args RX6 X) (hI : q_I X n σ0 H0 locs σ H) (ha : q_kd X a = 6) (hdg : decode cc pc = .ok (.getfield 24, 3)) (kk : W p l e R s m args below meth c H locs cells slots Q (F0 m (pc + 3) ls (.int (σ.1 a 4) :: rest))) : W p l e R s m args below meth c H locs cells slots Q (F0 m pc ls (.ref a :: rest)) :=
  q_getf (ref := "CheatHeap$Rules") E hI ha ⟨rfl, by decide⟩ (show vwCl[5]? = some (RX6, TX6, 8) from rfl) q_inX6 (f := 4) (by decide) (q_in_t1 (i := 73) (by first | rfl | decide +kernel) rfl) (Or.inl rfl) rfl hdg kk
theorem kv_X6_69 : q_okV RX6 69 RX6 yX6_isNamed cX6_isNamed 5 (some .boolean) 2 := ⟨(q_in_t4 (i := 68) (by first | rfl | decide +kernel) rfl), (q_in_t4 (i := 70) (by first | rfl | decide +kernel) rfl), (q_in_p (i := 11) (by decide +kernel) rfl), (q_in_t1 (i := 3) (by first | rfl | decide +kernel) rfl), (q_in_t4 (i := 71) (by first | rfl | decide +kernel) rfl), ⟨rfl, by decide, by decide, rfl⟩⟩
theorem kv_X6_65 : q_okV RX6 65 RX5 yX5_set cX5_set 3 none 2 := ⟨(q_in_t4 (i := 82) (by first | rfl | decide +kernel) rfl), (q_in_t4 (i := 83) (by first | rfl | decide +kernel) rfl), (q_in_t4 (i := 84) (by first | rfl | decide +kernel) rfl), (q_in_t1 (i := 4) (by first | rfl | decide +kernel) rfl), (q_in_t4 (i := 85) (by first | rfl | decide +kernel) rfl), ⟨rfl, by decide, by decide, rfl⟩⟩
theorem kr_X3_78 : q_okU2 RX3 78 RX4 "CheatHeap$Reader" ⟨"CheatHeap$Reader", "mustBeName", "()Z"⟩ yX3_mustBeName cX3_mustBeName 1 (some .boolean) 0 ∧ q_okU2 RX3 78 RX9 "CheatHeap$Reader" ⟨"CheatHeap$Reader", "mustBeName", "()Z"⟩ yX3_mustBeName cX3_mustBeName 1 (some .boolean) 0 := ⟨⟨(q_in_t4 (i := 104) (by first | rfl | decide +kernel) rfl), (q_in_t9 (i := 207) (by first | rfl | decide +kernel) rfl), (q_in_t9 (i := 208) (by first | rfl | decide +kernel) rfl), (q_in_t4 (i := 57) (by first | rfl | decide +kernel) rfl), (q_in_t1 (i := 9) (by first | rfl | decide +kernel) rfl), (q_in_t4 (i := 58) (by first | rfl | decide +kernel) rfl), ⟨by decide, by decide, rfl⟩, rfl⟩, ⟨(q_in_t4 (i := 104) (by first | rfl | decide +kernel) rfl), (q_in_t9 (i := 207) (by first | rfl | decide +kernel) rfl), (q_in_t9 (i := 209) (by first | rfl | decide +kernel) rfl), (q_in_t4 (i := 57) (by first | rfl | decide +kernel) rfl), (q_in_t1 (i := 9) (by first | rfl | decide +kernel) rfl), (q_in_t4 (i := 58) (by first | rfl | decide +kernel) rfl), ⟨by decide, by decide, rfl⟩, rfl⟩⟩
theorem kv_X3_81 : q_okV RX3 81 RX6 yX6_playerNamed cX6_playerNamed 3 (some .int) 1 := ⟨(q_in_t4 (i := 105) (by first | rfl | decide +kernel) rfl), (q_in_t4 (i := 65) (by first | rfl | decide +kernel) rfl), (q_in_t4 (i := 66) (by first | rfl | decide +kernel) rfl), (q_in_t1 (i := 3) (by first | rfl | decide +kernel) rfl), (q_in_t4 (i := 67) (by first | rfl | decide +kernel) rfl), ⟨rfl, by decide, by decide, rfl⟩⟩
theorem gs_X6_9_6 (E : q_E p c cc s m args RX6 X) (hI : q_I X n σ0 H0 locs σ H) (ha : q_kd X a = 6) (hdg : decode cc pc = .ok (.getfield 9, 3)) (kk : W p l e R s m args below meth c H locs cells slots Q (F0 m (pc + 3) ls (.int (σ.1 a 0) :: rest))) : W p l e R s m args below meth c H locs cells slots Q (F0 m pc ls (.ref a :: rest)) :=
  q_getf (ref := "CheatHeap$Rules") E hI ha ⟨rfl, by decide⟩ (show vwCl[5]? = some (RX6, TX6, 8) from rfl) q_inX6 (f := 0) (by decide) (q_in_t1 (i := 57) (by first | rfl | decide +kernel) rfl) (Or.inl rfl) rfl hdg kk
theorem gs_X6_15_6 (E : q_E p c cc s m args RX6 X) (hI : q_I X n σ0 H0 locs σ H) (ha : q_kd X a = 6) (hdg : decode cc pc = .ok (.getfield 15, 3)) (kk : W p l e R s m args below meth c H locs cells slots Q (F0 m (pc + 3) ls (.int (σ.1 a 1) :: rest))) : W p l e R s m args below meth c H locs cells slots Q (F0 m pc ls (.ref a :: rest)) :=
  q_getf (ref := "CheatHeap$Rules") E hI ha ⟨rfl, by decide⟩ (show vwCl[5]? = some (RX6, TX6, 8) from rfl) q_inX6 (f := 1) (by decide) (q_in_t1 (i := 62) (by first | rfl | decide +kernel) rfl) (Or.inl rfl) rfl hdg kk
theorem gs_X6_18_6 (E : q_E p c cc s m args RX6 X) (hI : q_I X n σ0 H0 locs σ H) (ha : q_kd X a = 6) (hdg : decode cc pc = .ok (.getfield 18, 3)) (kk : W p l e R s m args below meth c H locs cells slots Q (F0 m (pc + 3) ls (.int (σ.1 a 2) :: rest))) : W p l e R s m args below meth c H locs cells slots Q (F0 m pc ls (.ref a :: rest)) :=
  q_getf (ref := "CheatHeap$Rules") E hI ha ⟨rfl, by decide⟩ (show vwCl[5]? = some (RX6, TX6, 8) from rfl) q_inX6 (f := 2) (by decide) (q_in_t1 (i := 65) (by first | rfl | decide +kernel) rfl) (Or.inl rfl) rfl hdg kk
theorem gs_X6_21_6 (E : q_E p c cc s m args RX6 X) (hI : q_I X n σ0 H0 locs σ H) (ha : q_kd X a = 6) (hdg : decode cc pc = .ok (.getfield 21, 3)) (kk : W p l e R s m args below meth c H locs cells slots Q (F0 m (pc + 3) ls (.int (σ.1 a 3) :: rest))) : W p l e R s m args below meth c H locs cells slots Q (F0 m pc ls (.ref a :: rest)) :=
  q_getf (ref := "CheatHeap$Rules") E hI ha ⟨rfl, by decide⟩ (show vwCl[5]? = some (RX6, TX6, 8) from rfl) q_inX6 (f := 3) (by decide) (q_in_t1 (i := 68) (by first | rfl | decide +kernel) rfl) (Or.inl rfl) rfl hdg kk
theorem kv_X6_45 : q_okV RX6 45 RX5 yX5_copyFrom cX5_copyFrom 3 none 1 := ⟨(q_in_t4 (i := 133) (by first | rfl | decide +kernel) rfl), (q_in_t4 (i := 134) (by first | rfl | decide +kernel) rfl), (q_in_t4 (i := 135) (by first | rfl | decide +kernel) rfl), (q_in_t1 (i := 4) (by first | rfl | decide +kernel) rfl), (q_in_t4 (i := 136) (by first | rfl | decide +kernel) rfl), ⟨rfl, by decide, by decide, rfl⟩⟩
theorem ks_X6_49 : q_okS RX6 49 yJ9_floorMod_7cf53 cJ9_floorMod_7cf53 3 (some .int) 2 := ⟨(q_in_t5 (i := 125) (by first | rfl | decide +kernel) rfl), (q_in_t5 (i := 126) (by first | rfl | decide +kernel) rfl), (q_in_t1 (i := 5) (by first | rfl | decide +kernel) rfl), (q_in_t5 (i := 127) (by first | rfl | decide +kernel) rfl), ⟨by decide, by decide, rfl⟩⟩
end QS
end
/-! FROM 12.reader.b00.lean.txt -/
section
set_option maxRecDepth 100000 in
set_option maxHeartbeats 4000000 in
theorem c_X6_reset (l : Launch) (X : XW) (σ : ST) (a : Nat) (ha : q_kd X a = 6) : Met l yX6_reset (q_ws yX6_reset cX6_reset 1 none) (q_rm 1 21) (q_P X σ [.ref a]) (q_Qv X 8 σ (fun (σ' : ST) => σ' = F_X6_reset X σ a ∧ q_ow [(6, 0), (6, 1), (6, 2), (6, 3), (6, 4), (20, 99)] [] X σ σ')) 0 0 (q_reg X) := by
  refine q_met 8 (by first | exact rfl | decide +kernel) rfl (Nat.le_of_ble_eq_true rfl) (fun p e s m below meth c E hml hr hlk hI ls hl => ?_)
  have hx := E.1
  have hb := E.2.1
  have hl : lv_has ls 1 [(0, .ref a)] := hl
  have fr_σ : q_ow [(6, 0), (6, 1), (6, 2), (6, 3), (6, 4), (20, 99)] [] X σ σ := q_ow.rf
  obtain ⟨out, hout⟩ : ∃ o, o = F_X6_reset X σ a := ⟨_, rfl⟩
  have hF := hout.symm
  unfold F_X6_reset at hF
  refine lv_aload_n hx hb dX6_reset_0 rfl (lv_at hl 0 rfl) ?_
  refine lv_iconst (v := 2) hx hb dX6_reset_1 zki_2 ?_
  refine ps_X6_9_6 E hI ha (by decide) (by decide) (by decide) dX6_reset_2 (fun H locs σ_1 hσ_1 hI => ?_)
  replace hF := q_letX hF hσ_1
  have fr_σ_1 := fr_σ.si hσ_1 ha rfl
  refine lv_aload_n hx hb dX6_reset_5 rfl (lv_at hl 0 rfl) ?_
  refine lv_iconst (v := 1) hx hb dX6_reset_6 zki_1 ?_
  refine ps_X6_15_6 E hI ha (by decide) dX6_reset_7 (fun H locs σ_2 hσ_2 hI => ?_)
  replace hF := q_letX hF hσ_2
  have fr_σ_2 := fr_σ_1.si hσ_2 ha rfl
  refine lv_aload_n hx hb dX6_reset_10 rfl (lv_at hl 0 rfl) ?_
  refine lv_iconst (v := 0) hx hb dX6_reset_11 zki_0 ?_
  refine ps_X6_18_6 E hI ha (by decide) dX6_reset_12 (fun H locs σ_3 hσ_3 hI => ?_)
  replace hF := q_letX hF hσ_3
  have fr_σ_3 := fr_σ_2.si hσ_3 ha rfl
  refine lv_aload_n hx hb dX6_reset_15 rfl (lv_at hl 0 rfl) ?_
  refine lv_iconst (v := 4) hx hb dX6_reset_16 zki_4 ?_
  refine ps_X6_21_6 E hI ha (by decide) (by decide) (by decide) dX6_reset_17 (fun H locs σ_4 hσ_4 hI => ?_)
  replace hF := q_letX hF hσ_4
  have fr_σ_4 := fr_σ_3.si hσ_4 ha rfl
  refine lv_aload_n hx hb dX6_reset_20 rfl (lv_at hl 0 rfl) ?_
  refine lv_iconst (v := 0) hx hb dX6_reset_21 zki_0 ?_
  refine ps_X6_24_6 E hI ha (by decide) dX6_reset_22 (fun H locs σ_5 hσ_5 hI => ?_)
  replace hF := q_letX hF hσ_5
  have fr_σ_5 := fr_σ_4.si hσ_5 ha rfl
  refine lv_aload_n hx hb dX6_reset_25 rfl (lv_at hl 0 rfl) ?_
  refine gs_X6_32_6 E hI ha dX6_reset_26 ?_
  refine q_cv (q_rV4_0 (rest := []) E (hml.trans hl.1.symm) hI (c_X5_clear l X σ_5 (q_rf X a 5) (q_tk (k' := 5) hI ha rfl (Nat.succ_ne_zero _))) kv_X6_42 (q_tk (k' := 5) hI ha rfl (Nat.succ_ne_zero _)) ⟨Nat.le_of_ble_eq_true rfl, Nat.le_of_ble_eq_true rfl⟩ (Nat.le_of_ble_eq_true rfl) dX6_reset_29) hI (Nat.le_of_ble_eq_true rfl) (fun σ_7 H locs hpσ_7 hkσ_7 hI => ?_)
  have ahpσ_7 := hpσ_7.1
  have bhpσ_7 := hpσ_7.2
  clear hpσ_7
  have fr_σ_7 := fr_σ_5.call bhpσ_7 rfl rfl
  replace hF := q_letX hF ahpσ_7
  exact q_retv E hr hlk hI ⟨(hF.trans hout), fr_σ_7⟩ dX6_reset_32

set_option maxRecDepth 100000 in
set_option maxHeartbeats 4000000 in
theorem c_X3_signAt (l : Launch) (X : XW) (σ : ST) (a : Nat) (v1 : Int32) (ha : q_kd X a = 4 ∨ q_kd X a = 9) : Met l yX3_signAt (q_ws yX3_signAt cX3_signAt 3 (some .int)) (q_rm 0 0) (q_P X σ [.ref a, .int v1]) (q_Qi X 9 σ (fun (r : Int32) (σ' : ST) => σ' = σ ∧ r = F_X3_signAt X σ a v1)) 0 0 (q_reg X) := by
  refine q_met 9 (by first | exact rfl | decide +kernel) rfl (Nat.le_of_ble_eq_true rfl) (fun p e s m below meth c E hml hr hlk hI ls hl => ?_)
  have hx := E.1
  have hb := E.2.1
  have hl : lv_has ls 3 [(0, .ref a), (1, .int v1)] := hl
  obtain ⟨out, hout⟩ : ∃ o, o = F_X3_signAt X σ a v1 := ⟨_, rfl⟩
  have hF := hout.symm
  unfold F_X3_signAt at hF
  refine lv_aload_n hx hb dX3_signAt_0 rfl (lv_at hl 0 rfl) ?_
  refine gsr_X3_19 E hI ha dX3_signAt_1 ?_
  refine lv_topi (fun f_1 ef_1 => ?_)
  replace hF := q_letX hF ef_1
  have bf_1 : 0 ≤ f_1.toInt ∧ f_1.toInt ≤ 2147483647 := by rw [ef_1]; exact q_bdR hI ha rfl rfl
  refine lv_iload_n hx hb dX3_signAt_4 rfl (lv_at hl 1 rfl) ?_
  refine lv_iadd hx hb dX3_signAt_5 ?_
  refine lv_topi (fun z_2 ez_2 => ?_)
  replace hF := q_letX hF ez_2
  refine lv_istore_n (lv' := [(2, .int z_2), (0, .ref a), (1, .int v1)]) hx hb dX3_signAt_6 rfl hl (by decide) rfl (fun ls hl => ?_)
  refine lv_iload_n hx hb dX3_signAt_7 rfl (lv_at hl 0 rfl) ?_
  refine q_if_lt (A := z_2.toInt) E rfl (tgt := 37) dX3_signAt_8 (by decide) (fun c_3 => ?_) (fun c_3 => ?_)
  · skip
    replace hF := q_ifp hF c_3
    refine lv_iconst (v := 0) hx hb dX3_signAt_37 zki_0 ?_
    exact q_reti E hr hlk hI ⟨rfl, (hF.trans hout)⟩ dX3_signAt_38
  · skip
    replace hF := q_ifn hF (Int.not_lt.mpr c_3)
    refine lv_iload_n hx hb dX3_signAt_11 rfl (lv_at hl 0 rfl) ?_
    refine lv_aload_n hx hb dX3_signAt_12 rfl (lv_at hl 1 rfl) ?_
    refine gsr_X3_15 E hI ha dX3_signAt_13 ?_
    refine lv_topi (fun f_4 ef_4 => ?_)
    replace hF := q_letX hF ef_4
    refine q_icmp_ge (A := z_2.toInt) (B := f_4.toInt) E rfl rfl (tgt := 37) dX3_signAt_16 (by decide) (fun c_5 => ?_) (fun c_5 => ?_)
    · skip
      replace hF := q_ifn hF (Int.not_lt.mpr c_5)
      refine lv_iconst (v := 0) hx hb dX3_signAt_37 zki_0 ?_
      exact q_reti E hr hlk hI ⟨rfl, (hF.trans hout)⟩ dX3_signAt_38
    · skip
      replace hF := q_ifp hF c_5
      refine lv_iload_n hx hb dX3_signAt_19 rfl (lv_at hl 0 rfl) ?_
      refine lv_aload_n hx hb dX3_signAt_20 rfl (lv_at hl 1 rfl) ?_
      refine gsr_X3_9 E hI ha dX3_signAt_21 ?_
      refine q_alenX E hI (q_txk hI ha) (by decide) (t := 0) rfl rfl dX3_signAt_24 (fun n_6 en_6 hn_6 => ?_)
      replace hF := q_letX hF en_6
      refine q_icmp_ge (A := z_2.toInt) (B := n_6.toInt) E rfl rfl (tgt := 37) dX3_signAt_25 (by decide) (fun c_7 => ?_) (fun c_7 => ?_)
      · skip
        replace hF := q_ifn hF (Int.not_lt.mpr c_7)
        refine lv_iconst (v := 0) hx hb dX3_signAt_37 zki_0 ?_
        exact q_reti E hr hlk hI ⟨rfl, (hF.trans hout)⟩ dX3_signAt_38
      · skip
        replace hF := q_ifp hF c_7
        refine lv_aload_n hx hb dX3_signAt_28 rfl (lv_at hl 1 rfl) ?_
        refine gsr_X3_9 E hI ha dX3_signAt_29 ?_
        refine lv_iload_n hx hb dX3_signAt_32 rfl (lv_at hl 0 rfl) ?_
        refine q_bald E hI (q_txk hI ha) ⟨by decide, rfl⟩ (by omega) (by first | (clear bf_1 c_3 c_5; omega) | omega) dX3_signAt_33 ?_
        refine lv_topi (fun f_8 ef_8 => ?_)
        replace hF := q_letX hF ef_8
        refine lv_goto (tgt := 38) hx hb dX3_signAt_34 (by decide) ?_
        exact q_reti E hr hlk hI ⟨rfl, (hF.trans hout)⟩ dX3_signAt_38

set_option maxRecDepth 100000 in
set_option maxHeartbeats 4000000 in
theorem c_X3_endOfRun (l : Launch) (X : XW) (σ : ST) (a : Nat) (v1 : Int32) (v2 : Int32) (ha : q_kd X a = 4 ∨ q_kd X a = 9) : Met l yX3_endOfRun (q_ws yX3_endOfRun cX3_endOfRun 4 (some .int)) (q_rm 0 0) (q_P X σ [.ref a, .int v1, .int v2]) (q_Qi X 9 σ (fun (r : Int32) (σ' : ST) => σ' = σ ∧ (0 ≤ r.toInt) ∧ r = F_X3_endOfRun X σ a v1 v2)) 0 0 (q_reg X) := by
  refine q_met 9 (by first | exact rfl | decide +kernel) rfl (Nat.le_of_ble_eq_true rfl) (fun p e s m below meth c E hml hr hlk hI ls hl => ?_)
  have hx := E.1
  have hb := E.2.1
  have hl : lv_has ls 4 [(0, .ref a), (1, .int v1), (2, .int v2)] := hl
  obtain ⟨out, hout⟩ : ∃ o, o = F_X3_endOfRun X σ a v1 v2 := ⟨_, rfl⟩
  have hF := hout.symm
  unfold F_X3_endOfRun at hF
  refine lv_aload_n hx hb dX3_endOfRun_0 rfl (lv_at hl 0 rfl) ?_
  refine gsr_X3_19 E hI ha dX3_endOfRun_1 ?_
  refine lv_topi (fun f_1 ef_1 => ?_)
  replace hF := q_letX hF ef_1
  have if_1 : f_1.toInt = (σ.1 a 2).toInt := congrArg Int32.toInt ef_1
  have bf_1 : 0 ≤ f_1.toInt ∧ f_1.toInt ≤ 2147483647 := by rw [ef_1]; exact q_bdR hI ha rfl rfl
  refine lv_istore_n (lv' := [(3, .int f_1), (0, .ref a), (1, .int v1), (2, .int v2)]) hx hb dX3_endOfRun_4 rfl hl (by decide) rfl (fun ls hl => ?_)
  have L_5_3 : ∀ (k_3 : Nat) (x_2 : Int32) (H : Heap) (locs : List Loc) (ls : Array Slot), (2147483647 - x_2.toInt).toNat < k_3 → (0 ≤ x_2.toInt) → (F_X3_endOfRun_L5_1 X σ a v1 v2 k_3 x_2 = out) → q_I X 9 σ s.heap locs σ H → lv_has ls 4 [(0, .ref a), (1, .int v1), (2, .int v2), (3, .int x_2)] → W p l e (q_rm 0 0) s m ([.ref a, .int v1, .int v2] : List Value).toArray below meth c H locs 0 0 (MQ below (q_Qi X 9 σ (fun (r : Int32) (σ' : ST) => σ' = σ ∧ (0 ≤ r.toInt) ∧ r = F_X3_endOfRun X σ a v1 v2)) ([.ref a, .int v1, .int v2] : List Value).toArray s 0 0 (q_reg X)) (F0 m 5 ls []) := by
    clear hF
    intro k_3
    induction k_3 with
    | zero =>
      intro x_2 H locs ls hms
      exact absurd hms (Nat.not_lt_zero _)
    | succ k_3 ih5 =>
      intro x_2 H locs ls hm5 hge5 hF hI hl
      replace hF := (F_X3_endOfRun_L5_1_s).symm.trans hF
      unfold F_X3_endOfRun_B5_1 at hF
      refine lv_iload_n hx hb dX3_endOfRun_5 rfl (lv_at hl 3 rfl) ?_
      refine lv_aload_n hx hb dX3_endOfRun_6 rfl (lv_at hl 0 rfl) ?_
      refine gsr_X3_15 E hI ha dX3_endOfRun_7 ?_
      refine lv_topi (fun f_4 ef_4 => ?_)
      replace hF := q_letX hF ef_4
      have if_4 : f_4.toInt = (σ.1 a 1).toInt := congrArg Int32.toInt ef_4
      have gc_5_x_2 := q_rng x_2
      have gc_5_f_4 := q_rng f_4
      refine q_icmp_ge (A := x_2.toInt) (B := f_4.toInt) E rfl rfl (tgt := 48) dX3_endOfRun_10 (by decide) (fun c_5 => ?_) (fun c_5 => ?_)
      · skip
        replace hF := q_ifn hF (Int.not_lt.mpr c_5)
        skip
        refine lv_iload_n hx hb dX3_endOfRun_48 rfl (lv_at hl 3 rfl) ?_
        exact q_reti E hr hlk hI ⟨rfl, (by omega), (hF.trans hout)⟩ dX3_endOfRun_49
      · skip
        replace hF := q_ifp hF c_5
        refine lv_iload_n hx hb dX3_endOfRun_13 rfl (lv_at hl 3 rfl) ?_
        refine lv_aload_n hx hb dX3_endOfRun_14 rfl (lv_at hl 0 rfl) ?_
        refine gsr_X3_9 E hI ha dX3_endOfRun_15 ?_
        refine q_alenX E hI (q_txk hI ha) (by decide) (t := 0) rfl rfl dX3_endOfRun_18 (fun n_6 en_6 hn_6 => ?_)
        replace hF := q_letX hF en_6
        have gc_7_x_2 := q_rng x_2
        have gc_7_n_6 := q_rng n_6
        refine q_icmp_ge (A := x_2.toInt) (B := n_6.toInt) E rfl rfl (tgt := 48) dX3_endOfRun_19 (by decide) (fun c_7 => ?_) (fun c_7 => ?_)
        · skip
          replace hF := q_ifn hF (Int.not_lt.mpr c_7)
          skip
          refine lv_iload_n hx hb dX3_endOfRun_48 rfl (lv_at hl 3 rfl) ?_
          exact q_reti E hr hlk hI ⟨rfl, (by omega), (hF.trans hout)⟩ dX3_endOfRun_49
        · skip
          replace hF := q_ifp hF c_7
          refine lv_aload_n hx hb dX3_endOfRun_22 rfl (lv_at hl 0 rfl) ?_
          refine gsr_X3_9 E hI ha dX3_endOfRun_23 ?_
          refine lv_iload_n hx hb dX3_endOfRun_26 rfl (lv_at hl 3 rfl) ?_
          refine q_bald E hI (q_txk hI ha) ⟨by decide, rfl⟩ (by omega) (by first | (clear if_1 bf_1 hm5 hge5 if_4 gc_5_x_2 gc_5_f_4 c_5 gc_7_x_2 gc_7_n_6; omega) | omega) dX3_endOfRun_27 ?_
          refine lv_topi (fun f_8 ef_8 => ?_)
          replace hF := q_letX hF ef_8
          refine lv_iload_n hx hb dX3_endOfRun_28 rfl (lv_at hl 1 rfl) ?_
          have gc_9_f_8 := q_rng f_8
          have gc_9_v1 := q_rng v1
          refine q_icmp_lt (A := f_8.toInt) (B := v1.toInt) E rfl rfl (tgt := 48) dX3_endOfRun_29 (by decide) (fun c_9 => ?_) (fun c_9 => ?_)
          · skip
            replace hF := q_ifp hF c_9
            skip
            refine lv_iload_n hx hb dX3_endOfRun_48 rfl (lv_at hl 3 rfl) ?_
            exact q_reti E hr hlk hI ⟨rfl, (by omega), (hF.trans hout)⟩ dX3_endOfRun_49
          · skip
            replace hF := q_ifn hF (Int.not_lt.mpr c_9)
            refine lv_aload_n hx hb dX3_endOfRun_32 rfl (lv_at hl 0 rfl) ?_
            refine gsr_X3_9 E hI ha dX3_endOfRun_33 ?_
            refine lv_iload_n hx hb dX3_endOfRun_36 rfl (lv_at hl 3 rfl) ?_
            refine q_bald E hI (q_txk hI ha) ⟨by decide, rfl⟩ (by omega) (by first | (clear if_1 bf_1 hm5 hge5 if_4 gc_5_x_2 gc_5_f_4 c_5 gc_7_x_2 gc_7_n_6 gc_9_f_8 gc_9_v1 c_9; omega) | omega) dX3_endOfRun_37 ?_
            refine lv_topi (fun f_10 ef_10 => ?_)
            replace hF := q_letX hF ef_10
            refine lv_iload_n hx hb dX3_endOfRun_38 rfl (lv_at hl 2 rfl) ?_
            have gc_11_f_10 := q_rng f_10
            have gc_11_v2 := q_rng v2
            refine q_icmp_gt (A := f_10.toInt) (B := v2.toInt) E rfl rfl (tgt := 48) dX3_endOfRun_39 (by decide) (fun c_11 => ?_) (fun c_11 => ?_)
            · skip
              replace hF := q_ifp hF c_11
              skip
              refine lv_iload_n hx hb dX3_endOfRun_48 rfl (lv_at hl 3 rfl) ?_
              exact q_reti E hr hlk hI ⟨rfl, (by omega), (hF.trans hout)⟩ dX3_endOfRun_49
            · skip
              replace hF := q_ifn hF (Int.not_lt.mpr c_11)
              obtain ⟨z_12, ez_12⟩ : ∃ y : Int32, y = x_2 + 1 := ⟨_, rfl⟩
              replace hF := q_letX hF ez_12
              refine lv_iinc (v := z_12) (lv' := [(3, .int z_12), (0, .ref a), (1, .int v1), (2, .int v2)]) hx hb dX3_endOfRun_42 hl (k := 3) rfl (by rw [ez_12]; rfl) (by decide) rfl (fun ls hl => ?_)
              have iz_12 : z_12.toInt = x_2.toInt + 1 := q_inc ez_12 (by first | (clear if_1 bf_1 hm5 if_4 gc_5_f_4 c_5 gc_7_x_2 gc_9_f_8 gc_9_v1 c_9 gc_11_f_10 gc_11_v2 c_11; omega) | omega)
              refine lv_goto (tgt := 5) hx hb dX3_endOfRun_45 (by decide) ?_
              exact ih5 z_12 _ _ ls (by first | (clear if_1 bf_1 hn_6 gc_7_x_2 gc_7_n_6 c_7 gc_9_f_8 gc_9_v1 c_9 gc_11_f_10 gc_11_v2 c_11; omega) | omega) (by first | (clear if_1 bf_1 hm5 if_4 gc_5_f_4 c_5 hn_6 gc_7_x_2 gc_7_n_6 c_7 gc_9_f_8 gc_9_v1 c_9 gc_11_f_10 gc_11_v2 c_11; omega) | omega) hF hI (lv_sub hl [1, 2, 3, 0] rfl)
  exact L_5_3 ((2147483647 - f_1.toInt).toNat + 1) f_1 _ _ ls (Nat.lt_succ_self _) (by omega) hF hI (lv_sub hl [1, 2, 3, 0] rfl)

set_option maxRecDepth 100000 in
set_option maxHeartbeats 4000000 in
theorem c_X3_size (l : Launch) (X : XW) (σ : ST) (a : Nat) (ha : q_kd X a = 4 ∨ q_kd X a = 9) : Met l yX3_size (q_ws yX3_size cX3_size 1 (some .int)) (q_rm 0 0) (q_P X σ [.ref a]) (q_Qi X 9 σ (fun (r : Int32) (σ' : ST) => σ' = σ ∧ r = F_X3_size X σ a)) 0 0 (q_reg X) := by
  refine q_met 9 (by first | exact rfl | decide +kernel) rfl (Nat.le_of_ble_eq_true rfl) (fun p e s m below meth c E hml hr hlk hI ls hl => ?_)
  have hx := E.1
  have hb := E.2.1
  have hl : lv_has ls 1 [(0, .ref a)] := hl
  obtain ⟨out, hout⟩ : ∃ o, o = F_X3_size X σ a := ⟨_, rfl⟩
  have hF := hout.symm
  unfold F_X3_size at hF
  refine lv_aload_n hx hb dX3_size_0 rfl (lv_at hl 0 rfl) ?_
  refine gsr_X3_22 E hI ha dX3_size_1 ?_
  refine lv_topi (fun f_1 ef_1 => ?_)
  replace hF := q_letX hF ef_1
  have bf_1 : 0 ≤ f_1.toInt ∧ f_1.toInt ≤ 2147483647 := by rw [ef_1]; exact q_bdR hI ha rfl rfl
  refine lv_aload_n hx hb dX3_size_4 rfl (lv_at hl 0 rfl) ?_
  refine gsr_X3_19 E hI ha dX3_size_5 ?_
  refine lv_topi (fun f_2 ef_2 => ?_)
  replace hF := q_letX hF ef_2
  have bf_2 : 0 ≤ f_2.toInt ∧ f_2.toInt ≤ 2147483647 := by rw [ef_2]; exact q_bdR hI ha rfl rfl
  refine lv_isub hx hb dX3_size_8 ?_
  refine lv_topi (fun z_3 ez_3 => ?_)
  replace hF := q_letX hF ez_3
  exact q_reti E hr hlk hI ⟨rfl, (hF.trans hout)⟩ dX3_size_9

set_option maxRecDepth 100000 in
set_option maxHeartbeats 4000000 in
theorem c_X3_advance (l : Launch) (X : XW) (σ : ST) (a : Nat) (ha : q_kd X a = 4 ∨ q_kd X a = 9) : Met l yX3_advance (q_ws yX3_advance cX3_advance 3 none) (q_rm 1 23) (q_P X σ [.ref a]) (q_Qv X 8 σ (fun (σ' : ST) => σ' = F_X3_advance X σ a ∧ q_ow [(4, 2), (4, 3), (4, 4), (4, 5), (9, 2), (9, 3), (9, 4), (9, 5)] [] X σ σ')) 0 0 (q_reg X) := by
  refine q_met 8 (by first | exact rfl | decide +kernel) rfl (Nat.le_of_ble_eq_true rfl) (fun p e s m below meth c E hml hr hlk hI ls hl => ?_)
  have hx := E.1
  have hb := E.2.1
  have hl : lv_has ls 3 [(0, .ref a)] := hl
  have fr_σ : q_ow [(4, 2), (4, 3), (4, 4), (4, 5), (9, 2), (9, 3), (9, 4), (9, 5)] [] X σ σ := q_ow.rf
  obtain ⟨out, hout⟩ : ∃ o, o = F_X3_advance X σ a := ⟨_, rfl⟩
  have hF := hout.symm
  unfold F_X3_advance at hF
  refine lv_aload_n hx hb dX3_advance_0 rfl (lv_at hl 0 rfl) ?_
  refine lv_aload_n hx hb dX3_advance_1 rfl (lv_at hl 0 rfl) ?_
  refine gsr_X3_22 E hI ha dX3_advance_2 ?_
  refine lv_topi (fun f_1 ef_1 => ?_)
  replace hF := q_letX hF ef_1
  have if_1 : f_1.toInt = (σ.1 a 3).toInt := congrArg Int32.toInt ef_1
  have bf_1 : 0 ≤ f_1.toInt ∧ f_1.toInt ≤ 2147483647 := by rw [ef_1]; exact q_bdR hI ha rfl rfl
  refine psr_X3_19 E hI ha (by decide) (by omega) (by omega) dX3_advance_5 (fun H locs σ_2 hσ_2 hI => ?_)
  replace hF := q_letX hF hσ_2
  have fr_σ_2 := fr_σ.siR hσ_2 ha rfl rfl
  have mv2_σ_2 : (σ_2.1 a 2).toInt = f_1.toInt := congrArg Int32.toInt (q_rd hσ_2)
  have L_8_4 : ∀ (k_4 : Nat)  (σ_3 : ST) (H : Heap) (locs : List Loc) (ls : Array Slot), (2147483647 - (σ_3.1 a 2).toInt).toNat < k_4 → (q_ow [(4, 2), (4, 3), (4, 4), (4, 5), (9, 2), (9, 3), (9, 4), (9, 5)] [] X σ σ_3) → (F_X3_advance_L8_1 X a k_4 σ_3 = out) → q_I X 8 σ s.heap locs σ_3 H → lv_has ls 3 [(0, .ref a)] → W p l e (q_rm 1 23) s m ([.ref a] : List Value).toArray below meth c H locs 0 0 (MQ below (q_Qv X 8 σ (fun (σ' : ST) => σ' = F_X3_advance X σ a ∧ q_ow [(4, 2), (4, 3), (4, 4), (4, 5), (9, 2), (9, 3), (9, 4), (9, 5)] [] X σ σ')) ([.ref a] : List Value).toArray s 0 0 (q_reg X)) (F0 m 8 ls []) := by
    clear hF
    intro k_4
    induction k_4 with
    | zero =>
      intro σ_3 H locs ls hms
      exact absurd hms (Nat.not_lt_zero _)
    | succ k_4 ih8 =>
      intro σ_3 H locs ls hm8 fr_σ_3 hF hI hl
      replace hF := (F_X3_advance_L8_1_s).symm.trans hF
      unfold F_X3_advance_B8_1 at hF
      refine lv_aload_n hx hb dX3_advance_8 rfl (lv_at hl 0 rfl) ?_
      refine gsr_X3_19 E hI ha dX3_advance_9 ?_
      refine lv_topi (fun f_5 ef_5 => ?_)
      replace hF := q_letX hF ef_5
      have if_5 : f_5.toInt = (σ_3.1 a 2).toInt := congrArg Int32.toInt ef_5
      have bf_5 : 0 ≤ f_5.toInt ∧ f_5.toInt ≤ 2147483647 := by rw [ef_5]; exact q_bdR hI ha rfl rfl
      refine lv_aload_n hx hb dX3_advance_12 rfl (lv_at hl 0 rfl) ?_
      refine gsr_X3_15 E hI ha dX3_advance_13 ?_
      refine lv_topi (fun f_6 ef_6 => ?_)
      replace hF := q_letX hF ef_6
      have if_6 : f_6.toInt = (σ_3.1 a 1).toInt := congrArg Int32.toInt ef_6
      have J_52_6 : ∀  (H : Heap) (locs : List Loc) (ls : Array Slot), (F_X3_advance_J52_2 X σ_3 a = out) → q_I X 8 σ s.heap locs σ_3 H → lv_has ls 3 [(0, .ref a)] → W p l e (q_rm 1 23) s m ([.ref a] : List Value).toArray below meth c H locs 0 0 (MQ below (q_Qv X 8 σ (fun (σ' : ST) => σ' = F_X3_advance X σ a ∧ q_ow [(4, 2), (4, 3), (4, 4), (4, 5), (9, 2), (9, 3), (9, 4), (9, 5)] [] X σ σ')) ([.ref a] : List Value).toArray s 0 0 (q_reg X)) (F0 m 52 ls []) := by
        clear hF
        intro  H locs ls  hF hI hl
        unfold F_X3_advance_J52_2 at hF
        refine lv_aload_n hx hb dX3_advance_52 rfl (lv_at hl 0 rfl) ?_
        refine lv_aload_n hx hb dX3_advance_53 rfl (lv_at hl 0 rfl) ?_
        refine gsr_X3_19 E hI ha dX3_advance_54 ?_
        refine lv_topi (fun f_7 ef_7 => ?_)
        replace hF := q_letX hF ef_7
        have if_7 : f_7.toInt = (σ_3.1 a 2).toInt := congrArg Int32.toInt ef_7
        have bf_7 : 0 ≤ f_7.toInt ∧ f_7.toInt ≤ 2147483647 := by rw [ef_7]; exact q_bdR hI ha rfl rfl
        refine psr_X3_22 E hI ha (by decide) (by first | (clear if_1 bf_1 mv2_σ_2 hm8 if_6 bf_7; omega) | omega) (by first | (clear if_1 bf_1 mv2_σ_2 hm8 if_6 bf_7; omega) | omega) dX3_advance_57 (fun H locs σ_8 hσ_8 hI => ?_)
        replace hF := q_letX hF hσ_8
        have fr_σ_8 := fr_σ_3.siR hσ_8 ha rfl rfl
        have mv2_σ_8 : (σ_8.1 a 2).toInt = (σ_3.1 a 2).toInt := congrArg Int32.toInt (q_rdn hσ_8 (Or.inr (by decide)))
        refine lv_aload_n hx hb dX3_advance_60 rfl (lv_at hl 0 rfl) ?_
        refine lv_iconst (v := 0) hx hb dX3_advance_61 zki_0 ?_
        have kc_9 : (0 : Int32).toInt = 0 := zt_0
        refine q_ci (q_runR (As := [.int 0]) (rest := []) E (hml.trans hl.1.symm) hI (c_X3_signAt l X σ_8 a (0 : Int32) ha) kr_X3_49 ha rfl ⟨Nat.le_of_ble_eq_true rfl, Nat.le_of_ble_eq_true rfl⟩ ⟨Nat.le_refl _, Nat.le_refl _⟩ rfl (Nat.le_of_ble_eq_true rfl) dX3_advance_62) hI (Nat.le_of_ble_eq_true rfl) (fun r_10 σ_11 H locs hpσ_11 hkσ_11 hI => ?_)
        have ahpσ_11 := hpσ_11.1
        have bhpσ_11 := hpσ_11.2
        clear hpσ_11
        replace hI := q_Irw ahpσ_11 hI
        replace hF := q_letX hF bhpσ_11
        refine lv_istore_n (lv' := [(1, .int r_10), (0, .ref a)]) hx hb dX3_advance_65 rfl hl (by decide) rfl (fun ls hl => ?_)
        refine lv_aload_n hx hb dX3_advance_66 rfl (lv_at hl 1 rfl) ?_
        refine gsr_X3_19 E hI ha dX3_advance_67 ?_
        refine lv_topi (fun f_12 ef_12 => ?_)
        replace hF := q_letX hF ef_12
        have if_12 : f_12.toInt = (σ_8.1 a 2).toInt := congrArg Int32.toInt ef_12
        have bf_12 : 0 ≤ f_12.toInt ∧ f_12.toInt ≤ 2147483647 := by rw [ef_12]; exact q_bdR hI ha rfl rfl
        refine lv_aload_n hx hb dX3_advance_70 rfl (lv_at hl 1 rfl) ?_
        refine gsr_X3_15 E hI ha dX3_advance_71 ?_
        refine lv_topi (fun f_13 ef_13 => ?_)
        replace hF := q_letX hF ef_13
        have if_13 : f_13.toInt = (σ_8.1 a 1).toInt := congrArg Int32.toInt ef_13
        have gc_14_f_12 := q_rng f_12
        have gc_14_f_13 := q_rng f_13
        refine q_icmp_lt (A := f_12.toInt) (B := f_13.toInt) E rfl rfl (tgt := 85) dX3_advance_74 (by decide) (fun c_14 => ?_) (fun c_14 => ?_)
        · skip
          replace hF := q_ifp hF c_14
          refine lv_iload_n hx hb dX3_advance_85 rfl (lv_at hl 0 rfl) ?_
          refine lv_bipush (v := 97) hx hb dX3_advance_86 zkb_97 ?_
          have J_117_14 : ∀  (H : Heap) (locs : List Loc) (ls : Array Slot), (F_X3_advance_J117_3 X r_10 σ_8 a = out) → q_I X 8 σ s.heap locs σ_8 H → lv_has ls 3 [(0, .ref a), (1, .int r_10)] → W p l e (q_rm 1 23) s m ([.ref a] : List Value).toArray below meth c H locs 0 0 (MQ below (q_Qv X 8 σ (fun (σ' : ST) => σ' = F_X3_advance X σ a ∧ q_ow [(4, 2), (4, 3), (4, 4), (4, 5), (9, 2), (9, 3), (9, 4), (9, 5)] [] X σ σ')) ([.ref a] : List Value).toArray s 0 0 (q_reg X)) (F0 m 117 ls []) := by
            clear hF
            intro  H locs ls  hF hI hl
            unfold F_X3_advance_J117_3 at hF
            refine lv_iload_n hx hb dX3_advance_117 rfl (lv_at hl 1 rfl) ?_
            refine lv_bipush (v := 48) hx hb dX3_advance_118 zkb_48 ?_
            have gc_15_r_10 := q_rng r_10
            refine q_icmp_lt (A := r_10.toInt) (B := 48) E rfl (by decide) (tgt := 207) dX3_advance_120 (by decide) (fun c_15 => ?_) (fun c_15 => ?_)
            · skip
              replace hF := q_ifp hF c_15
              refine lv_aload_n hx hb dX3_advance_207 rfl (lv_at hl 0 rfl) ?_
              refine lv_iload_n hx hb dX3_advance_208 rfl (lv_at hl 1 rfl) ?_
              refine lv_bipush (v := 59) hx hb dX3_advance_209 zkb_59 ?_
              have gc_16_r_10 := q_rng r_10
              refine q_icmp_eq (A := r_10.toInt) (B := 59) E rfl (by decide) (tgt := 232) dX3_advance_211 (by decide) (fun c_16 => ?_) (fun c_16 => ?_)
              · skip
                replace hF := q_ifp hF c_16
                refine lv_iconst (v := 3) hx hb dX3_advance_232 zki_3 ?_
                refine lv_goto (tgt := 237) hx hb dX3_advance_233 (by decide) ?_
                refine psr_X3_25 E hI ha (by decide) dX3_advance_237 (fun H locs σ_17 hσ_17 hI => ?_)
                replace hF := q_letX hF hσ_17
                have fr_σ_17 := fr_σ_8.siR hσ_17 ha rfl rfl
                have mv2_σ_17 : (σ_17.1 a 2).toInt = (σ_8.1 a 2).toInt := congrArg Int32.toInt (q_rdn hσ_17 (Or.inr (by decide)))
                refine lv_aload_n hx hb dX3_advance_240 rfl (lv_at hl 0 rfl) ?_
                refine lv_aload_n hx hb dX3_advance_241 rfl (lv_at hl 0 rfl) ?_
                refine gsr_X3_19 E hI ha dX3_advance_242 ?_
                refine lv_topi (fun f_18 ef_18 => ?_)
                replace hF := q_letX hF ef_18
                have if_18 : f_18.toInt = (σ_17.1 a 2).toInt := congrArg Int32.toInt ef_18
                have bf_18 : 0 ≤ f_18.toInt ∧ f_18.toInt ≤ 2147483647 := by rw [ef_18]; exact q_bdR hI ha rfl rfl
                refine lv_iconst (v := 1) hx hb dX3_advance_245 zki_1 ?_
                refine lv_iadd hx hb dX3_advance_246 ?_
                refine lv_topi (fun z_19 ez_19 => ?_)
                replace hF := q_letX hF ez_19
                have iz_19 : z_19.toInt = f_18.toInt + 1 := q_inc ez_19 (by first | (clear if_1 bf_1 mv2_σ_2 hm8 if_5 bf_5 if_6 if_7 bf_7 mv2_σ_8 kc_9 ahpσ_11 bhpσ_11 if_12 bf_12 if_13 gc_14_f_12 gc_14_f_13 c_14 gc_16_r_10 mv2_σ_17 if_18 bf_18; omega) | omega)
                refine psr_X3_22 E hI ha (by decide) (by first | (clear if_1 bf_1 mv2_σ_2 hm8 if_5 bf_5 if_6 if_7 bf_7 mv2_σ_8 kc_9 ahpσ_11 bhpσ_11 if_12 bf_12 if_13 gc_14_f_12 gc_14_f_13 c_14 gc_16_r_10 mv2_σ_17 if_18 bf_18 iz_19; omega) | omega) (by first | (clear if_1 bf_1 mv2_σ_2 hm8 if_5 bf_5 if_6 if_7 bf_7 mv2_σ_8 kc_9 ahpσ_11 bhpσ_11 if_12 bf_12 if_13 gc_14_f_12 gc_14_f_13 c_14 gc_16_r_10 mv2_σ_17 if_18 bf_18 iz_19; omega) | omega) dX3_advance_247 (fun H locs σ_20 hσ_20 hI => ?_)
                replace hF := q_letX hF hσ_20
                have fr_σ_20 := fr_σ_17.siR hσ_20 ha rfl rfl
                have mv2_σ_20 : (σ_20.1 a 2).toInt = (σ_17.1 a 2).toInt := congrArg Int32.toInt (q_rdn hσ_20 (Or.inr (by decide)))
                exact q_retv E hr hlk hI ⟨(hF.trans hout), fr_σ_20⟩ dX3_advance_250
              · skip
                replace hF := q_ifn hF c_16
                refine lv_iload_n hx hb dX3_advance_214 rfl (lv_at hl 1 rfl) ?_
                refine lv_bipush (v := 60) hx hb dX3_advance_215 zkb_60 ?_
                have gc_21_r_10 := q_rng r_10
                refine q_icmp_eq (A := r_10.toInt) (B := 60) E rfl (by decide) (tgt := 232) dX3_advance_217 (by decide) (fun c_21 => ?_) (fun c_21 => ?_)
                · skip
                  replace hF := q_ifp hF c_21
                  refine lv_iconst (v := 3) hx hb dX3_advance_232 zki_3 ?_
                  refine lv_goto (tgt := 237) hx hb dX3_advance_233 (by decide) ?_
                  refine psr_X3_25 E hI ha (by decide) dX3_advance_237 (fun H locs σ_22 hσ_22 hI => ?_)
                  replace hF := q_letX hF hσ_22
                  have fr_σ_22 := fr_σ_8.siR hσ_22 ha rfl rfl
                  have mv2_σ_22 : (σ_22.1 a 2).toInt = (σ_8.1 a 2).toInt := congrArg Int32.toInt (q_rdn hσ_22 (Or.inr (by decide)))
                  refine lv_aload_n hx hb dX3_advance_240 rfl (lv_at hl 0 rfl) ?_
                  refine lv_aload_n hx hb dX3_advance_241 rfl (lv_at hl 0 rfl) ?_
                  refine gsr_X3_19 E hI ha dX3_advance_242 ?_
                  refine lv_topi (fun f_23 ef_23 => ?_)
                  replace hF := q_letX hF ef_23
                  have if_23 : f_23.toInt = (σ_22.1 a 2).toInt := congrArg Int32.toInt ef_23
                  have bf_23 : 0 ≤ f_23.toInt ∧ f_23.toInt ≤ 2147483647 := by rw [ef_23]; exact q_bdR hI ha rfl rfl
                  refine lv_iconst (v := 1) hx hb dX3_advance_245 zki_1 ?_
                  refine lv_iadd hx hb dX3_advance_246 ?_
                  refine lv_topi (fun z_24 ez_24 => ?_)
                  replace hF := q_letX hF ez_24
                  have iz_24 : z_24.toInt = f_23.toInt + 1 := q_inc ez_24 (by first | (clear if_1 bf_1 mv2_σ_2 hm8 if_5 bf_5 if_6 if_7 bf_7 mv2_σ_8 kc_9 ahpσ_11 bhpσ_11 if_12 bf_12 if_13 gc_14_f_12 gc_14_f_13 c_14 gc_16_r_10 c_16 gc_21_r_10 mv2_σ_22 if_23 bf_23; omega) | omega)
                  refine psr_X3_22 E hI ha (by decide) (by first | (clear if_1 bf_1 mv2_σ_2 hm8 if_5 bf_5 if_6 if_7 bf_7 mv2_σ_8 kc_9 ahpσ_11 bhpσ_11 if_12 bf_12 if_13 gc_14_f_12 gc_14_f_13 c_14 gc_16_r_10 c_16 gc_21_r_10 mv2_σ_22 if_23 bf_23 iz_24; omega) | omega) (by first | (clear if_1 bf_1 mv2_σ_2 hm8 if_5 bf_5 if_6 if_7 bf_7 mv2_σ_8 kc_9 ahpσ_11 bhpσ_11 if_12 bf_12 if_13 gc_14_f_12 gc_14_f_13 c_14 gc_16_r_10 c_16 gc_21_r_10 mv2_σ_22 if_23 bf_23 iz_24; omega) | omega) dX3_advance_247 (fun H locs σ_25 hσ_25 hI => ?_)
                  replace hF := q_letX hF hσ_25
                  have fr_σ_25 := fr_σ_22.siR hσ_25 ha rfl rfl
                  have mv2_σ_25 : (σ_25.1 a 2).toInt = (σ_22.1 a 2).toInt := congrArg Int32.toInt (q_rdn hσ_25 (Or.inr (by decide)))
                  exact q_retv E hr hlk hI ⟨(hF.trans hout), fr_σ_25⟩ dX3_advance_250
                · skip
                  replace hF := q_ifn hF c_21
                  refine lv_iload_n hx hb dX3_advance_220 rfl (lv_at hl 1 rfl) ?_
                  refine lv_bipush (v := 62) hx hb dX3_advance_221 zkb_62 ?_
                  have gc_26_r_10 := q_rng r_10
                  refine q_icmp_eq (A := r_10.toInt) (B := 62) E rfl (by decide) (tgt := 232) dX3_advance_223 (by decide) (fun c_26 => ?_) (fun c_26 => ?_)
                  · skip
                    replace hF := q_ifp hF c_26
                    refine lv_iconst (v := 3) hx hb dX3_advance_232 zki_3 ?_
                    refine lv_goto (tgt := 237) hx hb dX3_advance_233 (by decide) ?_
                    refine psr_X3_25 E hI ha (by decide) dX3_advance_237 (fun H locs σ_27 hσ_27 hI => ?_)
                    replace hF := q_letX hF hσ_27
                    have fr_σ_27 := fr_σ_8.siR hσ_27 ha rfl rfl
                    have mv2_σ_27 : (σ_27.1 a 2).toInt = (σ_8.1 a 2).toInt := congrArg Int32.toInt (q_rdn hσ_27 (Or.inr (by decide)))
                    refine lv_aload_n hx hb dX3_advance_240 rfl (lv_at hl 0 rfl) ?_
                    refine lv_aload_n hx hb dX3_advance_241 rfl (lv_at hl 0 rfl) ?_
                    refine gsr_X3_19 E hI ha dX3_advance_242 ?_
                    refine lv_topi (fun f_28 ef_28 => ?_)
                    replace hF := q_letX hF ef_28
                    have if_28 : f_28.toInt = (σ_27.1 a 2).toInt := congrArg Int32.toInt ef_28
                    have bf_28 : 0 ≤ f_28.toInt ∧ f_28.toInt ≤ 2147483647 := by rw [ef_28]; exact q_bdR hI ha rfl rfl
                    refine lv_iconst (v := 1) hx hb dX3_advance_245 zki_1 ?_
                    refine lv_iadd hx hb dX3_advance_246 ?_
                    refine lv_topi (fun z_29 ez_29 => ?_)
                    replace hF := q_letX hF ez_29
                    have iz_29 : z_29.toInt = f_28.toInt + 1 := q_inc ez_29 (by first | (clear if_1 bf_1 mv2_σ_2 hm8 if_5 bf_5 if_6 if_7 bf_7 mv2_σ_8 kc_9 ahpσ_11 bhpσ_11 if_12 bf_12 if_13 gc_14_f_12 gc_14_f_13 c_14 gc_16_r_10 c_16 gc_21_r_10 c_21 gc_26_r_10 mv2_σ_27 if_28 bf_28; omega) | omega)
                    refine psr_X3_22 E hI ha (by decide) (by first | (clear if_1 bf_1 mv2_σ_2 hm8 if_5 bf_5 if_6 if_7 bf_7 mv2_σ_8 kc_9 ahpσ_11 bhpσ_11 if_12 bf_12 if_13 gc_14_f_12 gc_14_f_13 c_14 gc_16_r_10 c_16 gc_21_r_10 c_21 gc_26_r_10 mv2_σ_27 if_28 bf_28 iz_29; omega) | omega) (by first | (clear if_1 bf_1 mv2_σ_2 hm8 if_5 bf_5 if_6 if_7 bf_7 mv2_σ_8 kc_9 ahpσ_11 bhpσ_11 if_12 bf_12 if_13 gc_14_f_12 gc_14_f_13 c_14 gc_16_r_10 c_16 gc_21_r_10 c_21 gc_26_r_10 mv2_σ_27 if_28 bf_28 iz_29; omega) | omega) dX3_advance_247 (fun H locs σ_30 hσ_30 hI => ?_)
                    replace hF := q_letX hF hσ_30
                    have fr_σ_30 := fr_σ_27.siR hσ_30 ha rfl rfl
                    have mv2_σ_30 : (σ_30.1 a 2).toInt = (σ_27.1 a 2).toInt := congrArg Int32.toInt (q_rdn hσ_30 (Or.inr (by decide)))
                    exact q_retv E hr hlk hI ⟨(hF.trans hout), fr_σ_30⟩ dX3_advance_250
                  · skip
                    replace hF := q_ifn hF c_26
                    refine lv_iload_n hx hb dX3_advance_226 rfl (lv_at hl 1 rfl) ?_
                    refine lv_bipush (v := 61) hx hb dX3_advance_227 zkb_61 ?_
                    have gc_31_r_10 := q_rng r_10
                    refine q_icmp_ne (A := r_10.toInt) (B := 61) E rfl (by decide) (tgt := 236) dX3_advance_229 (by decide) (fun c_31 => ?_) (fun c_31 => ?_)
                    · skip
                      replace hF := q_ifn hF c_31
                      refine lv_iconst (v := 4) hx hb dX3_advance_236 zki_4 ?_
                      refine psr_X3_25 E hI ha (by decide) dX3_advance_237 (fun H locs σ_32 hσ_32 hI => ?_)
                      replace hF := q_letX hF hσ_32
                      have fr_σ_32 := fr_σ_8.siR hσ_32 ha rfl rfl
                      have mv2_σ_32 : (σ_32.1 a 2).toInt = (σ_8.1 a 2).toInt := congrArg Int32.toInt (q_rdn hσ_32 (Or.inr (by decide)))
                      refine lv_aload_n hx hb dX3_advance_240 rfl (lv_at hl 0 rfl) ?_
                      refine lv_aload_n hx hb dX3_advance_241 rfl (lv_at hl 0 rfl) ?_
                      refine gsr_X3_19 E hI ha dX3_advance_242 ?_
                      refine lv_topi (fun f_33 ef_33 => ?_)
                      replace hF := q_letX hF ef_33
                      have if_33 : f_33.toInt = (σ_32.1 a 2).toInt := congrArg Int32.toInt ef_33
                      have bf_33 : 0 ≤ f_33.toInt ∧ f_33.toInt ≤ 2147483647 := by rw [ef_33]; exact q_bdR hI ha rfl rfl
                      refine lv_iconst (v := 1) hx hb dX3_advance_245 zki_1 ?_
                      refine lv_iadd hx hb dX3_advance_246 ?_
                      refine lv_topi (fun z_34 ez_34 => ?_)
                      replace hF := q_letX hF ez_34
                      have iz_34 : z_34.toInt = f_33.toInt + 1 := q_inc ez_34 (by first | (clear if_1 bf_1 mv2_σ_2 hm8 if_6 bf_7 kc_9 ahpσ_11 bhpσ_11 bf_12 gc_14_f_12 gc_15_r_10 c_15 gc_16_r_10 c_16 gc_21_r_10 c_21 gc_26_r_10 c_26 gc_31_r_10 c_31 bf_33; omega) | omega)
                      refine psr_X3_22 E hI ha (by decide) (by first | (clear if_1 bf_1 mv2_σ_2 hm8 if_6 bf_7 kc_9 ahpσ_11 bhpσ_11 bf_12 if_13 gc_14_f_12 gc_14_f_13 c_14 gc_15_r_10 c_15 gc_16_r_10 c_16 gc_21_r_10 c_21 gc_26_r_10 c_26 gc_31_r_10 c_31 bf_33; omega) | omega) (by first | (clear if_1 bf_1 mv2_σ_2 hm8 if_6 bf_7 kc_9 ahpσ_11 bhpσ_11 bf_12 gc_14_f_12 gc_15_r_10 c_15 gc_16_r_10 c_16 gc_21_r_10 c_21 gc_26_r_10 c_26 gc_31_r_10 c_31 bf_33; omega) | omega) dX3_advance_247 (fun H locs σ_35 hσ_35 hI => ?_)
                      replace hF := q_letX hF hσ_35
                      have fr_σ_35 := fr_σ_32.siR hσ_35 ha rfl rfl
                      have mv2_σ_35 : (σ_35.1 a 2).toInt = (σ_32.1 a 2).toInt := congrArg Int32.toInt (q_rdn hσ_35 (Or.inr (by decide)))
                      exact q_retv E hr hlk hI ⟨(hF.trans hout), fr_σ_35⟩ dX3_advance_250
                    · skip
                      replace hF := q_ifp hF c_31
                      refine lv_iconst (v := 3) hx hb dX3_advance_232 zki_3 ?_
                      refine lv_goto (tgt := 237) hx hb dX3_advance_233 (by decide) ?_
                      refine psr_X3_25 E hI ha (by decide) dX3_advance_237 (fun H locs σ_36 hσ_36 hI => ?_)
                      replace hF := q_letX hF hσ_36
                      have fr_σ_36 := fr_σ_8.siR hσ_36 ha rfl rfl
                      have mv2_σ_36 : (σ_36.1 a 2).toInt = (σ_8.1 a 2).toInt := congrArg Int32.toInt (q_rdn hσ_36 (Or.inr (by decide)))
                      refine lv_aload_n hx hb dX3_advance_240 rfl (lv_at hl 0 rfl) ?_
                      refine lv_aload_n hx hb dX3_advance_241 rfl (lv_at hl 0 rfl) ?_
                      refine gsr_X3_19 E hI ha dX3_advance_242 ?_
                      refine lv_topi (fun f_37 ef_37 => ?_)
                      replace hF := q_letX hF ef_37
                      have if_37 : f_37.toInt = (σ_36.1 a 2).toInt := congrArg Int32.toInt ef_37
                      have bf_37 : 0 ≤ f_37.toInt ∧ f_37.toInt ≤ 2147483647 := by rw [ef_37]; exact q_bdR hI ha rfl rfl
                      refine lv_iconst (v := 1) hx hb dX3_advance_245 zki_1 ?_
                      refine lv_iadd hx hb dX3_advance_246 ?_
                      refine lv_topi (fun z_38 ez_38 => ?_)
                      replace hF := q_letX hF ez_38
                      have iz_38 : z_38.toInt = f_37.toInt + 1 := q_inc ez_38 (by first | (clear if_1 bf_1 mv2_σ_2 hm8 if_5 bf_5 if_6 if_7 bf_7 mv2_σ_8 kc_9 ahpσ_11 bhpσ_11 if_12 bf_12 if_13 gc_14_f_12 gc_14_f_13 c_14 gc_16_r_10 c_16 gc_21_r_10 c_21 gc_26_r_10 c_26 gc_31_r_10 mv2_σ_36 if_37 bf_37; omega) | omega)
                      refine psr_X3_22 E hI ha (by decide) (by first | (clear if_1 bf_1 mv2_σ_2 hm8 if_5 bf_5 if_6 if_7 bf_7 mv2_σ_8 kc_9 ahpσ_11 bhpσ_11 if_12 bf_12 if_13 gc_14_f_12 gc_14_f_13 c_14 gc_16_r_10 c_16 gc_21_r_10 c_21 gc_26_r_10 c_26 gc_31_r_10 mv2_σ_36 if_37 bf_37 iz_38; omega) | omega) (by first | (clear if_1 bf_1 mv2_σ_2 hm8 if_5 bf_5 if_6 if_7 bf_7 mv2_σ_8 kc_9 ahpσ_11 bhpσ_11 if_12 bf_12 if_13 gc_14_f_12 gc_14_f_13 c_14 gc_16_r_10 c_16 gc_21_r_10 c_21 gc_26_r_10 c_26 gc_31_r_10 mv2_σ_36 if_37 bf_37 iz_38; omega) | omega) dX3_advance_247 (fun H locs σ_39 hσ_39 hI => ?_)
                      replace hF := q_letX hF hσ_39
                      have fr_σ_39 := fr_σ_36.siR hσ_39 ha rfl rfl
                      have mv2_σ_39 : (σ_39.1 a 2).toInt = (σ_36.1 a 2).toInt := congrArg Int32.toInt (q_rdn hσ_39 (Or.inr (by decide)))
                      exact q_retv E hr hlk hI ⟨(hF.trans hout), fr_σ_39⟩ dX3_advance_250
            · skip
              replace hF := q_ifn hF (Int.not_lt.mpr c_15)
              refine lv_iload_n hx hb dX3_advance_123 rfl (lv_at hl 1 rfl) ?_
              refine lv_bipush (v := 57) hx hb dX3_advance_124 zkb_57 ?_
              have gc_40_r_10 := q_rng r_10
              refine q_icmp_gt (A := r_10.toInt) (B := 57) E rfl (by decide) (tgt := 207) dX3_advance_126 (by decide) (fun c_40 => ?_) (fun c_40 => ?_)
              · skip
                replace hF := q_ifp hF c_40
                refine lv_aload_n hx hb dX3_advance_207 rfl (lv_at hl 0 rfl) ?_
                refine lv_iload_n hx hb dX3_advance_208 rfl (lv_at hl 1 rfl) ?_
                refine lv_bipush (v := 59) hx hb dX3_advance_209 zkb_59 ?_
                have gc_41_r_10 := q_rng r_10
                refine q_icmp_eq (A := r_10.toInt) (B := 59) E rfl (by decide) (tgt := 232) dX3_advance_211 (by decide) (fun c_41 => ?_) (fun c_41 => ?_)
                · skip
                  replace hF := q_ifp hF c_41
                  refine lv_iconst (v := 3) hx hb dX3_advance_232 zki_3 ?_
                  refine lv_goto (tgt := 237) hx hb dX3_advance_233 (by decide) ?_
                  refine psr_X3_25 E hI ha (by decide) dX3_advance_237 (fun H locs σ_42 hσ_42 hI => ?_)
                  replace hF := q_letX hF hσ_42
                  have fr_σ_42 := fr_σ_8.siR hσ_42 ha rfl rfl
                  have mv2_σ_42 : (σ_42.1 a 2).toInt = (σ_8.1 a 2).toInt := congrArg Int32.toInt (q_rdn hσ_42 (Or.inr (by decide)))
                  refine lv_aload_n hx hb dX3_advance_240 rfl (lv_at hl 0 rfl) ?_
                  refine lv_aload_n hx hb dX3_advance_241 rfl (lv_at hl 0 rfl) ?_
                  refine gsr_X3_19 E hI ha dX3_advance_242 ?_
                  refine lv_topi (fun f_43 ef_43 => ?_)
                  replace hF := q_letX hF ef_43
                  have if_43 : f_43.toInt = (σ_42.1 a 2).toInt := congrArg Int32.toInt ef_43
                  have bf_43 : 0 ≤ f_43.toInt ∧ f_43.toInt ≤ 2147483647 := by rw [ef_43]; exact q_bdR hI ha rfl rfl
                  refine lv_iconst (v := 1) hx hb dX3_advance_245 zki_1 ?_
                  refine lv_iadd hx hb dX3_advance_246 ?_
                  refine lv_topi (fun z_44 ez_44 => ?_)
                  replace hF := q_letX hF ez_44
                  have iz_44 : z_44.toInt = f_43.toInt + 1 := q_inc ez_44 (by first | (clear if_1 bf_1 mv2_σ_2 hm8 if_6 bf_7 kc_9 ahpσ_11 bhpσ_11 bf_12 gc_14_f_12 gc_15_r_10 c_15 gc_40_r_10 c_40 gc_41_r_10 c_41 bf_43; omega) | omega)
                  refine psr_X3_22 E hI ha (by decide) (by first | (clear if_1 bf_1 mv2_σ_2 hm8 if_6 bf_7 kc_9 ahpσ_11 bhpσ_11 bf_12 if_13 gc_14_f_12 gc_14_f_13 c_14 gc_15_r_10 c_15 gc_40_r_10 c_40 gc_41_r_10 c_41 bf_43; omega) | omega) (by first | (clear if_1 bf_1 mv2_σ_2 hm8 if_6 bf_7 kc_9 ahpσ_11 bhpσ_11 bf_12 gc_14_f_12 gc_15_r_10 c_15 gc_40_r_10 c_40 gc_41_r_10 c_41 bf_43; omega) | omega) dX3_advance_247 (fun H locs σ_45 hσ_45 hI => ?_)
                  replace hF := q_letX hF hσ_45
                  have fr_σ_45 := fr_σ_42.siR hσ_45 ha rfl rfl
                  have mv2_σ_45 : (σ_45.1 a 2).toInt = (σ_42.1 a 2).toInt := congrArg Int32.toInt (q_rdn hσ_45 (Or.inr (by decide)))
                  exact q_retv E hr hlk hI ⟨(hF.trans hout), fr_σ_45⟩ dX3_advance_250
                · skip
                  replace hF := q_ifn hF c_41
                  refine lv_iload_n hx hb dX3_advance_214 rfl (lv_at hl 1 rfl) ?_
                  refine lv_bipush (v := 60) hx hb dX3_advance_215 zkb_60 ?_
                  have gc_46_r_10 := q_rng r_10
                  refine q_icmp_eq (A := r_10.toInt) (B := 60) E rfl (by decide) (tgt := 232) dX3_advance_217 (by decide) (fun c_46 => ?_) (fun c_46 => ?_)
                  · skip
                    replace hF := q_ifp hF c_46
                    refine lv_iconst (v := 3) hx hb dX3_advance_232 zki_3 ?_
                    refine lv_goto (tgt := 237) hx hb dX3_advance_233 (by decide) ?_
                    refine psr_X3_25 E hI ha (by decide) dX3_advance_237 (fun H locs σ_47 hσ_47 hI => ?_)
                    replace hF := q_letX hF hσ_47
                    have fr_σ_47 := fr_σ_8.siR hσ_47 ha rfl rfl
                    have mv2_σ_47 : (σ_47.1 a 2).toInt = (σ_8.1 a 2).toInt := congrArg Int32.toInt (q_rdn hσ_47 (Or.inr (by decide)))
                    refine lv_aload_n hx hb dX3_advance_240 rfl (lv_at hl 0 rfl) ?_
                    refine lv_aload_n hx hb dX3_advance_241 rfl (lv_at hl 0 rfl) ?_
                    refine gsr_X3_19 E hI ha dX3_advance_242 ?_
                    refine lv_topi (fun f_48 ef_48 => ?_)
                    replace hF := q_letX hF ef_48
                    have if_48 : f_48.toInt = (σ_47.1 a 2).toInt := congrArg Int32.toInt ef_48
                    have bf_48 : 0 ≤ f_48.toInt ∧ f_48.toInt ≤ 2147483647 := by rw [ef_48]; exact q_bdR hI ha rfl rfl
                    refine lv_iconst (v := 1) hx hb dX3_advance_245 zki_1 ?_
                    refine lv_iadd hx hb dX3_advance_246 ?_
                    refine lv_topi (fun z_49 ez_49 => ?_)
                    replace hF := q_letX hF ez_49
                    have iz_49 : z_49.toInt = f_48.toInt + 1 := q_inc ez_49 (by first | (clear if_1 bf_1 mv2_σ_2 hm8 if_6 bf_7 kc_9 ahpσ_11 bhpσ_11 bf_12 gc_14_f_12 gc_15_r_10 c_15 gc_40_r_10 c_40 gc_41_r_10 c_41 gc_46_r_10 c_46 bf_48; omega) | omega)
                    refine psr_X3_22 E hI ha (by decide) (by first | (clear if_1 bf_1 mv2_σ_2 hm8 if_6 bf_7 kc_9 ahpσ_11 bhpσ_11 bf_12 if_13 gc_14_f_12 gc_14_f_13 c_14 gc_15_r_10 c_15 gc_40_r_10 c_40 gc_41_r_10 c_41 gc_46_r_10 c_46 bf_48; omega) | omega) (by first | (clear if_1 bf_1 mv2_σ_2 hm8 if_6 bf_7 kc_9 ahpσ_11 bhpσ_11 bf_12 gc_14_f_12 gc_15_r_10 c_15 gc_40_r_10 c_40 gc_41_r_10 c_41 gc_46_r_10 c_46 bf_48; omega) | omega) dX3_advance_247 (fun H locs σ_50 hσ_50 hI => ?_)
                    replace hF := q_letX hF hσ_50
                    have fr_σ_50 := fr_σ_47.siR hσ_50 ha rfl rfl
                    have mv2_σ_50 : (σ_50.1 a 2).toInt = (σ_47.1 a 2).toInt := congrArg Int32.toInt (q_rdn hσ_50 (Or.inr (by decide)))
                    exact q_retv E hr hlk hI ⟨(hF.trans hout), fr_σ_50⟩ dX3_advance_250
                  · skip
                    replace hF := q_ifn hF c_46
                    refine lv_iload_n hx hb dX3_advance_220 rfl (lv_at hl 1 rfl) ?_
                    refine lv_bipush (v := 62) hx hb dX3_advance_221 zkb_62 ?_
                    have gc_51_r_10 := q_rng r_10
                    refine q_icmp_eq (A := r_10.toInt) (B := 62) E rfl (by decide) (tgt := 232) dX3_advance_223 (by decide) (fun c_51 => ?_) (fun c_51 => ?_)
                    · skip
                      replace hF := q_ifp hF c_51
                      refine lv_iconst (v := 3) hx hb dX3_advance_232 zki_3 ?_
                      refine lv_goto (tgt := 237) hx hb dX3_advance_233 (by decide) ?_
                      refine psr_X3_25 E hI ha (by decide) dX3_advance_237 (fun H locs σ_52 hσ_52 hI => ?_)
                      replace hF := q_letX hF hσ_52
                      have fr_σ_52 := fr_σ_8.siR hσ_52 ha rfl rfl
                      have mv2_σ_52 : (σ_52.1 a 2).toInt = (σ_8.1 a 2).toInt := congrArg Int32.toInt (q_rdn hσ_52 (Or.inr (by decide)))
                      refine lv_aload_n hx hb dX3_advance_240 rfl (lv_at hl 0 rfl) ?_
                      refine lv_aload_n hx hb dX3_advance_241 rfl (lv_at hl 0 rfl) ?_
                      refine gsr_X3_19 E hI ha dX3_advance_242 ?_
                      refine lv_topi (fun f_53 ef_53 => ?_)
                      replace hF := q_letX hF ef_53
                      have if_53 : f_53.toInt = (σ_52.1 a 2).toInt := congrArg Int32.toInt ef_53
                      have bf_53 : 0 ≤ f_53.toInt ∧ f_53.toInt ≤ 2147483647 := by rw [ef_53]; exact q_bdR hI ha rfl rfl
                      refine lv_iconst (v := 1) hx hb dX3_advance_245 zki_1 ?_
                      refine lv_iadd hx hb dX3_advance_246 ?_
                      refine lv_topi (fun z_54 ez_54 => ?_)
                      replace hF := q_letX hF ez_54
                      have iz_54 : z_54.toInt = f_53.toInt + 1 := q_inc ez_54 (by first | (clear if_1 bf_1 mv2_σ_2 hm8 if_6 bf_7 kc_9 ahpσ_11 bhpσ_11 bf_12 gc_14_f_12 gc_15_r_10 c_15 gc_40_r_10 c_40 gc_41_r_10 c_41 gc_46_r_10 c_46 gc_51_r_10 c_51 bf_53; omega) | omega)
                      refine psr_X3_22 E hI ha (by decide) (by first | (clear if_1 bf_1 mv2_σ_2 hm8 if_6 bf_7 kc_9 ahpσ_11 bhpσ_11 bf_12 if_13 gc_14_f_12 gc_14_f_13 c_14 gc_15_r_10 c_15 gc_40_r_10 c_40 gc_41_r_10 c_41 gc_46_r_10 c_46 gc_51_r_10 c_51 bf_53; omega) | omega) (by first | (clear if_1 bf_1 mv2_σ_2 hm8 if_6 bf_7 kc_9 ahpσ_11 bhpσ_11 bf_12 gc_14_f_12 gc_15_r_10 c_15 gc_40_r_10 c_40 gc_41_r_10 c_41 gc_46_r_10 c_46 gc_51_r_10 c_51 bf_53; omega) | omega) dX3_advance_247 (fun H locs σ_55 hσ_55 hI => ?_)
                      replace hF := q_letX hF hσ_55
                      have fr_σ_55 := fr_σ_52.siR hσ_55 ha rfl rfl
                      have mv2_σ_55 : (σ_55.1 a 2).toInt = (σ_52.1 a 2).toInt := congrArg Int32.toInt (q_rdn hσ_55 (Or.inr (by decide)))
                      exact q_retv E hr hlk hI ⟨(hF.trans hout), fr_σ_55⟩ dX3_advance_250
                    · skip
                      replace hF := q_ifn hF c_51
                      refine lv_iload_n hx hb dX3_advance_226 rfl (lv_at hl 1 rfl) ?_
                      refine lv_bipush (v := 61) hx hb dX3_advance_227 zkb_61 ?_
                      have gc_56_r_10 := q_rng r_10
                      refine q_icmp_ne (A := r_10.toInt) (B := 61) E rfl (by decide) (tgt := 236) dX3_advance_229 (by decide) (fun c_56 => ?_) (fun c_56 => ?_)
                      · skip
                        replace hF := q_ifn hF c_56
                        refine lv_iconst (v := 4) hx hb dX3_advance_236 zki_4 ?_
                        refine psr_X3_25 E hI ha (by decide) dX3_advance_237 (fun H locs σ_57 hσ_57 hI => ?_)
                        replace hF := q_letX hF hσ_57
                        have fr_σ_57 := fr_σ_8.siR hσ_57 ha rfl rfl
                        have mv2_σ_57 : (σ_57.1 a 2).toInt = (σ_8.1 a 2).toInt := congrArg Int32.toInt (q_rdn hσ_57 (Or.inr (by decide)))
                        refine lv_aload_n hx hb dX3_advance_240 rfl (lv_at hl 0 rfl) ?_
                        refine lv_aload_n hx hb dX3_advance_241 rfl (lv_at hl 0 rfl) ?_
                        refine gsr_X3_19 E hI ha dX3_advance_242 ?_
                        refine lv_topi (fun f_58 ef_58 => ?_)
                        replace hF := q_letX hF ef_58
                        have if_58 : f_58.toInt = (σ_57.1 a 2).toInt := congrArg Int32.toInt ef_58
                        have bf_58 : 0 ≤ f_58.toInt ∧ f_58.toInt ≤ 2147483647 := by rw [ef_58]; exact q_bdR hI ha rfl rfl
                        refine lv_iconst (v := 1) hx hb dX3_advance_245 zki_1 ?_
                        refine lv_iadd hx hb dX3_advance_246 ?_
                        refine lv_topi (fun z_59 ez_59 => ?_)
                        replace hF := q_letX hF ez_59
                        have iz_59 : z_59.toInt = f_58.toInt + 1 := q_inc ez_59 (by first | (clear if_1 bf_1 mv2_σ_2 hm8 if_6 bf_7 kc_9 ahpσ_11 bhpσ_11 bf_12 gc_14_f_12 gc_15_r_10 c_15 gc_40_r_10 c_40 gc_41_r_10 c_41 gc_46_r_10 c_46 gc_51_r_10 c_51 gc_56_r_10 c_56 bf_58; omega) | omega)
                        refine psr_X3_22 E hI ha (by decide) (by first | (clear if_1 bf_1 mv2_σ_2 hm8 if_6 bf_7 kc_9 ahpσ_11 bhpσ_11 bf_12 if_13 gc_14_f_12 gc_14_f_13 c_14 gc_15_r_10 c_15 gc_40_r_10 c_40 gc_41_r_10 c_41 gc_46_r_10 c_46 gc_51_r_10 c_51 gc_56_r_10 c_56 bf_58; omega) | omega) (by first | (clear if_1 bf_1 mv2_σ_2 hm8 if_6 bf_7 kc_9 ahpσ_11 bhpσ_11 bf_12 gc_14_f_12 gc_15_r_10 c_15 gc_40_r_10 c_40 gc_41_r_10 c_41 gc_46_r_10 c_46 gc_51_r_10 c_51 gc_56_r_10 c_56 bf_58; omega) | omega) dX3_advance_247 (fun H locs σ_60 hσ_60 hI => ?_)
                        replace hF := q_letX hF hσ_60
                        have fr_σ_60 := fr_σ_57.siR hσ_60 ha rfl rfl
                        have mv2_σ_60 : (σ_60.1 a 2).toInt = (σ_57.1 a 2).toInt := congrArg Int32.toInt (q_rdn hσ_60 (Or.inr (by decide)))
                        exact q_retv E hr hlk hI ⟨(hF.trans hout), fr_σ_60⟩ dX3_advance_250
                      · skip
                        replace hF := q_ifp hF c_56
                        refine lv_iconst (v := 3) hx hb dX3_advance_232 zki_3 ?_
                        refine lv_goto (tgt := 237) hx hb dX3_advance_233 (by decide) ?_
                        refine psr_X3_25 E hI ha (by decide) dX3_advance_237 (fun H locs σ_61 hσ_61 hI => ?_)
                        replace hF := q_letX hF hσ_61
                        have fr_σ_61 := fr_σ_8.siR hσ_61 ha rfl rfl
                        have mv2_σ_61 : (σ_61.1 a 2).toInt = (σ_8.1 a 2).toInt := congrArg Int32.toInt (q_rdn hσ_61 (Or.inr (by decide)))
                        refine lv_aload_n hx hb dX3_advance_240 rfl (lv_at hl 0 rfl) ?_
                        refine lv_aload_n hx hb dX3_advance_241 rfl (lv_at hl 0 rfl) ?_
                        refine gsr_X3_19 E hI ha dX3_advance_242 ?_
                        refine lv_topi (fun f_62 ef_62 => ?_)
                        replace hF := q_letX hF ef_62
                        have if_62 : f_62.toInt = (σ_61.1 a 2).toInt := congrArg Int32.toInt ef_62
                        have bf_62 : 0 ≤ f_62.toInt ∧ f_62.toInt ≤ 2147483647 := by rw [ef_62]; exact q_bdR hI ha rfl rfl
                        refine lv_iconst (v := 1) hx hb dX3_advance_245 zki_1 ?_
                        refine lv_iadd hx hb dX3_advance_246 ?_
                        refine lv_topi (fun z_63 ez_63 => ?_)
                        replace hF := q_letX hF ez_63
                        have iz_63 : z_63.toInt = f_62.toInt + 1 := q_inc ez_63 (by first | (clear if_1 bf_1 mv2_σ_2 hm8 if_6 bf_7 kc_9 ahpσ_11 bhpσ_11 bf_12 gc_14_f_12 gc_15_r_10 c_15 gc_40_r_10 c_40 gc_41_r_10 c_41 gc_46_r_10 c_46 gc_51_r_10 c_51 gc_56_r_10 c_56 bf_62; omega) | omega)
                        refine psr_X3_22 E hI ha (by decide) (by first | (clear if_1 bf_1 mv2_σ_2 hm8 if_6 bf_7 kc_9 ahpσ_11 bhpσ_11 bf_12 if_13 gc_14_f_12 gc_14_f_13 c_14 gc_15_r_10 c_15 gc_40_r_10 c_40 gc_41_r_10 c_41 gc_46_r_10 c_46 gc_51_r_10 c_51 gc_56_r_10 c_56 bf_62; omega) | omega) (by first | (clear if_1 bf_1 mv2_σ_2 hm8 if_6 bf_7 kc_9 ahpσ_11 bhpσ_11 bf_12 gc_14_f_12 gc_15_r_10 c_15 gc_40_r_10 c_40 gc_41_r_10 c_41 gc_46_r_10 c_46 gc_51_r_10 c_51 gc_56_r_10 c_56 bf_62; omega) | omega) dX3_advance_247 (fun H locs σ_64 hσ_64 hI => ?_)
                        replace hF := q_letX hF hσ_64
                        have fr_σ_64 := fr_σ_61.siR hσ_64 ha rfl rfl
                        have mv2_σ_64 : (σ_64.1 a 2).toInt = (σ_61.1 a 2).toInt := congrArg Int32.toInt (q_rdn hσ_64 (Or.inr (by decide)))
                        exact q_retv E hr hlk hI ⟨(hF.trans hout), fr_σ_64⟩ dX3_advance_250
              · skip
                replace hF := q_ifn hF (Int.not_lt.mpr c_40)
                refine lv_aload_n hx hb dX3_advance_129 rfl (lv_at hl 0 rfl) ?_
                refine lv_aload_n hx hb dX3_advance_130 rfl (lv_at hl 0 rfl) ?_
                refine lv_bipush (v := 48) hx hb dX3_advance_131 zkb_48 ?_
                refine lv_bipush (v := 57) hx hb dX3_advance_133 zkb_57 ?_
                have kc_65 : (48 : Int32).toInt = 48 := zt_48
                have kc_66 : (57 : Int32).toInt = 57 := zt_57
                refine q_ci (q_runR (As := [.int 48, .int 57]) (rest := [.ref a]) E (hml.trans hl.1.symm) hI (c_X3_endOfRun l X σ_8 a (48 : Int32) (57 : Int32) ha) kr_X3_53 ha rfl ⟨Nat.le_of_ble_eq_true rfl, Nat.le_of_ble_eq_true rfl⟩ ⟨Nat.le_refl _, Nat.le_refl _⟩ rfl (Nat.le_of_ble_eq_true rfl) dX3_advance_135) hI (Nat.le_of_ble_eq_true rfl) (fun r_67 σ_68 H locs hpσ_68 hkσ_68 hI => ?_)
                have ahpσ_68 := hpσ_68.1
                have bhpσ_68 := hpσ_68.2.1
                have chpσ_68 := hpσ_68.2.2
                clear hpσ_68
                replace hI := q_Irw ahpσ_68 hI
                replace hF := q_letX hF chpσ_68
                have gr_67 := q_rng r_67
                refine psr_X3_22 E hI ha (by decide) (by omega) (by first | (clear if_1 bf_1 mv2_σ_2 hm8 if_5 bf_5 if_6 if_7 bf_7 mv2_σ_8 kc_9 ahpσ_11 bhpσ_11 if_12 bf_12 if_13 gc_14_f_12 gc_14_f_13 c_14 gc_15_r_10 c_15 gc_40_r_10 c_40 kc_65 kc_66 ahpσ_68 chpσ_68; omega) | omega) dX3_advance_138 (fun H locs σ_69 hσ_69 hI => ?_)
                replace hF := q_letX hF hσ_69
                have fr_σ_69 := fr_σ_8.siR hσ_69 ha rfl rfl
                have mv2_σ_69 : (σ_69.1 a 2).toInt = (σ_8.1 a 2).toInt := congrArg Int32.toInt (q_rdn hσ_69 (Or.inr (by decide)))
                refine lv_aload_n hx hb dX3_advance_141 rfl (lv_at hl 0 rfl) ?_
                refine lv_aload_n hx hb dX3_advance_142 rfl (lv_at hl 0 rfl) ?_
                refine q_ci (q_runR (As := []) (rest := [.ref a]) E (hml.trans hl.1.symm) hI (c_X3_size l X σ_69 a ha) kr_X3_56 ha rfl ⟨Nat.le_of_ble_eq_true rfl, Nat.le_of_ble_eq_true rfl⟩ ⟨Nat.le_refl _, Nat.le_refl _⟩ rfl (Nat.le_of_ble_eq_true rfl) dX3_advance_143) hI (Nat.le_of_ble_eq_true rfl) (fun r_70 σ_71 H locs hpσ_71 hkσ_71 hI => ?_)
                have ahpσ_71 := hpσ_71.1
                have bhpσ_71 := hpσ_71.2
                clear hpσ_71
                replace hI := q_Irw ahpσ_71 hI
                replace hF := q_letX hF bhpσ_71
                refine lv_iconst (v := 4) hx hb dX3_advance_146 zki_4 ?_
                have gc_72_r_70 := q_rng r_70
                refine q_icmp_le (A := r_70.toInt) (B := 4) E rfl (by decide) (tgt := 154) dX3_advance_147 (by decide) (fun c_72 => ?_) (fun c_72 => ?_)
                · skip
                  replace hF := q_ifn hF (Int.not_lt.mpr c_72)
                  refine lv_iconst (v := 2) hx hb dX3_advance_154 zki_2 ?_
                  refine psr_X3_25 E hI ha (by decide) dX3_advance_155 (fun H locs σ_73 hσ_73 hI => ?_)
                  replace hF := q_letX hF hσ_73
                  have fr_σ_73 := fr_σ_69.siR hσ_73 ha rfl rfl
                  have mv2_σ_73 : (σ_73.1 a 2).toInt = (σ_69.1 a 2).toInt := congrArg Int32.toInt (q_rdn hσ_73 (Or.inr (by decide)))
                  refine lv_aload_n hx hb dX3_advance_158 rfl (lv_at hl 0 rfl) ?_
                  refine lv_iconst (v := 0) hx hb dX3_advance_159 zki_0 ?_
                  refine psr_X3_28 E hI ha (by decide) dX3_advance_160 (fun H locs σ_74 hσ_74 hI => ?_)
                  replace hF := q_letX hF hσ_74
                  have fr_σ_74 := fr_σ_73.siR hσ_74 ha rfl rfl
                  have mv2_σ_74 : (σ_74.1 a 2).toInt = (σ_73.1 a 2).toInt := congrArg Int32.toInt (q_rdn hσ_74 (Or.inr (by decide)))
                  refine lv_iconst (v := 0) hx hb dX3_advance_163 zki_0 ?_
                  refine lv_istore_n (lv' := [(2, .int 0), (0, .ref a), (1, .int r_10)]) hx hb dX3_advance_164 rfl hl (by decide) rfl (fun ls hl => ?_)
                  have L_165_77 : ∀ (k_77 : Nat) (x_75 : Int32) (σ_76 : ST) (H : Heap) (locs : List Loc) (ls : Array Slot), (2147483647 - x_75.toInt).toNat < k_77 → (0 ≤ x_75.toInt) → (q_ow [(4, 2), (4, 3), (4, 4), (4, 5), (9, 2), (9, 3), (9, 4), (9, 5)] [] X σ σ_76) → (F_X3_advance_L165_4 X a k_77 x_75 σ_76 = out) → q_I X 8 σ s.heap locs σ_76 H → lv_has ls 3 [(0, .ref a), (1, .int r_10), (2, .int x_75)] → W p l e (q_rm 1 23) s m ([.ref a] : List Value).toArray below meth c H locs 0 0 (MQ below (q_Qv X 8 σ (fun (σ' : ST) => σ' = F_X3_advance X σ a ∧ q_ow [(4, 2), (4, 3), (4, 4), (4, 5), (9, 2), (9, 3), (9, 4), (9, 5)] [] X σ σ')) ([.ref a] : List Value).toArray s 0 0 (q_reg X)) (F0 m 165 ls []) := by
                    clear hF
                    intro k_77
                    induction k_77 with
                    | zero =>
                      intro x_75 σ_76 H locs ls hms
                      exact absurd hms (Nat.not_lt_zero _)
                    | succ k_77 ih165 =>
                      intro x_75 σ_76 H locs ls hm165 hge165 fr_σ_76 hF hI hl
                      replace hF := (F_X3_advance_L165_4_s).symm.trans hF
                      unfold F_X3_advance_B165_4 at hF
                      refine lv_iload_n hx hb dX3_advance_165 rfl (lv_at hl 2 rfl) ?_
                      refine lv_iconst (v := 4) hx hb dX3_advance_166 zki_4 ?_
                      have gc_78_x_75 := q_rng x_75
                      refine q_icmp_ge (A := x_75.toInt) (B := 4) E rfl (by decide) (tgt := 204) dX3_advance_167 (by decide) (fun c_78 => ?_) (fun c_78 => ?_)
                      · skip
                        replace hF := q_ifn hF (Int.not_lt.mpr c_78)
                        skip
                        refine lv_goto (tgt := 250) hx hb dX3_advance_204 (by decide) ?_
                        exact q_retv E hr hlk hI ⟨(hF.trans hout), fr_σ_76⟩ dX3_advance_250
                      · skip
                        replace hF := q_ifp hF c_78
                        refine lv_iload_n hx hb dX3_advance_170 rfl (lv_at hl 2 rfl) ?_
                        refine lv_aload_n hx hb dX3_advance_171 rfl (lv_at hl 0 rfl) ?_
                        refine q_ci (q_runR (As := []) (rest := [.int x_75]) E (hml.trans hl.1.symm) hI (c_X3_size l X σ_76 a ha) kr_X3_56 ha rfl ⟨Nat.le_of_ble_eq_true rfl, Nat.le_of_ble_eq_true rfl⟩ ⟨Nat.le_refl _, Nat.le_refl _⟩ rfl (Nat.le_of_ble_eq_true rfl) dX3_advance_172) hI (Nat.le_of_ble_eq_true rfl) (fun r_79 σ_80 H locs hpσ_80 hkσ_80 hI => ?_)
                        have ahpσ_80 := hpσ_80.1
                        have bhpσ_80 := hpσ_80.2
                        clear hpσ_80
                        replace hI := q_Irw ahpσ_80 hI
                        replace hF := q_letX hF bhpσ_80
                        have gc_81_x_75 := q_rng x_75
                        have gc_81_r_79 := q_rng r_79
                        refine q_icmp_ge (A := x_75.toInt) (B := r_79.toInt) E rfl rfl (tgt := 204) dX3_advance_175 (by decide) (fun c_81 => ?_) (fun c_81 => ?_)
                        · skip
                          replace hF := q_ifn hF (Int.not_lt.mpr c_81)
                          skip
                          refine lv_goto (tgt := 250) hx hb dX3_advance_204 (by decide) ?_
                          exact q_retv E hr hlk hI ⟨(hF.trans hout), fr_σ_76⟩ dX3_advance_250
                        · skip
                          replace hF := q_ifp hF c_81
                          refine lv_aload_n hx hb dX3_advance_178 rfl (lv_at hl 0 rfl) ?_
                          refine lv_aload_n hx hb dX3_advance_179 rfl (lv_at hl 0 rfl) ?_
                          refine gsr_X3_28 E hI ha dX3_advance_180 ?_
                          refine lv_topi (fun f_82 ef_82 => ?_)
                          replace hF := q_letX hF ef_82
                          have if_82 : f_82.toInt = (σ_76.1 a 5).toInt := congrArg Int32.toInt ef_82
                          refine lv_bipush (v := 10) hx hb dX3_advance_183 zkb_10 ?_
                          refine lv_imul hx hb dX3_advance_185 ?_
                          refine lv_topi (fun z_83 ez_83 => ?_)
                          replace hF := q_letX hF ez_83
                          refine lv_aload_n hx hb dX3_advance_186 rfl (lv_at hl 0 rfl) ?_
                          refine lv_iload_n hx hb dX3_advance_187 rfl (lv_at hl 2 rfl) ?_
                          refine q_ci (q_runR (As := [.int x_75]) (rest := [.int z_83, .ref a]) E (hml.trans hl.1.symm) hI (c_X3_signAt l X σ_76 a x_75 ha) kr_X3_49 ha rfl ⟨Nat.le_of_ble_eq_true rfl, Nat.le_of_ble_eq_true rfl⟩ ⟨Nat.le_refl _, Nat.le_refl _⟩ rfl (Nat.le_of_ble_eq_true rfl) dX3_advance_188) hI (Nat.le_of_ble_eq_true rfl) (fun r_84 σ_85 H locs hpσ_85 hkσ_85 hI => ?_)
                          have ahpσ_85 := hpσ_85.1
                          have bhpσ_85 := hpσ_85.2
                          clear hpσ_85
                          replace hI := q_Irw ahpσ_85 hI
                          replace hF := q_letX hF bhpσ_85
                          refine lv_iadd hx hb dX3_advance_191 ?_
                          refine lv_topi (fun z_86 ez_86 => ?_)
                          replace hF := q_letX hF ez_86
                          refine lv_bipush (v := 48) hx hb dX3_advance_192 zkb_48 ?_
                          refine lv_isub hx hb dX3_advance_194 ?_
                          refine lv_topi (fun z_87 ez_87 => ?_)
                          replace hF := q_letX hF ez_87
                          refine psr_X3_28 E hI ha (by decide) dX3_advance_195 (fun H locs σ_88 hσ_88 hI => ?_)
                          replace hF := q_letX hF hσ_88
                          have fr_σ_88 := fr_σ_76.siR hσ_88 ha rfl rfl
                          have mv2_σ_88 : (σ_88.1 a 2).toInt = (σ_76.1 a 2).toInt := congrArg Int32.toInt (q_rdn hσ_88 (Or.inr (by decide)))
                          obtain ⟨z_89, ez_89⟩ : ∃ y : Int32, y = x_75 + 1 := ⟨_, rfl⟩
                          replace hF := q_letX hF ez_89
                          refine lv_iinc (v := z_89) (lv' := [(2, .int z_89), (0, .ref a), (1, .int r_10)]) hx hb dX3_advance_198 hl (k := 2) rfl (by rw [ez_89]; rfl) (by decide) rfl (fun ls hl => ?_)
                          have iz_89 : z_89.toInt = x_75.toInt + 1 := q_inc ez_89 (by first | (clear if_1 bf_1 mv2_σ_2 hm8 if_5 bf_5 if_6 if_7 bf_7 mv2_σ_8 kc_9 ahpσ_11 bhpσ_11 if_12 bf_12 if_13 gc_14_f_12 gc_14_f_13 c_14 gc_15_r_10 c_15 gc_40_r_10 c_40 kc_65 kc_66 ahpσ_68 bhpσ_68 chpσ_68 gr_67 mv2_σ_69 ahpσ_71 bhpσ_71 gc_72_r_70 c_72 mv2_σ_73 mv2_σ_74 hm165 ahpσ_80 bhpσ_80 gc_81_x_75 gc_81_r_79 c_81 if_82 ahpσ_85 bhpσ_85 mv2_σ_88; omega) | omega)
                          refine lv_goto (tgt := 165) hx hb dX3_advance_201 (by decide) ?_
                          exact ih165 z_89 σ_88 _ _ ls (by first | (clear if_1 bf_1 mv2_σ_2 hm8 if_5 bf_5 if_6 if_7 bf_7 mv2_σ_8 kc_9 ahpσ_11 bhpσ_11 if_12 bf_12 if_13 gc_14_f_12 gc_14_f_13 c_14 gc_15_r_10 c_15 gc_40_r_10 c_40 kc_65 kc_66 ahpσ_68 bhpσ_68 chpσ_68 gr_67 mv2_σ_69 ahpσ_71 bhpσ_71 gc_72_r_70 c_72 mv2_σ_73 mv2_σ_74 ahpσ_80 bhpσ_80 gc_81_x_75 gc_81_r_79 c_81 if_82 ahpσ_85 bhpσ_85 mv2_σ_88; omega) | omega) (by first | (clear if_1 bf_1 mv2_σ_2 hm8 if_5 bf_5 if_6 if_7 bf_7 mv2_σ_8 kc_9 ahpσ_11 bhpσ_11 if_12 bf_12 if_13 gc_14_f_12 gc_14_f_13 c_14 gc_15_r_10 c_15 gc_40_r_10 c_40 kc_65 kc_66 ahpσ_68 bhpσ_68 chpσ_68 gr_67 mv2_σ_69 ahpσ_71 bhpσ_71 gc_72_r_70 c_72 mv2_σ_73 mv2_σ_74 hm165 ahpσ_80 bhpσ_80 gc_81_x_75 gc_81_r_79 c_81 if_82 ahpσ_85 bhpσ_85 mv2_σ_88; omega) | omega) fr_σ_88 hF hI (lv_sub hl [1, 2, 0] rfl)
                  exact L_165_77 ((2147483647 - (0 : Int32).toInt).toNat + 1) 0 σ_74 _ _ ls (Nat.lt_succ_self _) (by decide) fr_σ_74 hF hI (lv_sub hl [1, 2, 0] rfl)
                · skip
                  replace hF := q_ifp hF c_72
                  refine lv_iconst (v := 4) hx hb dX3_advance_150 zki_4 ?_
                  refine lv_goto (tgt := 155) hx hb dX3_advance_151 (by decide) ?_
                  refine psr_X3_25 E hI ha (by decide) dX3_advance_155 (fun H locs σ_90 hσ_90 hI => ?_)
                  replace hF := q_letX hF hσ_90
                  have fr_σ_90 := fr_σ_69.siR hσ_90 ha rfl rfl
                  have mv2_σ_90 : (σ_90.1 a 2).toInt = (σ_69.1 a 2).toInt := congrArg Int32.toInt (q_rdn hσ_90 (Or.inr (by decide)))
                  refine lv_aload_n hx hb dX3_advance_158 rfl (lv_at hl 0 rfl) ?_
                  refine lv_iconst (v := 0) hx hb dX3_advance_159 zki_0 ?_
                  refine psr_X3_28 E hI ha (by decide) dX3_advance_160 (fun H locs σ_91 hσ_91 hI => ?_)
                  replace hF := q_letX hF hσ_91
                  have fr_σ_91 := fr_σ_90.siR hσ_91 ha rfl rfl
                  have mv2_σ_91 : (σ_91.1 a 2).toInt = (σ_90.1 a 2).toInt := congrArg Int32.toInt (q_rdn hσ_91 (Or.inr (by decide)))
                  refine lv_iconst (v := 0) hx hb dX3_advance_163 zki_0 ?_
                  refine lv_istore_n (lv' := [(2, .int 0), (0, .ref a), (1, .int r_10)]) hx hb dX3_advance_164 rfl hl (by decide) rfl (fun ls hl => ?_)
                  have L_165_94 : ∀ (k_94 : Nat) (x_92 : Int32) (σ_93 : ST) (H : Heap) (locs : List Loc) (ls : Array Slot), (2147483647 - x_92.toInt).toNat < k_94 → (0 ≤ x_92.toInt) → (q_ow [(4, 2), (4, 3), (4, 4), (4, 5), (9, 2), (9, 3), (9, 4), (9, 5)] [] X σ σ_93) → (F_X3_advance_L165_7 X a k_94 x_92 σ_93 = out) → q_I X 8 σ s.heap locs σ_93 H → lv_has ls 3 [(0, .ref a), (1, .int r_10), (2, .int x_92)] → W p l e (q_rm 1 23) s m ([.ref a] : List Value).toArray below meth c H locs 0 0 (MQ below (q_Qv X 8 σ (fun (σ' : ST) => σ' = F_X3_advance X σ a ∧ q_ow [(4, 2), (4, 3), (4, 4), (4, 5), (9, 2), (9, 3), (9, 4), (9, 5)] [] X σ σ')) ([.ref a] : List Value).toArray s 0 0 (q_reg X)) (F0 m 165 ls []) := by
                    clear hF
                    intro k_94
                    induction k_94 with
                    | zero =>
                      intro x_92 σ_93 H locs ls hms
                      exact absurd hms (Nat.not_lt_zero _)
                    | succ k_94 ih165 =>
                      intro x_92 σ_93 H locs ls hm165 hge165 fr_σ_93 hF hI hl
                      replace hF := (F_X3_advance_L165_7_s).symm.trans hF
                      unfold F_X3_advance_B165_7 at hF
                      refine lv_iload_n hx hb dX3_advance_165 rfl (lv_at hl 2 rfl) ?_
                      refine lv_iconst (v := 4) hx hb dX3_advance_166 zki_4 ?_
                      have gc_95_x_92 := q_rng x_92
                      refine q_icmp_ge (A := x_92.toInt) (B := 4) E rfl (by decide) (tgt := 204) dX3_advance_167 (by decide) (fun c_95 => ?_) (fun c_95 => ?_)
                      · skip
                        replace hF := q_ifn hF (Int.not_lt.mpr c_95)
                        skip
                        refine lv_goto (tgt := 250) hx hb dX3_advance_204 (by decide) ?_
                        exact q_retv E hr hlk hI ⟨(hF.trans hout), fr_σ_93⟩ dX3_advance_250
                      · skip
                        replace hF := q_ifp hF c_95
                        refine lv_iload_n hx hb dX3_advance_170 rfl (lv_at hl 2 rfl) ?_
                        refine lv_aload_n hx hb dX3_advance_171 rfl (lv_at hl 0 rfl) ?_
                        refine q_ci (q_runR (As := []) (rest := [.int x_92]) E (hml.trans hl.1.symm) hI (c_X3_size l X σ_93 a ha) kr_X3_56 ha rfl ⟨Nat.le_of_ble_eq_true rfl, Nat.le_of_ble_eq_true rfl⟩ ⟨Nat.le_refl _, Nat.le_refl _⟩ rfl (Nat.le_of_ble_eq_true rfl) dX3_advance_172) hI (Nat.le_of_ble_eq_true rfl) (fun r_96 σ_97 H locs hpσ_97 hkσ_97 hI => ?_)
                        have ahpσ_97 := hpσ_97.1
                        have bhpσ_97 := hpσ_97.2
                        clear hpσ_97
                        replace hI := q_Irw ahpσ_97 hI
                        replace hF := q_letX hF bhpσ_97
                        have gc_98_x_92 := q_rng x_92
                        have gc_98_r_96 := q_rng r_96
                        refine q_icmp_ge (A := x_92.toInt) (B := r_96.toInt) E rfl rfl (tgt := 204) dX3_advance_175 (by decide) (fun c_98 => ?_) (fun c_98 => ?_)
                        · skip
                          replace hF := q_ifn hF (Int.not_lt.mpr c_98)
                          skip
                          refine lv_goto (tgt := 250) hx hb dX3_advance_204 (by decide) ?_
                          exact q_retv E hr hlk hI ⟨(hF.trans hout), fr_σ_93⟩ dX3_advance_250
                        · skip
                          replace hF := q_ifp hF c_98
                          refine lv_aload_n hx hb dX3_advance_178 rfl (lv_at hl 0 rfl) ?_
                          refine lv_aload_n hx hb dX3_advance_179 rfl (lv_at hl 0 rfl) ?_
                          refine gsr_X3_28 E hI ha dX3_advance_180 ?_
                          refine lv_topi (fun f_99 ef_99 => ?_)
                          replace hF := q_letX hF ef_99
                          have if_99 : f_99.toInt = (σ_93.1 a 5).toInt := congrArg Int32.toInt ef_99
                          refine lv_bipush (v := 10) hx hb dX3_advance_183 zkb_10 ?_
                          refine lv_imul hx hb dX3_advance_185 ?_
                          refine lv_topi (fun z_100 ez_100 => ?_)
                          replace hF := q_letX hF ez_100
                          refine lv_aload_n hx hb dX3_advance_186 rfl (lv_at hl 0 rfl) ?_
                          refine lv_iload_n hx hb dX3_advance_187 rfl (lv_at hl 2 rfl) ?_
                          refine q_ci (q_runR (As := [.int x_92]) (rest := [.int z_100, .ref a]) E (hml.trans hl.1.symm) hI (c_X3_signAt l X σ_93 a x_92 ha) kr_X3_49 ha rfl ⟨Nat.le_of_ble_eq_true rfl, Nat.le_of_ble_eq_true rfl⟩ ⟨Nat.le_refl _, Nat.le_refl _⟩ rfl (Nat.le_of_ble_eq_true rfl) dX3_advance_188) hI (Nat.le_of_ble_eq_true rfl) (fun r_101 σ_102 H locs hpσ_102 hkσ_102 hI => ?_)
                          have ahpσ_102 := hpσ_102.1
                          have bhpσ_102 := hpσ_102.2
                          clear hpσ_102
                          replace hI := q_Irw ahpσ_102 hI
                          replace hF := q_letX hF bhpσ_102
                          refine lv_iadd hx hb dX3_advance_191 ?_
                          refine lv_topi (fun z_103 ez_103 => ?_)
                          replace hF := q_letX hF ez_103
                          refine lv_bipush (v := 48) hx hb dX3_advance_192 zkb_48 ?_
                          refine lv_isub hx hb dX3_advance_194 ?_
                          refine lv_topi (fun z_104 ez_104 => ?_)
                          replace hF := q_letX hF ez_104
                          refine psr_X3_28 E hI ha (by decide) dX3_advance_195 (fun H locs σ_105 hσ_105 hI => ?_)
                          replace hF := q_letX hF hσ_105
                          have fr_σ_105 := fr_σ_93.siR hσ_105 ha rfl rfl
                          have mv2_σ_105 : (σ_105.1 a 2).toInt = (σ_93.1 a 2).toInt := congrArg Int32.toInt (q_rdn hσ_105 (Or.inr (by decide)))
                          obtain ⟨z_106, ez_106⟩ : ∃ y : Int32, y = x_92 + 1 := ⟨_, rfl⟩
                          replace hF := q_letX hF ez_106
                          refine lv_iinc (v := z_106) (lv' := [(2, .int z_106), (0, .ref a), (1, .int r_10)]) hx hb dX3_advance_198 hl (k := 2) rfl (by rw [ez_106]; rfl) (by decide) rfl (fun ls hl => ?_)
                          have iz_106 : z_106.toInt = x_92.toInt + 1 := q_inc ez_106 (by first | (clear if_1 bf_1 mv2_σ_2 hm8 if_5 bf_5 if_6 if_7 bf_7 mv2_σ_8 kc_9 ahpσ_11 bhpσ_11 if_12 bf_12 if_13 gc_14_f_12 gc_14_f_13 c_14 gc_15_r_10 c_15 gc_40_r_10 c_40 kc_65 kc_66 ahpσ_68 bhpσ_68 chpσ_68 gr_67 mv2_σ_69 ahpσ_71 bhpσ_71 gc_72_r_70 c_72 mv2_σ_90 mv2_σ_91 hm165 ahpσ_97 bhpσ_97 gc_98_x_92 gc_98_r_96 c_98 if_99 ahpσ_102 bhpσ_102 mv2_σ_105; omega) | omega)
                          refine lv_goto (tgt := 165) hx hb dX3_advance_201 (by decide) ?_
                          exact ih165 z_106 σ_105 _ _ ls (by first | (clear if_1 bf_1 mv2_σ_2 hm8 if_5 bf_5 if_6 if_7 bf_7 mv2_σ_8 kc_9 ahpσ_11 bhpσ_11 if_12 bf_12 if_13 gc_14_f_12 gc_14_f_13 c_14 gc_15_r_10 c_15 gc_40_r_10 c_40 kc_65 kc_66 ahpσ_68 bhpσ_68 chpσ_68 gr_67 mv2_σ_69 ahpσ_71 bhpσ_71 gc_72_r_70 c_72 mv2_σ_90 mv2_σ_91 ahpσ_97 bhpσ_97 gc_98_x_92 gc_98_r_96 c_98 if_99 ahpσ_102 bhpσ_102 mv2_σ_105; omega) | omega) (by first | (clear if_1 bf_1 mv2_σ_2 hm8 if_5 bf_5 if_6 if_7 bf_7 mv2_σ_8 kc_9 ahpσ_11 bhpσ_11 if_12 bf_12 if_13 gc_14_f_12 gc_14_f_13 c_14 gc_15_r_10 c_15 gc_40_r_10 c_40 kc_65 kc_66 ahpσ_68 bhpσ_68 chpσ_68 gr_67 mv2_σ_69 ahpσ_71 bhpσ_71 gc_72_r_70 c_72 mv2_σ_90 mv2_σ_91 hm165 ahpσ_97 bhpσ_97 gc_98_x_92 gc_98_r_96 c_98 if_99 ahpσ_102 bhpσ_102 mv2_σ_105; omega) | omega) fr_σ_105 hF hI (lv_sub hl [1, 2, 0] rfl)
                  exact L_165_94 ((2147483647 - (0 : Int32).toInt).toNat + 1) 0 σ_91 _ _ ls (Nat.lt_succ_self _) (by decide) fr_σ_91 hF hI (lv_sub hl [1, 2, 0] rfl)
          have gc_107_r_10 := q_rng r_10
          refine q_icmp_lt (A := r_10.toInt) (B := 97) E rfl (by decide) (tgt := 117) dX3_advance_88 (by decide) (fun c_107 => ?_) (fun c_107 => ?_)
          · skip
            replace hF := q_ifp hF c_107
            exact J_117_14 _ _ ls hF hI (lv_sub hl [1, 0] rfl)
          · skip
            replace hF := q_ifn hF (Int.not_lt.mpr c_107)
            refine lv_iload_n hx hb dX3_advance_91 rfl (lv_at hl 0 rfl) ?_
            refine lv_bipush (v := 122) hx hb dX3_advance_92 zkb_122 ?_
            have gc_108_r_10 := q_rng r_10
            refine q_icmp_gt (A := r_10.toInt) (B := 122) E rfl (by decide) (tgt := 117) dX3_advance_94 (by decide) (fun c_108 => ?_) (fun c_108 => ?_)
            · skip
              replace hF := q_ifp hF c_108
              exact J_117_14 _ _ ls hF hI (lv_sub hl [1, 0] rfl)
            · skip
              replace hF := q_ifn hF (Int.not_lt.mpr c_108)
              refine lv_aload_n hx hb dX3_advance_97 rfl (lv_at hl 1 rfl) ?_
              refine lv_iconst (v := 1) hx hb dX3_advance_98 zki_1 ?_
              refine psr_X3_25 E hI ha (by decide) dX3_advance_99 (fun H locs σ_109 hσ_109 hI => ?_)
              replace hF := q_letX hF hσ_109
              have fr_σ_109 := fr_σ_8.siR hσ_109 ha rfl rfl
              have mv2_σ_109 : (σ_109.1 a 2).toInt = (σ_8.1 a 2).toInt := congrArg Int32.toInt (q_rdn hσ_109 (Or.inr (by decide)))
              refine lv_aload_n hx hb dX3_advance_102 rfl (lv_at hl 1 rfl) ?_
              refine lv_aload_n hx hb dX3_advance_103 rfl (lv_at hl 1 rfl) ?_
              refine lv_bipush (v := 97) hx hb dX3_advance_104 zkb_97 ?_
              refine lv_bipush (v := 122) hx hb dX3_advance_106 zkb_122 ?_
              have kc_110 : (97 : Int32).toInt = 97 := zt_97
              have kc_111 : (122 : Int32).toInt = 122 := zt_122
              refine q_ci (q_runR (As := [.int 97, .int 122]) (rest := [.ref a]) E (hml.trans hl.1.symm) hI (c_X3_endOfRun l X σ_109 a (97 : Int32) (122 : Int32) ha) kr_X3_53 ha rfl ⟨Nat.le_of_ble_eq_true rfl, Nat.le_of_ble_eq_true rfl⟩ ⟨Nat.le_refl _, Nat.le_refl _⟩ rfl (Nat.le_of_ble_eq_true rfl) dX3_advance_108) hI (Nat.le_of_ble_eq_true rfl) (fun r_112 σ_113 H locs hpσ_113 hkσ_113 hI => ?_)
              have ahpσ_113 := hpσ_113.1
              have bhpσ_113 := hpσ_113.2.1
              have chpσ_113 := hpσ_113.2.2
              clear hpσ_113
              replace hI := q_Irw ahpσ_113 hI
              replace hF := q_letX hF chpσ_113
              have gr_112 := q_rng r_112
              refine psr_X3_22 E hI ha (by decide) (by omega) (by first | (clear if_1 bf_1 mv2_σ_2 hm8 if_5 bf_5 if_6 if_7 bf_7 mv2_σ_8 kc_9 ahpσ_11 bhpσ_11 if_12 bf_12 if_13 gc_14_f_12 gc_14_f_13 c_14 gc_107_r_10 c_107 gc_108_r_10 c_108 mv2_σ_109 kc_110 kc_111 ahpσ_113 chpσ_113; omega) | omega) dX3_advance_111 (fun H locs σ_114 hσ_114 hI => ?_)
              replace hF := q_letX hF hσ_114
              have fr_σ_114 := fr_σ_109.siR hσ_114 ha rfl rfl
              have mv2_σ_114 : (σ_114.1 a 2).toInt = (σ_109.1 a 2).toInt := congrArg Int32.toInt (q_rdn hσ_114 (Or.inr (by decide)))
              refine lv_goto (tgt := 250) hx hb dX3_advance_114 (by decide) ?_
              exact q_retv E hr hlk hI ⟨(hF.trans hout), fr_σ_114⟩ dX3_advance_250
        · skip
          replace hF := q_ifn hF (Int.not_lt.mpr c_14)
          refine lv_aload_n hx hb dX3_advance_77 rfl (lv_at hl 1 rfl) ?_
          refine lv_iconst (v := 0) hx hb dX3_advance_78 zki_0 ?_
          refine psr_X3_25 E hI ha (by decide) dX3_advance_79 (fun H locs σ_115 hσ_115 hI => ?_)
          replace hF := q_letX hF hσ_115
          have fr_σ_115 := fr_σ_8.siR hσ_115 ha rfl rfl
          have mv2_σ_115 : (σ_115.1 a 2).toInt = (σ_8.1 a 2).toInt := congrArg Int32.toInt (q_rdn hσ_115 (Or.inr (by decide)))
          refine lv_goto (tgt := 250) hx hb dX3_advance_82 (by decide) ?_
          exact q_retv E hr hlk hI ⟨(hF.trans hout), fr_σ_115⟩ dX3_advance_250
      have gc_116_f_5 := q_rng f_5
      have gc_116_f_6 := q_rng f_6
      refine q_icmp_ge (A := f_5.toInt) (B := f_6.toInt) E rfl rfl (tgt := 52) dX3_advance_16 (by decide) (fun c_116 => ?_) (fun c_116 => ?_)
      · skip
        replace hF := q_ifn hF (Int.not_lt.mpr c_116)
        exact J_52_6 _ _ ls hF hI (lv_sub hl [0] rfl)
      · skip
        replace hF := q_ifp hF c_116
        refine lv_aload_n hx hb dX3_advance_19 rfl (lv_at hl 0 rfl) ?_
        refine lv_iconst (v := 0) hx hb dX3_advance_20 zki_0 ?_
        have kc_117 : (0 : Int32).toInt = 0 := zt_0
        refine q_ci (q_runR (As := [.int 0]) (rest := []) E (hml.trans hl.1.symm) hI (c_X3_signAt l X σ_3 a (0 : Int32) ha) kr_X3_49 ha rfl ⟨Nat.le_of_ble_eq_true rfl, Nat.le_of_ble_eq_true rfl⟩ ⟨Nat.le_refl _, Nat.le_refl _⟩ rfl (Nat.le_of_ble_eq_true rfl) dX3_advance_21) hI (Nat.le_of_ble_eq_true rfl) (fun r_118 σ_119 H locs hpσ_119 hkσ_119 hI => ?_)
        have ahpσ_119 := hpσ_119.1
        have bhpσ_119 := hpσ_119.2
        clear hpσ_119
        replace hI := q_Irw ahpσ_119 hI
        replace hF := q_letX hF bhpσ_119
        refine lv_bipush (v := 10) hx hb dX3_advance_24 zkb_10 ?_
        have gc_120_r_118 := q_rng r_118
        refine q_icmp_eq (A := r_118.toInt) (B := 10) E rfl (by decide) (tgt := 39) dX3_advance_26 (by decide) (fun c_120 => ?_) (fun c_120 => ?_)
        · skip
          replace hF := q_ifp hF c_120
          refine lv_aload_n hx hb dX3_advance_39 rfl (lv_at hl 0 rfl) ?_
          refine lv_dup hx hb dX3_advance_40 rfl ?_
          refine gsr_X3_19 E hI ha dX3_advance_41 ?_
          refine lv_topi (fun f_121 ef_121 => ?_)
          replace hF := q_letX hF ef_121
          have if_121 : f_121.toInt = (σ_3.1 a 2).toInt := congrArg Int32.toInt ef_121
          have bf_121 : 0 ≤ f_121.toInt ∧ f_121.toInt ≤ 2147483647 := by rw [ef_121]; exact q_bdR hI ha rfl rfl
          refine lv_iconst (v := 1) hx hb dX3_advance_44 zki_1 ?_
          refine lv_iadd hx hb dX3_advance_45 ?_
          refine lv_topi (fun z_122 ez_122 => ?_)
          replace hF := q_letX hF ez_122
          have iz_122 : z_122.toInt = f_121.toInt + 1 := q_inc ez_122 (by first | (clear if_1 bf_1 mv2_σ_2 hm8 gc_116_f_5 kc_117 ahpσ_119 bhpσ_119 gc_120_r_118 c_120 bf_121; omega) | omega)
          refine psr_X3_19 E hI ha (by decide) (by first | (clear if_1 bf_1 mv2_σ_2 hm8 if_6 gc_116_f_5 gc_116_f_6 c_116 kc_117 ahpσ_119 bhpσ_119 gc_120_r_118 c_120 bf_121; omega) | omega) (by first | (clear if_1 bf_1 mv2_σ_2 hm8 gc_116_f_5 kc_117 ahpσ_119 bhpσ_119 gc_120_r_118 c_120 bf_121; omega) | omega) dX3_advance_46 (fun H locs σ_123 hσ_123 hI => ?_)
          replace hF := q_letX hF hσ_123
          have fr_σ_123 := fr_σ_3.siR hσ_123 ha rfl rfl
          have mv2_σ_123 : (σ_123.1 a 2).toInt = z_122.toInt := congrArg Int32.toInt (q_rd hσ_123)
          have mσ_123 : (σ_123.1 a 2).toInt = z_122.toInt := congrArg Int32.toInt (q_rd hσ_123)
          refine lv_goto (tgt := 8) hx hb dX3_advance_49 (by decide) ?_
          exact ih8 σ_123 _ _ ls (by first | (clear if_1 bf_1 mv2_σ_2 gc_116_f_5 kc_117 ahpσ_119 bhpσ_119 gc_120_r_118 c_120 bf_121; omega) | omega) fr_σ_123 hF hI (lv_sub hl [0] rfl)
        · skip
          replace hF := q_ifn hF c_120
          refine lv_aload_n hx hb dX3_advance_29 rfl (lv_at hl 0 rfl) ?_
          refine lv_iconst (v := 0) hx hb dX3_advance_30 zki_0 ?_
          have kc_124 : (0 : Int32).toInt = 0 := zt_0
          refine q_ci (q_runR (As := [.int 0]) (rest := []) E (hml.trans hl.1.symm) hI (c_X3_signAt l X σ_3 a (0 : Int32) ha) kr_X3_49 ha rfl ⟨Nat.le_of_ble_eq_true rfl, Nat.le_of_ble_eq_true rfl⟩ ⟨Nat.le_refl _, Nat.le_refl _⟩ rfl (Nat.le_of_ble_eq_true rfl) dX3_advance_31) hI (Nat.le_of_ble_eq_true rfl) (fun r_125 σ_126 H locs hpσ_126 hkσ_126 hI => ?_)
          have ahpσ_126 := hpσ_126.1
          have bhpσ_126 := hpσ_126.2
          clear hpσ_126
          replace hI := q_Irw ahpσ_126 hI
          replace hF := q_letX hF bhpσ_126
          refine lv_bipush (v := 32) hx hb dX3_advance_34 zkb_32 ?_
          have gc_127_r_125 := q_rng r_125
          refine q_icmp_ne (A := r_125.toInt) (B := 32) E rfl (by decide) (tgt := 52) dX3_advance_36 (by decide) (fun c_127 => ?_) (fun c_127 => ?_)
          · skip
            replace hF := q_ifn hF c_127
            exact J_52_6 _ _ ls hF hI (lv_sub hl [0] rfl)
          · skip
            replace hF := q_ifp hF c_127
            refine lv_aload_n hx hb dX3_advance_39 rfl (lv_at hl 0 rfl) ?_
            refine lv_dup hx hb dX3_advance_40 rfl ?_
            refine gsr_X3_19 E hI ha dX3_advance_41 ?_
            refine lv_topi (fun f_128 ef_128 => ?_)
            replace hF := q_letX hF ef_128
            have if_128 : f_128.toInt = (σ_3.1 a 2).toInt := congrArg Int32.toInt ef_128
            have bf_128 : 0 ≤ f_128.toInt ∧ f_128.toInt ≤ 2147483647 := by rw [ef_128]; exact q_bdR hI ha rfl rfl
            refine lv_iconst (v := 1) hx hb dX3_advance_44 zki_1 ?_
            refine lv_iadd hx hb dX3_advance_45 ?_
            refine lv_topi (fun z_129 ez_129 => ?_)
            replace hF := q_letX hF ez_129
            have iz_129 : z_129.toInt = f_128.toInt + 1 := q_inc ez_129 (by first | (clear if_1 bf_1 mv2_σ_2 hm8 gc_116_f_5 kc_117 ahpσ_119 bhpσ_119 gc_120_r_118 c_120 kc_124 ahpσ_126 bhpσ_126 gc_127_r_125 c_127 bf_128; omega) | omega)
            refine psr_X3_19 E hI ha (by decide) (by first | (clear if_1 bf_1 mv2_σ_2 hm8 if_6 gc_116_f_5 gc_116_f_6 c_116 kc_117 ahpσ_119 bhpσ_119 gc_120_r_118 c_120 kc_124 ahpσ_126 bhpσ_126 gc_127_r_125 c_127 bf_128; omega) | omega) (by first | (clear if_1 bf_1 mv2_σ_2 hm8 gc_116_f_5 kc_117 ahpσ_119 bhpσ_119 gc_120_r_118 c_120 kc_124 ahpσ_126 bhpσ_126 gc_127_r_125 c_127 bf_128; omega) | omega) dX3_advance_46 (fun H locs σ_130 hσ_130 hI => ?_)
            replace hF := q_letX hF hσ_130
            have fr_σ_130 := fr_σ_3.siR hσ_130 ha rfl rfl
            have mv2_σ_130 : (σ_130.1 a 2).toInt = z_129.toInt := congrArg Int32.toInt (q_rd hσ_130)
            have mσ_130 : (σ_130.1 a 2).toInt = z_129.toInt := congrArg Int32.toInt (q_rd hσ_130)
            refine lv_goto (tgt := 8) hx hb dX3_advance_49 (by decide) ?_
            exact ih8 σ_130 _ _ ls (by first | (clear if_1 bf_1 mv2_σ_2 gc_116_f_5 kc_117 ahpσ_119 bhpσ_119 gc_120_r_118 kc_124 ahpσ_126 bhpσ_126 gc_127_r_125 c_127 bf_128; omega) | omega) fr_σ_130 hF hI (lv_sub hl [0] rfl)
  exact L_8_4 ((2147483647 - (σ_2.1 a 2).toInt).toNat + 1) σ_2 _ _ ls (Nat.lt_succ_self _) fr_σ_2 hF hI (lv_sub hl [0] rfl)

set_option maxRecDepth 100000 in
set_option maxHeartbeats 4000000 in
theorem c_X3_start (l : Launch) (X : XW) (σ : ST) (a : Nat) (r1 : Nat) (v2 : Int32) (ha : q_kd X a = 4 ∨ q_kd X a = 9) (hr1 : q_kd X r1 = 22) : Met l yX3_start (q_ws yX3_start cX3_start 3 none) (q_rm 2 45) (q_P X σ [.ref a, .ref r1, .int v2]) (q_Qv X 8 σ (fun (σ' : ST) => σ' = F_X3_start X σ a r1 v2 ∧ q_ow [(4, 1), (4, 2), (4, 3), (4, 4), (4, 5), (4, 6), (4, 7), (9, 1), (9, 2), (9, 3), (9, 4), (9, 5), (9, 6), (9, 7)] [] X σ σ')) 0 0 (q_reg X) := by
  refine q_met 8 (by first | exact rfl | decide +kernel) rfl (Nat.le_of_ble_eq_true rfl) (fun p e s m below meth c E hml hr hlk hI ls hl => ?_)
  have hx := E.1
  have hb := E.2.1
  have hl : lv_has ls 3 [(0, .ref a), (1, .ref r1), (2, .int v2)] := hl
  have fr_σ : q_ow [(4, 1), (4, 2), (4, 3), (4, 4), (4, 5), (4, 6), (4, 7), (9, 1), (9, 2), (9, 3), (9, 4), (9, 5), (9, 6), (9, 7)] [] X σ σ := q_ow.rf
  obtain ⟨out, hout⟩ : ∃ o, o = F_X3_start X σ a r1 v2 := ⟨_, rfl⟩
  have hF := hout.symm
  unfold F_X3_start at hF
  refine lv_aload_n hx hb dX3_start_0 rfl (lv_at hl 0 rfl) ?_
  refine lv_aload_n hx hb dX3_start_1 rfl (lv_at hl 1 rfl) ?_
  refine psr_X3_9 E hI ha hr1 dX3_start_2 (fun H locs σ_1 hσ_1 hI => ?_)
  replace hF := q_letX hF hσ_1
  have fr_σ_1 := fr_σ.st hσ_1
  refine lv_aload_n hx hb dX3_start_5 rfl (lv_at hl 0 rfl) ?_
  refine lv_iconst (v := 0) hx hb dX3_start_6 zki_0 ?_
  refine lv_iload_n hx hb dX3_start_7 rfl (lv_at hl 2 rfl) ?_
  refine lv_aload_n hx hb dX3_start_8 rfl (lv_at hl 1 rfl) ?_
  refine q_alenX E hI hr1 (by decide) (t := 0) rfl rfl dX3_start_9 (fun n_2 en_2 hn_2 => ?_)
  replace hF := q_letX hF en_2
  refine q_ci (q_runS (As := [.int v2, .int n_2]) (rest := [.int 0, .ref a]) E (hml.trans hl.1.symm) hI (c_J9_min_7cf53 l X σ_1 v2 n_2) ks_X3_37 rfl ⟨Nat.le_of_ble_eq_true rfl, Nat.le_of_ble_eq_true rfl⟩ ⟨Nat.le_refl _, Nat.le_refl _⟩ rfl (Nat.le_of_ble_eq_true rfl) dX3_start_10) hI (Nat.le_of_ble_eq_true rfl) (fun r_3 σ_4 H locs hpσ_4 hkσ_4 hI => ?_)
  have ahpσ_4 := hpσ_4.1
  have bhpσ_4 := hpσ_4.2.1
  have chpσ_4 := hpσ_4.2.2
  clear hpσ_4
  replace hI := q_Irw ahpσ_4 hI
  replace hF := q_letX hF chpσ_4
  have kc_5 : (0 : Int32).toInt = 0 := zt_0
  refine q_ci (q_runS (As := [.int 0, .int r_3]) (rest := [.ref a]) E (hml.trans hl.1.symm) hI (c_J9_max_7cf53 l X σ_1 (0 : Int32) r_3) ks_X3_43 rfl ⟨Nat.le_of_ble_eq_true rfl, Nat.le_of_ble_eq_true rfl⟩ ⟨Nat.le_refl _, Nat.le_refl _⟩ rfl (Nat.le_of_ble_eq_true rfl) dX3_start_13) hI (Nat.le_of_ble_eq_true rfl) (fun r_6 σ_7 H locs hpσ_7 hkσ_7 hI => ?_)
  have ahpσ_7 := hpσ_7.1
  have bhpσ_7 := hpσ_7.2.1
  have chpσ_7 := hpσ_7.2.2
  clear hpσ_7
  replace hI := q_Irw ahpσ_7 hI
  replace hF := q_letX hF chpσ_7
  refine psr_X3_15 E hI ha (by decide) dX3_start_16 (fun H locs σ_8 hσ_8 hI => ?_)
  replace hF := q_letX hF hσ_8
  have fr_σ_8 := fr_σ_1.siR hσ_8 ha rfl rfl
  refine lv_aload_n hx hb dX3_start_19 rfl (lv_at hl 0 rfl) ?_
  refine lv_iconst (v := 0) hx hb dX3_start_20 zki_0 ?_
  refine psr_X3_22 E hI ha (by decide) (by decide) (by decide) dX3_start_21 (fun H locs σ_9 hσ_9 hI => ?_)
  replace hF := q_letX hF hσ_9
  have fr_σ_9 := fr_σ_8.siR hσ_9 ha rfl rfl
  refine lv_aload_n hx hb dX3_start_24 rfl (lv_at hl 0 rfl) ?_
  refine lv_iconst (v := 0) hx hb dX3_start_25 zki_0 ?_
  refine psr_X3_31 E hI ha (by decide) dX3_start_26 (fun H locs σ_10 hσ_10 hI => ?_)
  replace hF := q_letX hF hσ_10
  have fr_σ_10 := fr_σ_9.siR hσ_10 ha rfl rfl
  refine lv_aload_n hx hb dX3_start_29 rfl (lv_at hl 0 rfl) ?_
  refine lv_iconst (v := (-1)) hx hb dX3_start_30 zki_m1 ?_
  refine psr_X3_34 E hI ha (by decide) dX3_start_31 (fun H locs σ_11 hσ_11 hI => ?_)
  replace hF := q_letX hF hσ_11
  have fr_σ_11 := fr_σ_10.siR hσ_11 ha rfl rfl
  refine lv_aload_n hx hb dX3_start_34 rfl (lv_at hl 0 rfl) ?_
  refine q_cv (q_runR (As := []) (rest := []) E (hml.trans hl.1.symm) hI (c_X3_advance l X σ_11 a ha) kr_X3_46 ha rfl ⟨Nat.le_of_ble_eq_true rfl, Nat.le_of_ble_eq_true rfl⟩ ⟨Nat.le_refl _, Nat.le_refl _⟩ rfl (Nat.le_of_ble_eq_true rfl) dX3_start_35) hI (Nat.le_of_ble_eq_true rfl) (fun σ_13 H locs hpσ_13 hkσ_13 hI => ?_)
  have ahpσ_13 := hpσ_13.1
  have bhpσ_13 := hpσ_13.2
  clear hpσ_13
  have fr_σ_13 := fr_σ_11.call bhpσ_13 rfl rfl
  replace hF := q_letX hF ahpσ_13
  exact q_retv E hr hlk hI ⟨(hF.trans hout), fr_σ_13⟩ dX3_start_38

set_option maxRecDepth 100000 in
set_option maxHeartbeats 4000000 in
theorem c_X3_isWord (l : Launch) (X : XW) (σ : ST) (a : Nat) (r1 : Nat) (ha : q_kd X a = 4 ∨ q_kd X a = 9) (hr1 : r1 < 22) : Met l yX3_isWord (q_ws yX3_isWord cX3_isWord 3 (some .boolean)) (q_rm 4 85) (q_P X σ [.ref a, .ref (q_sk X r1)]) (q_Qi X 9 σ (fun (r : Int32) (σ' : ST) => σ' = σ ∧ (0 ≤ r.toInt ∧ r.toInt ≤ 1) ∧ r = F_X3_isWord X σ a r1)) 0 0 (q_reg X) := by
  refine q_met 9 (by first | exact rfl | decide +kernel) rfl (Nat.le_of_ble_eq_true rfl) (fun p e s m below meth c E hml hr hlk hI ls hl => ?_)
  have hx := E.1
  have hb := E.2.1
  have hl : lv_has ls 3 [(0, .ref a), (1, .ref (q_sk X r1))] := hl
  obtain ⟨out, hout⟩ : ∃ o, o = F_X3_isWord X σ a r1 := ⟨_, rfl⟩
  have hF := hout.symm
  unfold F_X3_isWord at hF
  refine lv_aload_n hx hb dX3_isWord_0 rfl (lv_at hl 0 rfl) ?_
  refine gsr_X3_25 E hI ha dX3_isWord_1 ?_
  refine lv_topi (fun f_1 ef_1 => ?_)
  replace hF := q_letX hF ef_1
  refine lv_iconst (v := 1) hx hb dX3_isWord_4 zki_1 ?_
  have gc_2_f_1 := q_rng f_1
  refine q_icmp_ne (A := f_1.toInt) (B := 1) E rfl (by decide) (tgt := 19) dX3_isWord_5 (by decide) (fun c_2 => ?_) (fun c_2 => ?_)
  · skip
    replace hF := q_ifn hF c_2
    refine lv_iconst (v := 0) hx hb dX3_isWord_19 zki_0 ?_
    have hrv : (0 : Int32).toInt = 0 := zt_0
    exact q_retz E hr hlk hI ⟨by decide, by decide⟩ ⟨rfl, ⟨by decide, by decide⟩, (hF.trans hout)⟩ dX3_isWord_20
  · skip
    replace hF := q_ifp hF c_2
    refine lv_aload_n hx hb dX3_isWord_8 rfl (lv_at hl 0 rfl) ?_
    refine q_ci (q_runR (As := []) (rest := []) E (hml.trans hl.1.symm) hI (c_X3_size l X σ a ha) kr_X3_56 ha rfl ⟨Nat.le_of_ble_eq_true rfl, Nat.le_of_ble_eq_true rfl⟩ ⟨Nat.le_refl _, Nat.le_refl _⟩ rfl (Nat.le_of_ble_eq_true rfl) dX3_isWord_9) hI (Nat.le_of_ble_eq_true rfl) (fun r_3 σ_4 H locs hpσ_4 hkσ_4 hI => ?_)
    have ahpσ_4 := hpσ_4.1
    have bhpσ_4 := hpσ_4.2
    clear hpσ_4
    replace hI := q_Irw ahpσ_4 hI
    replace hF := q_letX hF bhpσ_4
    refine lv_aload_n hx hb dX3_isWord_12 rfl (lv_at hl 1 rfl) ?_
    refine q_ci (q_runT (As := []) (rest := [.int r_3]) E (hml.trans hl.1.symm) hI (c_J0_length_8abf5 l X σ r1 hr1) kt_X3_60 hr1 rfl ⟨Nat.le_of_ble_eq_true rfl, Nat.le_of_ble_eq_true rfl⟩ ⟨Nat.le_refl _, Nat.le_refl _⟩ rfl (Nat.le_of_ble_eq_true rfl) dX3_isWord_13) hI (Nat.le_of_ble_eq_true rfl) (fun r_5 σ_6 H locs hpσ_6 hkσ_6 hI => ?_)
    have ahpσ_6 := hpσ_6.1
    have bhpσ_6 := hpσ_6.2.1
    have chpσ_6 := hpσ_6.2.2
    clear hpσ_6
    replace hI := q_Irw ahpσ_6 hI
    replace hF := q_letX hF chpσ_6
    have gc_7_r_3 := q_rng r_3
    have gc_7_r_5 := q_rng r_5
    refine q_icmp_eq (A := r_3.toInt) (B := r_5.toInt) E rfl rfl (tgt := 21) dX3_isWord_16 (by decide) (fun c_7 => ?_) (fun c_7 => ?_)
    · skip
      replace hF := q_ifp hF c_7
      refine lv_iconst (v := 0) hx hb dX3_isWord_21 zki_0 ?_
      refine lv_istore_n (lv' := [(2, .int 0), (0, .ref a), (1, .ref (q_sk X r1))]) hx hb dX3_isWord_22 rfl hl (by decide) rfl (fun ls hl => ?_)
      have L_23_9 : ∀ (k_9 : Nat) (x_8 : Int32) (H : Heap) (locs : List Loc) (ls : Array Slot), (2147483647 - x_8.toInt).toNat < k_9 → (0 ≤ x_8.toInt) → (F_X3_isWord_L23_1 X σ r1 a k_9 x_8 = out) → q_I X 9 σ s.heap locs σ H → lv_has ls 3 [(0, .ref a), (1, .ref (q_sk X r1)), (2, .int x_8)] → W p l e (q_rm 4 85) s m ([.ref a, .ref (q_sk X r1)] : List Value).toArray below meth c H locs 0 0 (MQ below (q_Qi X 9 σ (fun (r : Int32) (σ' : ST) => σ' = σ ∧ (0 ≤ r.toInt ∧ r.toInt ≤ 1) ∧ r = F_X3_isWord X σ a r1)) ([.ref a, .ref (q_sk X r1)] : List Value).toArray s 0 0 (q_reg X)) (F0 m 23 ls []) := by
        clear hF
        intro k_9
        induction k_9 with
        | zero =>
          intro x_8 H locs ls hms
          exact absurd hms (Nat.not_lt_zero _)
        | succ k_9 ih23 =>
          intro x_8 H locs ls hm23 hge23 hF hI hl
          replace hF := (F_X3_isWord_L23_1_s).symm.trans hF
          unfold F_X3_isWord_B23_1 at hF
          refine lv_iload_n hx hb dX3_isWord_23 rfl (lv_at hl 2 rfl) ?_
          refine lv_aload_n hx hb dX3_isWord_24 rfl (lv_at hl 1 rfl) ?_
          refine q_ci (q_runT (As := []) (rest := [.int x_8]) E (hml.trans hl.1.symm) hI (c_J0_length_8abf5 l X σ r1 hr1) kt_X3_60 hr1 rfl ⟨Nat.le_of_ble_eq_true rfl, Nat.le_of_ble_eq_true rfl⟩ ⟨Nat.le_refl _, Nat.le_refl _⟩ rfl (Nat.le_of_ble_eq_true rfl) dX3_isWord_25) hI (Nat.le_of_ble_eq_true rfl) (fun r_10 σ_11 H locs hpσ_11 hkσ_11 hI => ?_)
          have ahpσ_11 := hpσ_11.1
          have bhpσ_11 := hpσ_11.2.1
          have chpσ_11 := hpσ_11.2.2
          clear hpσ_11
          replace hI := q_Irw ahpσ_11 hI
          replace hF := q_letX hF chpσ_11
          have gc_12_x_8 := q_rng x_8
          have gc_12_r_10 := q_rng r_10
          refine q_icmp_ge (A := x_8.toInt) (B := r_10.toInt) E rfl rfl (tgt := 52) dX3_isWord_28 (by decide) (fun c_12 => ?_) (fun c_12 => ?_)
          · skip
            replace hF := q_ifn hF (Int.not_lt.mpr c_12)
            skip
            refine lv_iconst (v := 1) hx hb dX3_isWord_52 zki_1 ?_
            have hrv : (1 : Int32).toInt = 1 := zt_1
            exact q_retz E hr hlk hI ⟨by decide, by decide⟩ ⟨rfl, ⟨by decide, by decide⟩, (hF.trans hout)⟩ dX3_isWord_53
          · skip
            replace hF := q_ifp hF c_12
            refine lv_aload_n hx hb dX3_isWord_31 rfl (lv_at hl 1 rfl) ?_
            refine lv_iload_n hx hb dX3_isWord_32 rfl (lv_at hl 2 rfl) ?_
            refine q_ci (q_runT (As := [.int x_8]) (rest := []) E (hml.trans hl.1.symm) hI (c_J0_charAt_5068e l X σ r1 x_8 hr1 (by omega) (by first | (clear gc_2_f_1 c_2 ahpσ_4 bhpσ_4 ahpσ_6 chpσ_6 gc_7_r_3 gc_7_r_5 hm23 hge23 ahpσ_11 chpσ_11 gc_12_x_8 gc_12_r_10; omega) | omega)) kt_X3_64 hr1 rfl ⟨Nat.le_of_ble_eq_true rfl, Nat.le_of_ble_eq_true rfl⟩ ⟨Nat.le_refl _, Nat.le_refl _⟩ rfl (Nat.le_of_ble_eq_true rfl) dX3_isWord_33) hI (Nat.le_of_ble_eq_true rfl) (fun r_13 σ_14 H locs hpσ_14 hkσ_14 hI => ?_)
            have ahpσ_14 := hpσ_14.1
            have bhpσ_14 := hpσ_14.2
            clear hpσ_14
            replace hI := q_Irw ahpσ_14 hI
            replace hF := q_letX hF bhpσ_14
            refine lv_aload_n hx hb dX3_isWord_36 rfl (lv_at hl 0 rfl) ?_
            refine lv_iload_n hx hb dX3_isWord_37 rfl (lv_at hl 2 rfl) ?_
            refine q_ci (q_runR (As := [.int x_8]) (rest := [.int r_13]) E (hml.trans hl.1.symm) hI (c_X3_signAt l X σ a x_8 ha) kr_X3_49 ha rfl ⟨Nat.le_of_ble_eq_true rfl, Nat.le_of_ble_eq_true rfl⟩ ⟨Nat.le_refl _, Nat.le_refl _⟩ rfl (Nat.le_of_ble_eq_true rfl) dX3_isWord_38) hI (Nat.le_of_ble_eq_true rfl) (fun r_15 σ_16 H locs hpσ_16 hkσ_16 hI => ?_)
            have ahpσ_16 := hpσ_16.1
            have bhpσ_16 := hpσ_16.2
            clear hpσ_16
            replace hI := q_Irw ahpσ_16 hI
            replace hF := q_letX hF bhpσ_16
            have gc_17_r_13 := q_rng r_13
            have gc_17_r_15 := q_rng r_15
            refine q_icmp_eq (A := r_13.toInt) (B := r_15.toInt) E rfl rfl (tgt := 46) dX3_isWord_41 (by decide) (fun c_17 => ?_) (fun c_17 => ?_)
            · skip
              replace hF := q_ifp hF c_17
              obtain ⟨z_18, ez_18⟩ : ∃ y : Int32, y = x_8 + 1 := ⟨_, rfl⟩
              replace hF := q_letX hF ez_18
              refine lv_iinc (v := z_18) (lv' := [(2, .int z_18), (0, .ref a), (1, .ref (q_sk X r1))]) hx hb dX3_isWord_46 hl (k := 2) rfl (by rw [ez_18]; rfl) (by decide) rfl (fun ls hl => ?_)
              have iz_18 : z_18.toInt = x_8.toInt + 1 := q_inc ez_18 (by first | (clear gc_2_f_1 c_2 ahpσ_4 bhpσ_4 ahpσ_6 chpσ_6 gc_7_r_3 hm23 ahpσ_11 chpσ_11 gc_12_r_10 ahpσ_14 bhpσ_14 ahpσ_16 bhpσ_16 gc_17_r_13 gc_17_r_15 c_17; omega) | omega)
              refine lv_goto (tgt := 23) hx hb dX3_isWord_49 (by decide) ?_
              exact ih23 z_18 _ _ ls (by first | (clear gc_2_f_1 c_2 ahpσ_4 bhpσ_4 ahpσ_6 chpσ_6 gc_7_r_3 ahpσ_11 chpσ_11 gc_12_r_10 ahpσ_14 bhpσ_14 ahpσ_16 bhpσ_16 gc_17_r_13 gc_17_r_15 c_17; omega) | omega) (by first | (clear gc_2_f_1 c_2 ahpσ_4 bhpσ_4 ahpσ_6 bhpσ_6 chpσ_6 gc_7_r_3 gc_7_r_5 c_7 hm23 ahpσ_11 bhpσ_11 chpσ_11 gc_12_r_10 c_12 ahpσ_14 bhpσ_14 ahpσ_16 bhpσ_16 gc_17_r_13 gc_17_r_15 c_17; omega) | omega) hF hI (lv_sub hl [1, 2, 0] rfl)
            · skip
              replace hF := q_ifn hF c_17
              skip
              refine lv_iconst (v := 0) hx hb dX3_isWord_44 zki_0 ?_
              have hrv : (0 : Int32).toInt = 0 := zt_0
              exact q_retz E hr hlk hI ⟨by decide, by decide⟩ ⟨rfl, ⟨by decide, by decide⟩, (hF.trans hout)⟩ dX3_isWord_45
      exact L_23_9 ((2147483647 - (0 : Int32).toInt).toNat + 1) 0 _ _ ls (Nat.lt_succ_self _) (by decide) hF hI (lv_sub hl [1, 2, 0] rfl)
    · skip
      replace hF := q_ifn hF c_7
      refine lv_iconst (v := 0) hx hb dX3_isWord_19 zki_0 ?_
      have hrv : (0 : Int32).toInt = 0 := zt_0
      exact q_retz E hr hlk hI ⟨by decide, by decide⟩ ⟨rfl, ⟨by decide, by decide⟩, (hF.trans hout)⟩ dX3_isWord_20

set_option maxRecDepth 100000 in
set_option maxHeartbeats 4000000 in
theorem c_X3_fails (l : Launch) (X : XW) (σ : ST) (a : Nat) (v1 : Int32) (ha : q_kd X a = 4 ∨ q_kd X a = 9) : Met l yX3_fails (q_ws yX3_fails cX3_fails 2 (some .boolean)) (q_rm 0 0) (q_P X σ [.ref a, .int v1]) (q_Qi X 8 σ (fun (r : Int32) (σ' : ST) => (0 ≤ r.toInt ∧ r.toInt ≤ 1) ∧ (r.toInt = 0) ∧ (r, σ') = F_X3_fails X σ a v1 ∧ q_ow [(4, 6), (4, 7), (9, 6), (9, 7)] [] X σ σ')) 0 0 (q_reg X) := by
  refine q_met 8 (by first | exact rfl | decide +kernel) rfl (Nat.le_of_ble_eq_true rfl) (fun p e s m below meth c E hml hr hlk hI ls hl => ?_)
  have hx := E.1
  have hb := E.2.1
  have hl : lv_has ls 2 [(0, .ref a), (1, .int v1)] := hl
  have fr_σ : q_ow [(4, 6), (4, 7), (9, 6), (9, 7)] [] X σ σ := q_ow.rf
  obtain ⟨out, hout⟩ : ∃ o, o = F_X3_fails X σ a v1 := ⟨_, rfl⟩
  have hF := hout.symm
  unfold F_X3_fails at hF
  refine lv_aload_n hx hb dX3_fails_0 rfl (lv_at hl 0 rfl) ?_
  refine lv_aload_n hx hb dX3_fails_1 rfl (lv_at hl 0 rfl) ?_
  refine gsr_X3_25 E hI ha dX3_fails_2 ?_
  refine lv_topi (fun f_1 ef_1 => ?_)
  replace hF := q_letX hF ef_1
  refine lv_iconst (v := 4) hx hb dX3_fails_5 zki_4 ?_
  refine q_icmp_ne (A := f_1.toInt) (B := 4) E rfl (by decide) (tgt := 13) dX3_fails_6 (by decide) (fun c_2 => ?_) (fun c_2 => ?_)
  · skip
    replace hF := q_ifn hF c_2
    refine lv_iload_n hx hb dX3_fails_13 rfl (lv_at hl 1 rfl) ?_
    refine psr_X3_31 E hI ha (by decide) dX3_fails_14 (fun H locs σ_3 hσ_3 hI => ?_)
    replace hF := q_letX hF hσ_3
    have fr_σ_3 := fr_σ.siR hσ_3 ha rfl rfl
    refine lv_aload_n hx hb dX3_fails_17 rfl (lv_at hl 0 rfl) ?_
    refine lv_aload_n hx hb dX3_fails_18 rfl (lv_at hl 0 rfl) ?_
    refine gsr_X3_19 E hI ha dX3_fails_19 ?_
    refine lv_topi (fun f_4 ef_4 => ?_)
    replace hF := q_letX hF ef_4
    have bf_4 : 0 ≤ f_4.toInt ∧ f_4.toInt ≤ 2147483647 := by rw [ef_4]; exact q_bdR hI ha rfl rfl
    refine psr_X3_34 E hI ha (by decide) dX3_fails_22 (fun H locs σ_5 hσ_5 hI => ?_)
    replace hF := q_letX hF hσ_5
    have fr_σ_5 := fr_σ_3.siR hσ_5 ha rfl rfl
    refine lv_iconst (v := 0) hx hb dX3_fails_25 zki_0 ?_
    have hrv : (0 : Int32).toInt = 0 := zt_0
    exact q_retz E hr hlk hI ⟨by decide, by decide⟩ ⟨⟨by decide, by decide⟩, (by decide), (hF.trans hout), fr_σ_5⟩ dX3_fails_26
  · skip
    replace hF := q_ifp hF c_2
    refine lv_iconst (v := 1) hx hb dX3_fails_9 zki_1 ?_
    refine lv_goto (tgt := 14) hx hb dX3_fails_10 (by decide) ?_
    refine psr_X3_31 E hI ha (by decide) dX3_fails_14 (fun H locs σ_6 hσ_6 hI => ?_)
    replace hF := q_letX hF hσ_6
    have fr_σ_6 := fr_σ.siR hσ_6 ha rfl rfl
    refine lv_aload_n hx hb dX3_fails_17 rfl (lv_at hl 0 rfl) ?_
    refine lv_aload_n hx hb dX3_fails_18 rfl (lv_at hl 0 rfl) ?_
    refine gsr_X3_19 E hI ha dX3_fails_19 ?_
    refine lv_topi (fun f_7 ef_7 => ?_)
    replace hF := q_letX hF ef_7
    have bf_7 : 0 ≤ f_7.toInt ∧ f_7.toInt ≤ 2147483647 := by rw [ef_7]; exact q_bdR hI ha rfl rfl
    refine psr_X3_34 E hI ha (by decide) dX3_fails_22 (fun H locs σ_8 hσ_8 hI => ?_)
    replace hF := q_letX hF hσ_8
    have fr_σ_8 := fr_σ_6.siR hσ_8 ha rfl rfl
    refine lv_iconst (v := 0) hx hb dX3_fails_25 zki_0 ?_
    have hrv : (0 : Int32).toInt = 0 := zt_0
    exact q_retz E hr hlk hI ⟨by decide, by decide⟩ ⟨⟨by decide, by decide⟩, (by decide), (hF.trans hout), fr_σ_8⟩ dX3_fails_26

set_option maxRecDepth 100000 in
set_option maxHeartbeats 4000000 in
theorem c_X3_passWord (l : Launch) (X : XW) (σ : ST) (a : Nat) (r1 : Nat) (ha : q_kd X a = 4 ∨ q_kd X a = 9) (hr1 : r1 < 22) : Met l yX3_passWord (q_ws yX3_passWord cX3_passWord 2 (some .boolean)) (q_rm 5 107) (q_P X σ [.ref a, .ref (q_sk X r1)]) (q_Qi X 8 σ (fun (r : Int32) (σ' : ST) => (0 ≤ r.toInt ∧ r.toInt ≤ 1) ∧ (r, σ') = F_X3_passWord X σ a r1 ∧ q_ow [(4, 2), (4, 3), (4, 4), (4, 5), (4, 6), (4, 7), (9, 2), (9, 3), (9, 4), (9, 5), (9, 6), (9, 7)] [] X σ σ')) 0 0 (q_reg X) := by
  refine q_met 8 (by first | exact rfl | decide +kernel) rfl (Nat.le_of_ble_eq_true rfl) (fun p e s m below meth c E hml hr hlk hI ls hl => ?_)
  have hx := E.1
  have hb := E.2.1
  have hl : lv_has ls 2 [(0, .ref a), (1, .ref (q_sk X r1))] := hl
  have fr_σ : q_ow [(4, 2), (4, 3), (4, 4), (4, 5), (4, 6), (4, 7), (9, 2), (9, 3), (9, 4), (9, 5), (9, 6), (9, 7)] [] X σ σ := q_ow.rf
  obtain ⟨out, hout⟩ : ∃ o, o = F_X3_passWord X σ a r1 := ⟨_, rfl⟩
  have hF := hout.symm
  unfold F_X3_passWord at hF
  refine lv_aload_n hx hb dX3_passWord_0 rfl (lv_at hl 0 rfl) ?_
  refine lv_aload_n hx hb dX3_passWord_1 rfl (lv_at hl 1 rfl) ?_
  refine q_ci (q_runR (As := [.ref (q_sk X r1)]) (rest := []) E (hml.trans hl.1.symm) hI (c_X3_isWord l X σ a r1 ha hr1) kr_X3_91 ha rfl ⟨Nat.le_of_ble_eq_true rfl, Nat.le_of_ble_eq_true rfl⟩ ⟨Nat.le_refl _, Nat.le_refl _⟩ rfl (Nat.le_of_ble_eq_true rfl) dX3_passWord_2) hI (Nat.le_of_ble_eq_true rfl) (fun r_1 σ_2 H locs hpσ_2 hkσ_2 hI => ?_)
  have ahpσ_2 := hpσ_2.1
  have bhpσ_2 := hpσ_2.2.1
  have chpσ_2 := hpσ_2.2.2
  clear hpσ_2
  replace hI := q_Irw ahpσ_2 hI
  replace hF := q_letX hF chpσ_2
  refine q_if_ne (A := r_1.toInt) E rfl (tgt := 14) dX3_passWord_5 (by decide) (fun c_3 => ?_) (fun c_3 => ?_)
  · skip
    replace hF := q_ifn hF c_3
    replace c_3 := q_ifOne bhpσ_2 c_3
    refine lv_aload_n hx hb dX3_passWord_14 rfl (lv_at hl 0 rfl) ?_
    refine q_cv (q_runR (As := []) (rest := []) E (hml.trans hl.1.symm) hI (c_X3_advance l X σ a ha) kr_X3_46 ha rfl ⟨Nat.le_of_ble_eq_true rfl, Nat.le_of_ble_eq_true rfl⟩ ⟨Nat.le_refl _, Nat.le_refl _⟩ rfl (Nat.le_of_ble_eq_true rfl) dX3_passWord_15) hI (Nat.le_of_ble_eq_true rfl) (fun σ_5 H locs hpσ_5 hkσ_5 hI => ?_)
    have ahpσ_5 := hpσ_5.1
    have bhpσ_5 := hpσ_5.2
    clear hpσ_5
    have fr_σ_5 := fr_σ.call bhpσ_5 rfl rfl
    replace hF := q_letX hF ahpσ_5
    refine lv_iconst (v := 1) hx hb dX3_passWord_18 zki_1 ?_
    have hrv : (1 : Int32).toInt = 1 := zt_1
    exact q_retz E hr hlk hI ⟨by decide, by decide⟩ ⟨⟨by decide, by decide⟩, (hF.trans hout), fr_σ_5⟩ dX3_passWord_19
  · skip
    replace hF := q_ifp hF c_3
    refine lv_aload_n hx hb dX3_passWord_8 rfl (lv_at hl 0 rfl) ?_
    refine lv_iconst (v := 2) hx hb dX3_passWord_9 zki_2 ?_
    have kc_6 : (2 : Int32).toInt = 2 := zt_2
    refine q_ci (q_runR (As := [.int 2]) (rest := []) E (hml.trans hl.1.symm) hI (c_X3_fails l X σ a (2 : Int32) ha) kr_X3_74 ha rfl ⟨Nat.le_of_ble_eq_true rfl, Nat.le_of_ble_eq_true rfl⟩ ⟨Nat.le_refl _, Nat.le_refl _⟩ rfl (Nat.le_of_ble_eq_true rfl) dX3_passWord_10) hI (Nat.le_of_ble_eq_true rfl) (fun r_7 σ_8 H locs hpσ_8 hkσ_8 hI => ?_)
    have ahpσ_8 := hpσ_8.1
    have bhpσ_8 := hpσ_8.2.1
    have chpσ_8 := hpσ_8.2.2.1
    have dhpσ_8 := hpσ_8.2.2.2
    clear hpσ_8
    have fr_σ_8 := fr_σ.call dhpσ_8 rfl rfl
    replace hF := q_biX hF chpσ_8
    exact q_retz E hr hlk hI ⟨by omega, by omega⟩ ⟨⟨by omega, by omega⟩, (hF.trans hout), fr_σ_8⟩ dX3_passWord_13

set_option maxRecDepth 100000 in
set_option maxHeartbeats 4000000 in
theorem c_X3_mustBeNumber (l : Launch) (X : XW) (σ : ST) (a : Nat) (v1 : Int32) (v2 : Int32) (ha : q_kd X a = 4 ∨ q_kd X a = 9) : Met l yX3_mustBeNumber (q_ws yX3_mustBeNumber cX3_mustBeNumber 3 (some .boolean)) (q_rm 1 21) (q_P X σ [.ref a, .int v1, .int v2]) (q_Qi X 8 σ (fun (r : Int32) (σ' : ST) => (0 ≤ r.toInt ∧ r.toInt ≤ 1) ∧ (r.toInt = 1 → (v1.toInt ≤ (σ'.1 a 5).toInt ∧ (σ'.1 a 5).toInt ≤ v2.toInt)) ∧ (r, σ') = F_X3_mustBeNumber X σ a v1 v2 ∧ q_ow [(4, 6), (4, 7), (9, 6), (9, 7)] [] X σ σ')) 0 0 (q_reg X) := by
  refine q_met 8 (by first | exact rfl | decide +kernel) rfl (Nat.le_of_ble_eq_true rfl) (fun p e s m below meth c E hml hr hlk hI ls hl => ?_)
  have hx := E.1
  have hb := E.2.1
  have hl : lv_has ls 3 [(0, .ref a), (1, .int v1), (2, .int v2)] := hl
  have fr_σ : q_ow [(4, 6), (4, 7), (9, 6), (9, 7)] [] X σ σ := q_ow.rf
  obtain ⟨out, hout⟩ : ∃ o, o = F_X3_mustBeNumber X σ a v1 v2 := ⟨_, rfl⟩
  have hF := hout.symm
  unfold F_X3_mustBeNumber at hF
  refine lv_aload_n hx hb dX3_mustBeNumber_0 rfl (lv_at hl 0 rfl) ?_
  refine gsr_X3_25 E hI ha dX3_mustBeNumber_1 ?_
  refine lv_topi (fun f_1 ef_1 => ?_)
  replace hF := q_letX hF ef_1
  have if_1 : f_1.toInt = (σ.1 a 4).toInt := congrArg Int32.toInt ef_1
  refine lv_iconst (v := 2) hx hb dX3_mustBeNumber_4 zki_2 ?_
  refine q_icmp_eq (A := f_1.toInt) (B := 2) E rfl (by decide) (tgt := 14) dX3_mustBeNumber_5 (by decide) (fun c_2 => ?_) (fun c_2 => ?_)
  · skip
    replace hF := q_ifp hF c_2
    refine lv_aload_n hx hb dX3_mustBeNumber_14 rfl (lv_at hl 0 rfl) ?_
    refine gsr_X3_28 E hI ha dX3_mustBeNumber_15 ?_
    refine lv_topi (fun f_3 ef_3 => ?_)
    replace hF := q_letX hF ef_3
    have if_3 : f_3.toInt = (σ.1 a 5).toInt := congrArg Int32.toInt ef_3
    refine lv_iload_n hx hb dX3_mustBeNumber_18 rfl (lv_at hl 1 rfl) ?_
    refine q_icmp_lt (A := f_3.toInt) (B := v1.toInt) E rfl rfl (tgt := 30) dX3_mustBeNumber_19 (by decide) (fun c_4 => ?_) (fun c_4 => ?_)
    · skip
      replace hF := q_ifp hF c_4
      refine lv_aload_n hx hb dX3_mustBeNumber_30 rfl (lv_at hl 0 rfl) ?_
      refine lv_iconst (v := 4) hx hb dX3_mustBeNumber_31 zki_4 ?_
      have kc_5 : (4 : Int32).toInt = 4 := zt_4
      refine q_ci (q_runR (As := [.int 4]) (rest := []) E (hml.trans hl.1.symm) hI (c_X3_fails l X σ a (4 : Int32) ha) kr_X3_74 ha rfl ⟨Nat.le_of_ble_eq_true rfl, Nat.le_of_ble_eq_true rfl⟩ ⟨Nat.le_refl _, Nat.le_refl _⟩ rfl (Nat.le_of_ble_eq_true rfl) dX3_mustBeNumber_32) hI (Nat.le_of_ble_eq_true rfl) (fun r_6 σ_7 H locs hpσ_7 hkσ_7 hI => ?_)
      have ahpσ_7 := hpσ_7.1
      have bhpσ_7 := hpσ_7.2.1
      have chpσ_7 := hpσ_7.2.2.1
      have dhpσ_7 := hpσ_7.2.2.2
      clear hpσ_7
      have fr_σ_7 := fr_σ.call dhpσ_7 rfl rfl
      replace hF := q_biX hF chpσ_7
      refine q_if_eq (A := r_6.toInt) E rfl (tgt := 42) dX3_mustBeNumber_35 (by decide) (fun c_8 => ?_) (fun c_8 => ?_)
      · skip
        replace hF := q_ifp hF c_8
        refine lv_iconst (v := 0) hx hb dX3_mustBeNumber_42 zki_0 ?_
        have hrv : (0 : Int32).toInt = 0 := zt_0
        exact q_retz E hr hlk hI ⟨by decide, by decide⟩ ⟨⟨by decide, by decide⟩, (by first | (clear if_1 c_2 if_3 c_4 kc_5 ahpσ_7 bhpσ_7 chpσ_7 dhpσ_7 c_8; omega) | omega), (hF.trans hout), fr_σ_7⟩ dX3_mustBeNumber_43
      · skip
        replace hF := q_ifn hF c_8
        replace c_8 := q_ifOne ahpσ_7 c_8
        refine lv_iconst (v := 1) hx hb dX3_mustBeNumber_38 zki_1 ?_
        refine lv_goto (tgt := 43) hx hb dX3_mustBeNumber_39 (by decide) ?_
        have hrv : (1 : Int32).toInt = 1 := zt_1
        exact q_retz E hr hlk hI ⟨by decide, by decide⟩ ⟨⟨by decide, by decide⟩, (by first | (clear if_1 c_2 if_3 c_4 kc_5 ahpσ_7 chpσ_7 dhpσ_7 hrv; omega) | omega), (hF.trans hout), fr_σ_7⟩ dX3_mustBeNumber_43
    · skip
      replace hF := q_ifn hF (Int.not_lt.mpr c_4)
      refine lv_aload_n hx hb dX3_mustBeNumber_22 rfl (lv_at hl 0 rfl) ?_
      refine gsr_X3_28 E hI ha dX3_mustBeNumber_23 ?_
      refine lv_topi (fun f_9 ef_9 => ?_)
      replace hF := q_letX hF ef_9
      have if_9 : f_9.toInt = (σ.1 a 5).toInt := congrArg Int32.toInt ef_9
      refine lv_iload_n hx hb dX3_mustBeNumber_26 rfl (lv_at hl 2 rfl) ?_
      refine q_icmp_le (A := f_9.toInt) (B := v2.toInt) E rfl rfl (tgt := 38) dX3_mustBeNumber_27 (by decide) (fun c_10 => ?_) (fun c_10 => ?_)
      · skip
        replace hF := q_ifn hF (Int.not_lt.mpr c_10)
        refine lv_iconst (v := 1) hx hb dX3_mustBeNumber_38 zki_1 ?_
        refine lv_goto (tgt := 43) hx hb dX3_mustBeNumber_39 (by decide) ?_
        have hrv : (1 : Int32).toInt = 1 := zt_1
        exact q_retz E hr hlk hI ⟨by decide, by decide⟩ ⟨⟨by decide, by decide⟩, (by first | (clear if_1 c_2 hrv; omega) | omega), (hF.trans hout), fr_σ⟩ dX3_mustBeNumber_43
      · skip
        replace hF := q_ifp hF c_10
        refine lv_aload_n hx hb dX3_mustBeNumber_30 rfl (lv_at hl 0 rfl) ?_
        refine lv_iconst (v := 4) hx hb dX3_mustBeNumber_31 zki_4 ?_
        have kc_11 : (4 : Int32).toInt = 4 := zt_4
        refine q_ci (q_runR (As := [.int 4]) (rest := []) E (hml.trans hl.1.symm) hI (c_X3_fails l X σ a (4 : Int32) ha) kr_X3_74 ha rfl ⟨Nat.le_of_ble_eq_true rfl, Nat.le_of_ble_eq_true rfl⟩ ⟨Nat.le_refl _, Nat.le_refl _⟩ rfl (Nat.le_of_ble_eq_true rfl) dX3_mustBeNumber_32) hI (Nat.le_of_ble_eq_true rfl) (fun r_12 σ_13 H locs hpσ_13 hkσ_13 hI => ?_)
        have ahpσ_13 := hpσ_13.1
        have bhpσ_13 := hpσ_13.2.1
        have chpσ_13 := hpσ_13.2.2.1
        have dhpσ_13 := hpσ_13.2.2.2
        clear hpσ_13
        have fr_σ_13 := fr_σ.call dhpσ_13 rfl rfl
        replace hF := q_biX hF chpσ_13
        refine q_if_eq (A := r_12.toInt) E rfl (tgt := 42) dX3_mustBeNumber_35 (by decide) (fun c_14 => ?_) (fun c_14 => ?_)
        · skip
          replace hF := q_ifp hF c_14
          refine lv_iconst (v := 0) hx hb dX3_mustBeNumber_42 zki_0 ?_
          have hrv : (0 : Int32).toInt = 0 := zt_0
          exact q_retz E hr hlk hI ⟨by decide, by decide⟩ ⟨⟨by decide, by decide⟩, (by first | (clear if_1 c_2 if_3 c_4 if_9 c_10 kc_11 ahpσ_13 bhpσ_13 chpσ_13 dhpσ_13 c_14; omega) | omega), (hF.trans hout), fr_σ_13⟩ dX3_mustBeNumber_43
        · skip
          replace hF := q_ifn hF c_14
          replace c_14 := q_ifOne ahpσ_13 c_14
          refine lv_iconst (v := 1) hx hb dX3_mustBeNumber_38 zki_1 ?_
          refine lv_goto (tgt := 43) hx hb dX3_mustBeNumber_39 (by decide) ?_
          have hrv : (1 : Int32).toInt = 1 := zt_1
          exact q_retz E hr hlk hI ⟨by decide, by decide⟩ ⟨⟨by decide, by decide⟩, (by first | (clear if_1 c_2 if_3 c_4 if_9 c_10 kc_11 ahpσ_13 chpσ_13 dhpσ_13 hrv; omega) | omega), (hF.trans hout), fr_σ_13⟩ dX3_mustBeNumber_43
  · skip
    replace hF := q_ifn hF c_2
    refine lv_aload_n hx hb dX3_mustBeNumber_8 rfl (lv_at hl 0 rfl) ?_
    refine lv_iconst (v := 2) hx hb dX3_mustBeNumber_9 zki_2 ?_
    have kc_15 : (2 : Int32).toInt = 2 := zt_2
    refine q_ci (q_runR (As := [.int 2]) (rest := []) E (hml.trans hl.1.symm) hI (c_X3_fails l X σ a (2 : Int32) ha) kr_X3_74 ha rfl ⟨Nat.le_of_ble_eq_true rfl, Nat.le_of_ble_eq_true rfl⟩ ⟨Nat.le_refl _, Nat.le_refl _⟩ rfl (Nat.le_of_ble_eq_true rfl) dX3_mustBeNumber_10) hI (Nat.le_of_ble_eq_true rfl) (fun r_16 σ_17 H locs hpσ_17 hkσ_17 hI => ?_)
    have ahpσ_17 := hpσ_17.1
    have bhpσ_17 := hpσ_17.2.1
    have chpσ_17 := hpσ_17.2.2.1
    have dhpσ_17 := hpσ_17.2.2.2
    clear hpσ_17
    have fr_σ_17 := fr_σ.call dhpσ_17 rfl rfl
    replace hF := q_biX hF chpσ_17
    exact q_retz E hr hlk hI ⟨by omega, by omega⟩ ⟨⟨by omega, by omega⟩, (by first | (clear if_1 c_2 kc_15 ahpσ_17 chpσ_17 dhpσ_17; omega) | omega), (hF.trans hout), fr_σ_17⟩ dX3_mustBeNumber_13

set_option maxRecDepth 100000 in
set_option maxHeartbeats 4000000 in
theorem c_X3_passNumber (l : Launch) (X : XW) (σ : ST) (a : Nat) (v1 : Int32) (v2 : Int32) (ha : q_kd X a = 4 ∨ q_kd X a = 9) : Met l yX3_passNumber (q_ws yX3_passNumber cX3_passNumber 4 (some .int)) (q_rm 2 45) (q_P X σ [.ref a, .int v1, .int v2]) (q_Qi X 8 σ (fun (r : Int32) (σ' : ST) => (r.toInt = -1 ∨ (v1.toInt ≤ r.toInt ∧ r.toInt ≤ v2.toInt)) ∧ (r, σ') = F_X3_passNumber X σ a v1 v2 ∧ q_ow [(4, 2), (4, 3), (4, 4), (4, 5), (4, 6), (4, 7), (9, 2), (9, 3), (9, 4), (9, 5), (9, 6), (9, 7)] [] X σ σ')) 0 0 (q_reg X) := by
  refine q_met 8 (by first | exact rfl | decide +kernel) rfl (Nat.le_of_ble_eq_true rfl) (fun p e s m below meth c E hml hr hlk hI ls hl => ?_)
  have hx := E.1
  have hb := E.2.1
  have hl : lv_has ls 4 [(0, .ref a), (1, .int v1), (2, .int v2)] := hl
  have fr_σ : q_ow [(4, 2), (4, 3), (4, 4), (4, 5), (4, 6), (4, 7), (9, 2), (9, 3), (9, 4), (9, 5), (9, 6), (9, 7)] [] X σ σ := q_ow.rf
  obtain ⟨out, hout⟩ : ∃ o, o = F_X3_passNumber X σ a v1 v2 := ⟨_, rfl⟩
  have hF := hout.symm
  unfold F_X3_passNumber at hF
  refine lv_aload_n hx hb dX3_passNumber_0 rfl (lv_at hl 0 rfl) ?_
  refine lv_iload_n hx hb dX3_passNumber_1 rfl (lv_at hl 1 rfl) ?_
  refine lv_iload_n hx hb dX3_passNumber_2 rfl (lv_at hl 2 rfl) ?_
  refine q_ci (q_runR (As := [.int v1, .int v2]) (rest := []) E (hml.trans hl.1.symm) hI (c_X3_mustBeNumber l X σ a v1 v2 ha) kr_X3_87 ha rfl ⟨Nat.le_of_ble_eq_true rfl, Nat.le_of_ble_eq_true rfl⟩ ⟨Nat.le_refl _, Nat.le_refl _⟩ rfl (Nat.le_of_ble_eq_true rfl) dX3_passNumber_3) hI (Nat.le_of_ble_eq_true rfl) (fun r_1 σ_2 H locs hpσ_2 hkσ_2 hI => ?_)
  have ahpσ_2 := hpσ_2.1
  have bhpσ_2 := hpσ_2.2.1
  have chpσ_2 := hpσ_2.2.2.1
  have dhpσ_2 := hpσ_2.2.2.2
  clear hpσ_2
  have fr_σ_2 := fr_σ.call dhpσ_2 rfl rfl
  replace hF := q_biX hF chpσ_2
  refine q_if_ne (A := r_1.toInt) E rfl (tgt := 11) dX3_passNumber_6 (by decide) (fun c_3 => ?_) (fun c_3 => ?_)
  · skip
    replace hF := q_ifn hF c_3
    replace c_3 := q_ifOne ahpσ_2 c_3
    replace bhpσ_2 := bhpσ_2 c_3
    refine lv_aload_n hx hb dX3_passNumber_11 rfl (lv_at hl 0 rfl) ?_
    refine gsr_X3_28 E hI ha dX3_passNumber_12 ?_
    refine lv_topi (fun f_4 ef_4 => ?_)
    replace hF := q_letX hF ef_4
    have if_4 : f_4.toInt = (σ_2.1 a 5).toInt := congrArg Int32.toInt ef_4
    refine lv_istore_n (lv' := [(3, .int f_4), (0, .ref a), (1, .int v1), (2, .int v2)]) hx hb dX3_passNumber_15 rfl hl (by decide) rfl (fun ls hl => ?_)
    refine lv_aload_n hx hb dX3_passNumber_16 rfl (lv_at hl 1 rfl) ?_
    refine q_cv (q_runR (As := []) (rest := []) E (hml.trans hl.1.symm) hI (c_X3_advance l X σ_2 a ha) kr_X3_46 ha rfl ⟨Nat.le_of_ble_eq_true rfl, Nat.le_of_ble_eq_true rfl⟩ ⟨Nat.le_refl _, Nat.le_refl _⟩ rfl (Nat.le_of_ble_eq_true rfl) dX3_passNumber_17) hI (Nat.le_of_ble_eq_true rfl) (fun σ_6 H locs hpσ_6 hkσ_6 hI => ?_)
    have ahpσ_6 := hpσ_6.1
    have bhpσ_6 := hpσ_6.2
    clear hpσ_6
    have fr_σ_6 := fr_σ_2.call bhpσ_6 rfl rfl
    replace hF := q_letX hF ahpσ_6
    refine lv_iload_n hx hb dX3_passNumber_20 rfl (lv_at hl 0 rfl) ?_
    exact q_reti E hr hlk hI ⟨(by first | (clear ahpσ_2 chpσ_2 dhpσ_2 c_3 ahpσ_6 bhpσ_6; omega) | omega), (hF.trans hout), fr_σ_6⟩ dX3_passNumber_21
  · skip
    replace hF := q_ifp hF c_3
    clear bhpσ_2
    refine lv_iconst (v := (-1)) hx hb dX3_passNumber_9 zki_m1 ?_
    have hrv : ((-1) : Int32).toInt = (-1) := zt_m1
    exact q_reti E hr hlk hI ⟨(by first | (clear ahpσ_2 chpσ_2 dhpσ_2 c_3; omega) | omega), (hF.trans hout), fr_σ_2⟩ dX3_passNumber_10

set_option maxRecDepth 100000 in
set_option maxHeartbeats 4000000 in
theorem c_X3_passSemicolon (l : Launch) (X : XW) (σ : ST) (a : Nat) (ha : q_kd X a = 4 ∨ q_kd X a = 9) : Met l yX3_passSemicolon (q_ws yX3_passSemicolon cX3_passSemicolon 1 (some .boolean)) (q_rm 2 45) (q_P X σ [.ref a]) (q_Qi X 8 σ (fun (r : Int32) (σ' : ST) => (0 ≤ r.toInt ∧ r.toInt ≤ 1) ∧ (r, σ') = F_X3_passSemicolon X σ a ∧ q_ow [(4, 2), (4, 3), (4, 4), (4, 5), (4, 6), (4, 7), (9, 2), (9, 3), (9, 4), (9, 5), (9, 6), (9, 7)] [] X σ σ')) 0 0 (q_reg X) := by
  refine q_met 8 (by first | exact rfl | decide +kernel) rfl (Nat.le_of_ble_eq_true rfl) (fun p e s m below meth c E hml hr hlk hI ls hl => ?_)
  have hx := E.1
  have hb := E.2.1
  have hl : lv_has ls 1 [(0, .ref a)] := hl
  have fr_σ : q_ow [(4, 2), (4, 3), (4, 4), (4, 5), (4, 6), (4, 7), (9, 2), (9, 3), (9, 4), (9, 5), (9, 6), (9, 7)] [] X σ σ := q_ow.rf
  obtain ⟨out, hout⟩ : ∃ o, o = F_X3_passSemicolon X σ a := ⟨_, rfl⟩
  have hF := hout.symm
  unfold F_X3_passSemicolon at hF
  refine lv_aload_n hx hb dX3_passSemicolon_0 rfl (lv_at hl 0 rfl) ?_
  refine gsr_X3_25 E hI ha dX3_passSemicolon_1 ?_
  refine lv_topi (fun f_1 ef_1 => ?_)
  replace hF := q_letX hF ef_1
  refine lv_iconst (v := 3) hx hb dX3_passSemicolon_4 zki_3 ?_
  refine q_icmp_ne (A := f_1.toInt) (B := 3) E rfl (by decide) (tgt := 18) dX3_passSemicolon_5 (by decide) (fun c_2 => ?_) (fun c_2 => ?_)
  · skip
    replace hF := q_ifn hF c_2
    refine lv_aload_n hx hb dX3_passSemicolon_18 rfl (lv_at hl 0 rfl) ?_
    refine lv_iconst (v := 2) hx hb dX3_passSemicolon_19 zki_2 ?_
    have kc_3 : (2 : Int32).toInt = 2 := zt_2
    refine q_ci (q_runR (As := [.int 2]) (rest := []) E (hml.trans hl.1.symm) hI (c_X3_fails l X σ a (2 : Int32) ha) kr_X3_74 ha rfl ⟨Nat.le_of_ble_eq_true rfl, Nat.le_of_ble_eq_true rfl⟩ ⟨Nat.le_refl _, Nat.le_refl _⟩ rfl (Nat.le_of_ble_eq_true rfl) dX3_passSemicolon_20) hI (Nat.le_of_ble_eq_true rfl) (fun r_4 σ_5 H locs hpσ_5 hkσ_5 hI => ?_)
    have ahpσ_5 := hpσ_5.1
    have bhpσ_5 := hpσ_5.2.1
    have chpσ_5 := hpσ_5.2.2.1
    have dhpσ_5 := hpσ_5.2.2.2
    clear hpσ_5
    have fr_σ_5 := fr_σ.call dhpσ_5 rfl rfl
    replace hF := q_biX hF chpσ_5
    exact q_retz E hr hlk hI ⟨by omega, by omega⟩ ⟨⟨by omega, by omega⟩, (hF.trans hout), fr_σ_5⟩ dX3_passSemicolon_23
  · skip
    replace hF := q_ifp hF c_2
    refine lv_aload_n hx hb dX3_passSemicolon_8 rfl (lv_at hl 0 rfl) ?_
    refine lv_iconst (v := 0) hx hb dX3_passSemicolon_9 zki_0 ?_
    have kc_6 : (0 : Int32).toInt = 0 := zt_0
    refine q_ci (q_runR (As := [.int 0]) (rest := []) E (hml.trans hl.1.symm) hI (c_X3_signAt l X σ a (0 : Int32) ha) kr_X3_49 ha rfl ⟨Nat.le_of_ble_eq_true rfl, Nat.le_of_ble_eq_true rfl⟩ ⟨Nat.le_refl _, Nat.le_refl _⟩ rfl (Nat.le_of_ble_eq_true rfl) dX3_passSemicolon_10) hI (Nat.le_of_ble_eq_true rfl) (fun r_7 σ_8 H locs hpσ_8 hkσ_8 hI => ?_)
    have ahpσ_8 := hpσ_8.1
    have bhpσ_8 := hpσ_8.2
    clear hpσ_8
    replace hI := q_Irw ahpσ_8 hI
    replace hF := q_letX hF bhpσ_8
    refine lv_bipush (v := 59) hx hb dX3_passSemicolon_13 zkb_59 ?_
    refine q_icmp_eq (A := r_7.toInt) (B := 59) E rfl (by decide) (tgt := 24) dX3_passSemicolon_15 (by decide) (fun c_9 => ?_) (fun c_9 => ?_)
    · skip
      replace hF := q_ifp hF c_9
      refine lv_aload_n hx hb dX3_passSemicolon_24 rfl (lv_at hl 0 rfl) ?_
      refine q_cv (q_runR (As := []) (rest := []) E (hml.trans hl.1.symm) hI (c_X3_advance l X σ a ha) kr_X3_46 ha rfl ⟨Nat.le_of_ble_eq_true rfl, Nat.le_of_ble_eq_true rfl⟩ ⟨Nat.le_refl _, Nat.le_refl _⟩ rfl (Nat.le_of_ble_eq_true rfl) dX3_passSemicolon_25) hI (Nat.le_of_ble_eq_true rfl) (fun σ_11 H locs hpσ_11 hkσ_11 hI => ?_)
      have ahpσ_11 := hpσ_11.1
      have bhpσ_11 := hpσ_11.2
      clear hpσ_11
      have fr_σ_11 := fr_σ.call bhpσ_11 rfl rfl
      replace hF := q_letX hF ahpσ_11
      refine lv_iconst (v := 1) hx hb dX3_passSemicolon_28 zki_1 ?_
      have hrv : (1 : Int32).toInt = 1 := zt_1
      exact q_retz E hr hlk hI ⟨by decide, by decide⟩ ⟨⟨by decide, by decide⟩, (hF.trans hout), fr_σ_11⟩ dX3_passSemicolon_29
    · skip
      replace hF := q_ifn hF c_9
      refine lv_aload_n hx hb dX3_passSemicolon_18 rfl (lv_at hl 0 rfl) ?_
      refine lv_iconst (v := 2) hx hb dX3_passSemicolon_19 zki_2 ?_
      have kc_12 : (2 : Int32).toInt = 2 := zt_2
      refine q_ci (q_runR (As := [.int 2]) (rest := []) E (hml.trans hl.1.symm) hI (c_X3_fails l X σ a (2 : Int32) ha) kr_X3_74 ha rfl ⟨Nat.le_of_ble_eq_true rfl, Nat.le_of_ble_eq_true rfl⟩ ⟨Nat.le_refl _, Nat.le_refl _⟩ rfl (Nat.le_of_ble_eq_true rfl) dX3_passSemicolon_20) hI (Nat.le_of_ble_eq_true rfl) (fun r_13 σ_14 H locs hpσ_14 hkσ_14 hI => ?_)
      have ahpσ_14 := hpσ_14.1
      have bhpσ_14 := hpσ_14.2.1
      have chpσ_14 := hpσ_14.2.2.1
      have dhpσ_14 := hpσ_14.2.2.2
      clear hpσ_14
      have fr_σ_14 := fr_σ.call dhpσ_14 rfl rfl
      replace hF := q_biX hF chpσ_14
      exact q_retz E hr hlk hI ⟨by omega, by omega⟩ ⟨⟨by omega, by omega⟩, (hF.trans hout), fr_σ_14⟩ dX3_passSemicolon_23

set_option maxRecDepth 100000 in
set_option maxHeartbeats 4000000 in
theorem c_X3_isReserved (l : Launch) (X : XW) (σ : ST) (a : Nat) (ha : q_kd X a = 4 ∨ q_kd X a = 9) : Met l yX3_isReserved (q_ws yX3_isReserved cX3_isReserved 4 (some .boolean)) (q_rm 4 85) (q_P X σ [.ref a]) (q_Qi X 9 σ (fun (r : Int32) (σ' : ST) => σ' = σ ∧ (0 ≤ r.toInt ∧ r.toInt ≤ 1) ∧ r = F_X3_isReserved X σ a)) 0 0 (q_reg X) := by
  refine q_met 9 (by first | exact rfl | decide +kernel) rfl (Nat.le_of_ble_eq_true rfl) (fun p e s m below meth c E hml hr hlk hI ls hl => ?_)
  have hx := E.1
  have hb := E.2.1
  have hl : lv_has ls 4 [(0, .ref a)] := hl
  obtain ⟨out, hout⟩ : ∃ o, o = F_X3_isReserved X σ a := ⟨_, rfl⟩
  have hF := hout.symm
  unfold F_X3_isReserved at hF
  refine lv_iconst (v := 0) hx hb dX3_isReserved_0 zki_0 ?_
  refine lv_istore_n (lv' := [(1, .int 0), (0, .ref a)]) hx hb dX3_isReserved_1 rfl hl (by decide) rfl (fun ls hl => ?_)
  refine lv_iconst (v := 0) hx hb dX3_isReserved_2 zki_0 ?_
  refine lv_istore_n (lv' := [(2, .int 0), (1, .int 0), (0, .ref a)]) hx hb dX3_isReserved_3 rfl hl (by decide) rfl (fun ls hl => ?_)
  have L_4_3 : ∀ (k_3 : Nat) (x_1 : Int32) (x_2 : Int32) (H : Heap) (locs : List Loc) (ls : Array Slot), (2147483647 - x_2.toInt).toNat < k_3 → (0 ≤ x_2.toInt) → (F_X3_isReserved_L4_1 X σ a k_3 x_1 x_2 = out) → q_I X 9 σ s.heap locs σ H → lv_has ls 4 [(0, .ref a), (1, .int x_1), (2, .int x_2)] → W p l e (q_rm 4 85) s m ([.ref a] : List Value).toArray below meth c H locs 0 0 (MQ below (q_Qi X 9 σ (fun (r : Int32) (σ' : ST) => σ' = σ ∧ (0 ≤ r.toInt ∧ r.toInt ≤ 1) ∧ r = F_X3_isReserved X σ a)) ([.ref a] : List Value).toArray s 0 0 (q_reg X)) (F0 m 4 ls []) := by
    clear hF
    intro k_3
    induction k_3 with
    | zero =>
      intro x_1 x_2 H locs ls hms
      exact absurd hms (Nat.not_lt_zero _)
    | succ k_3 ih4 =>
      intro x_1 x_2 H locs ls hm4 hge4 hF hI hl
      replace hF := (F_X3_isReserved_L4_1_s).symm.trans hF
      unfold F_X3_isReserved_B4_1 at hF
      refine lv_iload_n hx hb dX3_isReserved_4 rfl (lv_at hl 2 rfl) ?_
      refine va_ldcS hx hb E.2.2.1 (kz_X3_68 E) dX3_isReserved_5 ?_
      refine q_ci (q_runT (As := []) (rest := [.int x_2]) E (hml.trans hl.1.symm) hI (c_J0_length_8abf5 l X σ 8 (by decide : 8 < 22)) kt_X3_60 (by decide : 8 < 22) rfl ⟨Nat.le_of_ble_eq_true rfl, Nat.le_of_ble_eq_true rfl⟩ ⟨Nat.le_refl _, Nat.le_refl _⟩ rfl (Nat.le_of_ble_eq_true rfl) dX3_isReserved_7) hI (Nat.le_of_ble_eq_true rfl) (fun r_4 σ_5 H locs hpσ_5 hkσ_5 hI => ?_)
      have ahpσ_5 := hpσ_5.1
      have bhpσ_5 := hpσ_5.2.1
      have chpσ_5 := hpσ_5.2.2
      clear hpσ_5
      replace hI := q_Irw ahpσ_5 hI
      replace hF := q_letX hF chpσ_5
      have gc_6_x_2 := q_rng x_2
      have gc_6_r_4 := q_rng r_4
      refine q_icmp_ge (A := x_2.toInt) (B := r_4.toInt) E rfl rfl (tgt := 68) dX3_isReserved_10 (by decide) (fun c_6 => ?_) (fun c_6 => ?_)
      · skip
        replace hF := q_ifn hF (Int.not_lt.mpr c_6)
        skip
        refine lv_iconst (v := 0) hx hb dX3_isReserved_68 zki_0 ?_
        have hrv : (0 : Int32).toInt = 0 := zt_0
        exact q_retz E hr hlk hI ⟨by decide, by decide⟩ ⟨rfl, ⟨by decide, by decide⟩, (hF.trans hout)⟩ dX3_isReserved_69
      · skip
        replace hF := q_ifp hF c_6
        refine va_ldcS hx hb E.2.2.1 (kz_X3_68 E) dX3_isReserved_13 ?_
        refine lv_iload_n hx hb dX3_isReserved_15 rfl (lv_at hl 2 rfl) ?_
        refine q_ci (q_runT (As := [.int x_2]) (rest := []) E (hml.trans hl.1.symm) hI (c_J0_charAt_5068e l X σ 8 x_2 (by decide : 8 < 22) (by omega) (by first | (clear hm4 hge4 ahpσ_5 chpσ_5 gc_6_x_2 gc_6_r_4; omega) | omega)) kt_X3_64 (by decide : 8 < 22) rfl ⟨Nat.le_of_ble_eq_true rfl, Nat.le_of_ble_eq_true rfl⟩ ⟨Nat.le_refl _, Nat.le_refl _⟩ rfl (Nat.le_of_ble_eq_true rfl) dX3_isReserved_16) hI (Nat.le_of_ble_eq_true rfl) (fun r_7 σ_8 H locs hpσ_8 hkσ_8 hI => ?_)
        have ahpσ_8 := hpσ_8.1
        have bhpσ_8 := hpσ_8.2
        clear hpσ_8
        replace hI := q_Irw ahpσ_8 hI
        replace hF := q_letX hF bhpσ_8
        refine lv_istore_n (lv' := [(3, .int r_7), (0, .ref a), (1, .int x_1), (2, .int x_2)]) hx hb dX3_isReserved_19 rfl hl (by decide) rfl (fun ls hl => ?_)
        refine lv_iload_n hx hb dX3_isReserved_20 rfl (lv_at hl 0 rfl) ?_
        refine lv_bipush (v := 32) hx hb dX3_isReserved_21 zkb_32 ?_
        have gc_9_r_7 := q_rng r_7
        refine q_icmp_ne (A := r_7.toInt) (B := 32) E rfl (by decide) (tgt := 41) dX3_isReserved_23 (by decide) (fun c_9 => ?_) (fun c_9 => ?_)
        · skip
          replace hF := q_ifn hF c_9
          refine lv_iload_n hx hb dX3_isReserved_41 rfl (lv_at hl 2 rfl) ?_
          refine q_if_lt (A := x_1.toInt) E rfl (tgt := 62) dX3_isReserved_42 (by decide) (fun c_10 => ?_) (fun c_10 => ?_)
          · skip
            replace hF := q_ifp hF c_10
            obtain ⟨z_11, ez_11⟩ : ∃ y : Int32, y = x_2 + 1 := ⟨_, rfl⟩
            replace hF := q_letX hF ez_11
            refine lv_iinc (v := z_11) (lv' := [(2, .int z_11), (3, .int r_7), (0, .ref a), (1, .int x_1)]) hx hb dX3_isReserved_62 hl (k := 3) rfl (by rw [ez_11]; rfl) (by decide) rfl (fun ls hl => ?_)
            have iz_11 : z_11.toInt = x_2.toInt + 1 := q_inc ez_11 (by first | (clear hm4 ahpσ_5 chpσ_5 ahpσ_8 bhpσ_8 gc_9_r_7 c_9 c_10; omega) | omega)
            refine lv_goto (tgt := 4) hx hb dX3_isReserved_65 (by decide) ?_
            exact ih4 x_1 z_11 _ _ ls (by first | (clear ahpσ_5 chpσ_5 ahpσ_8 bhpσ_8 gc_9_r_7 c_10; omega) | omega) (by first | (clear hm4 ahpσ_5 bhpσ_5 chpσ_5 gc_6_r_4 c_6 ahpσ_8 bhpσ_8 gc_9_r_7 c_9 c_10; omega) | omega) hF hI (lv_sub hl [2, 3, 0] rfl)
          · skip
            replace hF := q_ifn hF (Int.not_lt.mpr c_10)
            refine lv_iload_n hx hb dX3_isReserved_45 rfl (lv_at hl 0 rfl) ?_
            refine lv_aload_n hx hb dX3_isReserved_46 rfl (lv_at hl 1 rfl) ?_
            refine lv_iload_n hx hb dX3_isReserved_47 rfl (lv_at hl 2 rfl) ?_
            refine q_ci (q_runR (As := [.int x_1]) (rest := [.int r_7]) E (hml.trans hl.1.symm) hI (c_X3_signAt l X σ a x_1 ha) kr_X3_49 ha rfl ⟨Nat.le_of_ble_eq_true rfl, Nat.le_of_ble_eq_true rfl⟩ ⟨Nat.le_refl _, Nat.le_refl _⟩ rfl (Nat.le_of_ble_eq_true rfl) dX3_isReserved_48) hI (Nat.le_of_ble_eq_true rfl) (fun r_12 σ_13 H locs hpσ_13 hkσ_13 hI => ?_)
            have ahpσ_13 := hpσ_13.1
            have bhpσ_13 := hpσ_13.2
            clear hpσ_13
            replace hI := q_Irw ahpσ_13 hI
            replace hF := q_letX hF bhpσ_13
            have gc_14_r_7 := q_rng r_7
            have gc_14_r_12 := q_rng r_12
            refine q_icmp_ne (A := r_7.toInt) (B := r_12.toInt) E rfl rfl (tgt := 60) dX3_isReserved_51 (by decide) (fun c_14 => ?_) (fun c_14 => ?_)
            · skip
              replace hF := q_ifn hF c_14
              refine lv_iconst (v := (-1)) hx hb dX3_isReserved_60 zki_m1 ?_
              refine lv_istore_n (lv' := [(1, .int (-1)), (3, .int r_7), (0, .ref a), (2, .int x_2)]) hx hb dX3_isReserved_61 rfl hl (by decide) rfl (fun ls hl => ?_)
              obtain ⟨z_15, ez_15⟩ : ∃ y : Int32, y = x_2 + 1 := ⟨_, rfl⟩
              replace hF := q_letX hF ez_15
              refine lv_iinc (v := z_15) (lv' := [(2, .int z_15), (1, .int (-1)), (3, .int r_7), (0, .ref a)]) hx hb dX3_isReserved_62 hl (k := 3) rfl (by rw [ez_15]; rfl) (by decide) rfl (fun ls hl => ?_)
              have iz_15 : z_15.toInt = x_2.toInt + 1 := q_inc ez_15 (by first | (clear hm4 ahpσ_5 chpσ_5 ahpσ_8 bhpσ_8 gc_9_r_7 c_9 c_10 ahpσ_13 bhpσ_13 gc_14_r_7 gc_14_r_12 c_14; omega) | omega)
              refine lv_goto (tgt := 4) hx hb dX3_isReserved_65 (by decide) ?_
              exact ih4 (-1) z_15 _ _ ls (by first | (clear ahpσ_5 chpσ_5 ahpσ_8 bhpσ_8 gc_9_r_7 c_10 ahpσ_13 bhpσ_13 gc_14_r_7 gc_14_r_12; omega) | omega) (by first | (clear hm4 ahpσ_5 bhpσ_5 chpσ_5 gc_6_r_4 c_6 ahpσ_8 bhpσ_8 gc_9_r_7 c_9 c_10 ahpσ_13 bhpσ_13 gc_14_r_7 gc_14_r_12 c_14; omega) | omega) hF hI (lv_sub hl [3, 1, 0] rfl)
            · skip
              replace hF := q_ifp hF c_14
              refine lv_iload_n hx hb dX3_isReserved_54 rfl (lv_at hl 2 rfl) ?_
              refine lv_iconst (v := 1) hx hb dX3_isReserved_55 zki_1 ?_
              refine lv_iadd hx hb dX3_isReserved_56 ?_
              refine lv_topi (fun z_16 ez_16 => ?_)
              replace hF := q_letX hF ez_16
              refine lv_goto (tgt := 61) hx hb dX3_isReserved_57 (by decide) ?_
              refine lv_istore_n (lv' := [(1, .int z_16), (3, .int r_7), (0, .ref a), (2, .int x_2)]) hx hb dX3_isReserved_61 rfl hl (by decide) rfl (fun ls hl => ?_)
              obtain ⟨z_17, ez_17⟩ : ∃ y : Int32, y = x_2 + 1 := ⟨_, rfl⟩
              replace hF := q_letX hF ez_17
              refine lv_iinc (v := z_17) (lv' := [(2, .int z_17), (1, .int z_16), (3, .int r_7), (0, .ref a)]) hx hb dX3_isReserved_62 hl (k := 3) rfl (by rw [ez_17]; rfl) (by decide) rfl (fun ls hl => ?_)
              have iz_17 : z_17.toInt = x_2.toInt + 1 := q_inc ez_17 (by first | (clear hm4 ahpσ_5 chpσ_5 ahpσ_8 bhpσ_8 gc_9_r_7 c_9 c_10 ahpσ_13 bhpσ_13 gc_14_r_7 gc_14_r_12 c_14; omega) | omega)
              refine lv_goto (tgt := 4) hx hb dX3_isReserved_65 (by decide) ?_
              exact ih4 z_16 z_17 _ _ ls (by first | (clear ahpσ_5 chpσ_5 ahpσ_8 bhpσ_8 gc_9_r_7 c_10 ahpσ_13 bhpσ_13 gc_14_r_7 gc_14_r_12 c_14; omega) | omega) (by first | (clear hm4 ahpσ_5 bhpσ_5 chpσ_5 gc_6_r_4 c_6 ahpσ_8 bhpσ_8 gc_9_r_7 c_9 c_10 ahpσ_13 bhpσ_13 gc_14_r_7 gc_14_r_12 c_14; omega) | omega) hF hI (lv_sub hl [3, 1, 0] rfl)
        · skip
          replace hF := q_ifp hF c_9
          refine lv_iload_n hx hb dX3_isReserved_26 rfl (lv_at hl 2 rfl) ?_
          refine lv_aload_n hx hb dX3_isReserved_27 rfl (lv_at hl 1 rfl) ?_
          refine q_ci (q_runR (As := []) (rest := [.int x_1]) E (hml.trans hl.1.symm) hI (c_X3_size l X σ a ha) kr_X3_56 ha rfl ⟨Nat.le_of_ble_eq_true rfl, Nat.le_of_ble_eq_true rfl⟩ ⟨Nat.le_refl _, Nat.le_refl _⟩ rfl (Nat.le_of_ble_eq_true rfl) dX3_isReserved_28) hI (Nat.le_of_ble_eq_true rfl) (fun r_18 σ_19 H locs hpσ_19 hkσ_19 hI => ?_)
          have ahpσ_19 := hpσ_19.1
          have bhpσ_19 := hpσ_19.2
          clear hpσ_19
          replace hI := q_Irw ahpσ_19 hI
          replace hF := q_letX hF bhpσ_19
          have gc_20_x_1 := q_rng x_1
          have gc_20_r_18 := q_rng r_18
          refine q_icmp_ne (A := x_1.toInt) (B := r_18.toInt) E rfl rfl (tgt := 36) dX3_isReserved_31 (by decide) (fun c_20 => ?_) (fun c_20 => ?_)
          · skip
            replace hF := q_ifn hF c_20
            refine lv_iconst (v := 0) hx hb dX3_isReserved_36 zki_0 ?_
            refine lv_istore_n (lv' := [(1, .int 0), (3, .int r_7), (0, .ref a), (2, .int x_2)]) hx hb dX3_isReserved_37 rfl hl (by decide) rfl (fun ls hl => ?_)
            refine lv_goto (tgt := 62) hx hb dX3_isReserved_38 (by decide) ?_
            obtain ⟨z_21, ez_21⟩ : ∃ y : Int32, y = x_2 + 1 := ⟨_, rfl⟩
            replace hF := q_letX hF ez_21
            refine lv_iinc (v := z_21) (lv' := [(2, .int z_21), (1, .int 0), (3, .int r_7), (0, .ref a)]) hx hb dX3_isReserved_62 hl (k := 3) rfl (by rw [ez_21]; rfl) (by decide) rfl (fun ls hl => ?_)
            have iz_21 : z_21.toInt = x_2.toInt + 1 := q_inc ez_21 (by first | (clear hm4 ahpσ_5 chpσ_5 ahpσ_8 bhpσ_8 gc_9_r_7 c_9 ahpσ_19 bhpσ_19 gc_20_x_1 gc_20_r_18 c_20; omega) | omega)
            refine lv_goto (tgt := 4) hx hb dX3_isReserved_65 (by decide) ?_
            exact ih4 0 z_21 _ _ ls (by first | (clear ahpσ_5 chpσ_5 ahpσ_8 bhpσ_8 gc_9_r_7 c_9 ahpσ_19 bhpσ_19 gc_20_x_1 gc_20_r_18; omega) | omega) (by first | (clear hm4 ahpσ_5 bhpσ_5 chpσ_5 gc_6_r_4 c_6 ahpσ_8 bhpσ_8 gc_9_r_7 c_9 ahpσ_19 bhpσ_19 gc_20_x_1 gc_20_r_18 c_20; omega) | omega) hF hI (lv_sub hl [3, 1, 0] rfl)
          · skip
            replace hF := q_ifp hF c_20
            skip
            refine lv_iconst (v := 1) hx hb dX3_isReserved_34 zki_1 ?_
            have hrv : (1 : Int32).toInt = 1 := zt_1
            exact q_retz E hr hlk hI ⟨by decide, by decide⟩ ⟨rfl, ⟨by decide, by decide⟩, (hF.trans hout)⟩ dX3_isReserved_35
  exact L_4_3 ((2147483647 - (0 : Int32).toInt).toNat + 1) 0 0 _ _ ls (Nat.lt_succ_self _) (by decide) hF hI (lv_sub hl [2, 1, 0] rfl)

set_option maxRecDepth 100000 in
set_option maxHeartbeats 4000000 in
theorem c_X3_mustBeName (l : Launch) (X : XW) (σ : ST) (a : Nat) (ha : q_kd X a = 4 ∨ q_kd X a = 9) : Met l yX3_mustBeName (q_ws yX3_mustBeName cX3_mustBeName 1 (some .boolean)) (q_rm 5 108) (q_P X σ [.ref a]) (q_Qi X 8 σ (fun (r : Int32) (σ' : ST) => (0 ≤ r.toInt ∧ r.toInt ≤ 1) ∧ (r, σ') = F_X3_mustBeName X σ a ∧ q_ow [(4, 6), (4, 7), (9, 6), (9, 7)] [] X σ σ')) 0 0 (q_reg X) := by
  refine q_met 8 (by first | exact rfl | decide +kernel) rfl (Nat.le_of_ble_eq_true rfl) (fun p e s m below meth c E hml hr hlk hI ls hl => ?_)
  have hx := E.1
  have hb := E.2.1
  have hl : lv_has ls 1 [(0, .ref a)] := hl
  have fr_σ : q_ow [(4, 6), (4, 7), (9, 6), (9, 7)] [] X σ σ := q_ow.rf
  obtain ⟨out, hout⟩ : ∃ o, o = F_X3_mustBeName X σ a := ⟨_, rfl⟩
  have hF := hout.symm
  unfold F_X3_mustBeName at hF
  refine lv_aload_n hx hb dX3_mustBeName_0 rfl (lv_at hl 0 rfl) ?_
  refine gsr_X3_25 E hI ha dX3_mustBeName_1 ?_
  refine lv_topi (fun f_1 ef_1 => ?_)
  replace hF := q_letX hF ef_1
  refine lv_iconst (v := 1) hx hb dX3_mustBeName_4 zki_1 ?_
  refine q_icmp_ne (A := f_1.toInt) (B := 1) E rfl (by decide) (tgt := 24) dX3_mustBeName_5 (by decide) (fun c_2 => ?_) (fun c_2 => ?_)
  · skip
    replace hF := q_ifn hF c_2
    refine lv_aload_n hx hb dX3_mustBeName_24 rfl (lv_at hl 0 rfl) ?_
    refine lv_iconst (v := 2) hx hb dX3_mustBeName_25 zki_2 ?_
    have kc_3 : (2 : Int32).toInt = 2 := zt_2
    refine q_ci (q_runR (As := [.int 2]) (rest := []) E (hml.trans hl.1.symm) hI (c_X3_fails l X σ a (2 : Int32) ha) kr_X3_74 ha rfl ⟨Nat.le_of_ble_eq_true rfl, Nat.le_of_ble_eq_true rfl⟩ ⟨Nat.le_refl _, Nat.le_refl _⟩ rfl (Nat.le_of_ble_eq_true rfl) dX3_mustBeName_26) hI (Nat.le_of_ble_eq_true rfl) (fun r_4 σ_5 H locs hpσ_5 hkσ_5 hI => ?_)
    have ahpσ_5 := hpσ_5.1
    have bhpσ_5 := hpσ_5.2.1
    have chpσ_5 := hpσ_5.2.2.1
    have dhpσ_5 := hpσ_5.2.2.2
    clear hpσ_5
    have fr_σ_5 := fr_σ.call dhpσ_5 rfl rfl
    replace hF := q_biX hF chpσ_5
    refine q_if_eq (A := r_4.toInt) E rfl (tgt := 36) dX3_mustBeName_29 (by decide) (fun c_6 => ?_) (fun c_6 => ?_)
    · skip
      replace hF := q_ifp hF c_6
      refine lv_iconst (v := 0) hx hb dX3_mustBeName_36 zki_0 ?_
      have hrv : (0 : Int32).toInt = 0 := zt_0
      exact q_retz E hr hlk hI ⟨by decide, by decide⟩ ⟨⟨by decide, by decide⟩, (hF.trans hout), fr_σ_5⟩ dX3_mustBeName_37
    · skip
      replace hF := q_ifn hF c_6
      replace c_6 := q_ifOne ahpσ_5 c_6
      refine lv_iconst (v := 1) hx hb dX3_mustBeName_32 zki_1 ?_
      refine lv_goto (tgt := 37) hx hb dX3_mustBeName_33 (by decide) ?_
      have hrv : (1 : Int32).toInt = 1 := zt_1
      exact q_retz E hr hlk hI ⟨by decide, by decide⟩ ⟨⟨by decide, by decide⟩, (hF.trans hout), fr_σ_5⟩ dX3_mustBeName_37
  · skip
    replace hF := q_ifp hF c_2
    refine lv_aload_n hx hb dX3_mustBeName_8 rfl (lv_at hl 0 rfl) ?_
    refine q_ci (q_runR (As := []) (rest := []) E (hml.trans hl.1.symm) hI (c_X3_size l X σ a ha) kr_X3_56 ha rfl ⟨Nat.le_of_ble_eq_true rfl, Nat.le_of_ble_eq_true rfl⟩ ⟨Nat.le_refl _, Nat.le_refl _⟩ rfl (Nat.le_of_ble_eq_true rfl) dX3_mustBeName_9) hI (Nat.le_of_ble_eq_true rfl) (fun r_7 σ_8 H locs hpσ_8 hkσ_8 hI => ?_)
    have ahpσ_8 := hpσ_8.1
    have bhpσ_8 := hpσ_8.2
    clear hpσ_8
    replace hI := q_Irw ahpσ_8 hI
    replace hF := q_letX hF bhpσ_8
    refine lv_bipush (v := 8) hx hb dX3_mustBeName_12 zkb_8 ?_
    refine q_icmp_gt (A := r_7.toInt) (B := 8) E rfl (by decide) (tgt := 24) dX3_mustBeName_14 (by decide) (fun c_9 => ?_) (fun c_9 => ?_)
    · skip
      replace hF := q_ifp hF c_9
      refine lv_aload_n hx hb dX3_mustBeName_24 rfl (lv_at hl 0 rfl) ?_
      refine lv_iconst (v := 2) hx hb dX3_mustBeName_25 zki_2 ?_
      have kc_10 : (2 : Int32).toInt = 2 := zt_2
      refine q_ci (q_runR (As := [.int 2]) (rest := []) E (hml.trans hl.1.symm) hI (c_X3_fails l X σ a (2 : Int32) ha) kr_X3_74 ha rfl ⟨Nat.le_of_ble_eq_true rfl, Nat.le_of_ble_eq_true rfl⟩ ⟨Nat.le_refl _, Nat.le_refl _⟩ rfl (Nat.le_of_ble_eq_true rfl) dX3_mustBeName_26) hI (Nat.le_of_ble_eq_true rfl) (fun r_11 σ_12 H locs hpσ_12 hkσ_12 hI => ?_)
      have ahpσ_12 := hpσ_12.1
      have bhpσ_12 := hpσ_12.2.1
      have chpσ_12 := hpσ_12.2.2.1
      have dhpσ_12 := hpσ_12.2.2.2
      clear hpσ_12
      have fr_σ_12 := fr_σ.call dhpσ_12 rfl rfl
      replace hF := q_biX hF chpσ_12
      refine q_if_eq (A := r_11.toInt) E rfl (tgt := 36) dX3_mustBeName_29 (by decide) (fun c_13 => ?_) (fun c_13 => ?_)
      · skip
        replace hF := q_ifp hF c_13
        refine lv_iconst (v := 0) hx hb dX3_mustBeName_36 zki_0 ?_
        have hrv : (0 : Int32).toInt = 0 := zt_0
        exact q_retz E hr hlk hI ⟨by decide, by decide⟩ ⟨⟨by decide, by decide⟩, (hF.trans hout), fr_σ_12⟩ dX3_mustBeName_37
      · skip
        replace hF := q_ifn hF c_13
        replace c_13 := q_ifOne ahpσ_12 c_13
        refine lv_iconst (v := 1) hx hb dX3_mustBeName_32 zki_1 ?_
        refine lv_goto (tgt := 37) hx hb dX3_mustBeName_33 (by decide) ?_
        have hrv : (1 : Int32).toInt = 1 := zt_1
        exact q_retz E hr hlk hI ⟨by decide, by decide⟩ ⟨⟨by decide, by decide⟩, (hF.trans hout), fr_σ_12⟩ dX3_mustBeName_37
    · skip
      replace hF := q_ifn hF (Int.not_lt.mpr c_9)
      refine lv_aload_n hx hb dX3_mustBeName_17 rfl (lv_at hl 0 rfl) ?_
      refine q_ci (q_runR (As := []) (rest := []) E (hml.trans hl.1.symm) hI (c_X3_isReserved l X σ a ha) kr_X3_70 ha rfl ⟨Nat.le_of_ble_eq_true rfl, Nat.le_of_ble_eq_true rfl⟩ ⟨Nat.le_refl _, Nat.le_refl _⟩ rfl (Nat.le_of_ble_eq_true rfl) dX3_mustBeName_18) hI (Nat.le_of_ble_eq_true rfl) (fun r_14 σ_15 H locs hpσ_15 hkσ_15 hI => ?_)
      have ahpσ_15 := hpσ_15.1
      have bhpσ_15 := hpσ_15.2.1
      have chpσ_15 := hpσ_15.2.2
      clear hpσ_15
      replace hI := q_Irw ahpσ_15 hI
      replace hF := q_letX hF chpσ_15
      refine q_if_eq (A := r_14.toInt) E rfl (tgt := 32) dX3_mustBeName_21 (by decide) (fun c_16 => ?_) (fun c_16 => ?_)
      · skip
        replace hF := q_ifp hF c_16
        refine lv_iconst (v := 1) hx hb dX3_mustBeName_32 zki_1 ?_
        refine lv_goto (tgt := 37) hx hb dX3_mustBeName_33 (by decide) ?_
        have hrv : (1 : Int32).toInt = 1 := zt_1
        exact q_retz E hr hlk hI ⟨by decide, by decide⟩ ⟨⟨by decide, by decide⟩, (hF.trans hout), fr_σ⟩ dX3_mustBeName_37
      · skip
        replace hF := q_ifn hF c_16
        replace c_16 := q_ifOne bhpσ_15 c_16
        refine lv_aload_n hx hb dX3_mustBeName_24 rfl (lv_at hl 0 rfl) ?_
        refine lv_iconst (v := 2) hx hb dX3_mustBeName_25 zki_2 ?_
        have kc_17 : (2 : Int32).toInt = 2 := zt_2
        refine q_ci (q_runR (As := [.int 2]) (rest := []) E (hml.trans hl.1.symm) hI (c_X3_fails l X σ a (2 : Int32) ha) kr_X3_74 ha rfl ⟨Nat.le_of_ble_eq_true rfl, Nat.le_of_ble_eq_true rfl⟩ ⟨Nat.le_refl _, Nat.le_refl _⟩ rfl (Nat.le_of_ble_eq_true rfl) dX3_mustBeName_26) hI (Nat.le_of_ble_eq_true rfl) (fun r_18 σ_19 H locs hpσ_19 hkσ_19 hI => ?_)
        have ahpσ_19 := hpσ_19.1
        have bhpσ_19 := hpσ_19.2.1
        have chpσ_19 := hpσ_19.2.2.1
        have dhpσ_19 := hpσ_19.2.2.2
        clear hpσ_19
        have fr_σ_19 := fr_σ.call dhpσ_19 rfl rfl
        replace hF := q_biX hF chpσ_19
        refine q_if_eq (A := r_18.toInt) E rfl (tgt := 36) dX3_mustBeName_29 (by decide) (fun c_20 => ?_) (fun c_20 => ?_)
        · skip
          replace hF := q_ifp hF c_20
          refine lv_iconst (v := 0) hx hb dX3_mustBeName_36 zki_0 ?_
          have hrv : (0 : Int32).toInt = 0 := zt_0
          exact q_retz E hr hlk hI ⟨by decide, by decide⟩ ⟨⟨by decide, by decide⟩, (hF.trans hout), fr_σ_19⟩ dX3_mustBeName_37
        · skip
          replace hF := q_ifn hF c_20
          replace c_20 := q_ifOne ahpσ_19 c_20
          refine lv_iconst (v := 1) hx hb dX3_mustBeName_32 zki_1 ?_
          refine lv_goto (tgt := 37) hx hb dX3_mustBeName_33 (by decide) ?_
          have hrv : (1 : Int32).toInt = 1 := zt_1
          exact q_retz E hr hlk hI ⟨by decide, by decide⟩ ⟨⟨by decide, by decide⟩, (hF.trans hout), fr_σ_19⟩ dX3_mustBeName_37

set_option maxRecDepth 100000 in
set_option maxHeartbeats 4000000 in
theorem c_X6_isNamed (l : Launch) (X : XW) (σ : ST) (a : Nat) (v1 : Int32) (r2 : Nat) (ha : q_kd X a = 6) (hr2 : q_kd X r2 = 4 ∨ q_kd X r2 = 9) : Met l yX6_isNamed (q_ws yX6_isNamed cX6_isNamed 5 (some .boolean)) (q_rm 1 22) (q_P X σ [.ref a, .int v1, .ref r2]) (q_Qi X 9 σ (fun (r : Int32) (σ' : ST) => σ' = σ ∧ (0 ≤ r.toInt ∧ r.toInt ≤ 1) ∧ r = F_X6_isNamed X σ a v1 r2)) 0 0 (q_reg X) := by
  refine q_met 9 (by first | exact rfl | decide +kernel) rfl (Nat.le_of_ble_eq_true rfl) (fun p e s m below meth c E hml hr hlk hI ls hl => ?_)
  have hx := E.1
  have hb := E.2.1
  have hl : lv_has ls 5 [(0, .ref a), (1, .int v1), (2, .ref r2)] := hl
  obtain ⟨out, hout⟩ : ∃ o, o = F_X6_isNamed X σ a v1 r2 := ⟨_, rfl⟩
  have hF := hout.symm
  unfold F_X6_isNamed at hF
  refine lv_aload_n hx hb dX6_isNamed_0 rfl (lv_at hl 0 rfl) ?_
  refine gs_X6_39_6 E hI ha dX6_isNamed_1 ?_
  refine lv_iload_n hx hb dX6_isNamed_4 rfl (lv_at hl 1 rfl) ?_
  refine q_ci (q_rV4_1 (rest := []) E (hml.trans hl.1.symm) hI (c_X5_get l X σ (q_rf X a 7) v1 (q_tk (k' := 5) hI ha rfl (Nat.succ_ne_zero _))) kv_X6_73 (q_tk (k' := 5) hI ha rfl (Nat.succ_ne_zero _)) ⟨Nat.le_of_ble_eq_true rfl, Nat.le_of_ble_eq_true rfl⟩ (Nat.le_of_ble_eq_true rfl) dX6_isNamed_5) hI (Nat.le_of_ble_eq_true rfl) (fun r_1 σ_2 H locs hpσ_2 hkσ_2 hI => ?_)
  have ahpσ_2 := hpσ_2.1
  have bhpσ_2 := hpσ_2.2
  clear hpσ_2
  replace hI := q_Irw ahpσ_2 hI
  replace hF := q_letX hF bhpσ_2
  refine lv_istore_n (lv' := [(3, .int r_1), (0, .ref a), (1, .int v1), (2, .ref r2)]) hx hb dX6_isNamed_8 rfl hl (by decide) rfl (fun ls hl => ?_)
  refine lv_iload_n hx hb dX6_isNamed_9 rfl (lv_at hl 0 rfl) ?_
  refine lv_aload_n hx hb dX6_isNamed_10 rfl (lv_at hl 3 rfl) ?_
  refine q_ci (q_runR (As := []) (rest := [.int r_1]) E (hml.trans hl.1.symm) hI (c_X3_size l X σ r2 hr2) kr_X6_55 hr2 rfl ⟨Nat.le_of_ble_eq_true rfl, Nat.le_of_ble_eq_true rfl⟩ ⟨Nat.le_refl _, Nat.le_refl _⟩ rfl (Nat.le_of_ble_eq_true rfl) dX6_isNamed_11) hI (Nat.le_of_ble_eq_true rfl) (fun r_3 σ_4 H locs hpσ_4 hkσ_4 hI => ?_)
  have ahpσ_4 := hpσ_4.1
  have bhpσ_4 := hpσ_4.2
  clear hpσ_4
  replace hI := q_Irw ahpσ_4 hI
  replace hF := q_letX hF bhpσ_4
  have gc_5_r_1 := q_rng r_1
  have gc_5_r_3 := q_rng r_3
  refine q_icmp_eq (A := r_1.toInt) (B := r_3.toInt) E rfl rfl (tgt := 19) dX6_isNamed_14 (by decide) (fun c_5 => ?_) (fun c_5 => ?_)
  · skip
    replace hF := q_ifp hF c_5
    refine lv_iconst (v := 0) hx hb dX6_isNamed_19 zki_0 ?_
    refine lv_istore (lv' := [(4, .int 0), (3, .int r_1), (0, .ref a), (1, .int v1), (2, .ref r2)]) hx hb dX6_isNamed_20 hl (by decide) rfl (fun ls hl => ?_)
    have L_22_7 : ∀ (k_7 : Nat) (x_6 : Int32) (H : Heap) (locs : List Loc) (ls : Array Slot), (2147483647 - x_6.toInt).toNat < k_7 → (0 ≤ x_6.toInt) → (F_X6_isNamed_L22_1 X r_1 v1 σ a r2 k_7 x_6 = out) → q_I X 9 σ s.heap locs σ H → lv_has ls 5 [(0, .ref a), (1, .int v1), (2, .ref r2), (3, .int r_1), (4, .int x_6)] → W p l e (q_rm 1 22) s m ([.ref a, .int v1, .ref r2] : List Value).toArray below meth c H locs 0 0 (MQ below (q_Qi X 9 σ (fun (r : Int32) (σ' : ST) => σ' = σ ∧ (0 ≤ r.toInt ∧ r.toInt ≤ 1) ∧ r = F_X6_isNamed X σ a v1 r2)) ([.ref a, .int v1, .ref r2] : List Value).toArray s 0 0 (q_reg X)) (F0 m 22 ls []) := by
      clear hF
      intro k_7
      induction k_7 with
      | zero =>
        intro x_6 H locs ls hms
        exact absurd hms (Nat.not_lt_zero _)
      | succ k_7 ih22 =>
        intro x_6 H locs ls hm22 hge22 hF hI hl
        replace hF := (F_X6_isNamed_L22_1_s).symm.trans hF
        unfold F_X6_isNamed_B22_1 at hF
        refine lv_iload hx hb dX6_isNamed_22 (lv_at hl 4 rfl) ?_
        refine lv_iload_n hx hb dX6_isNamed_24 rfl (lv_at hl 3 rfl) ?_
        have gc_8_x_6 := q_rng x_6
        have gc_8_r_1 := q_rng r_1
        refine q_icmp_ge (A := x_6.toInt) (B := r_1.toInt) E rfl rfl (tgt := 59) dX6_isNamed_25 (by decide) (fun c_8 => ?_) (fun c_8 => ?_)
        · skip
          replace hF := q_ifn hF (Int.not_lt.mpr c_8)
          skip
          refine lv_iconst (v := 1) hx hb dX6_isNamed_59 zki_1 ?_
          have hrv : (1 : Int32).toInt = 1 := zt_1
          exact q_retz E hr hlk hI ⟨by decide, by decide⟩ ⟨rfl, ⟨by decide, by decide⟩, (hF.trans hout)⟩ dX6_isNamed_60
        · skip
          replace hF := q_ifp hF c_8
          refine lv_aload_n hx hb dX6_isNamed_28 rfl (lv_at hl 0 rfl) ?_
          refine gs_X6_36_6 E hI ha dX6_isNamed_29 ?_
          refine lv_iload_n hx hb dX6_isNamed_32 rfl (lv_at hl 1 rfl) ?_
          refine lv_bipush (v := 8) hx hb dX6_isNamed_33 zkb_8 ?_
          refine lv_imul hx hb dX6_isNamed_35 ?_
          refine lv_topi (fun z_9 ez_9 => ?_)
          replace hF := q_letX hF ez_9
          refine lv_iload hx hb dX6_isNamed_36 (lv_at hl 4 rfl) ?_
          refine lv_iadd hx hb dX6_isNamed_38 ?_
          refine lv_topi (fun z_10 ez_10 => ?_)
          replace hF := q_letX hF ez_10
          refine q_ci (q_rV4_1 (rest := []) E (hml.trans hl.1.symm) hI (c_X5_get l X σ (q_rf X a 6) z_10 (q_tk (k' := 5) hI ha rfl (Nat.succ_ne_zero _))) kv_X6_73 (q_tk (k' := 5) hI ha rfl (Nat.succ_ne_zero _)) ⟨Nat.le_of_ble_eq_true rfl, Nat.le_of_ble_eq_true rfl⟩ (Nat.le_of_ble_eq_true rfl) dX6_isNamed_39) hI (Nat.le_of_ble_eq_true rfl) (fun r_11 σ_12 H locs hpσ_12 hkσ_12 hI => ?_)
          have ahpσ_12 := hpσ_12.1
          have bhpσ_12 := hpσ_12.2
          clear hpσ_12
          replace hI := q_Irw ahpσ_12 hI
          replace hF := q_letX hF bhpσ_12
          refine lv_aload_n hx hb dX6_isNamed_42 rfl (lv_at hl 2 rfl) ?_
          refine lv_iload hx hb dX6_isNamed_43 (lv_at hl 4 rfl) ?_
          refine q_ci (q_runR (As := [.int x_6]) (rest := [.int r_11]) E (hml.trans hl.1.symm) hI (c_X3_signAt l X σ r2 x_6 hr2) kr_X6_61 hr2 rfl ⟨Nat.le_of_ble_eq_true rfl, Nat.le_of_ble_eq_true rfl⟩ ⟨Nat.le_refl _, Nat.le_refl _⟩ rfl (Nat.le_of_ble_eq_true rfl) dX6_isNamed_45) hI (Nat.le_of_ble_eq_true rfl) (fun r_13 σ_14 H locs hpσ_14 hkσ_14 hI => ?_)
          have ahpσ_14 := hpσ_14.1
          have bhpσ_14 := hpσ_14.2
          clear hpσ_14
          replace hI := q_Irw ahpσ_14 hI
          replace hF := q_letX hF bhpσ_14
          have gc_15_r_11 := q_rng r_11
          have gc_15_r_13 := q_rng r_13
          refine q_icmp_eq (A := r_11.toInt) (B := r_13.toInt) E rfl rfl (tgt := 53) dX6_isNamed_48 (by decide) (fun c_15 => ?_) (fun c_15 => ?_)
          · skip
            replace hF := q_ifp hF c_15
            obtain ⟨z_16, ez_16⟩ : ∃ y : Int32, y = x_6 + 1 := ⟨_, rfl⟩
            replace hF := q_letX hF ez_16
            refine lv_iinc (v := z_16) (lv' := [(4, .int z_16), (0, .ref a), (1, .int v1), (2, .ref r2), (3, .int r_1)]) hx hb dX6_isNamed_53 hl (k := 4) rfl (by rw [ez_16]; rfl) (by decide) rfl (fun ls hl => ?_)
            have iz_16 : z_16.toInt = x_6.toInt + 1 := q_inc ez_16 (by first | (clear ahpσ_2 bhpσ_2 ahpσ_4 bhpσ_4 gc_5_r_1 hm22 gc_8_r_1 ahpσ_12 bhpσ_12 ahpσ_14 bhpσ_14 gc_15_r_11 gc_15_r_13 c_15; omega) | omega)
            refine lv_goto (tgt := 22) hx hb dX6_isNamed_56 (by decide) ?_
            exact ih22 z_16 _ _ ls (by first | (clear ahpσ_2 bhpσ_2 ahpσ_4 bhpσ_4 gc_5_r_1 gc_8_r_1 ahpσ_12 bhpσ_12 ahpσ_14 bhpσ_14 gc_15_r_11 gc_15_r_13 c_15; omega) | omega) (by first | (clear ahpσ_2 bhpσ_2 ahpσ_4 bhpσ_4 gc_5_r_1 gc_5_r_3 c_5 hm22 gc_8_r_1 c_8 ahpσ_12 bhpσ_12 ahpσ_14 bhpσ_14 gc_15_r_11 gc_15_r_13 c_15; omega) | omega) hF hI (lv_sub hl [1, 2, 3, 4, 0] rfl)
          · skip
            replace hF := q_ifn hF c_15
            skip
            refine lv_iconst (v := 0) hx hb dX6_isNamed_51 zki_0 ?_
            have hrv : (0 : Int32).toInt = 0 := zt_0
            exact q_retz E hr hlk hI ⟨by decide, by decide⟩ ⟨rfl, ⟨by decide, by decide⟩, (hF.trans hout)⟩ dX6_isNamed_52
    exact L_22_7 ((2147483647 - (0 : Int32).toInt).toNat + 1) 0 _ _ ls (Nat.lt_succ_self _) (by decide) hF hI (lv_sub hl [2, 3, 4, 1, 0] rfl)
  · skip
    replace hF := q_ifn hF c_5
    refine lv_iconst (v := 0) hx hb dX6_isNamed_17 zki_0 ?_
    have hrv : (0 : Int32).toInt = 0 := zt_0
    exact q_retz E hr hlk hI ⟨by decide, by decide⟩ ⟨rfl, ⟨by decide, by decide⟩, (hF.trans hout)⟩ dX6_isNamed_18

set_option maxRecDepth 100000 in
set_option maxHeartbeats 4000000 in
theorem c_X6_playerNamed (l : Launch) (X : XW) (σ : ST) (a : Nat) (r1 : Nat) (ha : q_kd X a = 6) (hr1 : q_kd X r1 = 4 ∨ q_kd X r1 = 9) : Met l yX6_playerNamed (q_ws yX6_playerNamed cX6_playerNamed 3 (some .int)) (q_rm 2 46) (q_P X σ [.ref a, .ref r1]) (q_Qi X 9 σ (fun (r : Int32) (σ' : ST) => σ' = σ ∧ r = F_X6_playerNamed X σ a r1)) 0 0 (q_reg X) := by
  refine q_met 9 (by first | exact rfl | decide +kernel) rfl (Nat.le_of_ble_eq_true rfl) (fun p e s m below meth c E hml hr hlk hI ls hl => ?_)
  have hx := E.1
  have hb := E.2.1
  have hl : lv_has ls 3 [(0, .ref a), (1, .ref r1)] := hl
  obtain ⟨out, hout⟩ : ∃ o, o = F_X6_playerNamed X σ a r1 := ⟨_, rfl⟩
  have hF := hout.symm
  unfold F_X6_playerNamed at hF
  refine lv_iconst (v := 0) hx hb dX6_playerNamed_0 zki_0 ?_
  refine lv_istore_n (lv' := [(2, .int 0), (0, .ref a), (1, .ref r1)]) hx hb dX6_playerNamed_1 rfl hl (by decide) rfl (fun ls hl => ?_)
  have L_2_2 : ∀ (k_2 : Nat) (x_1 : Int32) (H : Heap) (locs : List Loc) (ls : Array Slot), (2147483647 - x_1.toInt).toNat < k_2 → (0 ≤ x_1.toInt) → (F_X6_playerNamed_L2_1 X σ a r1 k_2 x_1 = out) → q_I X 9 σ s.heap locs σ H → lv_has ls 3 [(0, .ref a), (1, .ref r1), (2, .int x_1)] → W p l e (q_rm 2 46) s m ([.ref a, .ref r1] : List Value).toArray below meth c H locs 0 0 (MQ below (q_Qi X 9 σ (fun (r : Int32) (σ' : ST) => σ' = σ ∧ r = F_X6_playerNamed X σ a r1)) ([.ref a, .ref r1] : List Value).toArray s 0 0 (q_reg X)) (F0 m 2 ls []) := by
    clear hF
    intro k_2
    induction k_2 with
    | zero =>
      intro x_1 H locs ls hms
      exact absurd hms (Nat.not_lt_zero _)
    | succ k_2 ih2 =>
      intro x_1 H locs ls hm2 hge2 hF hI hl
      replace hF := (F_X6_playerNamed_L2_1_s).symm.trans hF
      unfold F_X6_playerNamed_B2_1 at hF
      refine lv_iload_n hx hb dX6_playerNamed_2 rfl (lv_at hl 2 rfl) ?_
      refine lv_aload_n hx hb dX6_playerNamed_3 rfl (lv_at hl 0 rfl) ?_
      refine gs_X6_24_6 E hI ha dX6_playerNamed_4 ?_
      refine lv_topi (fun f_3 ef_3 => ?_)
      replace hF := q_letX hF ef_3
      have gc_4_x_1 := q_rng x_1
      have gc_4_f_3 := q_rng f_3
      refine q_icmp_ge (A := x_1.toInt) (B := f_3.toInt) E rfl rfl (tgt := 27) dX6_playerNamed_7 (by decide) (fun c_4 => ?_) (fun c_4 => ?_)
      · skip
        replace hF := q_ifn hF (Int.not_lt.mpr c_4)
        skip
        refine lv_iconst (v := (-1)) hx hb dX6_playerNamed_27 zki_m1 ?_
        exact q_reti E hr hlk hI ⟨rfl, (hF.trans hout)⟩ dX6_playerNamed_28
      · skip
        replace hF := q_ifp hF c_4
        refine lv_aload_n hx hb dX6_playerNamed_10 rfl (lv_at hl 0 rfl) ?_
        refine lv_iload_n hx hb dX6_playerNamed_11 rfl (lv_at hl 2 rfl) ?_
        refine lv_aload_n hx hb dX6_playerNamed_12 rfl (lv_at hl 1 rfl) ?_
        refine q_ci (q_rV5_2 (rest := []) E (hml.trans hl.1.symm) hI (c_X6_isNamed l X σ a x_1 r1 ha hr1) kv_X6_69 ha ⟨Nat.le_of_ble_eq_true rfl, Nat.le_of_ble_eq_true rfl⟩ (Nat.le_of_ble_eq_true rfl) dX6_playerNamed_13) hI (Nat.le_of_ble_eq_true rfl) (fun r_5 σ_6 H locs hpσ_6 hkσ_6 hI => ?_)
        have ahpσ_6 := hpσ_6.1
        have bhpσ_6 := hpσ_6.2.1
        have chpσ_6 := hpσ_6.2.2
        clear hpσ_6
        replace hI := q_Irw ahpσ_6 hI
        replace hF := q_letX hF chpσ_6
        refine q_if_eq (A := r_5.toInt) E rfl (tgt := 21) dX6_playerNamed_16 (by decide) (fun c_7 => ?_) (fun c_7 => ?_)
        · skip
          replace hF := q_ifp hF c_7
          obtain ⟨z_8, ez_8⟩ : ∃ y : Int32, y = x_1 + 1 := ⟨_, rfl⟩
          replace hF := q_letX hF ez_8
          refine lv_iinc (v := z_8) (lv' := [(2, .int z_8), (0, .ref a), (1, .ref r1)]) hx hb dX6_playerNamed_21 hl (k := 2) rfl (by rw [ez_8]; rfl) (by decide) rfl (fun ls hl => ?_)
          have iz_8 : z_8.toInt = x_1.toInt + 1 := q_inc ez_8 (by first | (clear hm2 ahpσ_6 bhpσ_6 chpσ_6; omega) | omega)
          refine lv_goto (tgt := 2) hx hb dX6_playerNamed_24 (by decide) ?_
          exact ih2 z_8 _ _ ls (by first | (clear ahpσ_6 bhpσ_6 chpσ_6; omega) | omega) (by first | (clear hm2 gc_4_f_3 c_4 ahpσ_6 bhpσ_6 chpσ_6 c_7; omega) | omega) hF hI (lv_sub hl [1, 2, 0] rfl)
        · skip
          replace hF := q_ifn hF c_7
          replace c_7 := q_ifOne bhpσ_6 c_7
          skip
          refine lv_iload_n hx hb dX6_playerNamed_19 rfl (lv_at hl 2 rfl) ?_
          exact q_reti E hr hlk hI ⟨rfl, (hF.trans hout)⟩ dX6_playerNamed_20
  exact L_2_2 ((2147483647 - (0 : Int32).toInt).toNat + 1) 0 _ _ ls (Nat.lt_succ_self _) (by decide) hF hI (lv_sub hl [1, 2, 0] rfl)

set_option maxRecDepth 100000 in
set_option maxHeartbeats 4000000 in
theorem c_X6_addPlayer (l : Launch) (X : XW) (σ : ST) (a : Nat) (r1 : Nat) (ha : q_kd X a = 6) (hr1 : q_kd X r1 = 4 ∨ q_kd X r1 = 9) : Met l yX6_addPlayer (q_ws yX6_addPlayer cX6_addPlayer 3 none) (q_rm 1 22) (q_P X σ [.ref a, .ref r1]) (q_Qv X 8 σ (fun (σ' : ST) => σ' = F_X6_addPlayer X σ a r1 ∧ q_ow [(6, 4), (20, 99)] [] X σ σ')) 0 0 (q_reg X) := by
  refine q_met 8 (by first | exact rfl | decide +kernel) rfl (Nat.le_of_ble_eq_true rfl) (fun p e s m below meth c E hml hr hlk hI ls hl => ?_)
  have hx := E.1
  have hb := E.2.1
  have hl : lv_has ls 3 [(0, .ref a), (1, .ref r1)] := hl
  have fr_σ : q_ow [(6, 4), (20, 99)] [] X σ σ := q_ow.rf
  obtain ⟨out, hout⟩ : ∃ o, o = F_X6_addPlayer X σ a r1 := ⟨_, rfl⟩
  have hF := hout.symm
  unfold F_X6_addPlayer at hF
  refine lv_aload_n hx hb dX6_addPlayer_0 rfl (lv_at hl 0 rfl) ?_
  refine gs_X6_24_6 E hI ha dX6_addPlayer_1 ?_
  refine lv_topi (fun f_1 ef_1 => ?_)
  replace hF := q_letX hF ef_1
  refine lv_bipush (v := 6) hx hb dX6_addPlayer_4 zkb_6 ?_
  have gc_2_f_1 := q_rng f_1
  refine q_icmp_ge (A := f_1.toInt) (B := 6) E rfl (by decide) (tgt := 18) dX6_addPlayer_6 (by decide) (fun c_2 => ?_) (fun c_2 => ?_)
  · skip
    replace hF := q_ifn hF (Int.not_lt.mpr c_2)
    exact q_retv E hr hlk hI ⟨(hF.trans hout), fr_σ⟩ dX6_addPlayer_18
  · skip
    replace hF := q_ifp hF c_2
    refine lv_aload_n hx hb dX6_addPlayer_9 rfl (lv_at hl 1 rfl) ?_
    refine q_ci (q_runR (As := []) (rest := []) E (hml.trans hl.1.symm) hI (c_X3_size l X σ r1 hr1) kr_X6_55 hr1 rfl ⟨Nat.le_of_ble_eq_true rfl, Nat.le_of_ble_eq_true rfl⟩ ⟨Nat.le_refl _, Nat.le_refl _⟩ rfl (Nat.le_of_ble_eq_true rfl) dX6_addPlayer_10) hI (Nat.le_of_ble_eq_true rfl) (fun r_3 σ_4 H locs hpσ_4 hkσ_4 hI => ?_)
    have ahpσ_4 := hpσ_4.1
    have bhpσ_4 := hpσ_4.2
    clear hpσ_4
    replace hI := q_Irw ahpσ_4 hI
    replace hF := q_letX hF bhpσ_4
    refine lv_bipush (v := 8) hx hb dX6_addPlayer_13 zkb_8 ?_
    have gc_5_r_3 := q_rng r_3
    refine q_icmp_le (A := r_3.toInt) (B := 8) E rfl (by decide) (tgt := 19) dX6_addPlayer_15 (by decide) (fun c_5 => ?_) (fun c_5 => ?_)
    · skip
      replace hF := q_ifn hF (Int.not_lt.mpr c_5)
      refine lv_iconst (v := 0) hx hb dX6_addPlayer_19 zki_0 ?_
      refine lv_istore_n (lv' := [(2, .int 0), (0, .ref a), (1, .ref r1)]) hx hb dX6_addPlayer_20 rfl hl (by decide) rfl (fun ls hl => ?_)
      have L_21_8 : ∀ (k_8 : Nat) (x_6 : Int32) (σ_7 : ST) (H : Heap) (locs : List Loc) (ls : Array Slot), (2147483647 - x_6.toInt).toNat < k_8 → (0 ≤ x_6.toInt) → (q_ow [(6, 4), (20, 99)] [] X σ σ_7) → (F_X6_addPlayer_L21_1 X r1 a k_8 x_6 σ_7 = out) → q_I X 8 σ s.heap locs σ_7 H → lv_has ls 3 [(0, .ref a), (1, .ref r1), (2, .int x_6)] → W p l e (q_rm 1 22) s m ([.ref a, .ref r1] : List Value).toArray below meth c H locs 0 0 (MQ below (q_Qv X 8 σ (fun (σ' : ST) => σ' = F_X6_addPlayer X σ a r1 ∧ q_ow [(6, 4), (20, 99)] [] X σ σ')) ([.ref a, .ref r1] : List Value).toArray s 0 0 (q_reg X)) (F0 m 21 ls []) := by
        clear hF
        intro k_8
        induction k_8 with
        | zero =>
          intro x_6 σ_7 H locs ls hms
          exact absurd hms (Nat.not_lt_zero _)
        | succ k_8 ih21 =>
          intro x_6 σ_7 H locs ls hm21 hge21 fr_σ_7 hF hI hl
          replace hF := (F_X6_addPlayer_L21_1_s).symm.trans hF
          unfold F_X6_addPlayer_B21_1 at hF
          refine lv_iload_n hx hb dX6_addPlayer_21 rfl (lv_at hl 2 rfl) ?_
          refine lv_aload_n hx hb dX6_addPlayer_22 rfl (lv_at hl 1 rfl) ?_
          refine q_ci (q_runR (As := []) (rest := [.int x_6]) E (hml.trans hl.1.symm) hI (c_X3_size l X σ_7 r1 hr1) kr_X6_55 hr1 rfl ⟨Nat.le_of_ble_eq_true rfl, Nat.le_of_ble_eq_true rfl⟩ ⟨Nat.le_refl _, Nat.le_refl _⟩ rfl (Nat.le_of_ble_eq_true rfl) dX6_addPlayer_23) hI (Nat.le_of_ble_eq_true rfl) (fun r_9 σ_10 H locs hpσ_10 hkσ_10 hI => ?_)
          have ahpσ_10 := hpσ_10.1
          have bhpσ_10 := hpσ_10.2
          clear hpσ_10
          replace hI := q_Irw ahpσ_10 hI
          replace hF := q_letX hF bhpσ_10
          have gc_11_x_6 := q_rng x_6
          have gc_11_r_9 := q_rng r_9
          refine q_icmp_ge (A := x_6.toInt) (B := r_9.toInt) E rfl rfl (tgt := 56) dX6_addPlayer_26 (by decide) (fun c_11 => ?_) (fun c_11 => ?_)
          · skip
            replace hF := q_ifn hF (Int.not_lt.mpr c_11)
            unfold F_X6_addPlayer_E56_2 at hF
            refine lv_aload_n hx hb dX6_addPlayer_56 rfl (lv_at hl 0 rfl) ?_
            refine gs_X6_39_6 E hI ha dX6_addPlayer_57 ?_
            refine lv_aload_n hx hb dX6_addPlayer_60 rfl (lv_at hl 0 rfl) ?_
            refine gs_X6_24_6 E hI ha dX6_addPlayer_61 ?_
            refine lv_topi (fun f_12 ef_12 => ?_)
            replace hF := q_letX hF ef_12
            refine lv_aload_n hx hb dX6_addPlayer_64 rfl (lv_at hl 1 rfl) ?_
            refine q_ci (q_runR (As := []) (rest := [.int f_12, .ref (q_rf X a 7)]) E (hml.trans hl.1.symm) hI (c_X3_size l X σ_7 r1 hr1) kr_X6_55 hr1 rfl ⟨Nat.le_of_ble_eq_true rfl, Nat.le_of_ble_eq_true rfl⟩ ⟨Nat.le_refl _, Nat.le_refl _⟩ rfl (Nat.le_of_ble_eq_true rfl) dX6_addPlayer_65) hI (Nat.le_of_ble_eq_true rfl) (fun r_13 σ_14 H locs hpσ_14 hkσ_14 hI => ?_)
            have ahpσ_14 := hpσ_14.1
            have bhpσ_14 := hpσ_14.2
            clear hpσ_14
            replace hI := q_Irw ahpσ_14 hI
            replace hF := q_letX hF bhpσ_14
            refine q_cv (q_rV4_2 (rest := []) E (hml.trans hl.1.symm) hI (c_X5_set l X σ_7 (q_rf X a 7) f_12 r_13 (q_tk (k' := 5) hI ha rfl (Nat.succ_ne_zero _))) kv_X6_65 (q_tk (k' := 5) hI ha rfl (Nat.succ_ne_zero _)) ⟨Nat.le_of_ble_eq_true rfl, Nat.le_of_ble_eq_true rfl⟩ (Nat.le_of_ble_eq_true rfl) dX6_addPlayer_68) hI (Nat.le_of_ble_eq_true rfl) (fun σ_16 H locs hpσ_16 hkσ_16 hI => ?_)
            have ahpσ_16 := hpσ_16.1
            have bhpσ_16 := hpσ_16.2
            clear hpσ_16
            have fr_σ_16 := fr_σ_7.call bhpσ_16 rfl rfl
            replace hF := q_letX hF ahpσ_16
            refine lv_aload_n hx hb dX6_addPlayer_71 rfl (lv_at hl 0 rfl) ?_
            refine lv_dup hx hb dX6_addPlayer_72 rfl ?_
            refine gs_X6_24_6 E hI ha dX6_addPlayer_73 ?_
            refine lv_topi (fun f_17 ef_17 => ?_)
            replace hF := q_letX hF ef_17
            refine lv_iconst (v := 1) hx hb dX6_addPlayer_76 zki_1 ?_
            refine lv_iadd hx hb dX6_addPlayer_77 ?_
            refine lv_topi (fun z_18 ez_18 => ?_)
            replace hF := q_letX hF ez_18
            refine ps_X6_24_6 E hI ha (by decide) dX6_addPlayer_78 (fun H locs σ_19 hσ_19 hI => ?_)
            replace hF := q_letX hF hσ_19
            have fr_σ_19 := fr_σ_16.si hσ_19 ha rfl
            exact q_retv E hr hlk hI ⟨(hF.trans hout), fr_σ_19⟩ dX6_addPlayer_81
          · skip
            replace hF := q_ifp hF c_11
            refine lv_aload_n hx hb dX6_addPlayer_29 rfl (lv_at hl 0 rfl) ?_
            refine gs_X6_36_6 E hI ha dX6_addPlayer_30 ?_
            refine lv_aload_n hx hb dX6_addPlayer_33 rfl (lv_at hl 0 rfl) ?_
            refine gs_X6_24_6 E hI ha dX6_addPlayer_34 ?_
            refine lv_topi (fun f_20 ef_20 => ?_)
            replace hF := q_letX hF ef_20
            refine lv_bipush (v := 8) hx hb dX6_addPlayer_37 zkb_8 ?_
            refine lv_imul hx hb dX6_addPlayer_39 ?_
            refine lv_topi (fun z_21 ez_21 => ?_)
            replace hF := q_letX hF ez_21
            refine lv_iload_n hx hb dX6_addPlayer_40 rfl (lv_at hl 2 rfl) ?_
            refine lv_iadd hx hb dX6_addPlayer_41 ?_
            refine lv_topi (fun z_22 ez_22 => ?_)
            replace hF := q_letX hF ez_22
            refine lv_aload_n hx hb dX6_addPlayer_42 rfl (lv_at hl 1 rfl) ?_
            refine lv_iload_n hx hb dX6_addPlayer_43 rfl (lv_at hl 2 rfl) ?_
            refine q_ci (q_runR (As := [.int x_6]) (rest := [.int z_22, .ref (q_rf X a 6)]) E (hml.trans hl.1.symm) hI (c_X3_signAt l X σ_7 r1 x_6 hr1) kr_X6_61 hr1 rfl ⟨Nat.le_of_ble_eq_true rfl, Nat.le_of_ble_eq_true rfl⟩ ⟨Nat.le_refl _, Nat.le_refl _⟩ rfl (Nat.le_of_ble_eq_true rfl) dX6_addPlayer_44) hI (Nat.le_of_ble_eq_true rfl) (fun r_23 σ_24 H locs hpσ_24 hkσ_24 hI => ?_)
            have ahpσ_24 := hpσ_24.1
            have bhpσ_24 := hpσ_24.2
            clear hpσ_24
            replace hI := q_Irw ahpσ_24 hI
            replace hF := q_letX hF bhpσ_24
            refine q_cv (q_rV4_2 (rest := []) E (hml.trans hl.1.symm) hI (c_X5_set l X σ_7 (q_rf X a 6) z_22 r_23 (q_tk (k' := 5) hI ha rfl (Nat.succ_ne_zero _))) kv_X6_65 (q_tk (k' := 5) hI ha rfl (Nat.succ_ne_zero _)) ⟨Nat.le_of_ble_eq_true rfl, Nat.le_of_ble_eq_true rfl⟩ (Nat.le_of_ble_eq_true rfl) dX6_addPlayer_47) hI (Nat.le_of_ble_eq_true rfl) (fun σ_26 H locs hpσ_26 hkσ_26 hI => ?_)
            have ahpσ_26 := hpσ_26.1
            have bhpσ_26 := hpσ_26.2
            clear hpσ_26
            have fr_σ_26 := fr_σ_7.call bhpσ_26 rfl rfl
            replace hF := q_letX hF ahpσ_26
            obtain ⟨z_27, ez_27⟩ : ∃ y : Int32, y = x_6 + 1 := ⟨_, rfl⟩
            replace hF := q_letX hF ez_27
            refine lv_iinc (v := z_27) (lv' := [(2, .int z_27), (0, .ref a), (1, .ref r1)]) hx hb dX6_addPlayer_50 hl (k := 2) rfl (by rw [ez_27]; rfl) (by decide) rfl (fun ls hl => ?_)
            have iz_27 : z_27.toInt = x_6.toInt + 1 := q_inc ez_27 (by first | (clear gc_2_f_1 c_2 ahpσ_4 bhpσ_4 gc_5_r_3 c_5 hm21 ahpσ_10 bhpσ_10 ahpσ_24 bhpσ_24 ahpσ_26 bhpσ_26; omega) | omega)
            refine lv_goto (tgt := 21) hx hb dX6_addPlayer_53 (by decide) ?_
            exact ih21 z_27 σ_26 _ _ ls (by first | (clear gc_2_f_1 c_2 ahpσ_4 bhpσ_4 gc_5_r_3 c_5 ahpσ_10 bhpσ_10 ahpσ_24 bhpσ_24 ahpσ_26 bhpσ_26; omega) | omega) (by first | (clear gc_2_f_1 c_2 ahpσ_4 bhpσ_4 gc_5_r_3 c_5 hm21 ahpσ_10 bhpσ_10 gc_11_r_9 c_11 ahpσ_24 bhpσ_24 ahpσ_26 bhpσ_26; omega) | omega) fr_σ_26 hF hI (lv_sub hl [1, 2, 0] rfl)
      exact L_21_8 ((2147483647 - (0 : Int32).toInt).toNat + 1) 0 σ _ _ ls (Nat.lt_succ_self _) (by decide) fr_σ hF hI (lv_sub hl [1, 2, 0] rfl)
    · skip
      replace hF := q_ifp hF c_5
      exact q_retv E hr hlk hI ⟨(hF.trans hout), fr_σ⟩ dX6_addPlayer_18

set_option maxRecDepth 100000 in
set_option maxHeartbeats 4000000 in
theorem c_X3_passPlayer (l : Launch) (X : XW) (σ : ST) (a : Nat) (r1 : Nat) (ha : q_kd X a = 4 ∨ q_kd X a = 9) (hr1 : q_kd X r1 = 6) : Met l yX3_passPlayer (q_ws yX3_passPlayer cX3_passPlayer 3 (some .int)) (q_rm 6 128) (q_P X σ [.ref a, .ref r1]) (q_Qi X 8 σ (fun (r : Int32) (σ' : ST) => (r, σ') = F_X3_passPlayer X σ a r1 ∧ q_ow [(4, 2), (4, 3), (4, 4), (4, 5), (4, 6), (4, 7), (9, 2), (9, 3), (9, 4), (9, 5), (9, 6), (9, 7)] [] X σ σ')) 0 0 (q_reg X) := by
  refine q_met 8 (by first | exact rfl | decide +kernel) rfl (Nat.le_of_ble_eq_true rfl) (fun p e s m below meth c E hml hr hlk hI ls hl => ?_)
  have hx := E.1
  have hb := E.2.1
  have hl : lv_has ls 3 [(0, .ref a), (1, .ref r1)] := hl
  have fr_σ : q_ow [(4, 2), (4, 3), (4, 4), (4, 5), (4, 6), (4, 7), (9, 2), (9, 3), (9, 4), (9, 5), (9, 6), (9, 7)] [] X σ σ := q_ow.rf
  obtain ⟨out, hout⟩ : ∃ o, o = F_X3_passPlayer X σ a r1 := ⟨_, rfl⟩
  have hF := hout.symm
  unfold F_X3_passPlayer at hF
  refine lv_aload_n hx hb dX3_passPlayer_0 rfl (lv_at hl 0 rfl) ?_
  refine q_ci (q_runR (As := []) (rest := []) E (hml.trans hl.1.symm) hI (c_X3_mustBeName l X σ a ha) kr_X3_78 ha rfl ⟨Nat.le_of_ble_eq_true rfl, Nat.le_of_ble_eq_true rfl⟩ ⟨Nat.le_refl _, Nat.le_refl _⟩ rfl (Nat.le_of_ble_eq_true rfl) dX3_passPlayer_1) hI (Nat.le_of_ble_eq_true rfl) (fun r_1 σ_2 H locs hpσ_2 hkσ_2 hI => ?_)
  have ahpσ_2 := hpσ_2.1
  have bhpσ_2 := hpσ_2.2.1
  have chpσ_2 := hpσ_2.2.2
  clear hpσ_2
  have fr_σ_2 := fr_σ.call chpσ_2 rfl rfl
  replace hF := q_biX hF bhpσ_2
  refine q_if_ne (A := r_1.toInt) E rfl (tgt := 9) dX3_passPlayer_4 (by decide) (fun c_3 => ?_) (fun c_3 => ?_)
  · skip
    replace hF := q_ifn hF c_3
    replace c_3 := q_ifOne ahpσ_2 c_3
    refine lv_aload_n hx hb dX3_passPlayer_9 rfl (lv_at hl 1 rfl) ?_
    refine lv_aload_n hx hb dX3_passPlayer_10 rfl (lv_at hl 0 rfl) ?_
    refine q_ci (q_rV5_1 (rest := []) E (hml.trans hl.1.symm) hI (c_X6_playerNamed l X σ_2 r1 a hr1 ha) kv_X3_81 hr1 ⟨Nat.le_of_ble_eq_true rfl, Nat.le_of_ble_eq_true rfl⟩ (Nat.le_of_ble_eq_true rfl) dX3_passPlayer_11) hI (Nat.le_of_ble_eq_true rfl) (fun r_4 σ_5 H locs hpσ_5 hkσ_5 hI => ?_)
    have ahpσ_5 := hpσ_5.1
    have bhpσ_5 := hpσ_5.2
    clear hpσ_5
    replace hI := q_Irw ahpσ_5 hI
    replace hF := q_letX hF bhpσ_5
    refine lv_istore_n (lv' := [(2, .int r_4), (0, .ref a), (1, .ref r1)]) hx hb dX3_passPlayer_14 rfl hl (by decide) rfl (fun ls hl => ?_)
    refine lv_iload_n hx hb dX3_passPlayer_15 rfl (lv_at hl 0 rfl) ?_
    refine lv_iconst (v := (-1)) hx hb dX3_passPlayer_16 zki_m1 ?_
    refine q_icmp_ne (A := r_4.toInt) (B := (-1)) E rfl (by decide) (tgt := 28) dX3_passPlayer_17 (by decide) (fun c_6 => ?_) (fun c_6 => ?_)
    · skip
      replace hF := q_ifn hF c_6
      refine lv_aload_n hx hb dX3_passPlayer_28 rfl (lv_at hl 1 rfl) ?_
      refine q_cv (q_runR (As := []) (rest := []) E (hml.trans hl.1.symm) hI (c_X3_advance l X σ_2 a ha) kr_X3_46 ha rfl ⟨Nat.le_of_ble_eq_true rfl, Nat.le_of_ble_eq_true rfl⟩ ⟨Nat.le_refl _, Nat.le_refl _⟩ rfl (Nat.le_of_ble_eq_true rfl) dX3_passPlayer_29) hI (Nat.le_of_ble_eq_true rfl) (fun σ_8 H locs hpσ_8 hkσ_8 hI => ?_)
      have ahpσ_8 := hpσ_8.1
      have bhpσ_8 := hpσ_8.2
      clear hpσ_8
      have fr_σ_8 := fr_σ_2.call bhpσ_8 rfl rfl
      replace hF := q_letX hF ahpσ_8
      refine lv_iload_n hx hb dX3_passPlayer_32 rfl (lv_at hl 0 rfl) ?_
      exact q_reti E hr hlk hI ⟨(hF.trans hout), fr_σ_8⟩ dX3_passPlayer_33
    · skip
      replace hF := q_ifp hF c_6
      refine lv_aload_n hx hb dX3_passPlayer_20 rfl (lv_at hl 1 rfl) ?_
      refine lv_iconst (v := 3) hx hb dX3_passPlayer_21 zki_3 ?_
      have kc_9 : (3 : Int32).toInt = 3 := zt_3
      refine q_ci (q_runR (As := [.int 3]) (rest := []) E (hml.trans hl.1.symm) hI (c_X3_fails l X σ_2 a (3 : Int32) ha) kr_X3_74 ha rfl ⟨Nat.le_of_ble_eq_true rfl, Nat.le_of_ble_eq_true rfl⟩ ⟨Nat.le_refl _, Nat.le_refl _⟩ rfl (Nat.le_of_ble_eq_true rfl) dX3_passPlayer_22) hI (Nat.le_of_ble_eq_true rfl) (fun r_10 σ_11 H locs hpσ_11 hkσ_11 hI => ?_)
      have ahpσ_11 := hpσ_11.1
      have bhpσ_11 := hpσ_11.2.1
      have chpσ_11 := hpσ_11.2.2.1
      have dhpσ_11 := hpσ_11.2.2.2
      clear hpσ_11
      have fr_σ_11 := fr_σ_2.call dhpσ_11 rfl rfl
      replace hF := q_biX hF chpσ_11
      refine lv_pop hx hb dX3_passPlayer_25 rfl ?_
      refine lv_iconst (v := (-1)) hx hb dX3_passPlayer_26 zki_m1 ?_
      exact q_reti E hr hlk hI ⟨(hF.trans hout), fr_σ_11⟩ dX3_passPlayer_27
  · skip
    replace hF := q_ifp hF c_3
    refine lv_iconst (v := (-1)) hx hb dX3_passPlayer_7 zki_m1 ?_
    exact q_reti E hr hlk hI ⟨(hF.trans hout), fr_σ_2⟩ dX3_passPlayer_8

set_option maxRecDepth 100000 in
set_option maxHeartbeats 4000000 in
theorem c_X6_copyFrom (l : Launch) (X : XW) (σ : ST) (a : Nat) (r1 : Nat) (ha : q_kd X a = 6) (hr1 : q_kd X r1 = 6) : Met l yX6_copyFrom (q_ws yX6_copyFrom cX6_copyFrom 2 none) (q_rm 1 22) (q_P X σ [.ref a, .ref r1]) (q_Qv X 8 σ (fun (σ' : ST) => σ' = F_X6_copyFrom X σ a r1 ∧ q_ow [(6, 0), (6, 1), (6, 2), (6, 3), (6, 4), (20, 99)] [] X σ σ')) 0 0 (q_reg X) := by
  refine q_met 8 (by first | exact rfl | decide +kernel) rfl (Nat.le_of_ble_eq_true rfl) (fun p e s m below meth c E hml hr hlk hI ls hl => ?_)
  have hx := E.1
  have hb := E.2.1
  have hl : lv_has ls 2 [(0, .ref a), (1, .ref r1)] := hl
  have fr_σ : q_ow [(6, 0), (6, 1), (6, 2), (6, 3), (6, 4), (20, 99)] [] X σ σ := q_ow.rf
  obtain ⟨out, hout⟩ : ∃ o, o = F_X6_copyFrom X σ a r1 := ⟨_, rfl⟩
  have hF := hout.symm
  unfold F_X6_copyFrom at hF
  refine lv_aload_n hx hb dX6_copyFrom_0 rfl (lv_at hl 0 rfl) ?_
  refine lv_aload_n hx hb dX6_copyFrom_1 rfl (lv_at hl 1 rfl) ?_
  refine gs_X6_9_6 E hI hr1 dX6_copyFrom_2 ?_
  refine lv_topi (fun f_1 ef_1 => ?_)
  replace hF := q_letX hF ef_1
  have bf_1 : -2147483648 ≤ f_1.toInt ∧ f_1.toInt ≤ 10 := by rw [ef_1]; exact q_bd hI hr1 rfl
  refine ps_X6_9_6 E hI ha (by decide) (by omega) (by omega) dX6_copyFrom_5 (fun H locs σ_2 hσ_2 hI => ?_)
  replace hF := q_letX hF hσ_2
  have fr_σ_2 := fr_σ.si hσ_2 ha rfl
  refine lv_aload_n hx hb dX6_copyFrom_8 rfl (lv_at hl 0 rfl) ?_
  refine lv_aload_n hx hb dX6_copyFrom_9 rfl (lv_at hl 1 rfl) ?_
  refine gs_X6_15_6 E hI hr1 dX6_copyFrom_10 ?_
  refine lv_topi (fun f_3 ef_3 => ?_)
  replace hF := q_letX hF ef_3
  refine ps_X6_15_6 E hI ha (by decide) dX6_copyFrom_13 (fun H locs σ_4 hσ_4 hI => ?_)
  replace hF := q_letX hF hσ_4
  have fr_σ_4 := fr_σ_2.si hσ_4 ha rfl
  refine lv_aload_n hx hb dX6_copyFrom_16 rfl (lv_at hl 0 rfl) ?_
  refine lv_aload_n hx hb dX6_copyFrom_17 rfl (lv_at hl 1 rfl) ?_
  refine gs_X6_18_6 E hI hr1 dX6_copyFrom_18 ?_
  refine lv_topi (fun f_5 ef_5 => ?_)
  replace hF := q_letX hF ef_5
  refine ps_X6_18_6 E hI ha (by decide) dX6_copyFrom_21 (fun H locs σ_6 hσ_6 hI => ?_)
  replace hF := q_letX hF hσ_6
  have fr_σ_6 := fr_σ_4.si hσ_6 ha rfl
  refine lv_aload_n hx hb dX6_copyFrom_24 rfl (lv_at hl 0 rfl) ?_
  refine lv_aload_n hx hb dX6_copyFrom_25 rfl (lv_at hl 1 rfl) ?_
  refine gs_X6_21_6 E hI hr1 dX6_copyFrom_26 ?_
  refine lv_topi (fun f_7 ef_7 => ?_)
  replace hF := q_letX hF ef_7
  have bf_7 : -2147483648 ≤ f_7.toInt ∧ f_7.toInt ≤ 4 := by rw [ef_7]; exact q_bd hI hr1 rfl
  refine ps_X6_21_6 E hI ha (by decide) (by first | (clear bf_1; omega) | omega) (by first | (clear bf_1; omega) | omega) dX6_copyFrom_29 (fun H locs σ_8 hσ_8 hI => ?_)
  replace hF := q_letX hF hσ_8
  have fr_σ_8 := fr_σ_6.si hσ_8 ha rfl
  refine lv_aload_n hx hb dX6_copyFrom_32 rfl (lv_at hl 0 rfl) ?_
  refine lv_aload_n hx hb dX6_copyFrom_33 rfl (lv_at hl 1 rfl) ?_
  refine gs_X6_24_6 E hI hr1 dX6_copyFrom_34 ?_
  refine lv_topi (fun f_9 ef_9 => ?_)
  replace hF := q_letX hF ef_9
  refine ps_X6_24_6 E hI ha (by decide) dX6_copyFrom_37 (fun H locs σ_10 hσ_10 hI => ?_)
  replace hF := q_letX hF hσ_10
  have fr_σ_10 := fr_σ_8.si hσ_10 ha rfl
  refine lv_aload_n hx hb dX6_copyFrom_40 rfl (lv_at hl 0 rfl) ?_
  refine gs_X6_32_6 E hI ha dX6_copyFrom_41 ?_
  refine lv_aload_n hx hb dX6_copyFrom_44 rfl (lv_at hl 1 rfl) ?_
  refine gs_X6_32_6 E hI hr1 dX6_copyFrom_45 ?_
  refine q_cv (q_rV4_1 (rest := []) E (hml.trans hl.1.symm) hI (c_X5_copyFrom l X σ_10 (q_rf X a 5) (q_rf X r1 5) (q_tk (k' := 5) hI ha rfl (Nat.succ_ne_zero _)) (q_tk (k' := 5) hI hr1 rfl (Nat.succ_ne_zero _))) kv_X6_45 (q_tk (k' := 5) hI ha rfl (Nat.succ_ne_zero _)) ⟨Nat.le_of_ble_eq_true rfl, Nat.le_of_ble_eq_true rfl⟩ (Nat.le_of_ble_eq_true rfl) dX6_copyFrom_48) hI (Nat.le_of_ble_eq_true rfl) (fun σ_12 H locs hpσ_12 hkσ_12 hI => ?_)
  have ahpσ_12 := hpσ_12.1
  have bhpσ_12 := hpσ_12.2
  clear hpσ_12
  have fr_σ_12 := fr_σ_10.call bhpσ_12 rfl rfl
  replace hF := q_letX hF ahpσ_12
  refine lv_aload_n hx hb dX6_copyFrom_51 rfl (lv_at hl 0 rfl) ?_
  refine gs_X6_36_6 E hI ha dX6_copyFrom_52 ?_
  refine lv_aload_n hx hb dX6_copyFrom_55 rfl (lv_at hl 1 rfl) ?_
  refine gs_X6_36_6 E hI hr1 dX6_copyFrom_56 ?_
  refine q_cv (q_rV4_1 (rest := []) E (hml.trans hl.1.symm) hI (c_X5_copyFrom l X σ_12 (q_rf X a 6) (q_rf X r1 6) (q_tk (k' := 5) hI ha rfl (Nat.succ_ne_zero _)) (q_tk (k' := 5) hI hr1 rfl (Nat.succ_ne_zero _))) kv_X6_45 (q_tk (k' := 5) hI ha rfl (Nat.succ_ne_zero _)) ⟨Nat.le_of_ble_eq_true rfl, Nat.le_of_ble_eq_true rfl⟩ (Nat.le_of_ble_eq_true rfl) dX6_copyFrom_59) hI (Nat.le_of_ble_eq_true rfl) (fun σ_14 H locs hpσ_14 hkσ_14 hI => ?_)
  have ahpσ_14 := hpσ_14.1
  have bhpσ_14 := hpσ_14.2
  clear hpσ_14
  have fr_σ_14 := fr_σ_12.call bhpσ_14 rfl rfl
  replace hF := q_letX hF ahpσ_14
  refine lv_aload_n hx hb dX6_copyFrom_62 rfl (lv_at hl 0 rfl) ?_
  refine gs_X6_39_6 E hI ha dX6_copyFrom_63 ?_
  refine lv_aload_n hx hb dX6_copyFrom_66 rfl (lv_at hl 1 rfl) ?_
  refine gs_X6_39_6 E hI hr1 dX6_copyFrom_67 ?_
  refine q_cv (q_rV4_1 (rest := []) E (hml.trans hl.1.symm) hI (c_X5_copyFrom l X σ_14 (q_rf X a 7) (q_rf X r1 7) (q_tk (k' := 5) hI ha rfl (Nat.succ_ne_zero _)) (q_tk (k' := 5) hI hr1 rfl (Nat.succ_ne_zero _))) kv_X6_45 (q_tk (k' := 5) hI ha rfl (Nat.succ_ne_zero _)) ⟨Nat.le_of_ble_eq_true rfl, Nat.le_of_ble_eq_true rfl⟩ (Nat.le_of_ble_eq_true rfl) dX6_copyFrom_70) hI (Nat.le_of_ble_eq_true rfl) (fun σ_16 H locs hpσ_16 hkσ_16 hI => ?_)
  have ahpσ_16 := hpσ_16.1
  have bhpσ_16 := hpσ_16.2
  clear hpσ_16
  have fr_σ_16 := fr_σ_14.call bhpσ_16 rfl rfl
  replace hF := q_letX hF ahpσ_16
  exact q_retv E hr hlk hI ⟨(hF.trans hout), fr_σ_16⟩ dX6_copyFrom_73

set_option maxRecDepth 100000 in
set_option maxHeartbeats 4000000 in
theorem c_X6_kindAfter (l : Launch) (X : XW) (σ : ST) (a : Nat) (v1 : Int32) (v2 : Int32) (ha : q_kd X a = 6) : Met l yX6_kindAfter (q_ws yX6_kindAfter cX6_kindAfter 3 (some .int)) (q_rm 1 22) (q_P X σ [.ref a, .int v1, .int v2]) (q_Qi X 9 σ (fun (r : Int32) (σ' : ST) => σ' = σ ∧ r = F_X6_kindAfter X σ a v1 v2)) 0 0 (q_reg X) := by
  refine q_met 9 (by first | exact rfl | decide +kernel) rfl (Nat.le_of_ble_eq_true rfl) (fun p e s m below meth c E hml hr hlk hI ls hl => ?_)
  have hx := E.1
  have hb := E.2.1
  have hl : lv_has ls 3 [(0, .ref a), (1, .int v1), (2, .int v2)] := hl
  obtain ⟨out, hout⟩ : ∃ o, o = F_X6_kindAfter X σ a v1 v2 := ⟨_, rfl⟩
  have hF := hout.symm
  unfold F_X6_kindAfter at hF
  refine lv_aload_n hx hb dX6_kindAfter_0 rfl (lv_at hl 0 rfl) ?_
  refine gs_X6_18_6 E hI ha dX6_kindAfter_1 ?_
  refine lv_topi (fun f_1 ef_1 => ?_)
  replace hF := q_letX hF ef_1
  have if_1 : f_1.toInt = (σ.1 a 2).toInt := congrArg Int32.toInt ef_1
  refine lv_iconst (v := 2) hx hb dX6_kindAfter_4 zki_2 ?_
  refine q_icmp_eq (A := f_1.toInt) (B := 2) E rfl (by decide) (tgt := 15) dX6_kindAfter_5 (by decide) (fun c_2 => ?_) (fun c_2 => ?_)
  · skip
    replace hF := q_ifp hF c_2
    refine lv_iload_n hx hb dX6_kindAfter_15 rfl (lv_at hl 1 rfl) ?_
    exact q_reti E hr hlk hI ⟨rfl, (hF.trans hout)⟩ dX6_kindAfter_16
  · skip
    replace hF := q_ifn hF c_2
    refine lv_aload_n hx hb dX6_kindAfter_8 rfl (lv_at hl 0 rfl) ?_
    refine gs_X6_9_6 E hI ha dX6_kindAfter_9 ?_
    refine lv_topi (fun f_3 ef_3 => ?_)
    replace hF := q_letX hF ef_3
    have if_3 : f_3.toInt = (σ.1 a 0).toInt := congrArg Int32.toInt ef_3
    have bf_3 : -2147483648 ≤ f_3.toInt ∧ f_3.toInt ≤ 10 := by rw [ef_3]; exact q_bd hI ha rfl
    refine q_if_gt (A := f_3.toInt) E rfl (tgt := 17) dX6_kindAfter_12 (by decide) (fun c_4 => ?_) (fun c_4 => ?_)
    · skip
      replace hF := q_ifp hF c_4
      refine lv_aload_n hx hb dX6_kindAfter_17 rfl (lv_at hl 0 rfl) ?_
      refine gs_X6_18_6 E hI ha dX6_kindAfter_18 ?_
      refine lv_topi (fun f_5 ef_5 => ?_)
      replace hF := q_letX hF ef_5
      have if_5 : f_5.toInt = (σ.1 a 2).toInt := congrArg Int32.toInt ef_5
      refine q_if_ne (A := f_5.toInt) E rfl (tgt := 30) dX6_kindAfter_21 (by decide) (fun c_6 => ?_) (fun c_6 => ?_)
      · skip
        replace hF := q_ifn hF c_6
        refine lv_iload_n hx hb dX6_kindAfter_30 rfl (lv_at hl 1 rfl) ?_
        refine lv_iload_n hx hb dX6_kindAfter_31 rfl (lv_at hl 2 rfl) ?_
        refine lv_isub hx hb dX6_kindAfter_32 ?_
        refine lv_topi (fun z_7 ez_7 => ?_)
        replace hF := q_letX hF ez_7
        refine lv_aload_n hx hb dX6_kindAfter_33 rfl (lv_at hl 0 rfl) ?_
        refine gs_X6_9_6 E hI ha dX6_kindAfter_34 ?_
        refine lv_topi (fun f_8 ef_8 => ?_)
        replace hF := q_letX hF ef_8
        have if_8 : f_8.toInt = (σ.1 a 0).toInt := congrArg Int32.toInt ef_8
        have bf_8 : -2147483648 ≤ f_8.toInt ∧ f_8.toInt ≤ 10 := by rw [ef_8]; exact q_bd hI ha rfl
        refine q_ci (q_runS (As := [.int z_7, .int f_8]) (rest := []) E (hml.trans hl.1.symm) hI (c_J9_floorMod_7cf53 l X σ z_7 f_8 (q_ne0 (by first | (clear if_1 c_2 if_5 c_6 bf_8; omega) | omega))) ks_X6_49 rfl ⟨Nat.le_of_ble_eq_true rfl, Nat.le_of_ble_eq_true rfl⟩ ⟨Nat.le_refl _, Nat.le_refl _⟩ rfl (Nat.le_of_ble_eq_true rfl) dX6_kindAfter_37) hI (Nat.le_of_ble_eq_true rfl) (fun r_9 σ_10 H locs hpσ_10 hkσ_10 hI => ?_)
        have ahpσ_10 := hpσ_10.1
        have bhpσ_10 := hpσ_10.2
        clear hpσ_10
        replace hI := q_Irw ahpσ_10 hI
        replace hF := q_letX hF bhpσ_10
        exact q_reti E hr hlk hI ⟨rfl, (hF.trans hout)⟩ dX6_kindAfter_40
      · skip
        replace hF := q_ifp hF c_6
        refine lv_iload_n hx hb dX6_kindAfter_24 rfl (lv_at hl 1 rfl) ?_
        refine lv_iload_n hx hb dX6_kindAfter_25 rfl (lv_at hl 2 rfl) ?_
        refine lv_iadd hx hb dX6_kindAfter_26 ?_
        refine lv_topi (fun z_11 ez_11 => ?_)
        replace hF := q_letX hF ez_11
        refine lv_goto (tgt := 33) hx hb dX6_kindAfter_27 (by decide) ?_
        refine lv_aload_n hx hb dX6_kindAfter_33 rfl (lv_at hl 0 rfl) ?_
        refine gs_X6_9_6 E hI ha dX6_kindAfter_34 ?_
        refine lv_topi (fun f_12 ef_12 => ?_)
        replace hF := q_letX hF ef_12
        have if_12 : f_12.toInt = (σ.1 a 0).toInt := congrArg Int32.toInt ef_12
        have bf_12 : -2147483648 ≤ f_12.toInt ∧ f_12.toInt ≤ 10 := by rw [ef_12]; exact q_bd hI ha rfl
        refine q_ci (q_runS (As := [.int z_11, .int f_12]) (rest := []) E (hml.trans hl.1.symm) hI (c_J9_floorMod_7cf53 l X σ z_11 f_12 (q_ne0 (by first | (clear if_1 c_2 if_5 c_6 bf_12; omega) | omega))) ks_X6_49 rfl ⟨Nat.le_of_ble_eq_true rfl, Nat.le_of_ble_eq_true rfl⟩ ⟨Nat.le_refl _, Nat.le_refl _⟩ rfl (Nat.le_of_ble_eq_true rfl) dX6_kindAfter_37) hI (Nat.le_of_ble_eq_true rfl) (fun r_13 σ_14 H locs hpσ_14 hkσ_14 hI => ?_)
        have ahpσ_14 := hpσ_14.1
        have bhpσ_14 := hpσ_14.2
        clear hpσ_14
        replace hI := q_Irw ahpσ_14 hI
        replace hF := q_letX hF bhpσ_14
        exact q_reti E hr hlk hI ⟨rfl, (hF.trans hout)⟩ dX6_kindAfter_40
    · skip
      replace hF := q_ifn hF (Int.not_lt.mpr c_4)
      refine lv_iload_n hx hb dX6_kindAfter_15 rfl (lv_at hl 1 rfl) ?_
      exact q_reti E hr hlk hI ⟨rfl, (hF.trans hout)⟩ dX6_kindAfter_16

set_option maxRecDepth 100000 in
set_option maxHeartbeats 4000000 in
theorem c_X6_playerAfter (l : Launch) (X : XW) (σ : ST) (a : Nat) (v1 : Int32) (v2 : Int32) (ha : q_kd X a = 6) : Met l yX6_playerAfter (q_ws yX6_playerAfter cX6_playerAfter 3 (some .int)) (q_rm 1 22) (q_P X σ [.ref a, .int v1, .int v2]) (q_Qi X 9 σ (fun (r : Int32) (σ' : ST) => σ' = σ ∧ r = F_X6_playerAfter X σ a v1 v2)) 0 0 (q_reg X) := by
  refine q_met 9 (by first | exact rfl | decide +kernel) rfl (Nat.le_of_ble_eq_true rfl) (fun p e s m below meth c E hml hr hlk hI ls hl => ?_)
  have hx := E.1
  have hb := E.2.1
  have hl : lv_has ls 3 [(0, .ref a), (1, .int v1), (2, .int v2)] := hl
  obtain ⟨out, hout⟩ : ∃ o, o = F_X6_playerAfter X σ a v1 v2 := ⟨_, rfl⟩
  have hF := hout.symm
  unfold F_X6_playerAfter at hF
  refine lv_aload_n hx hb dX6_playerAfter_0 rfl (lv_at hl 0 rfl) ?_
  refine gs_X6_24_6 E hI ha dX6_playerAfter_1 ?_
  refine lv_topi (fun f_1 ef_1 => ?_)
  replace hF := q_letX hF ef_1
  have if_1 : f_1.toInt = (σ.1 a 4).toInt := congrArg Int32.toInt ef_1
  refine q_if_gt (A := f_1.toInt) E rfl (tgt := 11) dX6_playerAfter_4 (by decide) (fun c_2 => ?_) (fun c_2 => ?_)
  · skip
    replace hF := q_ifp hF c_2
    refine lv_iload_n hx hb dX6_playerAfter_11 rfl (lv_at hl 1 rfl) ?_
    refine lv_iload_n hx hb dX6_playerAfter_12 rfl (lv_at hl 2 rfl) ?_
    refine lv_iadd hx hb dX6_playerAfter_13 ?_
    refine lv_topi (fun z_3 ez_3 => ?_)
    replace hF := q_letX hF ez_3
    refine lv_aload_n hx hb dX6_playerAfter_14 rfl (lv_at hl 0 rfl) ?_
    refine gs_X6_24_6 E hI ha dX6_playerAfter_15 ?_
    refine lv_topi (fun f_4 ef_4 => ?_)
    replace hF := q_letX hF ef_4
    have if_4 : f_4.toInt = (σ.1 a 4).toInt := congrArg Int32.toInt ef_4
    refine q_ci (q_runS (As := [.int z_3, .int f_4]) (rest := []) E (hml.trans hl.1.symm) hI (c_J9_floorMod_7cf53 l X σ z_3 f_4 (q_ne0 (by omega))) ks_X6_49 rfl ⟨Nat.le_of_ble_eq_true rfl, Nat.le_of_ble_eq_true rfl⟩ ⟨Nat.le_refl _, Nat.le_refl _⟩ rfl (Nat.le_of_ble_eq_true rfl) dX6_playerAfter_18) hI (Nat.le_of_ble_eq_true rfl) (fun r_5 σ_6 H locs hpσ_6 hkσ_6 hI => ?_)
    have ahpσ_6 := hpσ_6.1
    have bhpσ_6 := hpσ_6.2
    clear hpσ_6
    replace hI := q_Irw ahpσ_6 hI
    replace hF := q_letX hF bhpσ_6
    exact q_reti E hr hlk hI ⟨rfl, (hF.trans hout)⟩ dX6_playerAfter_21
  · skip
    replace hF := q_ifn hF (Int.not_lt.mpr c_2)
    refine lv_iconst (v := 0) hx hb dX6_playerAfter_7 zki_0 ?_
    refine lv_goto (tgt := 21) hx hb dX6_playerAfter_8 (by decide) ?_
    exact q_reti E hr hlk hI ⟨rfl, (hF.trans hout)⟩ dX6_playerAfter_21

set_option maxRecDepth 100000 in
set_option maxHeartbeats 4000000 in
theorem c_X6_kindAfterDoubt (l : Launch) (X : XW) (σ : ST) (a : Nat) (v1 : Int32) (ha : q_kd X a = 6) : Met l yX6_kindAfterDoubt (q_ws yX6_kindAfterDoubt cX6_kindAfterDoubt 2 (some .int)) (q_rm 1 22) (q_P X σ [.ref a, .int v1]) (q_Qi X 9 σ (fun (r : Int32) (σ' : ST) => σ' = σ ∧ r = F_X6_kindAfterDoubt X σ a v1)) 0 0 (q_reg X) := by
  refine q_met 9 (by first | exact rfl | decide +kernel) rfl (Nat.le_of_ble_eq_true rfl) (fun p e s m below meth c E hml hr hlk hI ls hl => ?_)
  have hx := E.1
  have hb := E.2.1
  have hl : lv_has ls 2 [(0, .ref a), (1, .int v1)] := hl
  obtain ⟨out, hout⟩ : ∃ o, o = F_X6_kindAfterDoubt X σ a v1 := ⟨_, rfl⟩
  have hF := hout.symm
  unfold F_X6_kindAfterDoubt at hF
  refine lv_aload_n hx hb dX6_kindAfterDoubt_0 rfl (lv_at hl 0 rfl) ?_
  refine gs_X6_9_6 E hI ha dX6_kindAfterDoubt_1 ?_
  refine lv_topi (fun f_1 ef_1 => ?_)
  replace hF := q_letX hF ef_1
  have if_1 : f_1.toInt = (σ.1 a 0).toInt := congrArg Int32.toInt ef_1
  have bf_1 : -2147483648 ≤ f_1.toInt ∧ f_1.toInt ≤ 10 := by rw [ef_1]; exact q_bd hI ha rfl
  refine q_if_gt (A := f_1.toInt) E rfl (tgt := 11) dX6_kindAfterDoubt_4 (by decide) (fun c_2 => ?_) (fun c_2 => ?_)
  · skip
    replace hF := q_ifp hF c_2
    refine lv_aload_n hx hb dX6_kindAfterDoubt_11 rfl (lv_at hl 0 rfl) ?_
    refine gs_X6_18_6 E hI ha dX6_kindAfterDoubt_12 ?_
    refine lv_topi (fun f_3 ef_3 => ?_)
    replace hF := q_letX hF ef_3
    have if_3 : f_3.toInt = (σ.1 a 2).toInt := congrArg Int32.toInt ef_3
    refine lv_iconst (v := 1) hx hb dX6_kindAfterDoubt_15 zki_1 ?_
    refine q_icmp_ne (A := f_3.toInt) (B := 1) E rfl (by decide) (tgt := 25) dX6_kindAfterDoubt_16 (by decide) (fun c_4 => ?_) (fun c_4 => ?_)
    · skip
      replace hF := q_ifn hF c_4
      refine lv_iload_n hx hb dX6_kindAfterDoubt_25 rfl (lv_at hl 1 rfl) ?_
      refine lv_iconst (v := 1) hx hb dX6_kindAfterDoubt_26 zki_1 ?_
      refine lv_iadd hx hb dX6_kindAfterDoubt_27 ?_
      refine lv_topi (fun z_5 ez_5 => ?_)
      replace hF := q_letX hF ez_5
      refine lv_aload_n hx hb dX6_kindAfterDoubt_28 rfl (lv_at hl 0 rfl) ?_
      refine gs_X6_9_6 E hI ha dX6_kindAfterDoubt_29 ?_
      refine lv_topi (fun f_6 ef_6 => ?_)
      replace hF := q_letX hF ef_6
      have if_6 : f_6.toInt = (σ.1 a 0).toInt := congrArg Int32.toInt ef_6
      have bf_6 : -2147483648 ≤ f_6.toInt ∧ f_6.toInt ≤ 10 := by rw [ef_6]; exact q_bd hI ha rfl
      refine q_ci (q_runS (As := [.int z_5, .int f_6]) (rest := []) E (hml.trans hl.1.symm) hI (c_J9_floorMod_7cf53 l X σ z_5 f_6 (q_ne0 (by first | (clear if_3 c_4 bf_6; omega) | omega))) ks_X6_49 rfl ⟨Nat.le_of_ble_eq_true rfl, Nat.le_of_ble_eq_true rfl⟩ ⟨Nat.le_refl _, Nat.le_refl _⟩ rfl (Nat.le_of_ble_eq_true rfl) dX6_kindAfterDoubt_32) hI (Nat.le_of_ble_eq_true rfl) (fun r_7 σ_8 H locs hpσ_8 hkσ_8 hI => ?_)
      have ahpσ_8 := hpσ_8.1
      have bhpσ_8 := hpσ_8.2
      clear hpσ_8
      replace hI := q_Irw ahpσ_8 hI
      replace hF := q_letX hF bhpσ_8
      exact q_reti E hr hlk hI ⟨rfl, (hF.trans hout)⟩ dX6_kindAfterDoubt_35
    · skip
      replace hF := q_ifp hF c_4
      refine lv_iload_n hx hb dX6_kindAfterDoubt_19 rfl (lv_at hl 1 rfl) ?_
      refine lv_iconst (v := 1) hx hb dX6_kindAfterDoubt_20 zki_1 ?_
      refine lv_isub hx hb dX6_kindAfterDoubt_21 ?_
      refine lv_topi (fun z_9 ez_9 => ?_)
      replace hF := q_letX hF ez_9
      refine lv_goto (tgt := 28) hx hb dX6_kindAfterDoubt_22 (by decide) ?_
      refine lv_aload_n hx hb dX6_kindAfterDoubt_28 rfl (lv_at hl 0 rfl) ?_
      refine gs_X6_9_6 E hI ha dX6_kindAfterDoubt_29 ?_
      refine lv_topi (fun f_10 ef_10 => ?_)
      replace hF := q_letX hF ef_10
      have if_10 : f_10.toInt = (σ.1 a 0).toInt := congrArg Int32.toInt ef_10
      have bf_10 : -2147483648 ≤ f_10.toInt ∧ f_10.toInt ≤ 10 := by rw [ef_10]; exact q_bd hI ha rfl
      refine q_ci (q_runS (As := [.int z_9, .int f_10]) (rest := []) E (hml.trans hl.1.symm) hI (c_J9_floorMod_7cf53 l X σ z_9 f_10 (q_ne0 (by first | (clear if_3 c_4 bf_10; omega) | omega))) ks_X6_49 rfl ⟨Nat.le_of_ble_eq_true rfl, Nat.le_of_ble_eq_true rfl⟩ ⟨Nat.le_refl _, Nat.le_refl _⟩ rfl (Nat.le_of_ble_eq_true rfl) dX6_kindAfterDoubt_32) hI (Nat.le_of_ble_eq_true rfl) (fun r_11 σ_12 H locs hpσ_12 hkσ_12 hI => ?_)
      have ahpσ_12 := hpσ_12.1
      have bhpσ_12 := hpσ_12.2
      clear hpσ_12
      replace hI := q_Irw ahpσ_12 hI
      replace hF := q_letX hF bhpσ_12
      exact q_reti E hr hlk hI ⟨rfl, (hF.trans hout)⟩ dX6_kindAfterDoubt_35
  · skip
    replace hF := q_ifn hF (Int.not_lt.mpr c_2)
    refine lv_iload_n hx hb dX6_kindAfterDoubt_7 rfl (lv_at hl 1 rfl) ?_
    refine lv_goto (tgt := 35) hx hb dX6_kindAfterDoubt_8 (by decide) ?_
    exact q_reti E hr hlk hI ⟨rfl, (hF.trans hout)⟩ dX6_kindAfterDoubt_35
end
/-! FROM 13.game.a.lean.txt -/
section
section QS
variable {p : Program} {l : Launch} {e : Env} {R : Room} {s : State} {m : MethodId} {args : Array Value} {below : List Frame} {meth : Method} {c : Code} {H : Heap} {locs : List Loc} {cells slots : Nat} {Q : State → Prop} {cc : ByteArray} {X : XW} {n : Nat} {σ0 σ : ST} {H0 : Heap} {pc : Nat} {ls : Array Slot} {rest : List Value} {a : Nat}
theorem gs_X0_12_1 (E : q_E p c cc s m args RX0 X) (hI : q_I X n σ0 H0 locs σ H) (ha : q_kd X a = 1) (hdg : decode cc pc = .ok (.getfield 12, 3)) (kk : W p l e R s m args below meth c H locs cells slots Q (F0 m (pc + 3) ls (.ref (q_rf X a 0) :: rest))) : W p l e R s m args below meth c H locs cells slots Q (F0 m pc ls (.ref a :: rest)) :=
  q_getf (ref := "CheatHeap$Game") E hI ha ⟨rfl, by decide⟩ (show vwCl[0]? = some (RX0, TX0, 15) from rfl) q_inX0 (f := 0) (by decide) (q_in_t1 (i := 228) (by first | rfl | decide +kernel) rfl) (Or.inl rfl) rfl hdg kk
theorem kv_X0_80 : q_okV RX0 80 RX6 yX6_reset cX6_reset 1 none 0 := ⟨(q_in_t3 (i := 117) (by first | rfl | decide +kernel) rfl), (q_in_t3 (i := 118) (by first | rfl | decide +kernel) rfl), (q_in_t3 (i := 119) (by first | rfl | decide +kernel) rfl), (q_in_t1 (i := 3) (by first | rfl | decide +kernel) rfl), (q_in_t3 (i := 120) (by first | rfl | decide +kernel) rfl), ⟨rfl, by decide, by decide, rfl⟩⟩
theorem gs_X0_21_1 (E : q_E p c cc s m args RX0 X) (hI : q_I X n σ0 H0 locs σ H) (ha : q_kd X a = 1) (hdg : decode cc pc = .ok (.getfield 21, 3)) (kk : W p l e R s m args below meth c H locs cells slots Q (F0 m (pc + 3) ls (.ref (q_rf X a 1) :: rest))) : W p l e R s m args below meth c H locs cells slots Q (F0 m pc ls (.ref a :: rest)) :=
  q_getf (ref := "CheatHeap$Game") E hI ha ⟨rfl, by decide⟩ (show vwCl[0]? = some (RX0, TX0, 15) from rfl) q_inX0 (f := 1) (by decide) (q_in_t1 (i := 232) (by first | rfl | decide +kernel) rfl) (Or.inl rfl) rfl hdg kk
theorem kv_X0_83 : q_okV RX0 83 RX1 yX1_reset cX1_reset 1 none 0 := ⟨(q_in_t3 (i := 125) (by first | rfl | decide +kernel) rfl), (q_in_t3 (i := 126) (by first | rfl | decide +kernel) rfl), (q_in_t3 (i := 127) (by first | rfl | decide +kernel) rfl), (q_in_t1 (i := 6) (by first | rfl | decide +kernel) rfl), (q_in_t3 (i := 128) (by first | rfl | decide +kernel) rfl), ⟨rfl, by decide, by decide, rfl⟩⟩
theorem gs_X0_28_1 (E : q_E p c cc s m args RX0 X) (hI : q_I X n σ0 H0 locs σ H) (ha : q_kd X a = 1) (hdg : decode cc pc = .ok (.getfield 28, 3)) (kk : W p l e R s m args below meth c H locs cells slots Q (F0 m (pc + 3) ls (.ref (q_rf X a 2) :: rest))) : W p l e R s m args below meth c H locs cells slots Q (F0 m pc ls (.ref a :: rest)) :=
  q_getf (ref := "CheatHeap$Game") E hI ha ⟨rfl, by decide⟩ (show vwCl[0]? = some (RX0, TX0, 15) from rfl) q_inX0 (f := 2) (by decide) (q_in_t1 (i := 236) (by first | rfl | decide +kernel) rfl) (Or.inl rfl) rfl hdg kk
theorem kv_X0_84 : q_okV RX0 84 RX2 yX2_clear cX2_clear 1 none 0 := ⟨(q_in_t3 (i := 130) (by first | rfl | decide +kernel) rfl), (q_in_t3 (i := 131) (by first | rfl | decide +kernel) rfl), (q_in_t3 (i := 132) (by first | rfl | decide +kernel) rfl), (q_in_t1 (i := 7) (by first | rfl | decide +kernel) rfl), (q_in_t3 (i := 133) (by first | rfl | decide +kernel) rfl), ⟨rfl, by decide, by decide, rfl⟩⟩
theorem gs_X0_35_1 (E : q_E p c cc s m args RX0 X) (hI : q_I X n σ0 H0 locs σ H) (ha : q_kd X a = 1) (hdg : decode cc pc = .ok (.getfield 35, 3)) (kk : W p l e R s m args below meth c H locs cells slots Q (F0 m (pc + 3) ls (.ref (q_rf X a 3) :: rest))) : W p l e R s m args below meth c H locs cells slots Q (F0 m pc ls (.ref a :: rest)) :=
  q_getf (ref := "CheatHeap$Game") E hI ha ⟨rfl, by decide⟩ (show vwCl[0]? = some (RX0, TX0, 15) from rfl) q_inX0 (f := 3) (by decide) (q_in_t1 (i := 239) (by first | rfl | decide +kernel) rfl) (Or.inl rfl) rfl hdg kk
theorem kv_X0_87 : q_okV RX0 87 RX8 yX8_clear cX8_clear 1 none 0 := ⟨(q_in_t3 (i := 134) (by first | rfl | decide +kernel) rfl), (q_in_t3 (i := 135) (by first | rfl | decide +kernel) rfl), (q_in_t3 (i := 136) (by first | rfl | decide +kernel) rfl), (q_in_t1 (i := 8) (by first | rfl | decide +kernel) rfl), (q_in_t3 (i := 137) (by first | rfl | decide +kernel) rfl), ⟨rfl, by decide, by decide, rfl⟩⟩
theorem ps_X0_39_1 (E : q_E p c cc s m args RX0 X) (hI : q_I X n σ0 H0 locs σ H) (ha : q_kd X a = 1) {v : Int32} (hcl : n < 9) (hdg : decode cc pc = .ok (.putfield 39, 3)) (kk : ∀ (H1 : Heap) (locs1 : List Loc) (σ1 : ST), σ1 = q_si σ a 4 v → q_I X n σ0 H0 locs1 σ1 H1 → W p l e R s m args below meth c H1 locs1 cells slots Q (F0 m (pc + 3) ls rest)) : W p l e R s m args below meth c H locs cells slots Q (F0 m pc ls (.int v :: .ref a :: rest)) :=
  q_puti (ref := "CheatHeap$Game") E hI ha ⟨rfl, by decide⟩ (show vwCl[0]? = some (RX0, TX0, 15) from rfl) q_inX0 tyX0_ok nmX0 (f := 4) (by decide) (q_in_t2 (i := 2) (by first | rfl | decide +kernel) rfl) (Or.inl rfl) rfl rfl hcl hdg (q_inU rfl) (Or.inl rfl) (fun H1 l1 h => kk H1 l1 _ rfl h)
theorem ps_X0_43_1 (E : q_E p c cc s m args RX0 X) (hI : q_I X n σ0 H0 locs σ H) (ha : q_kd X a = 1) {v : Int32} (hcl : n < 9) (hdg : decode cc pc = .ok (.putfield 43, 3)) (kk : ∀ (H1 : Heap) (locs1 : List Loc) (σ1 : ST), σ1 = q_si σ a 5 v → q_I X n σ0 H0 locs1 σ1 H1 → W p l e R s m args below meth c H1 locs1 cells slots Q (F0 m (pc + 3) ls rest)) : W p l e R s m args below meth c H locs cells slots Q (F0 m pc ls (.int v :: .ref a :: rest)) :=
  q_puti (ref := "CheatHeap$Game") E hI ha ⟨rfl, by decide⟩ (show vwCl[0]? = some (RX0, TX0, 15) from rfl) q_inX0 tyX0_ok nmX0 (f := 5) (by decide) (q_in_t2 (i := 5) (by first | rfl | decide +kernel) rfl) (Or.inl rfl) rfl rfl hcl hdg (q_inU rfl) (Or.inl rfl) (fun H1 l1 h => kk H1 l1 _ rfl h)
theorem ps_X0_46_1 (E : q_E p c cc s m args RX0 X) (hI : q_I X n σ0 H0 locs σ H) (ha : q_kd X a = 1) {v : Int32} (hcl : n < 9) (hdg : decode cc pc = .ok (.putfield 46, 3)) (kk : ∀ (H1 : Heap) (locs1 : List Loc) (σ1 : ST), σ1 = q_si σ a 6 v → q_I X n σ0 H0 locs1 σ1 H1 → W p l e R s m args below meth c H1 locs1 cells slots Q (F0 m (pc + 3) ls rest)) : W p l e R s m args below meth c H locs cells slots Q (F0 m pc ls (.int v :: .ref a :: rest)) :=
  q_puti (ref := "CheatHeap$Game") E hI ha ⟨rfl, by decide⟩ (show vwCl[0]? = some (RX0, TX0, 15) from rfl) q_inX0 tyX0_ok nmX0 (f := 6) (by decide) (q_in_t2 (i := 8) (by first | rfl | decide +kernel) rfl) (Or.inl rfl) rfl rfl hcl hdg (q_inU rfl) (Or.inl rfl) (fun H1 l1 h => kk H1 l1 _ rfl h)
theorem ps_X0_49_1 (E : q_E p c cc s m args RX0 X) (hI : q_I X n σ0 H0 locs σ H) (ha : q_kd X a = 1) {v : Int32} (hcl : n < 9) (h1 : 0 ≤ v.toInt) (h2 : v.toInt ≤ 1) (hdg : decode cc pc = .ok (.putfield 49, 3)) (kk : ∀ (H1 : Heap) (locs1 : List Loc) (σ1 : ST), σ1 = q_si σ a 7 v → q_I X n σ0 H0 locs1 σ1 H1 → W p l e R s m args below meth c H1 locs1 cells slots Q (F0 m (pc + 3) ls rest)) : W p l e R s m args below meth c H locs cells slots Q (F0 m pc ls (.int v :: .ref a :: rest)) :=
  q_puti (ref := "CheatHeap$Game") E hI ha ⟨rfl, by decide⟩ (show vwCl[0]? = some (RX0, TX0, 15) from rfl) q_inX0 tyX0_ok nmX0 (f := 7) (by decide) (q_in_t2 (i := 11) (by first | rfl | decide +kernel) rfl) (Or.inl rfl) rfl rfl hcl hdg (q_inB rfl h1 h2) (Or.inr ⟨rfl, h1, h2⟩) (fun H1 l1 h => kk H1 l1 _ rfl h)
theorem kv_X0_88 : q_okV RX0 88 RX6 yX6_copyFrom cX6_copyFrom 2 none 1 := ⟨(q_in_t4 (i := 129) (by first | rfl | decide +kernel) rfl), (q_in_t4 (i := 130) (by first | rfl | decide +kernel) rfl), (q_in_t4 (i := 131) (by first | rfl | decide +kernel) rfl), (q_in_t1 (i := 3) (by first | rfl | decide +kernel) rfl), (q_in_t4 (i := 132) (by first | rfl | decide +kernel) rfl), ⟨rfl, by decide, by decide, rfl⟩⟩
theorem kv_X0_92 : q_okV RX0 92 RX1 yX1_copyFrom cX1_copyFrom 2 none 1 := ⟨(q_in_t4 (i := 137) (by first | rfl | decide +kernel) rfl), (q_in_t4 (i := 138) (by first | rfl | decide +kernel) rfl), (q_in_t4 (i := 139) (by first | rfl | decide +kernel) rfl), (q_in_t1 (i := 6) (by first | rfl | decide +kernel) rfl), (q_in_t4 (i := 140) (by first | rfl | decide +kernel) rfl), ⟨rfl, by decide, by decide, rfl⟩⟩
theorem kv_X0_95 : q_okV RX0 95 RX2 yX2_copyFrom cX2_copyFrom 2 none 1 := ⟨(q_in_t4 (i := 142) (by first | rfl | decide +kernel) rfl), (q_in_t4 (i := 143) (by first | rfl | decide +kernel) rfl), (q_in_t4 (i := 144) (by first | rfl | decide +kernel) rfl), (q_in_t1 (i := 7) (by first | rfl | decide +kernel) rfl), (q_in_t4 (i := 145) (by first | rfl | decide +kernel) rfl), ⟨rfl, by decide, by decide, rfl⟩⟩
theorem kv_X0_98 : q_okV RX0 98 RX8 yX8_copyFrom cX8_copyFrom 2 none 1 := ⟨(q_in_t4 (i := 147) (by first | rfl | decide +kernel) rfl), (q_in_t4 (i := 148) (by first | rfl | decide +kernel) rfl), (q_in_t4 (i := 149) (by first | rfl | decide +kernel) rfl), (q_in_t1 (i := 8) (by first | rfl | decide +kernel) rfl), (q_in_t4 (i := 150) (by first | rfl | decide +kernel) rfl), ⟨rfl, by decide, by decide, rfl⟩⟩
theorem gs_X0_39_1 (E : q_E p c cc s m args RX0 X) (hI : q_I X n σ0 H0 locs σ H) (ha : q_kd X a = 1) (hdg : decode cc pc = .ok (.getfield 39, 3)) (kk : W p l e R s m args below meth c H locs cells slots Q (F0 m (pc + 3) ls (.int (σ.1 a 4) :: rest))) : W p l e R s m args below meth c H locs cells slots Q (F0 m pc ls (.ref a :: rest)) :=
  q_getf (ref := "CheatHeap$Game") E hI ha ⟨rfl, by decide⟩ (show vwCl[0]? = some (RX0, TX0, 15) from rfl) q_inX0 (f := 4) (by decide) (q_in_t2 (i := 2) (by first | rfl | decide +kernel) rfl) (Or.inl rfl) rfl hdg kk
theorem gs_X0_43_1 (E : q_E p c cc s m args RX0 X) (hI : q_I X n σ0 H0 locs σ H) (ha : q_kd X a = 1) (hdg : decode cc pc = .ok (.getfield 43, 3)) (kk : W p l e R s m args below meth c H locs cells slots Q (F0 m (pc + 3) ls (.int (σ.1 a 5) :: rest))) : W p l e R s m args below meth c H locs cells slots Q (F0 m pc ls (.ref a :: rest)) :=
  q_getf (ref := "CheatHeap$Game") E hI ha ⟨rfl, by decide⟩ (show vwCl[0]? = some (RX0, TX0, 15) from rfl) q_inX0 (f := 5) (by decide) (q_in_t2 (i := 5) (by first | rfl | decide +kernel) rfl) (Or.inl rfl) rfl hdg kk
theorem gs_X0_46_1 (E : q_E p c cc s m args RX0 X) (hI : q_I X n σ0 H0 locs σ H) (ha : q_kd X a = 1) (hdg : decode cc pc = .ok (.getfield 46, 3)) (kk : W p l e R s m args below meth c H locs cells slots Q (F0 m (pc + 3) ls (.int (σ.1 a 6) :: rest))) : W p l e R s m args below meth c H locs cells slots Q (F0 m pc ls (.ref a :: rest)) :=
  q_getf (ref := "CheatHeap$Game") E hI ha ⟨rfl, by decide⟩ (show vwCl[0]? = some (RX0, TX0, 15) from rfl) q_inX0 (f := 6) (by decide) (q_in_t2 (i := 8) (by first | rfl | decide +kernel) rfl) (Or.inl rfl) rfl hdg kk
theorem gs_X0_49_1 (E : q_E p c cc s m args RX0 X) (hI : q_I X n σ0 H0 locs σ H) (ha : q_kd X a = 1) (hdg : decode cc pc = .ok (.getfield 49, 3)) (kk : W p l e R s m args below meth c H locs cells slots Q (F0 m (pc + 3) ls (.int (σ.1 a 7) :: rest))) : W p l e R s m args below meth c H locs cells slots Q (F0 m pc ls (.ref a :: rest)) :=
  q_getf (ref := "CheatHeap$Game") E hI ha ⟨rfl, by decide⟩ (show vwCl[0]? = some (RX0, TX0, 15) from rfl) q_inX0 (f := 7) (by decide) (q_in_t2 (i := 11) (by first | rfl | decide +kernel) rfl) (Or.inl rfl) rfl hdg kk
theorem gs_X0_58_1 (E : q_E p c cc s m args RX0 X) (hI : q_I X n σ0 H0 locs σ H) (ha : q_kd X a = 1) (hdg : decode cc pc = .ok (.getfield 58, 3)) (kk : W p l e R s m args below meth c H locs cells slots Q (F0 m (pc + 3) ls (.ref (q_rf X a 8) :: rest))) : W p l e R s m args below meth c H locs cells slots Q (F0 m pc ls (.ref a :: rest)) :=
  q_getf (ref := "CheatHeap$Game") E hI ha ⟨rfl, by decide⟩ (show vwCl[0]? = some (RX0, TX0, 15) from rfl) q_inX0 (f := 8) (by decide) (q_in_t2 (i := 14) (by first | rfl | decide +kernel) rfl) (Or.inl rfl) rfl hdg kk
theorem kv_X0_101 : q_okV RX0 101 RX5 yX5_clear cX5_clear 2 none 0 := ⟨(q_in_t5 (i := 78) (by first | rfl | decide +kernel) rfl), (q_in_t3 (i := 122) (by first | rfl | decide +kernel) rfl), (q_in_t3 (i := 123) (by first | rfl | decide +kernel) rfl), (q_in_t1 (i := 4) (by first | rfl | decide +kernel) rfl), (q_in_t3 (i := 124) (by first | rfl | decide +kernel) rfl), ⟨rfl, by decide, by decide, rfl⟩⟩
theorem ps_X0_62_1 (E : q_E p c cc s m args RX0 X) (hI : q_I X n σ0 H0 locs σ H) (ha : q_kd X a = 1) {v : Int32} (hcl : n < 9) (hdg : decode cc pc = .ok (.putfield 62, 3)) (kk : ∀ (H1 : Heap) (locs1 : List Loc) (σ1 : ST), σ1 = q_si σ a 9 v → q_I X n σ0 H0 locs1 σ1 H1 → W p l e R s m args below meth c H1 locs1 cells slots Q (F0 m (pc + 3) ls rest)) : W p l e R s m args below meth c H locs cells slots Q (F0 m pc ls (.int v :: .ref a :: rest)) :=
  q_puti (ref := "CheatHeap$Game") E hI ha ⟨rfl, by decide⟩ (show vwCl[0]? = some (RX0, TX0, 15) from rfl) q_inX0 tyX0_ok nmX0 (f := 9) (by decide) (q_in_t2 (i := 15) (by first | rfl | decide +kernel) rfl) (Or.inl rfl) rfl rfl hcl hdg (q_inU rfl) (Or.inl rfl) (fun H1 l1 h => kk H1 l1 _ rfl h)
theorem kv_X0_102 : q_okV RX0 102 RX5 yX5_add cX5_add 3 none 2 := ⟨(q_in_t5 (i := 83) (by first | rfl | decide +kernel) rfl), (q_in_t4 (i := 113) (by first | rfl | decide +kernel) rfl), (q_in_t4 (i := 114) (by first | rfl | decide +kernel) rfl), (q_in_t1 (i := 4) (by first | rfl | decide +kernel) rfl), (q_in_t4 (i := 115) (by first | rfl | decide +kernel) rfl), ⟨rfl, by decide, by decide, rfl⟩⟩
theorem gs_X0_62_1 (E : q_E p c cc s m args RX0 X) (hI : q_I X n σ0 H0 locs σ H) (ha : q_kd X a = 1) (hdg : decode cc pc = .ok (.getfield 62, 3)) (kk : W p l e R s m args below meth c H locs cells slots Q (F0 m (pc + 3) ls (.int (σ.1 a 9) :: rest))) : W p l e R s m args below meth c H locs cells slots Q (F0 m pc ls (.ref a :: rest)) :=
  q_getf (ref := "CheatHeap$Game") E hI ha ⟨rfl, by decide⟩ (show vwCl[0]? = some (RX0, TX0, 15) from rfl) q_inX0 (f := 9) (by decide) (q_in_t2 (i := 15) (by first | rfl | decide +kernel) rfl) (Or.inl rfl) rfl hdg kk
theorem gs_X0_106_6 (E : q_E p c cc s m args RX0 X) (hI : q_I X n σ0 H0 locs σ H) (ha : q_kd X a = 6) (hdg : decode cc pc = .ok (.getfield 106, 3)) (kk : W p l e R s m args below meth c H locs cells slots Q (F0 m (pc + 3) ls (.int (σ.1 a 0) :: rest))) : W p l e R s m args below meth c H locs cells slots Q (F0 m pc ls (.ref a :: rest)) :=
  q_getf (ref := "CheatHeap$Rules") E hI ha ⟨rfl, by decide⟩ (show vwCl[5]? = some (RX6, TX6, 8) from rfl) q_inX6 (f := 0) (by decide) (q_in_t1 (i := 59) (by first | rfl | decide +kernel) rfl) (Or.inl rfl) rfl hdg kk
theorem kv_X0_109 : q_okV RX0 109 RX1 yX1_heldBy cX1_heldBy 3 (some .int) 2 := ⟨(q_in_t5 (i := 88) (by first | rfl | decide +kernel) rfl), (q_in_t5 (i := 37) (by first | rfl | decide +kernel) rfl), (q_in_t5 (i := 38) (by first | rfl | decide +kernel) rfl), (q_in_t1 (i := 6) (by first | rfl | decide +kernel) rfl), (q_in_t5 (i := 39) (by first | rfl | decide +kernel) rfl), ⟨rfl, by decide, by decide, rfl⟩⟩
theorem kv_X0_113 : q_okV RX0 113 RX5 yX5_get cX5_get 2 (some .int) 1 := ⟨(q_in_t5 (i := 89) (by first | rfl | decide +kernel) rfl), (q_in_t4 (i := 73) (by first | rfl | decide +kernel) rfl), (q_in_t4 (i := 74) (by first | rfl | decide +kernel) rfl), (q_in_t1 (i := 4) (by first | rfl | decide +kernel) rfl), (q_in_t4 (i := 75) (by first | rfl | decide +kernel) rfl), ⟨rfl, by decide, by decide, rfl⟩⟩
theorem kv_X0_117 : q_okV RX0 117 RX2 yX2_begin cX2_begin 3 none 2 := ⟨(q_in_t5 (i := 94) (by first | rfl | decide +kernel) rfl), (q_in_t5 (i := 95) (by first | rfl | decide +kernel) rfl), (q_in_t5 (i := 96) (by first | rfl | decide +kernel) rfl), (q_in_t1 (i := 7) (by first | rfl | decide +kernel) rfl), (q_in_t5 (i := 97) (by first | rfl | decide +kernel) rfl), ⟨rfl, by decide, by decide, rfl⟩⟩
theorem kv_X0_120 : q_okV RX0 120 RX1 yX1_moveToHeap cX1_moveToHeap 4 none 3 := ⟨(q_in_t5 (i := 99) (by first | rfl | decide +kernel) rfl), (q_in_t5 (i := 100) (by first | rfl | decide +kernel) rfl), (q_in_t5 (i := 101) (by first | rfl | decide +kernel) rfl), (q_in_t1 (i := 6) (by first | rfl | decide +kernel) rfl), (q_in_t5 (i := 102) (by first | rfl | decide +kernel) rfl), ⟨rfl, by decide, by decide, rfl⟩⟩
theorem kv_X0_124 : q_okV RX0 124 RX2 yX2_add cX2_add 5 none 2 := ⟨(q_in_t5 (i := 104) (by first | rfl | decide +kernel) rfl), (q_in_t5 (i := 105) (by first | rfl | decide +kernel) rfl), (q_in_t5 (i := 106) (by first | rfl | decide +kernel) rfl), (q_in_t1 (i := 7) (by first | rfl | decide +kernel) rfl), (q_in_t5 (i := 107) (by first | rfl | decide +kernel) rfl), ⟨rfl, by decide, by decide, rfl⟩⟩
theorem gs_X0_150_2 (E : q_E p c cc s m args RX0 X) (hI : q_I X n σ0 H0 locs σ H) (ha : q_kd X a = 2) (hdg : decode cc pc = .ok (.getfield 150, 3)) (kk : W p l e R s m args below meth c H locs cells slots Q (F0 m (pc + 3) ls (.ref (q_rf X a 2) :: rest))) : W p l e R s m args below meth c H locs cells slots Q (F0 m pc ls (.ref a :: rest)) :=
  q_getf (ref := "CheatHeap$Hands") E hI ha ⟨rfl, by decide⟩ (show vwCl[1]? = some (RX1, TX1, 7) from rfl) q_inX1 (f := 2) (by decide) (q_in_t1 (i := 113) (by first | rfl | decide +kernel) rfl) (Or.inl rfl) rfl hdg kk
theorem kv_X0_125 : q_okV RX0 125 RX0 yX0_winIfRid cX0_winIfRid 1 none 0 := ⟨(q_in_t5 (i := 117) (by first | rfl | decide +kernel) rfl), (q_in_t5 (i := 119) (by first | rfl | decide +kernel) rfl), (q_in_p (i := 24) (by decide +kernel) rfl), (q_in_t1 (i := 2) (by first | rfl | decide +kernel) rfl), (q_in_t5 (i := 120) (by first | rfl | decide +kernel) rfl), ⟨rfl, by decide, by decide, rfl⟩⟩
theorem kv_X0_128 : q_okV RX0 128 RX6 yX6_kindAfter cX6_kindAfter 3 (some .int) 2 := ⟨(q_in_t5 (i := 121) (by first | rfl | decide +kernel) rfl), (q_in_t5 (i := 122) (by first | rfl | decide +kernel) rfl), (q_in_t5 (i := 123) (by first | rfl | decide +kernel) rfl), (q_in_t1 (i := 3) (by first | rfl | decide +kernel) rfl), (q_in_t5 (i := 124) (by first | rfl | decide +kernel) rfl), ⟨rfl, by decide, by decide, rfl⟩⟩
theorem kv_X0_131 : q_okV RX0 131 RX6 yX6_playerAfter cX6_playerAfter 3 (some .int) 2 := ⟨(q_in_t5 (i := 128) (by first | rfl | decide +kernel) rfl), (q_in_t5 (i := 129) (by first | rfl | decide +kernel) rfl), (q_in_t5 (i := 130) (by first | rfl | decide +kernel) rfl), (q_in_t1 (i := 3) (by first | rfl | decide +kernel) rfl), (q_in_t5 (i := 131) (by first | rfl | decide +kernel) rfl), ⟨rfl, by decide, by decide, rfl⟩⟩
theorem kv_X0_134 : q_okV RX0 134 RX2 yX2_topTruth cX2_topTruth 1 (some .int) 0 := ⟨(q_in_t5 (i := 144) (by first | rfl | decide +kernel) rfl), (q_in_t5 (i := 145) (by first | rfl | decide +kernel) rfl), (q_in_t5 (i := 146) (by first | rfl | decide +kernel) rfl), (q_in_t1 (i := 7) (by first | rfl | decide +kernel) rfl), (q_in_t5 (i := 147) (by first | rfl | decide +kernel) rfl), ⟨rfl, by decide, by decide, rfl⟩⟩
theorem gs_X0_138_2 (E : q_E p c cc s m args RX0 X) (hI : q_I X n σ0 H0 locs σ H) (ha : q_kd X a = 2) (hdg : decode cc pc = .ok (.getfield 138, 3)) (kk : W p l e R s m args below meth c H locs cells slots Q (F0 m (pc + 3) ls (.ref (q_rf X a 5) :: rest))) : W p l e R s m args below meth c H locs cells slots Q (F0 m pc ls (.ref a :: rest)) :=
  q_getf (ref := "CheatHeap$Hands") E hI ha ⟨rfl, by decide⟩ (show vwCl[1]? = some (RX1, TX1, 7) from rfl) q_inX1 (f := 5) (by decide) (q_in_t1 (i := 125) (by first | rfl | decide +kernel) rfl) (Or.inl rfl) rfl hdg kk
theorem gs_X0_141_2 (E : q_E p c cc s m args RX0 X) (hI : q_I X n σ0 H0 locs σ H) (ha : q_kd X a = 2) (hdg : decode cc pc = .ok (.getfield 141, 3)) (kk : W p l e R s m args below meth c H locs cells slots Q (F0 m (pc + 3) ls (.ref (q_rf X a 6) :: rest))) : W p l e R s m args below meth c H locs cells slots Q (F0 m pc ls (.ref a :: rest)) :=
  q_getf (ref := "CheatHeap$Hands") E hI ha ⟨rfl, by decide⟩ (show vwCl[1]? = some (RX1, TX1, 7) from rfl) q_inX1 (f := 6) (by decide) (q_in_t1 (i := 128) (by first | rfl | decide +kernel) rfl) (Or.inl rfl) rfl hdg kk
theorem kv_X0_144 : q_okV RX0 144 RX1 yX1_takeHeap cX1_takeHeap 4 none 1 := ⟨(q_in_t5 (i := 149) (by first | rfl | decide +kernel) rfl), (q_in_t5 (i := 150) (by first | rfl | decide +kernel) rfl), (q_in_t5 (i := 151) (by first | rfl | decide +kernel) rfl), (q_in_t1 (i := 6) (by first | rfl | decide +kernel) rfl), (q_in_t5 (i := 152) (by first | rfl | decide +kernel) rfl), ⟨rfl, by decide, by decide, rfl⟩⟩
theorem kv_X0_147 : q_okV RX0 147 RX6 yX6_kindAfterDoubt cX6_kindAfterDoubt 2 (some .int) 1 := ⟨(q_in_t5 (i := 157) (by first | rfl | decide +kernel) rfl), (q_in_t5 (i := 158) (by first | rfl | decide +kernel) rfl), (q_in_t5 (i := 159) (by first | rfl | decide +kernel) rfl), (q_in_t1 (i := 3) (by first | rfl | decide +kernel) rfl), (q_in_t5 (i := 160) (by first | rfl | decide +kernel) rfl), ⟨rfl, by decide, by decide, rfl⟩⟩
theorem gs_X0_153_6 (E : q_E p c cc s m args RX0 X) (hI : q_I X n σ0 H0 locs σ H) (ha : q_kd X a = 6) (hdg : decode cc pc = .ok (.getfield 153, 3)) (kk : W p l e R s m args below meth c H locs cells slots Q (F0 m (pc + 3) ls (.ref (q_rf X a 5) :: rest))) : W p l e R s m args below meth c H locs cells slots Q (F0 m pc ls (.ref a :: rest)) :=
  q_getf (ref := "CheatHeap$Rules") E hI ha ⟨rfl, by decide⟩ (show vwCl[5]? = some (RX6, TX6, 8) from rfl) q_inX6 (f := 5) (by decide) (q_in_t1 (i := 80) (by first | rfl | decide +kernel) rfl) (Or.inl rfl) rfl hdg kk
theorem kv_X0_156 : q_okV RX0 156 RX1 yX1_knownTo cX1_knownTo 4 (some .int) 2 := ⟨(q_in_t5 (i := 189) (by first | rfl | decide +kernel) rfl), (q_in_t5 (i := 174) (by first | rfl | decide +kernel) rfl), (q_in_t5 (i := 175) (by first | rfl | decide +kernel) rfl), (q_in_t1 (i := 6) (by first | rfl | decide +kernel) rfl), (q_in_t5 (i := 176) (by first | rfl | decide +kernel) rfl), ⟨rfl, by decide, by decide, rfl⟩⟩
theorem kv_X0_159 : q_okV RX0 159 RX0 yX0_unknownTo cX0_unknownTo 3 (some .int) 2 := ⟨(q_in_t5 (i := 185) (by first | rfl | decide +kernel) rfl), (q_in_t5 (i := 186) (by first | rfl | decide +kernel) rfl), (q_in_t5 (i := 187) (by first | rfl | decide +kernel) rfl), (q_in_t1 (i := 2) (by first | rfl | decide +kernel) rfl), (q_in_t5 (i := 188) (by first | rfl | decide +kernel) rfl), ⟨rfl, by decide, by decide, rfl⟩⟩
theorem kv_X0_162 : q_okV RX0 162 RX2 yX2_topSize cX2_topSize 1 (some .int) 0 := ⟨(q_in_t5 (i := 199) (by first | rfl | decide +kernel) rfl), (q_in_t5 (i := 200) (by first | rfl | decide +kernel) rfl), (q_in_t5 (i := 201) (by first | rfl | decide +kernel) rfl), (q_in_t1 (i := 7) (by first | rfl | decide +kernel) rfl), (q_in_t5 (i := 202) (by first | rfl | decide +kernel) rfl), ⟨rfl, by decide, by decide, rfl⟩⟩
theorem ks_X0_165 : q_okN RX0 165 "CheatHeap" yX11_waysToTake cX11_waysToTake 5 (some .long) 2 := ⟨List.mem_of_getElem? (i := 13) rfl, (q_in_t5 (i := 212) (by first | rfl | decide +kernel) rfl), (q_in_t1 (i := 1) (by first | rfl | decide +kernel) rfl), (q_in_t5 (i := 213) (by first | rfl | decide +kernel) rfl), ⟨by decide, by decide, rfl⟩⟩
theorem kv_X0_169 : q_okV RX0 169 RX0 yX0_allUnknownTo cX0_allUnknownTo 4 (some .int) 1 := ⟨(q_in_t5 (i := 218) (by first | rfl | decide +kernel) rfl), (q_in_t5 (i := 182) (by first | rfl | decide +kernel) rfl), (q_in_t5 (i := 183) (by first | rfl | decide +kernel) rfl), (q_in_t1 (i := 2) (by first | rfl | decide +kernel) rfl), (q_in_t5 (i := 184) (by first | rfl | decide +kernel) rfl), ⟨rfl, by decide, by decide, rfl⟩⟩
theorem gs_X0_172_3 (E : q_E p c cc s m args RX0 X) (hI : q_I X n σ0 H0 locs σ H) (ha : q_kd X a = 3) (hdg : decode cc pc = .ok (.getfield 172, 3)) (kk : W p l e R s m args below meth c H locs cells slots Q (F0 m (pc + 3) ls (.int (σ.1 a 1) :: rest))) : W p l e R s m args below meth c H locs cells slots Q (F0 m pc ls (.ref a :: rest)) :=
  q_getf (ref := "CheatHeap$Pile") E hI ha ⟨rfl, by decide⟩ (show vwCl[2]? = some (RX2, TX2, 6) from rfl) q_inX2 (f := 1) (by decide) (q_in_t1 (i := 157) (by first | rfl | decide +kernel) rfl) (Or.inl rfl) rfl hdg kk
theorem kv_X0_174 : q_okV RX0 174 RX0 yX0_allWays cX0_allWays 2 (some .long) 1 := ⟨(q_in_t6 (i := 14) (by first | rfl | decide +kernel) rfl), (q_in_t5 (i := 215) (by first | rfl | decide +kernel) rfl), (q_in_t5 (i := 216) (by first | rfl | decide +kernel) rfl), (q_in_t1 (i := 2) (by first | rfl | decide +kernel) rfl), (q_in_t5 (i := 217) (by first | rfl | decide +kernel) rfl), ⟨rfl, by decide, by decide, rfl⟩⟩
theorem kv_X0_180 : q_okV RX0 180 RX0 yX0_trueWays cX0_trueWays 2 (some .long) 1 := ⟨(q_in_t6 (i := 16) (by first | rfl | decide +kernel) rfl), (q_in_t5 (i := 208) (by first | rfl | decide +kernel) rfl), (q_in_t5 (i := 209) (by first | rfl | decide +kernel) rfl), (q_in_t1 (i := 2) (by first | rfl | decide +kernel) rfl), (q_in_t5 (i := 210) (by first | rfl | decide +kernel) rfl), ⟨rfl, by decide, by decide, rfl⟩⟩
theorem gs_X0_183_6 (E : q_E p c cc s m args RX0 X) (hI : q_I X n σ0 H0 locs σ H) (ha : q_kd X a = 6) (hdg : decode cc pc = .ok (.getfield 183, 3)) (kk : W p l e R s m args below meth c H locs cells slots Q (F0 m (pc + 3) ls (.int (σ.1 a 4) :: rest))) : W p l e R s m args below meth c H locs cells slots Q (F0 m pc ls (.ref a :: rest)) :=
  q_getf (ref := "CheatHeap$Rules") E hI ha ⟨rfl, by decide⟩ (show vwCl[5]? = some (RX6, TX6, 8) from rfl) q_inX6 (f := 4) (by decide) (q_in_t1 (i := 77) (by first | rfl | decide +kernel) rfl) (Or.inl rfl) rfl hdg kk
theorem kv_X0_189 : q_okV RX0 189 RX0 yX0_turnsAhead cX0_turnsAhead 3 (some .int) 1 := ⟨(q_in_t6 (i := 55) (by first | rfl | decide +kernel) rfl), (q_in_t6 (i := 40) (by first | rfl | decide +kernel) rfl), (q_in_t6 (i := 41) (by first | rfl | decide +kernel) rfl), (q_in_t1 (i := 2) (by first | rfl | decide +kernel) rfl), (q_in_t6 (i := 42) (by first | rfl | decide +kernel) rfl), ⟨rfl, by decide, by decide, rfl⟩⟩
theorem ps_X0_68_1 (E : q_E p c cc s m args RX0 X) (hI : q_I X n σ0 H0 locs σ H) (ha : q_kd X a = 1) {v : Int32} (hcl : n < 9) (hdg : decode cc pc = .ok (.putfield 68, 3)) (kk : ∀ (H1 : Heap) (locs1 : List Loc) (σ1 : ST), σ1 = q_si σ a 11 v → q_I X n σ0 H0 locs1 σ1 H1 → W p l e R s m args below meth c H1 locs1 cells slots Q (F0 m (pc + 3) ls rest)) : W p l e R s m args below meth c H locs cells slots Q (F0 m pc ls (.int v :: .ref a :: rest)) :=
  q_puti (ref := "CheatHeap$Game") E hI ha ⟨rfl, by decide⟩ (show vwCl[0]? = some (RX0, TX0, 15) from rfl) q_inX0 tyX0_ok nmX0 (f := 11) (by decide) (q_in_t2 (i := 18) (by first | rfl | decide +kernel) rfl) (Or.inl rfl) rfl rfl hcl hdg (q_inU rfl) (Or.inl rfl) (fun H1 l1 h => kk H1 l1 _ rfl h)
theorem ps_X0_71_1 (E : q_E p c cc s m args RX0 X) (hI : q_I X n σ0 H0 locs σ H) (ha : q_kd X a = 1) {v : Int32} (hcl : n < 9) (hdg : decode cc pc = .ok (.putfield 71, 3)) (kk : ∀ (H1 : Heap) (locs1 : List Loc) (σ1 : ST), σ1 = q_si σ a 12 v → q_I X n σ0 H0 locs1 σ1 H1 → W p l e R s m args below meth c H1 locs1 cells slots Q (F0 m (pc + 3) ls rest)) : W p l e R s m args below meth c H locs cells slots Q (F0 m pc ls (.int v :: .ref a :: rest)) :=
  q_puti (ref := "CheatHeap$Game") E hI ha ⟨rfl, by decide⟩ (show vwCl[0]? = some (RX0, TX0, 15) from rfl) q_inX0 tyX0_ok nmX0 (f := 12) (by decide) (q_in_t2 (i := 20) (by first | rfl | decide +kernel) rfl) (Or.inl rfl) rfl rfl hcl hdg (q_inU rfl) (Or.inl rfl) (fun H1 l1 h => kk H1 l1 _ rfl h)
theorem ps_X0_74_1 (E : q_E p c cc s m args RX0 X) (hI : q_I X n σ0 H0 locs σ H) (ha : q_kd X a = 1) {v : Int32} (hcl : n < 9) (hdg : decode cc pc = .ok (.putfield 74, 3)) (kk : ∀ (H1 : Heap) (locs1 : List Loc) (σ1 : ST), σ1 = q_si σ a 13 v → q_I X n σ0 H0 locs1 σ1 H1 → W p l e R s m args below meth c H1 locs1 cells slots Q (F0 m (pc + 3) ls rest)) : W p l e R s m args below meth c H locs cells slots Q (F0 m pc ls (.int v :: .ref a :: rest)) :=
  q_puti (ref := "CheatHeap$Game") E hI ha ⟨rfl, by decide⟩ (show vwCl[0]? = some (RX0, TX0, 15) from rfl) q_inX0 tyX0_ok nmX0 (f := 13) (by decide) (q_in_t2 (i := 22) (by first | rfl | decide +kernel) rfl) (Or.inl rfl) rfl rfl hcl hdg (q_inU rfl) (Or.inl rfl) (fun H1 l1 h => kk H1 l1 _ rfl h)
theorem ps_X0_77_1 (E : q_E p c cc s m args RX0 X) (hI : q_I X n σ0 H0 locs σ H) (ha : q_kd X a = 1) {v : Int32} (hcl : n < 9) (hdg : decode cc pc = .ok (.putfield 77, 3)) (kk : ∀ (H1 : Heap) (locs1 : List Loc) (σ1 : ST), σ1 = q_si σ a 14 v → q_I X n σ0 H0 locs1 σ1 H1 → W p l e R s m args below meth c H1 locs1 cells slots Q (F0 m (pc + 3) ls rest)) : W p l e R s m args below meth c H locs cells slots Q (F0 m pc ls (.int v :: .ref a :: rest)) :=
  q_puti (ref := "CheatHeap$Game") E hI ha ⟨rfl, by decide⟩ (show vwCl[0]? = some (RX0, TX0, 15) from rfl) q_inX0 tyX0_ok nmX0 (f := 14) (by decide) (q_in_t2 (i := 24) (by first | rfl | decide +kernel) rfl) (Or.inl rfl) rfl rfl hcl hdg (q_inU rfl) (Or.inl rfl) (fun H1 l1 h => kk H1 l1 _ rfl h)
theorem gs_X0_71_1 (E : q_E p c cc s m args RX0 X) (hI : q_I X n σ0 H0 locs σ H) (ha : q_kd X a = 1) (hdg : decode cc pc = .ok (.getfield 71, 3)) (kk : W p l e R s m args below meth c H locs cells slots Q (F0 m (pc + 3) ls (.int (σ.1 a 12) :: rest))) : W p l e R s m args below meth c H locs cells slots Q (F0 m pc ls (.ref a :: rest)) :=
  q_getf (ref := "CheatHeap$Game") E hI ha ⟨rfl, by decide⟩ (show vwCl[0]? = some (RX0, TX0, 15) from rfl) q_inX0 (f := 12) (by decide) (q_in_t2 (i := 20) (by first | rfl | decide +kernel) rfl) (Or.inl rfl) rfl hdg kk
theorem kv_X0_195 : q_okV RX0 195 RX0 yX0_fallingKind cX0_fallingKind 3 (some .int) 2 := ⟨(q_in_t6 (i := 65) (by first | rfl | decide +kernel) rfl), (q_in_t6 (i := 52) (by first | rfl | decide +kernel) rfl), (q_in_t6 (i := 53) (by first | rfl | decide +kernel) rfl), (q_in_t1 (i := 2) (by first | rfl | decide +kernel) rfl), (q_in_t6 (i := 54) (by first | rfl | decide +kernel) rfl), ⟨rfl, by decide, by decide, rfl⟩⟩
theorem gs_X0_65_1 (E : q_E p c cc s m args RX0 X) (hI : q_I X n σ0 H0 locs σ H) (ha : q_kd X a = 1) (hdg : decode cc pc = .ok (.getfield 65, 3)) (kk : W p l e R s m args below meth c H locs cells slots Q (F0 m (pc + 3) ls (.ref (q_rf X a 10) :: rest))) : W p l e R s m args below meth c H locs cells slots Q (F0 m pc ls (.ref a :: rest)) :=
  q_getf (ref := "CheatHeap$Game") E hI ha ⟨rfl, by decide⟩ (show vwCl[0]? = some (RX0, TX0, 15) from rfl) q_inX0 (f := 10) (by decide) (q_in_t2 (i := 17) (by first | rfl | decide +kernel) rfl) (Or.inl rfl) rfl hdg kk
theorem gs_X0_198_6 (E : q_E p c cc s m args RX0 X) (hI : q_I X n σ0 H0 locs σ H) (ha : q_kd X a = 6) (hdg : decode cc pc = .ok (.getfield 198, 3)) (kk : W p l e R s m args below meth c H locs cells slots Q (F0 m (pc + 3) ls (.int (σ.1 a 3) :: rest))) : W p l e R s m args below meth c H locs cells slots Q (F0 m pc ls (.ref a :: rest)) :=
  q_getf (ref := "CheatHeap$Rules") E hI ha ⟨rfl, by decide⟩ (show vwCl[5]? = some (RX6, TX6, 8) from rfl) q_inX6 (f := 3) (by decide) (q_in_t1 (i := 72) (by first | rfl | decide +kernel) rfl) (Or.inl rfl) rfl hdg kk
theorem ks_X0_201 : q_okS RX0 201 yJ9_min_7cf53 cJ9_min_7cf53 2 (some .int) 2 := ⟨(q_in_t6 (i := 66) (by first | rfl | decide +kernel) rfl), (q_in_t3 (i := 43) (by first | rfl | decide +kernel) rfl), (q_in_t1 (i := 5) (by first | rfl | decide +kernel) rfl), (q_in_t3 (i := 44) (by first | rfl | decide +kernel) rfl), ⟨by decide, by decide, rfl⟩⟩
theorem gs_X0_68_1 (E : q_E p c cc s m args RX0 X) (hI : q_I X n σ0 H0 locs σ H) (ha : q_kd X a = 1) (hdg : decode cc pc = .ok (.getfield 68, 3)) (kk : W p l e R s m args below meth c H locs cells slots Q (F0 m (pc + 3) ls (.int (σ.1 a 11) :: rest))) : W p l e R s m args below meth c H locs cells slots Q (F0 m pc ls (.ref a :: rest)) :=
  q_getf (ref := "CheatHeap$Game") E hI ha ⟨rfl, by decide⟩ (show vwCl[0]? = some (RX0, TX0, 15) from rfl) q_inX0 (f := 11) (by decide) (q_in_t2 (i := 18) (by first | rfl | decide +kernel) rfl) (Or.inl rfl) rfl hdg kk
theorem gs_X0_77_1 (E : q_E p c cc s m args RX0 X) (hI : q_I X n σ0 H0 locs σ H) (ha : q_kd X a = 1) (hdg : decode cc pc = .ok (.getfield 77, 3)) (kk : W p l e R s m args below meth c H locs cells slots Q (F0 m (pc + 3) ls (.int (σ.1 a 14) :: rest))) : W p l e R s m args below meth c H locs cells slots Q (F0 m pc ls (.ref a :: rest)) :=
  q_getf (ref := "CheatHeap$Game") E hI ha ⟨rfl, by decide⟩ (show vwCl[0]? = some (RX0, TX0, 15) from rfl) q_inX0 (f := 14) (by decide) (q_in_t2 (i := 24) (by first | rfl | decide +kernel) rfl) (Or.inl rfl) rfl hdg kk
theorem kv_X0_192 : q_okV RX0 192 RX5 yX5_set cX5_set 3 none 2 := ⟨(q_in_t6 (i := 64) (by first | rfl | decide +kernel) rfl), (q_in_t4 (i := 83) (by first | rfl | decide +kernel) rfl), (q_in_t4 (i := 84) (by first | rfl | decide +kernel) rfl), (q_in_t1 (i := 4) (by first | rfl | decide +kernel) rfl), (q_in_t4 (i := 85) (by first | rfl | decide +kernel) rfl), ⟨rfl, by decide, by decide, rfl⟩⟩
theorem kv_X0_186 : q_okV RX0 186 RX1 yX1_laidBy cX1_laidBy 3 (some .int) 2 := ⟨(q_in_t6 (i := 114) (by first | rfl | decide +kernel) rfl), (q_in_t5 (i := 154) (by first | rfl | decide +kernel) rfl), (q_in_t5 (i := 155) (by first | rfl | decide +kernel) rfl), (q_in_t1 (i := 6) (by first | rfl | decide +kernel) rfl), (q_in_t5 (i := 156) (by first | rfl | decide +kernel) rfl), ⟨rfl, by decide, by decide, rfl⟩⟩
end QS
end
